set_option maxHeartbeats 4000000 in
set_option maxRecDepth 100000 in
theorem s_fX5_triedPlace (fu : Nat) (hfu : 4000 ≤ fu) (M : jm_M) (iM : bI bx1 M) (l1 : Int) (hl1 : 0 ≤ l1 ∧ l1 ≤ 5) : wp (fX5_triedPlace fu M l1) (fun r M1 => M1 = M ∧ (jm_in r)) := by
  unfold fX5_triedPlace
  refine wp_bp (s_fX5_placeAmong fu hfu M iM l1 (-1) ⟨by omega, by omega⟩ (jm_inL (by decide) (by decide)) ) (fun v1 hv1 => ?_)
  have b_2 : -2147483648 ≤ v1 ∧ v1 ≤ 2147483647 := hv1
  refine wp_ite (fun c_1 => ?_) (fun c_1 => ?_)
  · skip
    exact wp_ret ⟨rfl, (jm_inL (by decide) (by decide))⟩
  · skip
    exact wp_ret ⟨rfl, hv1⟩
set_option maxHeartbeats 4000000 in
set_option maxRecDepth 100000 in
theorem s_fX5_triedSum (M : jm_M) (iM : bI bx1 M) (l1 : Int) (hl1 : 0 ≤ l1 ∧ l1 ≤ 5) : wp (fX5_triedSum M l1) (fun r M1 => M1 = M ∧ (jm_in r)) := by
  unfold fX5_triedSum
  refine wp_bp (s_fX11_isIndex M iM l1 6 (jm_inL (by omega) (by omega)) ⟨by omega, by omega⟩ ) (fun v1 hv1 => ?_)
  refine wp_ite (fun c_1 => ?_) (fun c_1 => ?_)
  · skip
    exact wp_ret ⟨rfl, (jm_inL (by decide) (by decide))⟩
  · skip
    refine wp_T ⟨by omega, by omega⟩ ?_
    have b_3 : (-2147483648) ≤ (M 36 0 l1) ∧ (M 36 0 l1) ≤ 2147483647 := iM 36 0 l1
    refine wp_ite (fun c_2 => ?_) (fun c_2 => ?_)
    · skip
      exact wp_ret ⟨rfl, (jm_inL (by decide) (by decide))⟩
    · skip
      refine wp_T ⟨by omega, by omega⟩ ?_
      have b_4 : (-2147483648) ≤ (M 38 0 l1) ∧ (M 38 0 l1) ≤ 2147483647 := iM 38 0 l1
      exact wp_ret ⟨rfl, (iM 38 0 l1)⟩
set_option maxHeartbeats 4000000 in
set_option maxRecDepth 100000 in
theorem s_fX10_keepPair (fu : Nat) (hfu : 4000 ≤ fu) (M : jm_M) (iM : bI bx1 M) (l1 l2 l3 : Int) (hl1 : 0 ≤ l1 ∧ l1 ≤ 5) (hl2 : 0 ≤ l2 ∧ l2 ≤ 5) (hl3 : 0 ≤ l3 ∧ l3 ≤ 15) : wp (fX10_keepPair fu M l1 l2 l3) (fun r M1 => bI bx1 M1 ∧ Kp TJ M M1 ∧ (0 ≤ r ∧ r ≤ 0)) := by
  have kM : Kp TJ M M := Kp.rf
  unfold fX10_keepPair
  refine wp_bp (s_fX11_isIndex M iM l3 16 (jm_inL (by omega) (by omega)) ⟨by omega, by omega⟩ ) (fun v1 hv1 => ?_)
  refine wp_ite (fun c_1 => ?_) (fun c_1 => ?_)
  · skip
    exact wp_ret ⟨iM, kM, by omega⟩
  · skip
    refine wp_bp (s_fX5_triedPlace fu hfu M iM l1 ⟨by omega, by omega⟩ ) (fun v5 hv5 => ?_)
    refine wp_T ⟨by omega, by omega⟩ ?_
    refine wp_sk iM hv5 kM (by unfold TJ; omega) (fun M9 u_2 iM9 kM9 => ?_)
    refine wp_bp (s_fX5_triedSum M9 iM9 l1 ⟨by omega, by omega⟩ ) (fun v10 hv10 => ?_)
    refine wp_T ⟨by omega, by omega⟩ ?_
    refine wp_sk iM9 hv10 kM9 (by unfold TJ; omega) (fun M14 u_3 iM14 kM14 => ?_)
    refine wp_bp (s_fX5_triedPlace fu hfu M14 iM14 l2 ⟨by omega, by omega⟩ ) (fun v15 hv15 => ?_)
    refine wp_T ⟨by omega, by omega⟩ ?_
    refine wp_sk iM14 hv15 kM14 (by unfold TJ; omega) (fun M19 u_4 iM19 kM19 => ?_)
    refine wp_bp (s_fX5_triedSum M19 iM19 l2 ⟨by omega, by omega⟩ ) (fun v20 hv20 => ?_)
    refine wp_T ⟨by omega, by omega⟩ ?_
    refine wp_sk iM19 hv20 kM19 (by unfold TJ; omega) (fun M24 u_5 iM24 kM24 => ?_)
    exact wp_ret ⟨iM24, kM24, by omega⟩
set_option maxHeartbeats 4000000 in
set_option maxRecDepth 100000 in
theorem s_gX10_firstSettled_79 (fu : Nat) (hfu : 4000 ≤ fu) (M0 : jm_M) (k69 : jm_M → Int → Int → Int → Int → Int → Int → jm_R) (k79 : jm_M → Int → Int → Int → Int → Int → Int → Int → jm_R) (N69 N79 : Int) (hk69 : ∀ (l1 l2 l3 l4 l5 l6 : Int) (M : jm_M) (iM : bI bx1 M) (kM : Kp TAM M0 M) (hl1 : 0 ≤ l1 ∧ l1 ≤ 5) (hl2 : 0 ≤ l2 ∧ l2 ≤ 5) (hl3 : 0 ≤ l3 ∧ l3 ≤ 99) (hl4 : 0 ≤ l4 ∧ l4 ≤ 4) (hl5 : 0 ≤ l5 ∧ l5 ≤ 4) (hl6 : 0 ≤ l6 ∧ l6 ≤ 4), 5 - l6 < N69 → wp (k69 M l1 l2 l3 l4 l5 l6) (fun r M1 => bI bx1 M1 ∧ Kp TAM M0 M1 ∧ ((-2) ≤ r ∧ r ≤ 35))) (hk79 : ∀ (l1 l2 l3 l4 l5 l6 l7 : Int) (M : jm_M) (iM : bI bx1 M) (kM : Kp TAM M0 M) (hl1 : 0 ≤ l1 ∧ l1 ≤ 5) (hl2 : 0 ≤ l2 ∧ l2 ≤ 5) (hl3 : 0 ≤ l3 ∧ l3 ≤ 99) (hl4 : 1 ≤ l4 ∧ l4 ≤ 4) (hl5 : 0 ≤ l5 ∧ l5 ≤ 4) (hl6 : 0 ≤ l6 ∧ l6 ≤ 3) (hl7 : 0 ≤ l7 ∧ l7 ≤ 4), 5 - l6 < N69 + 1 → 5 - l7 < N79 → wp (k79 M l1 l2 l3 l4 l5 l6 l7) (fun r M1 => bI bx1 M1 ∧ Kp TAM M0 M1 ∧ ((-2) ≤ r ∧ r ≤ 35))) : ∀ (l1 l2 l3 l4 l5 l6 l7 : Int) (M : jm_M) (iM : bI bx1 M) (kM : Kp TAM M0 M) (hl1 : 0 ≤ l1 ∧ l1 ≤ 5) (hl2 : 0 ≤ l2 ∧ l2 ≤ 5) (hl3 : 0 ≤ l3 ∧ l3 ≤ 99) (hl4 : 1 ≤ l4 ∧ l4 ≤ 4) (hl5 : 0 ≤ l5 ∧ l5 ≤ 4) (hl6 : 0 ≤ l6 ∧ l6 ≤ 3) (hl7 : 0 ≤ l7 ∧ l7 ≤ 4), 5 - l6 < N69 + 1 → 5 - l7 < N79 + 1 → wp (gX10_firstSettled_79 fu k69 k79 M l1 l2 l3 l4 l5 l6 l7) (fun r M1 => bI bx1 M1 ∧ Kp TAM M0 M1 ∧ ((-2) ≤ r ∧ r ≤ 35)) := by
  intro l1 l2 l3 l4 l5 l6 l7 M iM kM hl1 hl2 hl3 hl4 hl5 hl6 hl7 m69 m79
  unfold gX10_firstSettled_79
  refine wp_ite (fun c_1 => ?_) (fun c_1 => ?_)
  · skip
    have w_2 : (jm_w (l6 + 1)) = (l6 + 1) := jm_wid (by omega) (by omega)
    refine wp_e (by exact (jm_w_in _)) (fun v2 e_3 hv2 => ?_)
    have b_4 : -2147483648 ≤ v2 ∧ v2 ≤ 2147483647 := hv2
    exact hk69 l1 l2 l3 l4 l5 v2 M iM kM ⟨by omega, by omega⟩ ⟨by omega, by omega⟩ ⟨by omega, by omega⟩ ⟨by omega, by omega⟩ ⟨by omega, by omega⟩ ⟨by omega, by omega⟩  (by omega)
  · skip
    refine wp_T ⟨by omega, by omega⟩ ?_
    refine wp_bk (s_fX1_tryOption M iM l1 l6 ⟨by omega, by omega⟩ (jm_inL (by omega) (by omega)) ) (fun v5 M6 iM6 jM6 hv5 => ?_)
    have kM6 := kM.tr jM6 (fun _ _ _ h => h)
    refine wp_T ⟨by omega, by omega⟩ ?_
    refine wp_bk (s_fX1_tryOption M6 iM6 l2 l7 ⟨by omega, by omega⟩ (jm_inL (by omega) (by omega)) ) (fun v8 M9 iM9 jM9 hv8 => ?_)
    have kM9 := kM6.tr jM9 (fun _ _ _ h => h)
    refine wp_bk (s_fX2_run fu hfu M9 iM9   ) (fun v10 M11 iM11 jM11 hv10 => ?_)
    have kM11 := kM9.tr jM11 tt_TAM_TA
    refine wp_bk (s_fX5_reckonFor fu hfu M11 iM11 l3 ⟨by omega, by omega⟩ ) (fun v12 M13 iM13 jM13 hv12 => ?_)
    have kM13 := kM11.tr jM13 tt_TAM_TJ
    have w_5 : (jm_w (l6 * 4)) = (l6 * 4) := jm_wid (by omega) (by omega)
    have w_6 : (jm_w ((jm_w (l6 * 4)) + l7)) = ((jm_w (l6 * 4)) + l7) := jm_wid (by omega) (by omega)
    refine wp_bk (s_fX10_keepPair fu hfu M13 iM13 l1 l2 (jm_w ((jm_w (l6 * 4)) + l7)) ⟨by omega, by omega⟩ ⟨by omega, by omega⟩ ⟨by omega, by omega⟩ ) (fun v14 M15 iM15 jM15 hv14 => ?_)
    have kM15 := kM13.tr jM15 tt_TAM_TJ
    have w_7 : (jm_w (l7 + 1)) = (l7 + 1) := jm_wid (by omega) (by omega)
    refine wp_e (by exact (jm_w_in _)) (fun v16 e_8 hv16 => ?_)
    have b_9 : -2147483648 ≤ v16 ∧ v16 ≤ 2147483647 := hv16
    exact hk79 l1 l2 l3 l4 l5 l6 v16 M15 iM15 kM15 ⟨by omega, by omega⟩ ⟨by omega, by omega⟩ ⟨by omega, by omega⟩ ⟨by omega, by omega⟩ ⟨by omega, by omega⟩ ⟨by omega, by omega⟩ ⟨by omega, by omega⟩  (by omega) (by omega)
set_option maxHeartbeats 4000000 in
set_option maxRecDepth 100000 in
theorem s_fX10_firstSettled_79 (fu : Nat) (hfu : 4000 ≤ fu) (M0 : jm_M) (k69 : jm_M → Int → Int → Int → Int → Int → Int → jm_R) (N69 : Int) (hk69 : ∀ (l1 l2 l3 l4 l5 l6 : Int) (M : jm_M) (iM : bI bx1 M) (kM : Kp TAM M0 M) (hl1 : 0 ≤ l1 ∧ l1 ≤ 5) (hl2 : 0 ≤ l2 ∧ l2 ≤ 5) (hl3 : 0 ≤ l3 ∧ l3 ≤ 99) (hl4 : 0 ≤ l4 ∧ l4 ≤ 4) (hl5 : 0 ≤ l5 ∧ l5 ≤ 4) (hl6 : 0 ≤ l6 ∧ l6 ≤ 4), 5 - l6 < N69 → wp (k69 M l1 l2 l3 l4 l5 l6) (fun r M1 => bI bx1 M1 ∧ Kp TAM M0 M1 ∧ ((-2) ≤ r ∧ r ≤ 35))) : ∀ (n : Nat) (l1 l2 l3 l4 l5 l6 l7 : Int) (M : jm_M) (iM : bI bx1 M) (kM : Kp TAM M0 M) (hl1 : 0 ≤ l1 ∧ l1 ≤ 5) (hl2 : 0 ≤ l2 ∧ l2 ≤ 5) (hl3 : 0 ≤ l3 ∧ l3 ≤ 99) (hl4 : 1 ≤ l4 ∧ l4 ≤ 4) (hl5 : 0 ≤ l5 ∧ l5 ≤ 4) (hl6 : 0 ≤ l6 ∧ l6 ≤ 3) (hl7 : 0 ≤ l7 ∧ l7 ≤ 4), 5 - l6 < N69 + 1 → 5 - l7 < (n : Int) → wp (fX10_firstSettled_79 fu k69 n M l1 l2 l3 l4 l5 l6 l7) (fun r M1 => bI bx1 M1 ∧ Kp TAM M0 M1 ∧ ((-2) ≤ r ∧ r ≤ 35)) := by
  intro n
  induction n with
  | zero => intro l1 l2 l3 l4 l5 l6 l7 M iM kM hl1 hl2 hl3 hl4 hl5 hl6 hl7 m69 hm; exfalso; omega
  | succ n ih =>
    intro l1 l2 l3 l4 l5 l6 l7 M iM kM hl1 hl2 hl3 hl4 hl5 hl6 hl7 m69 hm
    exact s_gX10_firstSettled_79 fu hfu M0 k69 (fX10_firstSettled_79 fu k69 n) N69 (n : Int) hk69 ih l1 l2 l3 l4 l5 l6 l7 M iM kM hl1 hl2 hl3 hl4 hl5 hl6 hl7 m69 (by omega)
set_option maxHeartbeats 4000000 in
set_option maxRecDepth 100000 in
theorem s_gX10_firstSettled_69 (fu : Nat) (hfu : 4000 ≤ fu) (M0 : jm_M) (k69 : jm_M → Int → Int → Int → Int → Int → Int → jm_R) (N69 : Int) (hk69 : ∀ (l1 l2 l3 l4 l5 l6 : Int) (M : jm_M) (iM : bI bx1 M) (kM : Kp TAM M0 M) (hl1 : 0 ≤ l1 ∧ l1 ≤ 5) (hl2 : 0 ≤ l2 ∧ l2 ≤ 5) (hl3 : 0 ≤ l3 ∧ l3 ≤ 99) (hl4 : 0 ≤ l4 ∧ l4 ≤ 4) (hl5 : 0 ≤ l5 ∧ l5 ≤ 4) (hl6 : 0 ≤ l6 ∧ l6 ≤ 4), 5 - l6 < N69 → wp (k69 M l1 l2 l3 l4 l5 l6) (fun r M1 => bI bx1 M1 ∧ Kp TAM M0 M1 ∧ ((-2) ≤ r ∧ r ≤ 35))) : ∀ (l1 l2 l3 l4 l5 l6 : Int) (M : jm_M) (iM : bI bx1 M) (kM : Kp TAM M0 M) (hl1 : 0 ≤ l1 ∧ l1 ≤ 5) (hl2 : 0 ≤ l2 ∧ l2 ≤ 5) (hl3 : 0 ≤ l3 ∧ l3 ≤ 99) (hl4 : 0 ≤ l4 ∧ l4 ≤ 4) (hl5 : 0 ≤ l5 ∧ l5 ≤ 4) (hl6 : 0 ≤ l6 ∧ l6 ≤ 4), 5 - l6 < N69 + 1 → wp (gX10_firstSettled_69 fu k69 M l1 l2 l3 l4 l5 l6) (fun r M1 => bI bx1 M1 ∧ Kp TAM M0 M1 ∧ ((-2) ≤ r ∧ r ≤ 35)) := by
  intro l1 l2 l3 l4 l5 l6 M iM kM hl1 hl2 hl3 hl4 hl5 hl6 m69
  unfold gX10_firstSettled_69
  refine wp_ite (fun c_1 => ?_) (fun c_1 => ?_)
  · skip
    refine wp_T ⟨by omega, by omega⟩ ?_
    refine wp_sk iM (jm_inL (by decide) (by decide)) kM (by unfold TAM; omega) (fun M3 u_2 iM3 kM3 => ?_)
    refine wp_T ⟨by omega, by omega⟩ ?_
    refine wp_sk iM3 (jm_inL (by decide) (by decide)) kM3 (by unfold TAM; omega) (fun M5 u_3 iM5 kM5 => ?_)
    exact s_fX10_firstSettled_183 fu hfu M0    fu l4 l5 0 M5 iM5 kM5 ⟨by omega, by omega⟩ ⟨by omega, by omega⟩ ⟨by omega, by omega⟩   (by omega)
  · skip
    exact s_fX10_firstSettled_79 fu hfu M0 k69 N69 hk69 fu l1 l2 l3 l4 l5 l6 0 M iM kM ⟨by omega, by omega⟩ ⟨by omega, by omega⟩ ⟨by omega, by omega⟩ ⟨by omega, by omega⟩ ⟨by omega, by omega⟩ ⟨by omega, by omega⟩ ⟨by omega, by omega⟩  (by omega) (by omega)
set_option maxHeartbeats 4000000 in
set_option maxRecDepth 100000 in
theorem s_fX10_firstSettled_69 (fu : Nat) (hfu : 4000 ≤ fu) (M0 : jm_M) : ∀ (n : Nat) (l1 l2 l3 l4 l5 l6 : Int) (M : jm_M) (iM : bI bx1 M) (kM : Kp TAM M0 M) (hl1 : 0 ≤ l1 ∧ l1 ≤ 5) (hl2 : 0 ≤ l2 ∧ l2 ≤ 5) (hl3 : 0 ≤ l3 ∧ l3 ≤ 99) (hl4 : 0 ≤ l4 ∧ l4 ≤ 4) (hl5 : 0 ≤ l5 ∧ l5 ≤ 4) (hl6 : 0 ≤ l6 ∧ l6 ≤ 4), 5 - l6 < (n : Int) → wp (fX10_firstSettled_69 fu  n M l1 l2 l3 l4 l5 l6) (fun r M1 => bI bx1 M1 ∧ Kp TAM M0 M1 ∧ ((-2) ≤ r ∧ r ≤ 35)) := by
  intro n
  induction n with
  | zero => intro l1 l2 l3 l4 l5 l6 M iM kM hl1 hl2 hl3 hl4 hl5 hl6 hm; exfalso; omega
  | succ n ih =>
    intro l1 l2 l3 l4 l5 l6 M iM kM hl1 hl2 hl3 hl4 hl5 hl6 hm
    exact s_gX10_firstSettled_69 fu hfu M0 (fX10_firstSettled_69 fu  n) (n : Int) ih l1 l2 l3 l4 l5 l6 M iM kM hl1 hl2 hl3 hl4 hl5 hl6 (by omega)
set_option maxHeartbeats 4000000 in
set_option maxRecDepth 100000 in
theorem s_fX10_firstSettled (fu : Nat) (hfu : 4000 ≤ fu) (M : jm_M) (iM : bI bx1 M) (l1 l2 l3 : Int) (hl1 : 0 ≤ l1 ∧ l1 ≤ 5) (hl2 : 0 ≤ l2 ∧ l2 ≤ 5) (hl3 : 0 ≤ l3 ∧ l3 ≤ 99) : wp (fX10_firstSettled fu M l1 l2 l3) (fun r M1 => bI bx1 M1 ∧ Kp TAM M M1 ∧ ((-2) ≤ r ∧ r ≤ 35)) := by
  have kM : Kp TAM M M := Kp.rf
  unfold fX10_firstSettled
  refine wp_bp (s_fX2_has M iM l1 (jm_inL (by omega) (by omega)) ) (fun v1 hv1 => ?_)
  have b_1 : 0 ≤ (M 2 0 5) ∧ (M 2 0 5) ≤ 6 := iM 2 0 5
  refine wp_ite (fun c_2 => ?_) (fun c_2 => ?_)
  · skip
    exact wp_ret ⟨iM, kM, by omega⟩
  · skip
    refine wp_bp (s_fX2_has M iM l2 (jm_inL (by omega) (by omega)) ) (fun v5 hv5 => ?_)
    refine wp_ite (fun c_3 => ?_) (fun c_3 => ?_)
    · skip
      exact wp_ret ⟨iM, kM, by omega⟩
    · skip
      refine wp_T ⟨by omega, by omega⟩ ?_
      have b_4 : 0 ≤ (M 10 (l1 + 18) 3) ∧ (M 10 (l1 + 18) 3) ≤ 4 := jm_b10 (iM 10 (l1 + 18) 3) (Int.le_of_eq (lim1_18 (by omega) (by omega)))
      have f_5 := jm_min_f (M 10 (l1 + 18) 3) 4
      refine wp_e (by exact (jm_min_in (jm_inL (by omega) (by omega)) (jm_inL (by decide) (by decide)))) (fun v11 e_6 hv11 => ?_)
      refine wp_T ⟨by omega, by omega⟩ ?_
      have b_7 : 0 ≤ (M 10 (l2 + 18) 3) ∧ (M 10 (l2 + 18) 3) ≤ 4 := jm_b10 (iM 10 (l2 + 18) 3) (Int.le_of_eq (lim1_18 (by omega) (by omega)))
      have f_8 := jm_min_f (M 10 (l2 + 18) 3) 4
      refine wp_e (by exact (jm_min_in (jm_inL (by omega) (by omega)) (jm_inL (by decide) (by decide)))) (fun v15 e_9 hv15 => ?_)
      have b_10 : -2147483648 ≤ v11 ∧ v11 ≤ 2147483647 := hv11
      have b_11 : -2147483648 ≤ v15 ∧ v15 ≤ 2147483647 := hv15
      exact s_fX10_firstSettled_69 fu hfu M    fu l1 l2 l3 v11 v15 0 M iM kM ⟨by omega, by omega⟩ ⟨by omega, by omega⟩ ⟨by omega, by omega⟩ ⟨by omega, by omega⟩ ⟨by omega, by omega⟩ ⟨by omega, by omega⟩   (by omega)
set_option maxHeartbeats 4000000 in
set_option maxRecDepth 100000 in
theorem s_gX10_keepWay_26 (fu : Nat) (hfu : 4000 ≤ fu) (M0 : jm_M) (k26 : jm_M → Int → Int → jm_R) (N26 : Int) (hk26 : ∀ (l2 l3 : Int) (M : jm_M) (iM : bI bx1 M) (kM : Kp TJ M0 M) (hl2 : 0 ≤ l2 ∧ l2 ≤ 2) (hl3 : 0 ≤ l3 ∧ l3 ≤ 2), 3 - l3 < N26 → wp (k26 M l2 l3) (fun r M1 => bI bx1 M1 ∧ Kp TJ M0 M1 ∧ (0 ≤ r ∧ r ≤ 0))) : ∀ (l2 l3 : Int) (M : jm_M) (iM : bI bx1 M) (kM : Kp TJ M0 M) (hl2 : 0 ≤ l2 ∧ l2 ≤ 2) (hl3 : 0 ≤ l3 ∧ l3 ≤ 2), 3 - l3 < N26 + 1 → wp (gX10_keepWay_26 fu k26 M l2 l3) (fun r M1 => bI bx1 M1 ∧ Kp TJ M0 M1 ∧ (0 ≤ r ∧ r ≤ 0)) := by
  intro l2 l3 M iM kM hl2 hl3 m26
  unfold gX10_keepWay_26
  refine wp_ite (fun c_1 => ?_) (fun c_1 => ?_)
  · skip
    exact wp_ret ⟨iM, kM, by omega⟩
  · skip
    refine wp_F (by omega) ?_
    refine wp_T ⟨by omega, by omega⟩ ?_
    have w_3 : (jm_w (2 * l3)) = (2 * l3) := jm_wid (by omega) (by omega)
    refine wp_T ⟨by omega, by omega⟩ ?_
    refine wp_sk iM (iM 39 0 l3) kM (by unfold TJ; omega) (fun M6 u_4 iM6 kM6 => ?_)
    refine wp_T ⟨by omega, by omega⟩ ?_
    have w_5 : (jm_w ((jm_w (2 * l3)) + 1)) = ((jm_w (2 * l3)) + 1) := jm_wid (by omega) (by omega)
    refine wp_T ⟨by omega, by omega⟩ ?_
    have q_6 : (M6 40 0 l3) = (M 40 0 l3) := by rw [u_4]; exact jm_une_f (by decide)
    refine wp_sk iM6 (bx1_in (iM6 40 0 l3)) kM6 (by unfold TJ; omega) (fun M10 u_7 iM10 kM10 => ?_)
    have w_8 : (jm_w (l3 + 1)) = (l3 + 1) := jm_wid (by omega) (by omega)
    refine wp_e (by exact (jm_w_in _)) (fun v11 e_9 hv11 => ?_)
    have b_10 : -2147483648 ≤ v11 ∧ v11 ≤ 2147483647 := hv11
    exact hk26 l2 v11 M10 iM10 kM10 ⟨by omega, by omega⟩ ⟨by omega, by omega⟩  (by omega)
set_option maxHeartbeats 4000000 in
set_option maxRecDepth 100000 in
theorem s_fX10_keepWay_26 (fu : Nat) (hfu : 4000 ≤ fu) (M0 : jm_M) : ∀ (n : Nat) (l2 l3 : Int) (M : jm_M) (iM : bI bx1 M) (kM : Kp TJ M0 M) (hl2 : 0 ≤ l2 ∧ l2 ≤ 2) (hl3 : 0 ≤ l3 ∧ l3 ≤ 2), 3 - l3 < (n : Int) → wp (fX10_keepWay_26 fu  n M l2 l3) (fun r M1 => bI bx1 M1 ∧ Kp TJ M0 M1 ∧ (0 ≤ r ∧ r ≤ 0)) := by
  intro n
  induction n with
  | zero => intro l2 l3 M iM kM hl2 hl3 hm; exfalso; omega
  | succ n ih =>
    intro l2 l3 M iM kM hl2 hl3 hm
    exact s_gX10_keepWay_26 fu hfu M0 (fX10_keepWay_26 fu  n) (n : Int) ih l2 l3 M iM kM hl2 hl3 (by omega)
set_option maxHeartbeats 4000000 in
set_option maxRecDepth 100000 in
theorem s_fX10_keepWay (fu : Nat) (hfu : 4000 ≤ fu) (M : jm_M) (iM : bI bx1 M) (l1 l2 : Int) (hl1 : 0 ≤ l1 ∧ l1 ≤ 5) (hl2 : 0 ≤ l2 ∧ l2 ≤ 2) : wp (fX10_keepWay fu M l1 l2) (fun r M1 => bI bx1 M1 ∧ Kp TJ M M1 ∧ (0 ≤ r ∧ r ≤ 0)) := by
  have kM : Kp TJ M M := Kp.rf
  unfold fX10_keepWay
  refine wp_bp (s_fX5_triedPlace fu hfu M iM l1 ⟨by omega, by omega⟩ ) (fun v1 hv1 => ?_)
  refine wp_sk iM hv1 kM (by unfold TJ; omega) (fun M4 u_1 iM4 kM4 => ?_)
  refine wp_bp (s_fX5_triedSum M4 iM4 l1 ⟨by omega, by omega⟩ ) (fun v5 hv5 => ?_)
  refine wp_sk iM4 hv5 kM4 (by unfold TJ; omega) (fun M8 u_2 iM8 kM8 => ?_)
  exact s_fX10_keepWay_26 fu hfu M    fu l2 0 M8 iM8 kM8 ⟨by omega, by omega⟩ ⟨by omega, by omega⟩   (by omega)
set_option maxHeartbeats 4000000 in
set_option maxRecDepth 100000 in
theorem s_gX10_nextLaps_38 (fu : Nat) (hfu : 4000 ≤ fu) (M0 : jm_M) (k38 : jm_M → Int → Int → Int → Int → jm_R) (N38 : Int) (hk38 : ∀ (l1 l3 l4 l5 : Int) (M : jm_M) (iM : bI bx1 M) (kM : Kp TJ M0 M) (hl1 : 0 ≤ l1 ∧ l1 ≤ 2) (hl3 : 0 ≤ l3 ∧ l3 ≤ 1) (hl4 : jm_in l4) (hl5 : 0 ≤ l5 ∧ l5 ≤ 2), 3 - l5 < N38 → wp (k38 M l1 l3 l4 l5) (fun r M1 => bI bx1 M1 ∧ Kp TJ M0 M1 ∧ (0 ≤ r ∧ r ≤ 1))) : ∀ (l1 l3 l4 l5 : Int) (M : jm_M) (iM : bI bx1 M) (kM : Kp TJ M0 M) (hl1 : 0 ≤ l1 ∧ l1 ≤ 2) (hl3 : 0 ≤ l3 ∧ l3 ≤ 1) (hl4 : jm_in l4) (hl5 : 0 ≤ l5 ∧ l5 ≤ 2), 3 - l5 < N38 + 1 → wp (gX10_nextLaps_38 fu k38 M l1 l3 l4 l5) (fun r M1 => bI bx1 M1 ∧ Kp TJ M0 M1 ∧ (0 ≤ r ∧ r ≤ 1)) := by
  intro l1 l3 l4 l5 M iM kM hl1 hl3 hl4 hl5 m38
  unfold gX10_nextLaps_38
  refine wp_ite (fun c_1 => ?_) (fun c_1 => ?_)
  · skip
    exact wp_ret ⟨iM, kM, by omega⟩
  · skip
    refine wp_F (by omega) ?_
    refine wp_T ⟨by omega, by omega⟩ ?_
    refine wp_sk iM (jm_w_in _) kM (by unfold TJ; omega) (fun M4 u_3 iM4 kM4 => ?_)
    have w_4 : (jm_w (l5 + 1)) = (l5 + 1) := jm_wid (by omega) (by omega)
    refine wp_e (by exact (jm_w_in _)) (fun v5 e_5 hv5 => ?_)
    have b_6 : -2147483648 ≤ v5 ∧ v5 ≤ 2147483647 := hv5
    have b_7 : -2147483648 ≤ l4 ∧ l4 ≤ 2147483647 := hl4
    exact hk38 l1 l3 l4 v5 M4 iM4 kM4 ⟨by omega, by omega⟩ ⟨by omega, by omega⟩ hl4 ⟨by omega, by omega⟩  (by omega)
set_option maxHeartbeats 4000000 in
set_option maxRecDepth 100000 in
theorem s_fX10_nextLaps_38 (fu : Nat) (hfu : 4000 ≤ fu) (M0 : jm_M) : ∀ (n : Nat) (l1 l3 l4 l5 : Int) (M : jm_M) (iM : bI bx1 M) (kM : Kp TJ M0 M) (hl1 : 0 ≤ l1 ∧ l1 ≤ 2) (hl3 : 0 ≤ l3 ∧ l3 ≤ 1) (hl4 : jm_in l4) (hl5 : 0 ≤ l5 ∧ l5 ≤ 2), 3 - l5 < (n : Int) → wp (fX10_nextLaps_38 fu  n M l1 l3 l4 l5) (fun r M1 => bI bx1 M1 ∧ Kp TJ M0 M1 ∧ (0 ≤ r ∧ r ≤ 1)) := by
  intro n
  induction n with
  | zero => intro l1 l3 l4 l5 M iM kM hl1 hl3 hl4 hl5 hm; exfalso; omega
  | succ n ih =>
    intro l1 l3 l4 l5 M iM kM hl1 hl3 hl4 hl5 hm
    exact s_gX10_nextLaps_38 fu hfu M0 (fX10_nextLaps_38 fu  n) (n : Int) ih l1 l3 l4 l5 M iM kM hl1 hl3 hl4 hl5 (by omega)
set_option maxHeartbeats 4000000 in
set_option maxRecDepth 100000 in
theorem s_gX10_nextLaps_4 (fu : Nat) (hfu : 4000 ≤ fu) (M0 : jm_M) (k4 : jm_M → Int → Int → Int → jm_R) (N4 : Int) (hk4 : ∀ (l1 l2 l3 : Int) (M : jm_M) (iM : bI bx1 M) (kM : Kp TJ M0 M) (hl1 : 0 ≤ l1 ∧ l1 ≤ 2) (hl2 : (-1) ≤ l2 ∧ l2 ≤ 10) (hl3 : (-1) ≤ l3 ∧ l3 ≤ 1), l3 - (-2) < N4 → wp (k4 M l1 l2 l3) (fun r M1 => bI bx1 M1 ∧ Kp TJ M0 M1 ∧ (0 ≤ r ∧ r ≤ 1))) : ∀ (l1 l2 l3 : Int) (M : jm_M) (iM : bI bx1 M) (kM : Kp TJ M0 M) (hl1 : 0 ≤ l1 ∧ l1 ≤ 2) (hl2 : (-1) ≤ l2 ∧ l2 ≤ 10) (hl3 : (-1) ≤ l3 ∧ l3 ≤ 1), l3 - (-2) < N4 + 1 → wp (gX10_nextLaps_4 fu k4 M l1 l2 l3) (fun r M1 => bI bx1 M1 ∧ Kp TJ M0 M1 ∧ (0 ≤ r ∧ r ≤ 1)) := by
  intro l1 l2 l3 M iM kM hl1 hl2 hl3 m4
  unfold gX10_nextLaps_4
  refine wp_ite (fun c_1 => ?_) (fun c_1 => ?_)
  · skip
    exact wp_ret ⟨iM, kM, by omega⟩
  · skip
    refine wp_F (by omega) ?_
    refine wp_T ⟨by omega, by omega⟩ ?_
    have b_3 : (-2147483648) ≤ (M 39 0 l3) ∧ (M 39 0 l3) ≤ 2147483647 := iM 39 0 l3
    have w_4 : -2147483648 ≤ (jm_w ((M 39 0 l3) + 1)) ∧ (jm_w ((M 39 0 l3) + 1)) ≤ 2147483647 := jm_w_in _
    refine wp_e (by exact (jm_w_in _)) (fun v5 e_5 hv5 => ?_)
    have b_7 : -2147483648 ≤ v5 ∧ v5 ≤ 2147483647 := hv5
    have w_8 : -2147483648 ≤ (jm_w (v5 + l1)) ∧ (jm_w (v5 + l1)) ≤ 2147483647 := jm_w_in _
    have w_9 : -2147483648 ≤ (jm_w ((jm_w (v5 + l1)) - 1)) ∧ (jm_w ((jm_w (v5 + l1)) - 1)) ≤ 2147483647 := jm_w_in _
    have w_10 : -2147483648 ≤ (jm_w ((jm_w ((jm_w (v5 + l1)) - 1)) - l3)) ∧ (jm_w ((jm_w ((jm_w (v5 + l1)) - 1)) - l3)) ≤ 2147483647 := jm_w_in _
    refine wp_ite (fun c_6 => ?_) (fun c_6 => ?_)
    · skip
      have w_11 : (jm_w (l3 + (-1))) = (l3 + (-1)) := jm_wid (by omega) (by omega)
      refine wp_e (by exact (jm_w_in _)) (fun v8 e_12 hv8 => ?_)
      have b_13 : -2147483648 ≤ v8 ∧ v8 ≤ 2147483647 := hv8
      exact hk4 l1 l2 v8 M iM kM ⟨by omega, by omega⟩ ⟨by omega, by omega⟩ ⟨by omega, by omega⟩  (by omega)
    · skip
      exact s_fX10_nextLaps_38 fu hfu M0    fu l1 l3 v5 l3 M iM kM ⟨by omega, by omega⟩ ⟨by omega, by omega⟩ hv5 ⟨by omega, by omega⟩   (by omega)
set_option maxHeartbeats 4000000 in
set_option maxRecDepth 100000 in
theorem s_fX10_nextLaps_4 (fu : Nat) (hfu : 4000 ≤ fu) (M0 : jm_M) : ∀ (n : Nat) (l1 l2 l3 : Int) (M : jm_M) (iM : bI bx1 M) (kM : Kp TJ M0 M) (hl1 : 0 ≤ l1 ∧ l1 ≤ 2) (hl2 : (-1) ≤ l2 ∧ l2 ≤ 10) (hl3 : (-1) ≤ l3 ∧ l3 ≤ 1), l3 - (-2) < (n : Int) → wp (fX10_nextLaps_4 fu  n M l1 l2 l3) (fun r M1 => bI bx1 M1 ∧ Kp TJ M0 M1 ∧ (0 ≤ r ∧ r ≤ 1)) := by
  intro n
  induction n with
  | zero => intro l1 l2 l3 M iM kM hl1 hl2 hl3 hm; exfalso; omega
  | succ n ih =>
    intro l1 l2 l3 M iM kM hl1 hl2 hl3 hm
    exact s_gX10_nextLaps_4 fu hfu M0 (fX10_nextLaps_4 fu  n) (n : Int) ih l1 l2 l3 M iM kM hl1 hl2 hl3 (by omega)
set_option maxHeartbeats 4000000 in
set_option maxRecDepth 100000 in
theorem s_fX10_nextLaps (fu : Nat) (hfu : 4000 ≤ fu) (M : jm_M) (iM : bI bx1 M) (l1 l2 : Int) (hl1 : 0 ≤ l1 ∧ l1 ≤ 2) (hl2 : (-1) ≤ l2 ∧ l2 ≤ 10) : wp (fX10_nextLaps fu M l1 l2) (fun r M1 => bI bx1 M1 ∧ Kp TJ M M1 ∧ (0 ≤ r ∧ r ≤ 1)) := by
  have kM : Kp TJ M M := Kp.rf
  unfold fX10_nextLaps
  have w_1 : (jm_w (l1 - 1)) = (l1 - 1) := jm_wid (by omega) (by omega)
  refine wp_e (by exact (jm_w_in _)) (fun v1 e_2 hv1 => ?_)
  have b_3 : -2147483648 ≤ v1 ∧ v1 ≤ 2147483647 := hv1
  exact s_fX10_nextLaps_4 fu hfu M    fu l1 l2 v1 M iM kM ⟨by omega, by omega⟩ ⟨by omega, by omega⟩ ⟨by omega, by omega⟩   (by omega)
set_option maxHeartbeats 4000000 in
set_option maxRecDepth 100000 in
theorem s_gX10_nextSets_4 (fu : Nat) (hfu : 4000 ≤ fu) (M0 : jm_M) (k4 : jm_M → Int → Int → jm_R) (N4 : Int) (hk4 : ∀ (l2 l3 : Int) (M : jm_M) (iM : bI bx1 M) (kM : Kp TJ M0 M) (hl2 : 0 ≤ l2 ∧ l2 ≤ 4) (hl3 : (-1) ≤ l3 ∧ l3 ≤ 1), l3 - (-2) < N4 → wp (k4 M l2 l3) (fun r M1 => bI bx1 M1 ∧ Kp TJ M0 M1 ∧ (0 ≤ r ∧ r ≤ 1))) : ∀ (l2 l3 : Int) (M : jm_M) (iM : bI bx1 M) (kM : Kp TJ M0 M) (hl2 : 0 ≤ l2 ∧ l2 ≤ 4) (hl3 : (-1) ≤ l3 ∧ l3 ≤ 1), l3 - (-2) < N4 + 1 → wp (gX10_nextSets_4 fu k4 M l2 l3) (fun r M1 => bI bx1 M1 ∧ Kp TJ M0 M1 ∧ (0 ≤ r ∧ r ≤ 1)) := by
  intro l2 l3 M iM kM hl2 hl3 m4
  unfold gX10_nextSets_4
  refine wp_ite (fun c_1 => ?_) (fun c_1 => ?_)
  · skip
    exact wp_ret ⟨iM, kM, by omega⟩
  · skip
    refine wp_F (by omega) ?_
    refine wp_T ⟨by omega, by omega⟩ ?_
    refine wp_T ⟨by omega, by omega⟩ ?_
    refine wp_sk iM (jm_w_in _) kM (by unfold TJ; omega) (fun M6 u_3 iM6 kM6 => ?_)
    refine wp_T ⟨by omega, by omega⟩ ?_
    have q_4 : (M6 40 0 l3) = (jm_w ((M 40 0 l3) + 1)) := by rw [u_3]; exact jm_ueq
    have b_6 : (-2147483648) ≤ (M 40 0 l3) ∧ (M 40 0 l3) ≤ 2147483647 := iM 40 0 l3
    have w_7 : -2147483648 ≤ (jm_w ((M 40 0 l3) + 1)) ∧ (jm_w ((M 40 0 l3) + 1)) ≤ 2147483647 := jm_w_in _
    refine wp_ite (fun c_5 => ?_) (fun c_5 => ?_)
    · skip
      refine wp_T ⟨by omega, by omega⟩ ?_
      refine wp_sk iM6 (jm_inL (by decide) (by decide)) kM6 (by unfold TJ; omega) (fun M11 u_8 iM11 kM11 => ?_)
      have w_9 : (jm_w (l3 + (-1))) = (l3 + (-1)) := jm_wid (by omega) (by omega)
      refine wp_e (by exact (jm_w_in _)) (fun v12 e_10 hv12 => ?_)
      have b_11 : -2147483648 ≤ v12 ∧ v12 ≤ 2147483647 := hv12
      exact hk4 l2 v12 M11 iM11 kM11 ⟨by omega, by omega⟩ ⟨by omega, by omega⟩  (by omega)
    · skip
      exact wp_ret ⟨iM6, kM6, by omega⟩
set_option maxHeartbeats 4000000 in
set_option maxRecDepth 100000 in
theorem s_fX10_nextSets_4 (fu : Nat) (hfu : 4000 ≤ fu) (M0 : jm_M) : ∀ (n : Nat) (l2 l3 : Int) (M : jm_M) (iM : bI bx1 M) (kM : Kp TJ M0 M) (hl2 : 0 ≤ l2 ∧ l2 ≤ 4) (hl3 : (-1) ≤ l3 ∧ l3 ≤ 1), l3 - (-2) < (n : Int) → wp (fX10_nextSets_4 fu  n M l2 l3) (fun r M1 => bI bx1 M1 ∧ Kp TJ M0 M1 ∧ (0 ≤ r ∧ r ≤ 1)) := by
  intro n
  induction n with
  | zero => intro l2 l3 M iM kM hl2 hl3 hm; exfalso; omega
  | succ n ih =>
    intro l2 l3 M iM kM hl2 hl3 hm
    exact s_gX10_nextSets_4 fu hfu M0 (fX10_nextSets_4 fu  n) (n : Int) ih l2 l3 M iM kM hl2 hl3 (by omega)
set_option maxHeartbeats 4000000 in
set_option maxRecDepth 100000 in
theorem s_fX10_nextSets (fu : Nat) (hfu : 4000 ≤ fu) (M : jm_M) (iM : bI bx1 M) (l1 l2 : Int) (hl1 : 0 ≤ l1 ∧ l1 ≤ 2) (hl2 : 0 ≤ l2 ∧ l2 ≤ 4) : wp (fX10_nextSets fu M l1 l2) (fun r M1 => bI bx1 M1 ∧ Kp TJ M M1 ∧ (0 ≤ r ∧ r ≤ 1)) := by
  have kM : Kp TJ M M := Kp.rf
  unfold fX10_nextSets
  have w_1 : (jm_w (l1 - 1)) = (l1 - 1) := jm_wid (by omega) (by omega)
  refine wp_e (by exact (jm_w_in _)) (fun v1 e_2 hv1 => ?_)
  have b_3 : -2147483648 ≤ v1 ∧ v1 ≤ 2147483647 := hv1
  exact s_fX10_nextSets_4 fu hfu M    fu l2 v1 M iM kM ⟨by omega, by omega⟩ ⟨by omega, by omega⟩   (by omega)
set_option maxHeartbeats 4000000 in
set_option maxRecDepth 100000 in
theorem s_fX11_isWithin (M : jm_M) (iM : bI bx1 M) (l0 l1 l2 : Int) (hl0 : jm_in l0) (hl1 : jm_in l1) (hl2 : jm_in l2) : wp (fX11_isWithin M l0 l1 l2) (fun r M1 => M1 = M ∧ ((r = 1 ∧ l1 ≤ l0 ∧ l0 ≤ l2) ∨ (r = 0 ∧ ¬ (l1 ≤ l0 ∧ l0 ≤ l2)))) := by
  unfold fX11_isWithin
  have b_2 : -2147483648 ≤ l0 ∧ l0 ≤ 2147483647 := hl0
  have b_3 : -2147483648 ≤ l1 ∧ l1 ≤ 2147483647 := hl1
  refine wp_ite (fun c_1 => ?_) (fun c_1 => ?_)
  · skip
    exact wp_ret ⟨rfl, by omega⟩
  · skip
    have b_5 : -2147483648 ≤ l2 ∧ l2 ≤ 2147483647 := hl2
    refine wp_ite (fun c_4 => ?_) (fun c_4 => ?_)
    · skip
      exact wp_ret ⟨rfl, by omega⟩
    · skip
      exact wp_ret ⟨rfl, by omega⟩
theorem s_fX10_takeWay_10 (fu : Nat) (M0 : jm_M) : ∀ (n : Nat) (M : jm_M) (iM : bI bx1 M) (kM : Kp TAM M0 M) (r1 l2 l3 : Int) (hr1 : 0 ≤ r1 ∧ r1 ≤ 5) (hl2 : 0 ≤ l2 ∧ l2 ≤ 2) (hl3 : 0 ≤ l3 ∧ l3 ≤ 2), 3 - l3 < (n : Int) → wp (fX10_takeWay_10 fu n M r1 l2 l3) (fun r M1 => bI bx1 M1 ∧ Kp TAM M0 M1 ∧ (0 ≤ r ∧ r ≤ 0)) := by
  intro n
  induction n with
  | zero => intro M iM kM r1 l2 l3 hr1 hl2 hl3 hm; exfalso; omega
  | succ n ih =>
    intro M iM kM r1 l2 l3 hr1 hl2 hl3 hm
    show wp (gX10_takeWay_10 fu (fX10_takeWay_10 fu n) M r1 l2 l3) _
    unfold gX10_takeWay_10
    refine wp_ite (fun c => wp_ret ⟨iM, kM, by omega⟩) (fun c => ?_)
    refine wp_ite (fun c => wp_ret ⟨iM, kM, by omega⟩) (fun c2 => ?_)
    refine wp_T ⟨by omega, by omega⟩ ?_
    refine wp_T ⟨by omega, by omega⟩ ?_
    refine wp_b (s0_fX7_push M iM (r1 + 24) _ _ 200 0 ⟨by omega, by omega⟩ (iM 39 0 l3) (iM 40 0 l3) (jm_inL (by decide) (by decide)) (jm_inL (by decide) (by decide))) (fun v7 M8 h8 => ?_)
    obtain ⟨i8, k8, -⟩ := h8
    have w : jm_w (l3 + 1) = l3 + 1 := jm_wid (by omega) (by omega)
    rw [w]
    refine wp_e (jm_inL (by omega) (by omega)) (fun v10 e10 h10 => ?_)
    refine ih M8 i8 (fun f i k h => ?_) r1 l2 v10 hr1 hl2 ⟨by omega, by omega⟩ (by omega)
    rw [k8 f i k (by unfold TAM at h; omega) (by unfold TAM at h; omega)]
    exact kM f i k h
theorem s_fX10_takeWay (fu : Nat) (hfu : 4000 ≤ fu) (M : jm_M) (iM : bI bx1 M) (r1 l2 : Int) (hr1 : 0 ≤ r1 ∧ r1 ≤ 5) (hl2 : 0 ≤ l2 ∧ l2 ≤ 2) : wp (fX10_takeWay fu M r1 l2) (fun r M1 => bI bx1 M1 ∧ Kp TAM M M1 ∧ (0 ≤ r ∧ r ≤ 0)) := by
  have bl := lim1_any (r1 + 24)
  unfold fX10_takeWay
  refine wp_sk (T := TAM) iM (show 0 ≤ 0 ∧ 0 ≤ lim1 (r1 + 24) by omega) Kp.rf (by unfold TAM; omega) (fun M1 u1 i1 k1 => ?_)
  exact s_fX10_takeWay_10 fu M fu M1 i1 k1 r1 l2 0 hr1 hl2 ⟨by omega, by omega⟩ (by omega)
set_option maxHeartbeats 4000000 in
set_option maxRecDepth 100000 in
theorem s_gX10_search_192 (fu : Nat) (hfu : 4000 ≤ fu) (M0 : jm_M) (k116 : jm_M → Int → Int → Int → Int → Int → Int → Int → jm_R) (N116 : Int) (hk116 : ∀ (l1 l2 l3 r4 l5 l6 l7 : Int) (M : jm_M) (iM : bI bx1 M) (kM : Kp TAM M0 M) (hl1 : 0 ≤ l1 ∧ l1 ≤ 5) (hl2 : 0 ≤ l2 ∧ l2 ≤ 2) (hl3 : 0 ≤ l3 ∧ l3 ≤ 99) (hr4 : 0 ≤ r4 ∧ r4 ≤ 5) (hl5 : (-1) ≤ l5 ∧ l5 ≤ 10) (hl6 : 0 ≤ l6 ∧ l6 ≤ 1) (hl7 : 0 ≤ l7 ∧ l7 ≤ 1000), 1001 - l7 < N116 → wp (k116 M l1 l2 l3 r4 l5 l6 l7) (fun r M1 => bI bx1 M1 ∧ Kp TAM M0 M1 ∧ (0 ≤ r ∧ r ≤ 1))) : ∀ (l1 l2 l3 r4 l5 l7 : Int) (M : jm_M) (iM : bI bx1 M) (kM : Kp TAM M0 M) (hl1 : 0 ≤ l1 ∧ l1 ≤ 5) (hl2 : 0 ≤ l2 ∧ l2 ≤ 2) (hl3 : 0 ≤ l3 ∧ l3 ≤ 99) (hr4 : 0 ≤ r4 ∧ r4 ≤ 5) (hl5 : (-1) ≤ l5 ∧ l5 ≤ 10) (hl7 : 0 ≤ l7 ∧ l7 ≤ 999), 1001 - l7 < N116 + 1 → wp (gX10_search_192 fu k116 M l1 l2 l3 r4 l5 l7) (fun r M1 => bI bx1 M1 ∧ Kp TAM M0 M1 ∧ (0 ≤ r ∧ r ≤ 1)) := by
  intro l1 l2 l3 r4 l5 l7 M iM kM hl1 hl2 hl3 hr4 hl5 hl7 m116
  unfold gX10_search_192
  have b_1 : 0 ≤ (M 10 r4 3) ∧ (M 10 r4 3) ≤ 4 := jm_b10 (iM 10 r4 3) (Int.le_of_eq (lim1_0 (by omega) (by omega)))
  refine wp_bk (s_fX10_nextSets fu hfu M iM l2 (M 10 r4 3) ⟨by omega, by omega⟩ ⟨by omega, by omega⟩ ) (fun v2 M3 iM3 jM3 hv2 => ?_)
  have kM3 := kM.tr jM3 tt_TAM_TJ
  refine wp_ite (fun c_2 => ?_) (fun c_2 => ?_)
  · skip
    refine wp_bk (s_fX10_nextLaps fu hfu M3 iM3 l2 l5 ⟨by omega, by omega⟩ ⟨by omega, by omega⟩ ) (fun v6 M7 iM7 jM7 hv6 => ?_)
    have kM7 := kM3.tr jM7 tt_TAM_TJ
    refine wp_ite (fun c_3 => ?_) (fun c_3 => ?_)
    · skip
      have w_4 : (jm_w (l7 + 1)) = (l7 + 1) := jm_wid (by omega) (by omega)
      refine wp_e (by exact (jm_w_in _)) (fun v10 e_5 hv10 => ?_)
      have b_6 : -2147483648 ≤ v10 ∧ v10 ≤ 2147483647 := hv10
      exact hk116 l1 l2 l3 r4 l5 0 v10 M7 iM7 kM7 ⟨by omega, by omega⟩ ⟨by omega, by omega⟩ ⟨by omega, by omega⟩ ⟨by omega, by omega⟩ ⟨by omega, by omega⟩ ⟨by omega, by omega⟩ ⟨by omega, by omega⟩  (by omega)
    · skip
      have w_7 : (jm_w (l7 + 1)) = (l7 + 1) := jm_wid (by omega) (by omega)
      refine wp_e (by exact (jm_w_in _)) (fun v12 e_8 hv12 => ?_)
      have b_9 : -2147483648 ≤ v12 ∧ v12 ≤ 2147483647 := hv12
      exact hk116 l1 l2 l3 r4 l5 1 v12 M7 iM7 kM7 ⟨by omega, by omega⟩ ⟨by omega, by omega⟩ ⟨by omega, by omega⟩ ⟨by omega, by omega⟩ ⟨by omega, by omega⟩ ⟨by omega, by omega⟩ ⟨by omega, by omega⟩  (by omega)
  · skip
    have w_10 : (jm_w (l7 + 1)) = (l7 + 1) := jm_wid (by omega) (by omega)
    refine wp_e (by exact (jm_w_in _)) (fun v14 e_11 hv14 => ?_)
    have b_12 : -2147483648 ≤ v14 ∧ v14 ≤ 2147483647 := hv14
    exact hk116 l1 l2 l3 r4 l5 1 v14 M3 iM3 kM3 ⟨by omega, by omega⟩ ⟨by omega, by omega⟩ ⟨by omega, by omega⟩ ⟨by omega, by omega⟩ ⟨by omega, by omega⟩ ⟨by omega, by omega⟩ ⟨by omega, by omega⟩  (by omega)
set_option maxHeartbeats 4000000 in
set_option maxRecDepth 100000 in
theorem s_gX10_search_116 (fu : Nat) (hfu : 4000 ≤ fu) (M0 : jm_M) (k116 : jm_M → Int → Int → Int → Int → Int → Int → Int → jm_R) (N116 : Int) (hk116 : ∀ (l1 l2 l3 r4 l5 l6 l7 : Int) (M : jm_M) (iM : bI bx1 M) (kM : Kp TAM M0 M) (hl1 : 0 ≤ l1 ∧ l1 ≤ 5) (hl2 : 0 ≤ l2 ∧ l2 ≤ 2) (hl3 : 0 ≤ l3 ∧ l3 ≤ 99) (hr4 : 0 ≤ r4 ∧ r4 ≤ 5) (hl5 : (-1) ≤ l5 ∧ l5 ≤ 10) (hl6 : 0 ≤ l6 ∧ l6 ≤ 1) (hl7 : 0 ≤ l7 ∧ l7 ≤ 1000), 1001 - l7 < N116 → wp (k116 M l1 l2 l3 r4 l5 l6 l7) (fun r M1 => bI bx1 M1 ∧ Kp TAM M0 M1 ∧ (0 ≤ r ∧ r ≤ 1))) : ∀ (l1 l2 l3 r4 l5 l6 l7 : Int) (M : jm_M) (iM : bI bx1 M) (kM : Kp TAM M0 M) (hl1 : 0 ≤ l1 ∧ l1 ≤ 5) (hl2 : 0 ≤ l2 ∧ l2 ≤ 2) (hl3 : 0 ≤ l3 ∧ l3 ≤ 99) (hr4 : 0 ≤ r4 ∧ r4 ≤ 5) (hl5 : (-1) ≤ l5 ∧ l5 ≤ 10) (hl6 : 0 ≤ l6 ∧ l6 ≤ 1) (hl7 : 0 ≤ l7 ∧ l7 ≤ 1000), 1001 - l7 < N116 + 1 → wp (gX10_search_116 fu k116 M l1 l2 l3 r4 l5 l6 l7) (fun r M1 => bI bx1 M1 ∧ Kp TAM M0 M1 ∧ (0 ≤ r ∧ r ≤ 1)) := by
  intro l1 l2 l3 r4 l5 l6 l7 M iM kM hl1 hl2 hl3 hr4 hl5 hl6 hl7 m116
  unfold gX10_search_116
  refine wp_ite (fun c_1 => ?_) (fun c_1 => ?_)
  · skip
    refine wp_sk iM (jm_inL (by decide) (by decide)) kM (by unfold TAM; omega) (fun M2 u_2 iM2 kM2 => ?_)
    exact wp_ret ⟨iM2, kM2, by omega⟩
  · skip
    refine wp_ite (fun c_3 => ?_) (fun c_3 => ?_)
    · skip
      refine wp_sk iM (jm_inL (by decide) (by decide)) kM (by unfold TAM; omega) (fun M4 u_4 iM4 kM4 => ?_)
      exact wp_ret ⟨iM4, kM4, by omega⟩
    · skip
      refine wp_bk (s_fX10_takeWay fu hfu M iM r4 l2 ⟨by omega, by omega⟩ ⟨by omega, by omega⟩ ) (fun v5 M6 iM6 jM6 hv5 => ?_)
      have kM6 := kM.tr jM6 (fun _ _ _ h => h)
      refine wp_bk (s_fX2_run fu hfu M6 iM6   ) (fun v7 M8 iM8 jM8 hv7 => ?_)
      have kM8 := kM6.tr jM8 tt_TAM_TA
      refine wp_bk (s_fX5_reckonFor fu hfu M8 iM8 l3 ⟨by omega, by omega⟩ ) (fun v9 M10 iM10 jM10 hv9 => ?_)
      have kM10 := kM8.tr jM10 tt_TAM_TJ
      refine wp_ite (fun c_5 => ?_) (fun c_5 => ?_)
      · skip
        refine wp_bk (s_fX10_keepWay fu hfu M10 iM10 l1 l2 ⟨by omega, by omega⟩ ⟨by omega, by omega⟩ ) (fun v12 M13 iM13 jM13 hv12 => ?_)
        have kM13 := kM10.tr jM13 tt_TAM_TJ
        exact s_gX10_search_192 fu hfu M0 k116 N116 hk116 l1 l2 l3 r4 l5 l7 M13 iM13 kM13 ⟨by omega, by omega⟩ ⟨by omega, by omega⟩ ⟨by omega, by omega⟩ ⟨by omega, by omega⟩ ⟨by omega, by omega⟩ ⟨by omega, by omega⟩  (by omega)
      · skip
        refine wp_bp (s_fX5_triedPlace fu hfu M10 iM10 l1 ⟨by omega, by omega⟩ ) (fun v14 hv14 => ?_)
        refine wp_bp (s_fX5_triedSum M10 iM10 l1 ⟨by omega, by omega⟩ ) (fun v17 hv17 => ?_)
        refine wp_bp (s_fX10_isBetter M10 iM10 v14 v17 (M10 5 0 5) (M10 5 0 6) hv14 hv17 (iM10 5 0 5) (iM10 5 0 6) ) (fun v22 hv22 => ?_)
        refine wp_ite (fun c_6 => ?_) (fun c_6 => ?_)
        · skip
          exact s_gX10_search_192 fu hfu M0 k116 N116 hk116 l1 l2 l3 r4 l5 l7 M10 iM10 kM10 ⟨by omega, by omega⟩ ⟨by omega, by omega⟩ ⟨by omega, by omega⟩ ⟨by omega, by omega⟩ ⟨by omega, by omega⟩ ⟨by omega, by omega⟩  (by omega)
        · skip
          refine wp_bk (s_fX10_keepWay fu hfu M10 iM10 l1 l2 ⟨by omega, by omega⟩ ⟨by omega, by omega⟩ ) (fun v26 M27 iM27 jM27 hv26 => ?_)
          have kM27 := kM10.tr jM27 tt_TAM_TJ
          exact s_gX10_search_192 fu hfu M0 k116 N116 hk116 l1 l2 l3 r4 l5 l7 M27 iM27 kM27 ⟨by omega, by omega⟩ ⟨by omega, by omega⟩ ⟨by omega, by omega⟩ ⟨by omega, by omega⟩ ⟨by omega, by omega⟩ ⟨by omega, by omega⟩  (by omega)
set_option maxHeartbeats 4000000 in
set_option maxRecDepth 100000 in
theorem s_fX10_search_116 (fu : Nat) (hfu : 4000 ≤ fu) (M0 : jm_M) : ∀ (n : Nat) (l1 l2 l3 r4 l5 l6 l7 : Int) (M : jm_M) (iM : bI bx1 M) (kM : Kp TAM M0 M) (hl1 : 0 ≤ l1 ∧ l1 ≤ 5) (hl2 : 0 ≤ l2 ∧ l2 ≤ 2) (hl3 : 0 ≤ l3 ∧ l3 ≤ 99) (hr4 : 0 ≤ r4 ∧ r4 ≤ 5) (hl5 : (-1) ≤ l5 ∧ l5 ≤ 10) (hl6 : 0 ≤ l6 ∧ l6 ≤ 1) (hl7 : 0 ≤ l7 ∧ l7 ≤ 1000), 1001 - l7 < (n : Int) → wp (fX10_search_116 fu  n M l1 l2 l3 r4 l5 l6 l7) (fun r M1 => bI bx1 M1 ∧ Kp TAM M0 M1 ∧ (0 ≤ r ∧ r ≤ 1)) := by
  intro n
  induction n with
  | zero => intro l1 l2 l3 r4 l5 l6 l7 M iM kM hl1 hl2 hl3 hr4 hl5 hl6 hl7 hm; exfalso; omega
  | succ n ih =>
    intro l1 l2 l3 r4 l5 l6 l7 M iM kM hl1 hl2 hl3 hr4 hl5 hl6 hl7 hm
    exact s_gX10_search_116 fu hfu M0 (fX10_search_116 fu  n) (n : Int) ih l1 l2 l3 r4 l5 l6 l7 M iM kM hl1 hl2 hl3 hr4 hl5 hl6 hl7 (by omega)
set_option maxHeartbeats 4000000 in
set_option maxRecDepth 100000 in
theorem s_gX10_search_75 (fu : Nat) (hfu : 4000 ≤ fu) (M0 : jm_M) (k75 : jm_M → Int → Int → Int → Int → Int → Int → jm_R) (N75 : Int) (hk75 : ∀ (l1 l2 l3 r4 l5 l6 : Int) (M : jm_M) (iM : bI bx1 M) (kM : Kp TAM M0 M) (hl1 : 0 ≤ l1 ∧ l1 ≤ 5) (hl2 : 0 ≤ l2 ∧ l2 ≤ 2) (hl3 : 0 ≤ l3 ∧ l3 ≤ 99) (hr4 : 0 ≤ r4 ∧ r4 ≤ 5) (hl5 : (-1) ≤ l5 ∧ l5 ≤ 10) (hl6 : 0 ≤ l6 ∧ l6 ≤ 2), 3 - l6 < N75 → wp (k75 M l1 l2 l3 r4 l5 l6) (fun r M1 => bI bx1 M1 ∧ Kp TAM M0 M1 ∧ (0 ≤ r ∧ r ≤ 1))) : ∀ (l1 l2 l3 r4 l5 l6 : Int) (M : jm_M) (iM : bI bx1 M) (kM : Kp TAM M0 M) (hl1 : 0 ≤ l1 ∧ l1 ≤ 5) (hl2 : 0 ≤ l2 ∧ l2 ≤ 2) (hl3 : 0 ≤ l3 ∧ l3 ≤ 99) (hr4 : 0 ≤ r4 ∧ r4 ≤ 5) (hl5 : (-1) ≤ l5 ∧ l5 ≤ 10) (hl6 : 0 ≤ l6 ∧ l6 ≤ 2), 3 - l6 < N75 + 1 → wp (gX10_search_75 fu k75 M l1 l2 l3 r4 l5 l6) (fun r M1 => bI bx1 M1 ∧ Kp TAM M0 M1 ∧ (0 ≤ r ∧ r ≤ 1)) := by
  intro l1 l2 l3 r4 l5 l6 M iM kM hl1 hl2 hl3 hr4 hl5 hl6 m75
  unfold gX10_search_75
  refine wp_ite (fun c_1 => ?_) (fun c_1 => ?_)
  · skip
    refine wp_sk iM (jm_inL (by decide) (by decide)) kM (by unfold TAM; omega) (fun M2 u_2 iM2 kM2 => ?_)
    exact s_fX10_search_116 fu hfu M0    fu l1 l2 l3 r4 l5 1 0 M2 iM2 kM2 ⟨by omega, by omega⟩ ⟨by omega, by omega⟩ ⟨by omega, by omega⟩ ⟨by omega, by omega⟩ ⟨by omega, by omega⟩ ⟨by omega, by omega⟩ ⟨by omega, by omega⟩   (by omega)
  · skip
    refine wp_T ⟨by omega, by omega⟩ ?_
    refine wp_sk iM (jm_inL (by omega) (by omega)) kM (by unfold TAM; omega) (fun M4 u_3 iM4 kM4 => ?_)
    refine wp_T ⟨by omega, by omega⟩ ?_
    refine wp_sk iM4 (jm_inL (by decide) (by decide)) kM4 (by unfold TAM; omega) (fun M6 u_4 iM6 kM6 => ?_)
    have w_5 : (jm_w (l6 + 1)) = (l6 + 1) := jm_wid (by omega) (by omega)
    refine wp_e (by exact (jm_w_in _)) (fun v7 e_6 hv7 => ?_)
    have b_7 : -2147483648 ≤ v7 ∧ v7 ≤ 2147483647 := hv7
    exact hk75 l1 l2 l3 r4 l5 v7 M6 iM6 kM6 ⟨by omega, by omega⟩ ⟨by omega, by omega⟩ ⟨by omega, by omega⟩ ⟨by omega, by omega⟩ ⟨by omega, by omega⟩ ⟨by omega, by omega⟩  (by omega)
set_option maxHeartbeats 4000000 in
set_option maxRecDepth 100000 in
theorem s_fX10_search_75 (fu : Nat) (hfu : 4000 ≤ fu) (M0 : jm_M) : ∀ (n : Nat) (l1 l2 l3 r4 l5 l6 : Int) (M : jm_M) (iM : bI bx1 M) (kM : Kp TAM M0 M) (hl1 : 0 ≤ l1 ∧ l1 ≤ 5) (hl2 : 0 ≤ l2 ∧ l2 ≤ 2) (hl3 : 0 ≤ l3 ∧ l3 ≤ 99) (hr4 : 0 ≤ r4 ∧ r4 ≤ 5) (hl5 : (-1) ≤ l5 ∧ l5 ≤ 10) (hl6 : 0 ≤ l6 ∧ l6 ≤ 2), 3 - l6 < (n : Int) → wp (fX10_search_75 fu  n M l1 l2 l3 r4 l5 l6) (fun r M1 => bI bx1 M1 ∧ Kp TAM M0 M1 ∧ (0 ≤ r ∧ r ≤ 1)) := by
  intro n
  induction n with
  | zero => intro l1 l2 l3 r4 l5 l6 M iM kM hl1 hl2 hl3 hr4 hl5 hl6 hm; exfalso; omega
  | succ n ih =>
    intro l1 l2 l3 r4 l5 l6 M iM kM hl1 hl2 hl3 hr4 hl5 hl6 hm
    exact s_gX10_search_75 fu hfu M0 (fX10_search_75 fu  n) (n : Int) ih l1 l2 l3 r4 l5 l6 M iM kM hl1 hl2 hl3 hr4 hl5 hl6 (by omega)
set_option maxHeartbeats 4000000 in
set_option maxRecDepth 100000 in
theorem s_fX10_search (fu : Nat) (hfu : 4000 ≤ fu) (M : jm_M) (iM : bI bx1 M) (l1 l2 l3 : Int) (hl1 : 0 ≤ l1 ∧ l1 ≤ 5) (hl2 : 0 ≤ l2 ∧ l2 ≤ 2) (hl3 : 0 ≤ l3 ∧ l3 ≤ 99) : wp (fX10_search fu M l1 l2 l3) (fun r M1 => bI bx1 M1 ∧ Kp TAM M M1 ∧ (0 ≤ r ∧ r ≤ 1)) := by
  have kM : Kp TAM M M := Kp.rf
  unfold fX10_search
  refine wp_bp (s_fX2_has M iM l1 (jm_inL (by omega) (by omega)) ) (fun v1 hv1 => ?_)
  have b_1 : 0 ≤ (M 2 0 5) ∧ (M 2 0 5) ≤ 6 := iM 2 0 5
  refine wp_ite (fun c_2 => ?_) (fun c_2 => ?_)
  · skip
    exact wp_ret ⟨iM, kM, by omega⟩
  · skip
    refine wp_bp (s_fX11_isWithin M iM l2 0 2 (jm_inL (by omega) (by omega)) (jm_inL (by decide) (by decide)) (jm_inL (by decide) (by decide)) ) (fun v5 hv5 => ?_)
    refine wp_ite (fun c_3 => ?_) (fun c_3 => ?_)
    · skip
      exact wp_ret ⟨iM, kM, by omega⟩
    · skip
      refine wp_T ⟨by omega, by omega⟩ ?_
      have b_4 : 1 ≤ (M 1 0 1) ∧ (M 1 0 1) ≤ 12 := iM 1 0 1
      have w_5 : (jm_w ((M 1 0 1) - 2)) = ((M 1 0 1) - 2) := jm_wid (by omega) (by omega)
      refine wp_e (by exact (jm_w_in _)) (fun v11 e_6 hv11 => ?_)
      refine wp_ite (fun c_7 => ?_) (fun c_7 => ?_)
      · skip
        have b_8 : -2147483648 ≤ v11 ∧ v11 ≤ 2147483647 := hv11
        exact s_fX10_search_75 fu hfu M    fu l1 l2 l3 l1 v11 0 M iM kM ⟨by omega, by omega⟩ ⟨by omega, by omega⟩ ⟨by omega, by omega⟩ ⟨by omega, by omega⟩ ⟨by omega, by omega⟩ ⟨by omega, by omega⟩   (by omega)
      · skip
        have b_10 : 0 ≤ (M 10 l1 3) ∧ (M 10 l1 3) ≤ 4 := jm_b10 (iM 10 l1 3) (Int.le_of_eq (lim1_0 (by omega) (by omega)))
        refine wp_ite (fun c_9 => ?_) (fun c_9 => ?_)
        · skip
          exact wp_ret ⟨iM, kM, by omega⟩
        · skip
          have w_12 : (jm_w (l2 - 1)) = (l2 - 1) := jm_wid (by omega) (by omega)
          have b_13 : -2147483648 ≤ v11 ∧ v11 ≤ 2147483647 := hv11
          refine wp_ite (fun c_11 => ?_) (fun c_11 => ?_)
          · skip
            exact s_fX10_search_75 fu hfu M    fu l1 l2 l3 l1 v11 0 M iM kM ⟨by omega, by omega⟩ ⟨by omega, by omega⟩ ⟨by omega, by omega⟩ ⟨by omega, by omega⟩ ⟨by omega, by omega⟩ ⟨by omega, by omega⟩   (by omega)
          · skip
            exact wp_ret ⟨iM, kM, by omega⟩
set_option maxHeartbeats 4000000 in
set_option maxRecDepth 100000 in
theorem s_fX9_hasSector (M : jm_M) (iM : bI bx1 M) (l1 : Int) (hl1 : jm_in l1) : wp (fX9_hasSector M l1) (fun r M1 => M1 = M ∧ ((r = 1 ∧ 0 ≤ l1 ∧ l1 < (M 1 0 0)) ∨ (r = 0 ∧ ¬ (0 ≤ l1 ∧ l1 < (M 1 0 0))))) := by
  unfold fX9_hasSector
  have b_1 : 2 ≤ (M 1 0 0) ∧ (M 1 0 0) ≤ 5 := iM 1 0 0
  refine wp_bp (s_fX11_isIndex M iM l1 (M 1 0 0) hl1 ⟨by omega, by omega⟩ ) (fun v2 hv2 => ?_)
  have b_2 : -2147483648 ≤ l1 ∧ l1 ≤ 2147483647 := hl1
  refine wp_T (by omega) ?_
  exact wp_ret ⟨rfl, by omega⟩
set_option maxHeartbeats 4000000 in
set_option maxRecDepth 100000 in
theorem s_fX9_hasLine (M : jm_M) (iM : bI bx1 M) (l1 l2 : Int) (hl1 : jm_in l1) (hl2 : jm_in l2) : wp (fX9_hasLine M l1 l2) (fun r M1 => M1 = M ∧ ((r = 1 ∧ 0 ≤ l1 ∧ l1 < (M 1 0 1) ∧ 0 ≤ l2 ∧ l2 < (M 1 0 0)) ∨ (r = 0 ∧ ¬ (0 ≤ l1 ∧ l1 < (M 1 0 1) ∧ 0 ≤ l2 ∧ l2 < (M 1 0 0))))) := by
  unfold fX9_hasLine
  have b_1 : 1 ≤ (M 1 0 1) ∧ (M 1 0 1) ≤ 12 := iM 1 0 1
  refine wp_bp (s_fX11_isIndex M iM l1 (M 1 0 1) hl1 ⟨by omega, by omega⟩ ) (fun v2 hv2 => ?_)
  have b_2 : -2147483648 ≤ l1 ∧ l1 ≤ 2147483647 := hl1
  refine wp_ite (fun c_3 => ?_) (fun c_3 => ?_)
  · skip
    exact wp_ret ⟨rfl, by omega⟩
  · skip
    refine wp_bp (s_fX9_hasSector M iM l2 hl2 ) (fun v6 hv6 => ?_)
    have b_4 : -2147483648 ≤ l2 ∧ l2 ≤ 2147483647 := hl2
    have b_5 : 2 ≤ (M 1 0 0) ∧ (M 1 0 0) ≤ 5 := iM 1 0 0
    refine wp_ite (fun c_6 => ?_) (fun c_6 => ?_)
    · skip
      exact wp_ret ⟨rfl, by omega⟩
    · skip
      exact wp_ret ⟨rfl, by omega⟩
set_option maxHeartbeats 4000000 in
set_option maxRecDepth 100000 in
theorem s_fX2_reckon (fu : Nat) (hfu : 4000 ≤ fu) (M : jm_M) (iM : bI bx1 M) : wp (fX2_reckon fu M ) (fun r M1 => bI bx1 M1 ∧ Kp TA M M1 ∧ (0 ≤ r ∧ r ≤ 0)) := by
  have kM : Kp TA M M := Kp.rf
  unfold fX2_reckon
  have b_2 : (-2147483648) ≤ (M 2 0 7) ∧ (M 2 0 7) ≤ 2147483647 := iM 2 0 7
  refine wp_ite (fun c_1 => ?_) (fun c_1 => ?_)
  · skip
    refine wp_bk (s_fX2_run fu hfu M iM   ) (fun v3 M4 iM4 jM4 hv3 => ?_)
    have kM4 := kM.tr jM4 (fun _ _ _ h => h)
    refine wp_sk iM4 (jm_inL (by decide) (by decide)) kM4 (by unfold TA; omega) (fun M5 u_3 iM5 kM5 => ?_)
    exact wp_ret ⟨iM5, kM5, by omega⟩
  · skip
    exact wp_ret ⟨iM, kM, by omega⟩
set_option maxHeartbeats 4000000 in
set_option maxRecDepth 100000 in
theorem s_fX9_tells (M : jm_M) (iM : bI bx1 M) (l1 : Int) (hl1 : 0 ≤ l1 ∧ l1 ≤ 2000) : wp (fX9_tells M l1) (fun r M1 => M1 = M ∧ (0 ≤ r ∧ r ≤ 1)) := by
  unfold fX9_tells
  refine wp_bp (s_fX9_sectorOf M iM l1 ⟨by omega, by omega⟩ ) (fun v1 hv1 => ?_)
  refine wp_T ⟨by omega, by omega⟩ ?_
  have b_2 : (-2147483648) ≤ (M 16 0 v1) ∧ (M 16 0 v1) ≤ 2147483647 := iM 16 0 v1
  refine wp_ite (fun c_1 => ?_) (fun c_1 => ?_)
  · skip
    exact wp_ret ⟨rfl, by omega⟩
  · skip
    exact wp_ret ⟨rfl, by omega⟩
set_option maxHeartbeats 4000000 in
set_option maxRecDepth 100000 in
theorem s_gX2_spanAt_164 (fu : Nat) (hfu : 4000 ≤ fu) (M : jm_M) (iM : bI bx1 M) : ∀ (l2 l8 s0 : Int) (hl2 : 0 ≤ l2 ∧ l2 ≤ 2000) (hl8 : (-1) ≤ l8 ∧ l8 ≤ 1999) (hs0 : jm_in s0), wp (gX2_spanAt_164 fu  M l2 l8 s0) (fun r M1 => M1 = M ∧ (jm_in r)) := by
  intro l2 l8 s0 hl2 hl8 hs0
  unfold gX2_spanAt_164
  have b_1 : -2147483648 ≤ s0 ∧ s0 ≤ 2147483647 := hs0
  have w_2 : (jm_w (l2 - l8)) = (l2 - l8) := jm_wid (by omega) (by omega)
  have w_3 : (jm_w (1000 * (jm_w (l2 - l8)))) = (1000 * (jm_w (l2 - l8))) := jm_wid (by omega) (by omega)
  have w_4 : -2147483648 ≤ (jm_w (s0 + (jm_w (1000 * (jm_w (l2 - l8)))))) ∧ (jm_w (s0 + (jm_w (1000 * (jm_w (l2 - l8)))))) ≤ 2147483647 := jm_w_in _
  exact wp_ret ⟨rfl, (jm_w_in _)⟩
set_option maxHeartbeats 4000000 in
set_option maxRecDepth 100000 in
theorem s_gX2_spanAt_137 (fu : Nat) (hfu : 4000 ≤ fu) (M : jm_M) (iM : bI bx1 M) : ∀ (l1 l2 r4 l8 : Int) (hl1 : 0 ≤ l1 ∧ l1 ≤ 5) (hl2 : 0 ≤ l2 ∧ l2 ≤ 2000) (hr4 : 0 ≤ r4 ∧ r4 ≤ 5) (hl8 : (-1) ≤ l8 ∧ l8 ≤ 1999), wp (gX2_spanAt_137 fu  M l1 l2 r4 l8) (fun r M1 => M1 = M ∧ (jm_in r)) := by
  intro l1 l2 r4 l8 hl1 hl2 hr4 hl8
  unfold gX2_spanAt_137
  refine wp_ite (fun c_1 => ?_) (fun c_1 => ?_)
  · skip
    refine wp_bp (s_fX6_timeAt M iM r4 l8 ⟨by omega, by omega⟩ ⟨by omega, by omega⟩ ) (fun v2 hv2 => ?_)
    have b_2 : -2147483648 ≤ v2 ∧ v2 ≤ 2147483647 := hv2
    exact s_gX2_spanAt_164 fu hfu M iM    l2 l8 v2  ⟨by omega, by omega⟩ ⟨by omega, by omega⟩ hv2  
  · skip
    refine wp_T ⟨by omega, by omega⟩ ?_
    have b_3 : (-2147483648) ≤ (M 18 0 6) ∧ (M 18 0 6) ≤ 2147483647 := iM 18 0 6
    have w_4 : -2147483648 ≤ (jm_w ((M 18 0 6) * l1)) ∧ (jm_w ((M 18 0 6) * l1)) ≤ 2147483647 := jm_w_in _
    exact s_gX2_spanAt_164 fu hfu M iM    l2 l8 (jm_w ((M 18 0 6) * l1))  ⟨by omega, by omega⟩ ⟨by omega, by omega⟩ (jm_w_in _)  
set_option maxHeartbeats 4000000 in
set_option maxRecDepth 100000 in
theorem s_gX2_spanAt_114 (fu : Nat) (hfu : 4000 ≤ fu) (M : jm_M) (iM : bI bx1 M) (k114 : jm_M → Int → Int → Int → Int → jm_R) (N114 : Int) (hk114 : ∀ (l1 l2 r4 l8 : Int) (hl1 : 0 ≤ l1 ∧ l1 ≤ 5) (hl2 : 0 ≤ l2 ∧ l2 ≤ 2000) (hr4 : 0 ≤ r4 ∧ r4 ≤ 5) (hl8 : (-1) ≤ l8 ∧ l8 ≤ 1999), l8 - (-2) < N114 → wp (k114 M l1 l2 r4 l8) (fun r M1 => M1 = M ∧ (jm_in r))) : ∀ (l1 l2 r4 l8 : Int) (hl1 : 0 ≤ l1 ∧ l1 ≤ 5) (hl2 : 0 ≤ l2 ∧ l2 ≤ 2000) (hr4 : 0 ≤ r4 ∧ r4 ≤ 5) (hl8 : (-1) ≤ l8 ∧ l8 ≤ 1999), l8 - (-2) < N114 + 1 → wp (gX2_spanAt_114 fu k114 M l1 l2 r4 l8) (fun r M1 => M1 = M ∧ (jm_in r)) := by
  intro l1 l2 r4 l8 hl1 hl2 hr4 hl8 m114
  unfold gX2_spanAt_114
  refine wp_ite (fun c_1 => ?_) (fun c_1 => ?_)
  · skip
    exact s_gX2_spanAt_137 fu hfu M iM    l1 l2 r4 l8  ⟨by omega, by omega⟩ ⟨by omega, by omega⟩ ⟨by omega, by omega⟩ ⟨by omega, by omega⟩  
  · skip
    refine wp_bp (s_fX9_tells M iM l8 ⟨by omega, by omega⟩ ) (fun v2 hv2 => ?_)
    refine wp_ite (fun c_2 => ?_) (fun c_2 => ?_)
    · skip
      have w_3 : (jm_w (l8 + (-1))) = (l8 + (-1)) := jm_wid (by omega) (by omega)
      refine wp_e (by exact (jm_w_in _)) (fun v6 e_4 hv6 => ?_)
      have b_5 : -2147483648 ≤ v6 ∧ v6 ≤ 2147483647 := hv6
      exact hk114 l1 l2 r4 v6  ⟨by omega, by omega⟩ ⟨by omega, by omega⟩ ⟨by omega, by omega⟩ ⟨by omega, by omega⟩  (by omega)
    · skip
      exact s_gX2_spanAt_137 fu hfu M iM    l1 l2 r4 l8  ⟨by omega, by omega⟩ ⟨by omega, by omega⟩ ⟨by omega, by omega⟩ ⟨by omega, by omega⟩  
set_option maxHeartbeats 4000000 in
set_option maxRecDepth 100000 in
theorem s_fX2_spanAt_114 (fu : Nat) (hfu : 4000 ≤ fu) (M : jm_M) (iM : bI bx1 M) : ∀ (n : Nat) (l1 l2 r4 l8 : Int) (hl1 : 0 ≤ l1 ∧ l1 ≤ 5) (hl2 : 0 ≤ l2 ∧ l2 ≤ 2000) (hr4 : 0 ≤ r4 ∧ r4 ≤ 5) (hl8 : (-1) ≤ l8 ∧ l8 ≤ 1999), l8 - (-2) < (n : Int) → wp (fX2_spanAt_114 fu  n M l1 l2 r4 l8) (fun r M1 => M1 = M ∧ (jm_in r)) := by
  intro n
  induction n with
  | zero => intro l1 l2 r4 l8 hl1 hl2 hr4 hl8 hm; exfalso; omega
  | succ n ih =>
    intro l1 l2 r4 l8 hl1 hl2 hr4 hl8 hm
    exact s_gX2_spanAt_114 fu hfu M iM (fX2_spanAt_114 fu  n) (n : Int) ih l1 l2 r4 l8 hl1 hl2 hr4 hl8 (by omega)
set_option maxHeartbeats 4000000 in
set_option maxRecDepth 100000 in
theorem s_gX2_spanAt_76 (fu : Nat) (hfu : 4000 ≤ fu) (M : jm_M) (iM : bI bx1 M) : ∀ (l1 l2 l3 r4 l6 : Int) (hl1 : 0 ≤ l1 ∧ l1 ≤ 5) (hl2 : 0 ≤ l2 ∧ l2 ≤ 2000) (hl3 : 0 ≤ l3 ∧ l3 ≤ 1) (hr4 : 0 ≤ r4 ∧ r4 ≤ 5) (hl6 : 1 ≤ l6 ∧ l6 ≤ 2001), wp (gX2_spanAt_76 fu  M l1 l2 l3 r4 l6) (fun r M1 => M1 = M ∧ (jm_in r)) := by
  intro l1 l2 l3 r4 l6 hl1 hl2 hl3 hr4 hl6
  unfold gX2_spanAt_76
  refine wp_bp (s_fX6_timeAt M iM r4 l6 ⟨by omega, by omega⟩ ⟨by omega, by omega⟩ ) (fun v1 hv1 => ?_)
  have b_2 : -2147483648 ≤ v1 ∧ v1 ≤ 2147483647 := hv1
  refine wp_ite (fun c_1 => ?_) (fun c_1 => ?_)
  · skip
    exact wp_ret ⟨rfl, (jm_inL (by decide) (by decide))⟩
  · skip
    refine wp_ite (fun c_3 => ?_) (fun c_3 => ?_)
    · skip
      have w_4 : (jm_w (l6 - l2)) = (l6 - l2) := jm_wid (by omega) (by omega)
      have w_5 : (jm_w (1000 * (jm_w (l6 - l2)))) = (1000 * (jm_w (l6 - l2))) := jm_wid (by omega) (by omega)
      have w_6 : -2147483648 ≤ (jm_w (v1 - (jm_w (1000 * (jm_w (l6 - l2)))))) ∧ (jm_w (v1 - (jm_w (1000 * (jm_w (l6 - l2)))))) ≤ 2147483647 := jm_w_in _
      exact wp_ret ⟨rfl, (jm_w_in _)⟩
    · skip
      have w_7 : (jm_w (l2 - 1)) = (l2 - 1) := jm_wid (by omega) (by omega)
      refine wp_e (by exact (jm_w_in _)) (fun v6 e_8 hv6 => ?_)
      have b_9 : -2147483648 ≤ v6 ∧ v6 ≤ 2147483647 := hv6
      exact s_fX2_spanAt_114 fu hfu M iM    fu l1 l2 r4 v6  ⟨by omega, by omega⟩ ⟨by omega, by omega⟩ ⟨by omega, by omega⟩ ⟨by omega, by omega⟩   (by omega)
set_option maxHeartbeats 4000000 in
set_option maxRecDepth 100000 in
theorem s_gX2_spanAt_51 (fu : Nat) (hfu : 4000 ≤ fu) (M : jm_M) (iM : bI bx1 M) (k51 : jm_M → Int → Int → Int → Int → Int → jm_R) (N51 : Int) (hk51 : ∀ (l1 l2 l3 r4 l6 : Int) (hl1 : 0 ≤ l1 ∧ l1 ≤ 5) (hl2 : 0 ≤ l2 ∧ l2 ≤ 2000) (hl3 : 0 ≤ l3 ∧ l3 ≤ 1) (hr4 : 0 ≤ r4 ∧ r4 ≤ 5) (hl6 : 1 ≤ l6 ∧ l6 ≤ 2001), 2002 - l6 < N51 → wp (k51 M l1 l2 l3 r4 l6) (fun r M1 => M1 = M ∧ (jm_in r))) : ∀ (l1 l2 l3 r4 l6 : Int) (hl1 : 0 ≤ l1 ∧ l1 ≤ 5) (hl2 : 0 ≤ l2 ∧ l2 ≤ 2000) (hl3 : 0 ≤ l3 ∧ l3 ≤ 1) (hr4 : 0 ≤ r4 ∧ r4 ≤ 5) (hl6 : 1 ≤ l6 ∧ l6 ≤ 2001), 2002 - l6 < N51 + 1 → wp (gX2_spanAt_51 fu k51 M l1 l2 l3 r4 l6) (fun r M1 => M1 = M ∧ (jm_in r)) := by
  intro l1 l2 l3 r4 l6 hl1 hl2 hl3 hr4 hl6 m51
  unfold gX2_spanAt_51
  refine wp_ite (fun c_1 => ?_) (fun c_1 => ?_)
  · skip
    exact s_gX2_spanAt_76 fu hfu M iM    l1 l2 l3 r4 l6  ⟨by omega, by omega⟩ ⟨by omega, by omega⟩ ⟨by omega, by omega⟩ ⟨by omega, by omega⟩ ⟨by omega, by omega⟩  
  · skip
    refine wp_bp (s_fX9_tells M iM l6 ⟨by omega, by omega⟩ ) (fun v2 hv2 => ?_)
    refine wp_ite (fun c_2 => ?_) (fun c_2 => ?_)
    · skip
      have w_3 : (jm_w (l6 + 1)) = (l6 + 1) := jm_wid (by omega) (by omega)
      refine wp_e (by exact (jm_w_in _)) (fun v6 e_4 hv6 => ?_)
      have b_5 : -2147483648 ≤ v6 ∧ v6 ≤ 2147483647 := hv6
      exact hk51 l1 l2 l3 r4 v6  ⟨by omega, by omega⟩ ⟨by omega, by omega⟩ ⟨by omega, by omega⟩ ⟨by omega, by omega⟩ ⟨by omega, by omega⟩  (by omega)
    · skip
      exact s_gX2_spanAt_76 fu hfu M iM    l1 l2 l3 r4 l6  ⟨by omega, by omega⟩ ⟨by omega, by omega⟩ ⟨by omega, by omega⟩ ⟨by omega, by omega⟩ ⟨by omega, by omega⟩  
set_option maxHeartbeats 4000000 in
set_option maxRecDepth 100000 in
theorem s_fX2_spanAt_51 (fu : Nat) (hfu : 4000 ≤ fu) (M : jm_M) (iM : bI bx1 M) : ∀ (n : Nat) (l1 l2 l3 r4 l6 : Int) (hl1 : 0 ≤ l1 ∧ l1 ≤ 5) (hl2 : 0 ≤ l2 ∧ l2 ≤ 2000) (hl3 : 0 ≤ l3 ∧ l3 ≤ 1) (hr4 : 0 ≤ r4 ∧ r4 ≤ 5) (hl6 : 1 ≤ l6 ∧ l6 ≤ 2001), 2002 - l6 < (n : Int) → wp (fX2_spanAt_51 fu  n M l1 l2 l3 r4 l6) (fun r M1 => M1 = M ∧ (jm_in r)) := by
  intro n
  induction n with
  | zero => intro l1 l2 l3 r4 l6 hl1 hl2 hl3 hr4 hl6 hm; exfalso; omega
  | succ n ih =>
    intro l1 l2 l3 r4 l6 hl1 hl2 hl3 hr4 hl6 hm
    exact s_gX2_spanAt_51 fu hfu M iM (fX2_spanAt_51 fu  n) (n : Int) ih l1 l2 l3 r4 l6 hl1 hl2 hl3 hr4 hl6 (by omega)
set_option maxHeartbeats 4000000 in
set_option maxRecDepth 100000 in
theorem s_fX2_spanAt (fu : Nat) (hfu : 4000 ≤ fu) (M : jm_M) (iM : bI bx1 M) (l1 l2 l3 : Int) (hl1 : 0 ≤ l1 ∧ l1 ≤ 5) (hl2 : 0 ≤ l2 ∧ l2 ≤ 2000) (hl3 : 0 ≤ l3 ∧ l3 ≤ 1) : wp (fX2_spanAt fu M l1 l2 l3) (fun r M1 => M1 = M ∧ (jm_in r)) := by
  unfold fX2_spanAt
  refine wp_bp (s_fX2_has M iM l1 (jm_inL (by omega) (by omega)) ) (fun v1 hv1 => ?_)
  have b_1 : 0 ≤ (M 2 0 5) ∧ (M 2 0 5) ≤ 6 := iM 2 0 5
  refine wp_ite (fun c_2 => ?_) (fun c_2 => ?_)
  · skip
    exact wp_ret ⟨rfl, (jm_inL (by decide) (by decide))⟩
  · skip
    refine wp_T ⟨by omega, by omega⟩ ?_
    refine wp_bp (s_fX6_timeAt M iM l1 l2 ⟨by omega, by omega⟩ ⟨by omega, by omega⟩ ) (fun v6 hv6 => ?_)
    have b_4 : -2147483648 ≤ v6 ∧ v6 ≤ 2147483647 := hv6
    refine wp_ite (fun c_3 => ?_) (fun c_3 => ?_)
    · skip
      exact wp_ret ⟨rfl, hv6⟩
    · skip
      refine wp_bp (s_fX9_tells M iM l2 ⟨by omega, by omega⟩ ) (fun v10 hv10 => ?_)
      refine wp_ite (fun c_5 => ?_) (fun c_5 => ?_)
      · skip
        have w_6 : (jm_w (l2 + 1)) = (l2 + 1) := jm_wid (by omega) (by omega)
        refine wp_e (by exact (jm_w_in _)) (fun v14 e_7 hv14 => ?_)
        have b_8 : -2147483648 ≤ v14 ∧ v14 ≤ 2147483647 := hv14
        exact s_fX2_spanAt_51 fu hfu M iM    fu l1 l2 l3 l1 v14  ⟨by omega, by omega⟩ ⟨by omega, by omega⟩ ⟨by omega, by omega⟩ ⟨by omega, by omega⟩ ⟨by omega, by omega⟩   (by omega)
      · skip
        exact wp_ret ⟨rfl, hv6⟩
set_option maxHeartbeats 4000000 in
set_option maxRecDepth 100000 in
theorem s_fX11_ahead (fu : Nat) (hfu : 4000 ≤ fu) (M : jm_M) (iM : bI bx1 M) (l1 l2 l3 l4 : Int) (hl1 : jm_in l1) (hl2 : jm_in l2) (hl3 : jm_in l3) (hl4 : jm_in l4) : wp (fX11_ahead fu M l1 l2 l3 l4) (fun r M1 => bI bx1 M1 ∧ Kp TA M M1 ∧ ((-1) ≤ r ∧ r ≤ 1)) := by
  have kM : Kp TA M M := Kp.rf
  unfold fX11_ahead
  refine wp_bp (s_fX2_has M iM l1 hl1 ) (fun v1 hv1 => ?_)
  have b_1 : -2147483648 ≤ l1 ∧ l1 ≤ 2147483647 := hl1
  have b_2 : 0 ≤ (M 2 0 5) ∧ (M 2 0 5) ≤ 6 := iM 2 0 5
  refine wp_ite (fun c_3 => ?_) (fun c_3 => ?_)
  · skip
    exact wp_ret ⟨iM, kM, by omega⟩
  · skip
    refine wp_bp (s_fX2_has M iM l2 hl2 ) (fun v5 hv5 => ?_)
    have b_4 : -2147483648 ≤ l2 ∧ l2 ≤ 2147483647 := hl2
    refine wp_ite (fun c_5 => ?_) (fun c_5 => ?_)
    · skip
      exact wp_ret ⟨iM, kM, by omega⟩
    · skip
      refine wp_ite (fun c_6 => ?_) (fun c_6 => ?_)
      · skip
        exact wp_ret ⟨iM, kM, by omega⟩
      · skip
        refine wp_bp (s_fX9_hasLine M iM l3 l4 hl3 hl4 ) (fun v10 hv10 => ?_)
        have b_7 : -2147483648 ≤ l3 ∧ l3 ≤ 2147483647 := hl3
        have b_8 : 1 ≤ (M 1 0 1) ∧ (M 1 0 1) ≤ 12 := iM 1 0 1
        have b_9 : -2147483648 ≤ l4 ∧ l4 ≤ 2147483647 := hl4
        have b_10 : 2 ≤ (M 1 0 0) ∧ (M 1 0 0) ≤ 5 := iM 1 0 0
        refine wp_ite (fun c_11 => ?_) (fun c_11 => ?_)
        · skip
          exact wp_ret ⟨iM, kM, by omega⟩
        · skip
          refine wp_bk (s_fX2_reckon fu hfu M iM   ) (fun v14 M15 iM15 jM15 hv14 => ?_)
          have kM15 := kM.tr jM15 (fun _ _ _ h => h)
          refine wp_bp (s_fX9_lineOf M15 iM15 l3 l4 ⟨by omega, by omega⟩ ⟨by omega, by omega⟩ ) (fun v16 hv16 => ?_)
          refine wp_bp (s_fX2_spanAt fu hfu M15 iM15 l1 v16 0 ⟨by omega, by omega⟩ ⟨by omega, by omega⟩ ⟨by omega, by omega⟩ ) (fun v19 hv19 => ?_)
          refine wp_bp (s_fX2_spanAt fu hfu M15 iM15 l2 v16 1 ⟨by omega, by omega⟩ ⟨by omega, by omega⟩ ⟨by omega, by omega⟩ ) (fun v22 hv22 => ?_)
          have b_13 : -2147483648 ≤ v19 ∧ v19 ≤ 2147483647 := hv19
          refine wp_ite (fun c_12 => ?_) (fun c_12 => ?_)
          · skip
            exact wp_ret ⟨iM15, kM15, by omega⟩
          · skip
            have b_15 : -2147483648 ≤ v22 ∧ v22 ≤ 2147483647 := hv22
            refine wp_ite (fun c_14 => ?_) (fun c_14 => ?_)
            · skip
              exact wp_ret ⟨iM15, kM15, by omega⟩
            · skip
              refine wp_ite (fun c_16 => ?_) (fun c_16 => ?_)
              · skip
                exact wp_ret ⟨iM15, kM15, by omega⟩
              · skip
                exact wp_ret ⟨iM15, kM15, by omega⟩
set_option maxHeartbeats 4000000 in
set_option maxRecDepth 100000 in
theorem s_fX11_at (fu : Nat) (hfu : 4000 ≤ fu) (M : jm_M) (iM : bI bx1 M) (l1 l2 l3 : Int) (hl1 : jm_in l1) (hl2 : jm_in l2) (hl3 : jm_in l3) : wp (fX11_at fu M l1 l2 l3) (fun r M1 => bI bx1 M1 ∧ Kp TA M M1 ∧ (jm_in r)) := by
  have kM : Kp TA M M := Kp.rf
  unfold fX11_at
  refine wp_bp (s_fX2_has M iM l1 hl1 ) (fun v1 hv1 => ?_)
  have b_1 : -2147483648 ≤ l1 ∧ l1 ≤ 2147483647 := hl1
  have b_2 : 0 ≤ (M 2 0 5) ∧ (M 2 0 5) ≤ 6 := iM 2 0 5
  refine wp_ite (fun c_3 => ?_) (fun c_3 => ?_)
  · skip
    exact wp_ret ⟨iM, kM, (jm_inL (by decide) (by decide))⟩
  · skip
    refine wp_bp (s_fX9_hasLine M iM l2 l3 hl2 hl3 ) (fun v5 hv5 => ?_)
    have b_4 : -2147483648 ≤ l2 ∧ l2 ≤ 2147483647 := hl2
    have b_5 : 1 ≤ (M 1 0 1) ∧ (M 1 0 1) ≤ 12 := iM 1 0 1
    have b_6 : -2147483648 ≤ l3 ∧ l3 ≤ 2147483647 := hl3
    have b_7 : 2 ≤ (M 1 0 0) ∧ (M 1 0 0) ≤ 5 := iM 1 0 0
    refine wp_ite (fun c_8 => ?_) (fun c_8 => ?_)
    · skip
      exact wp_ret ⟨iM, kM, (jm_inL (by decide) (by decide))⟩
    · skip
      refine wp_bk (s_fX2_reckon fu hfu M iM   ) (fun v9 M10 iM10 jM10 hv9 => ?_)
      have kM10 := kM.tr jM10 (fun _ _ _ h => h)
      refine wp_T ⟨by omega, by omega⟩ ?_
      refine wp_bp (s_fX9_lineOf M10 iM10 l2 l3 ⟨by omega, by omega⟩ ⟨by omega, by omega⟩ ) (fun v12 hv12 => ?_)
      refine wp_bp (s_fX6_timeAt M10 iM10 l1 v12 ⟨by omega, by omega⟩ ⟨by omega, by omega⟩ ) (fun v15 hv15 => ?_)
      have b_9 : -2147483648 ≤ v15 ∧ v15 ≤ 2147483647 := hv15
      exact wp_ret ⟨iM10, kM10, hv15⟩
set_option maxHeartbeats 4000000 in
set_option maxRecDepth 100000 in
theorem s_fX11_isDay (M : jm_M) (iM : bI bx1 M) (l0 : Int) (hl0 : jm_in l0) : wp (fX11_isDay M l0) (fun r M1 => M1 = M ∧ ((r = 1 ∧ 0 ≤ l0 ∧ l0 ≤ 99) ∨ (r = 0 ∧ ¬ (0 ≤ l0 ∧ l0 ≤ 99)))) := by
  unfold fX11_isDay
  refine wp_bp (s_fX11_isWithin M iM l0 0 99 hl0 (jm_inL (by decide) (by decide)) (jm_inL (by decide) (by decide)) ) (fun v1 hv1 => ?_)
  have b_1 : -2147483648 ≤ l0 ∧ l0 ≤ 2147483647 := hl0
  refine wp_T (by omega) ?_
  exact wp_ret ⟨rfl, by omega⟩
set_option maxHeartbeats 4000000 in
set_option maxRecDepth 100000 in
theorem s_gX11_best_85 (fu : Nat) (hfu : 4000 ≤ fu) (M0 : jm_M) : ∀ (l2 : Int) (M : jm_M) (iM : bI bx1 M) (kM : Kp TPM M0 M) (hl2 : 0 ≤ l2 ∧ l2 ≤ 2), wp (gX11_best_85 fu  M l2) (fun r M1 => bI bx1 M1 ∧ Kp TPM M0 M1 ∧ (jm_in r)) := by
  intro l2 M iM kM hl2
  unfold gX11_best_85
  have w_1 : (jm_w (2 * l2)) = (2 * l2) := jm_wid (by omega) (by omega)
  refine wp_sk iM (show 0 ≤ (jm_w (2 * l2)) ∧ (jm_w (2 * l2)) ≤ 6 by omega) kM (by unfold TPM; omega) (fun M1 u_2 iM1 kM1 => ?_)
  have q_3 : (M1 5 0 5) = (M 5 0 5) := by rw [u_2]; exact jm_une_f (by decide)
  have b_5 : (-2147483648) ≤ (M 5 0 5) ∧ (M 5 0 5) ≤ 2147483647 := iM 5 0 5
  refine wp_ite (fun c_4 => ?_) (fun c_4 => ?_)
  · skip
    exact wp_ret ⟨iM1, kM1, (jm_inL (by decide) (by decide))⟩
  · skip
    exact wp_ret ⟨iM1, kM1, (bx1_in (iM1 5 0 5))⟩
set_option maxHeartbeats 4000000 in
set_option maxRecDepth 100000 in
theorem s_gX11_best_47 (fu : Nat) (hfu : 4000 ≤ fu) (M0 : jm_M) (k47 : jm_M → Int → Int → jm_R) (N47 : Int) (hk47 : ∀ (l2 l4 : Int) (M : jm_M) (iM : bI bx1 M) (kM : Kp TPM M0 M) (hl2 : 0 ≤ l2 ∧ l2 ≤ 2) (hl4 : 0 ≤ l4 ∧ l4 ≤ 4), 5 - l4 < N47 → wp (k47 M l2 l4) (fun r M1 => bI bx1 M1 ∧ Kp TPM M0 M1 ∧ (jm_in r))) : ∀ (l2 l4 : Int) (M : jm_M) (iM : bI bx1 M) (kM : Kp TPM M0 M) (hl2 : 0 ≤ l2 ∧ l2 ≤ 2) (hl4 : 0 ≤ l4 ∧ l4 ≤ 4), 5 - l4 < N47 + 1 → wp (gX11_best_47 fu k47 M l2 l4) (fun r M1 => bI bx1 M1 ∧ Kp TPM M0 M1 ∧ (jm_in r)) := by
  intro l2 l4 M iM kM hl2 hl4 m47
  unfold gX11_best_47
  have w_2 : (jm_w (2 * l2)) = (2 * l2) := jm_wid (by omega) (by omega)
  refine wp_ite (fun c_1 => ?_) (fun c_1 => ?_)
  · skip
    exact s_gX11_best_85 fu hfu M0    l2 M iM kM ⟨by omega, by omega⟩  
  · skip
    refine wp_F (by omega) ?_
    refine wp_T ⟨by omega, by omega⟩ ?_
    refine wp_T ⟨by omega, by omega⟩ ?_
    refine wp_sk iM (iM 41 0 l4) kM (by unfold TPM; omega) (fun M6 u_4 iM6 kM6 => ?_)
    have w_5 : (jm_w (l4 + 1)) = (l4 + 1) := jm_wid (by omega) (by omega)
    refine wp_e (by exact (jm_w_in _)) (fun v7 e_6 hv7 => ?_)
    have b_7 : -2147483648 ≤ v7 ∧ v7 ≤ 2147483647 := hv7
    exact hk47 l2 v7 M6 iM6 kM6 ⟨by omega, by omega⟩ ⟨by omega, by omega⟩  (by omega)
set_option maxHeartbeats 4000000 in
set_option maxRecDepth 100000 in
theorem s_fX11_best_47 (fu : Nat) (hfu : 4000 ≤ fu) (M0 : jm_M) : ∀ (n : Nat) (l2 l4 : Int) (M : jm_M) (iM : bI bx1 M) (kM : Kp TPM M0 M) (hl2 : 0 ≤ l2 ∧ l2 ≤ 2) (hl4 : 0 ≤ l4 ∧ l4 ≤ 4), 5 - l4 < (n : Int) → wp (fX11_best_47 fu  n M l2 l4) (fun r M1 => bI bx1 M1 ∧ Kp TPM M0 M1 ∧ (jm_in r)) := by
  intro n
  induction n with
  | zero => intro l2 l4 M iM kM hl2 hl4 hm; exfalso; omega
  | succ n ih =>
    intro l2 l4 M iM kM hl2 hl4 hm
    exact s_gX11_best_47 fu hfu M0 (fX11_best_47 fu  n) (n : Int) ih l2 l4 M iM kM hl2 hl4 (by omega)
set_option maxHeartbeats 4000000 in
set_option maxRecDepth 100000 in
theorem s_fX11_best (fu : Nat) (hfu : 4000 ≤ fu) (M : jm_M) (iM : bI bx1 M) (l1 l2 l3 : Int) (hl1 : jm_in l1) (hl2 : jm_in l2) (hl3 : jm_in l3) : wp (fX11_best fu M l1 l2 l3) (fun r M1 => bI bx1 M1 ∧ Kp TPM M M1 ∧ (jm_in r)) := by
  have kM : Kp TPM M M := Kp.rf
  unfold fX11_best
  refine wp_bp (s_fX2_has M iM l1 hl1 ) (fun v1 hv1 => ?_)
  have b_1 : -2147483648 ≤ l1 ∧ l1 ≤ 2147483647 := hl1
  have b_2 : 0 ≤ (M 2 0 5) ∧ (M 2 0 5) ≤ 6 := iM 2 0 5
  refine wp_ite (fun c_3 => ?_) (fun c_3 => ?_)
  · skip
    exact wp_ret ⟨iM, kM, (jm_inL (by decide) (by decide))⟩
  · skip
    refine wp_bp (s_fX11_isWithin M iM l2 0 2 hl2 (jm_inL (by decide) (by decide)) (jm_inL (by decide) (by decide)) ) (fun v5 hv5 => ?_)
    have b_4 : -2147483648 ≤ l2 ∧ l2 ≤ 2147483647 := hl2
    refine wp_ite (fun c_5 => ?_) (fun c_5 => ?_)
    · skip
      exact wp_ret ⟨iM, kM, (jm_inL (by decide) (by decide))⟩
    · skip
      refine wp_bp (s_fX11_isDay M iM l3 hl3 ) (fun v9 hv9 => ?_)
      have b_6 : -2147483648 ≤ l3 ∧ l3 ≤ 2147483647 := hl3
      refine wp_ite (fun c_7 => ?_) (fun c_7 => ?_)
      · skip
        exact wp_ret ⟨iM, kM, (jm_inL (by decide) (by decide))⟩
      · skip
        refine wp_bk (s_fX10_search fu hfu M iM l1 l2 l3 ⟨by omega, by omega⟩ ⟨by omega, by omega⟩ ⟨by omega, by omega⟩ ) (fun v13 M14 iM14 jM14 hv13 => ?_)
        have kM14 := kM.tr jM14 tt_TPM_TAM
        refine wp_ite (fun c_8 => ?_) (fun c_8 => ?_)
        · skip
          exact wp_ret ⟨iM14, kM14, (jm_inL (by decide) (by decide))⟩
        · skip
          exact s_fX11_best_47 fu hfu M    fu l2 0 M14 iM14 kM14 ⟨by omega, by omega⟩ ⟨by omega, by omega⟩   (by omega)
set_option maxHeartbeats 4000000 in
set_option maxRecDepth 100000 in
theorem s_gX2_optionCount_4 (fu : Nat) (hfu : 4000 ≤ fu) (M : jm_M) (iM : bI bx1 M) (k4 : jm_M → Int → Int → jm_R) (N4 : Int) (hk4 : ∀ (l1 l2 : Int) (hl1 : jm_in l1) (hl2 : 0 ≤ l2 ∧ l2 ≤ 6), 7 - l2 < N4 → wp (k4 M l1 l2) (fun r M1 => M1 = M ∧ (jm_in r))) : ∀ (l1 l2 : Int) (hl1 : jm_in l1) (hl2 : 0 ≤ l2 ∧ l2 ≤ 6), 7 - l2 < N4 + 1 → wp (gX2_optionCount_4 fu k4 M l1 l2) (fun r M1 => M1 = M ∧ (jm_in r)) := by
  intro l1 l2 hl1 hl2 m4
  unfold gX2_optionCount_4
  have b_2 : 0 ≤ (M 2 0 5) ∧ (M 2 0 5) ≤ 6 := iM 2 0 5
  refine wp_ite (fun c_1 => ?_) (fun c_1 => ?_)
  · skip
    have b_3 : -2147483648 ≤ l1 ∧ l1 ≤ 2147483647 := hl1
    exact wp_ret ⟨rfl, hl1⟩
  · skip
    refine wp_F (by omega) ?_
    refine wp_T ⟨by omega, by omega⟩ ?_
    have b_5 : -2147483648 ≤ l1 ∧ l1 ≤ 2147483647 := hl1
    have b_6 : 0 ≤ (M 10 (l2 + 18) 3) ∧ (M 10 (l2 + 18) 3) ≤ 4 := jm_b10 (iM 10 (l2 + 18) 3) (Int.le_of_eq (lim1_18 (by omega) (by omega)))
    have w_7 : -2147483648 ≤ (jm_w (l1 + (M 10 (l2 + 18) 3))) ∧ (jm_w (l1 + (M 10 (l2 + 18) 3))) ≤ 2147483647 := jm_w_in _
    refine wp_e (by exact (jm_w_in _)) (fun v6 e_8 hv6 => ?_)
    have w_9 : (jm_w (l2 + 1)) = (l2 + 1) := jm_wid (by omega) (by omega)
    refine wp_e (by exact (jm_w_in _)) (fun v8 e_10 hv8 => ?_)
    have b_11 : -2147483648 ≤ v8 ∧ v8 ≤ 2147483647 := hv8
    have b_12 : -2147483648 ≤ v6 ∧ v6 ≤ 2147483647 := hv6
    exact hk4 v6 v8  hv6 ⟨by omega, by omega⟩  (by omega)
set_option maxHeartbeats 4000000 in
set_option maxRecDepth 100000 in
theorem s_fX2_optionCount_4 (fu : Nat) (hfu : 4000 ≤ fu) (M : jm_M) (iM : bI bx1 M) : ∀ (n : Nat) (l1 l2 : Int) (hl1 : jm_in l1) (hl2 : 0 ≤ l2 ∧ l2 ≤ 6), 7 - l2 < (n : Int) → wp (fX2_optionCount_4 fu  n M l1 l2) (fun r M1 => M1 = M ∧ (jm_in r)) := by
  intro n
  induction n with
  | zero => intro l1 l2 hl1 hl2 hm; exfalso; omega
  | succ n ih =>
    intro l1 l2 hl1 hl2 hm
    exact s_gX2_optionCount_4 fu hfu M iM (fX2_optionCount_4 fu  n) (n : Int) ih l1 l2 hl1 hl2 (by omega)
set_option maxHeartbeats 4000000 in
set_option maxRecDepth 100000 in
theorem s_fX2_optionCount (fu : Nat) (hfu : 4000 ≤ fu) (M : jm_M) (iM : bI bx1 M) : wp (fX2_optionCount fu M ) (fun r M1 => M1 = M ∧ (jm_in r)) := by
  unfold fX2_optionCount
  exact s_fX2_optionCount_4 fu hfu M iM    fu 0 0  (jm_inL (by decide) (by decide)) ⟨by omega, by omega⟩   (by omega)
set_option maxHeartbeats 4000000 in
set_option maxRecDepth 100000 in
theorem s_fX11_count (fu : Nat) (hfu : 4000 ≤ fu) (M : jm_M) (iM : bI bx1 M) (l1 : Int) (hl1 : jm_in l1) : wp (fX11_count fu M l1) (fun r M1 => M1 = M ∧ (jm_in r)) := by
  unfold fX11_count
  have b_2 : -2147483648 ≤ l1 ∧ l1 ≤ 2147483647 := hl1
  refine wp_ite (fun c_1 => ?_) (fun c_1 => ?_)
  · skip
    have b_3 : 2 ≤ (M 1 0 0) ∧ (M 1 0 0) ≤ 5 := iM 1 0 0
    exact wp_ret ⟨rfl, (jm_inL (by omega) (by omega))⟩
  · skip
    refine wp_ite (fun c_4 => ?_) (fun c_4 => ?_)
    · skip
      have b_5 : 1 ≤ (M 1 0 1) ∧ (M 1 0 1) ≤ 12 := iM 1 0 1
      exact wp_ret ⟨rfl, (jm_inL (by omega) (by omega))⟩
    · skip
      refine wp_ite (fun c_6 => ?_) (fun c_6 => ?_)
      · skip
        have b_7 : 0 ≤ (M 2 0 5) ∧ (M 2 0 5) ≤ 6 := iM 2 0 5
        exact wp_ret ⟨rfl, (jm_inL (by omega) (by omega))⟩
      · skip
        refine wp_ite (fun c_8 => ?_) (fun c_8 => ?_)
        · skip
          have b_9 : 0 ≤ (M 10 30 3) ∧ (M 10 30 3) ≤ 30 := jm_b10 (iM 10 30 3) (by decide)
          exact wp_ret ⟨rfl, (jm_inL (by omega) (by omega))⟩
        · skip
          refine wp_ite (fun c_10 => ?_) (fun c_10 => ?_)
          · skip
            have b_11 : 0 ≤ (M 10 31 3) ∧ (M 10 31 3) ≤ 20 := jm_b10 (iM 10 31 3) (by decide)
            exact wp_ret ⟨rfl, (jm_inL (by omega) (by omega))⟩
          · skip
            refine wp_ite (fun c_12 => ?_) (fun c_12 => ?_)
            · skip
              have b_13 : 0 ≤ (M 3 0 3) ∧ (M 3 0 3) ≤ 10 := iM 3 0 3
              exact wp_ret ⟨rfl, (jm_inL (by omega) (by omega))⟩
            · skip
              refine wp_ite (fun c_14 => ?_) (fun c_14 => ?_)
              · skip
                have b_15 : 0 ≤ (M 10 32 3) ∧ (M 10 32 3) ≤ 20 := jm_b10 (iM 10 32 3) (by decide)
                exact wp_ret ⟨rfl, (jm_inL (by omega) (by omega))⟩
              · skip
                refine wp_ite (fun c_16 => ?_) (fun c_16 => ?_)
                · skip
                  have b_17 : 0 ≤ (M 0 0 9) ∧ (M 0 0 9) ≤ 6 := iM 0 0 9
                  exact wp_ret ⟨rfl, (jm_inL (by omega) (by omega))⟩
                · skip
                  refine wp_ite (fun c_18 => ?_) (fun c_18 => ?_)
                  · skip
                    have b_19 : 0 ≤ (M 0 0 7) ∧ (M 0 0 7) ≤ 100 := iM 0 0 7
                    exact wp_ret ⟨rfl, (jm_inL (by omega) (by omega))⟩
                  · skip
                    refine wp_ite (fun c_20 => ?_) (fun c_20 => ?_)
                    · skip
                      refine wp_bp (s_fX2_optionCount fu hfu M iM   ) (fun v20 hv20 => ?_)
                      have b_21 : -2147483648 ≤ v20 ∧ v20 ≤ 2147483647 := hv20
                      exact wp_ret ⟨rfl, hv20⟩
                    · skip
                      exact wp_ret ⟨rfl, (jm_inL (by decide) (by decide))⟩
theorem s_fX7_removeAt_14 (fu : Nat) (M0 : jm_M) (Q : Int → jm_M → Prop) (r0 l2 : Int) (hr0 : 0 ≤ r0 ∧ r0 ≤ 32) (hl2 : 0 ≤ l2 ∧ l2 ≤ 30) (k2 : jm_M → Int → Int → jm_R) (hk : ∀ M : jm_M, bI bx1 M → Kp (TPT r0) M0 M → wp (k2 M r0 (l2 + 1)) Q) : ∀ (n : Nat) (M : jm_M) (l3 : Int), bI bx1 M → Kp (TPT r0) M0 M → 0 ≤ l3 → l3 ≤ wid1 r0 → wid1 r0 - l3 < (n : Int) → wp (fX7_removeAt_14 fu k2 n M r0 l2 l3) Q := by
  intro n
  induction n with
  | zero => intro M l3 _ _ _ _ hm; exfalso; omega
  | succ n ih =>
    intro M l3 iM kM h0 h1 hm
    show wp (gX7_removeAt_14 fu k2 (fX7_removeAt_14 fu k2 n) M r0 l2 l3) Q
    unfold gX7_removeAt_14
    have b1 : M 10 r0 1 = wid1 r0 := iM 10 r0 1
    have bw := wid1_any r0
    have w2 : jm_w (l2 + 1) = l2 + 1 := jm_wid (by omega) (by omega)
    have w3 : jm_w (l3 + 1) = l3 + 1 := jm_wid (by omega) (by omega)
    refine wp_ite (fun c => ?_) (fun c => ?_)
    · refine wp_e (jm_w_in _) (fun v e _ => ?_)
      rw [e, w2]
      exact hk M iM kM
    · refine wp_bp (s_fX7_cell M iM r0 _ l3 hr0 (jm_w_in _) (jm_inL (by omega) (by omega))) (fun v5 h5 => ?_)
      refine wp_bk (s_fX7_put M iM r0 l2 l3 v5 hr0 (jm_inL (by omega) (by omega)) (jm_inL (by omega) (by omega)) h5) (fun v8 M9 i9 j9 h9 => ?_)
      refine wp_e (jm_w_in _) (fun v e _ => ?_)
      rw [e, w3]
      exact ih M9 (l3 + 1) i9 (kM.tr j9 (fun _ _ _ h => h)) (by omega) (by omega) (by omega)
theorem s_fX7_removeAt_2 (fu : Nat) (hfu : 4000 ≤ fu) (M0 : jm_M) (r0 : Int) (hr0 : 0 ≤ r0 ∧ r0 ≤ 32) (h1 : 1 ≤ M0 10 r0 3) : ∀ (n : Nat) (M : jm_M) (l2 : Int), bI bx1 M → Kp (TPT r0) M0 M → 0 ≤ l2 → l2 < M0 10 r0 3 → M0 10 r0 3 - l2 < (n : Int) → wp (fX7_removeAt_2 fu n M r0 l2) (fun r M1 => bI bx1 M1 ∧ Kp (TPU r0) M0 M1 ∧ (0 ≤ r ∧ r ≤ 30 ∧ (M1 10 r0 3 = M0 10 r0 3 - 1 ∧ r = M1 10 r0 3))) := by
  intro n
  induction n with
  | zero => intro M l2 _ _ _ _ hm; exfalso; omega
  | succ n ih =>
    intro M l2 iM kM h0 h2 hm
    show wp (gX7_removeAt_2 fu (fX7_removeAt_2 fu n) M r0 l2) _
    unfold gX7_removeAt_2
    have b3 : 0 ≤ M 10 r0 3 ∧ M 10 r0 3 ≤ lim1 r0 := iM 10 r0 3
    have e3 : M 10 r0 3 = M0 10 r0 3 := kM 10 r0 3 (by unfold TPT; omega)
    have bl := lim1_any r0
    have bw := wid1_any r0
    have w1 : jm_w (M 10 r0 3 - 1) = M 10 r0 3 - 1 := jm_wid (by omega) (by omega)
    have tt : ∀ (f : Nat) (i k : Int), TPU r0 f i k → TPT r0 f i k := by intro f i k h; unfold TPU at h; exact h.1
    refine wp_ite (fun c => ?_) (fun c => ?_)
    · rw [w1]
      refine wp_sk iM (show 0 ≤ M 10 r0 3 - 1 ∧ M 10 r0 3 - 1 ≤ lim1 r0 by omega) (kM.weak tt) (by unfold TPU; omega) (fun M4 u4 i4 k4 => ?_)
      have q4 : M4 10 r0 3 = M 10 r0 3 - 1 := by rw [u4]; exact jm_ueq
      exact wp_ret ⟨i4, k4, by omega, by omega, by omega, rfl⟩
    · exact s_fX7_removeAt_14 fu M0 _ r0 l2 hr0 ⟨h0, by omega⟩ (fX7_removeAt_2 fu n) (fun M' i' k' => ih M' (l2 + 1) i' k' (by omega) (by omega) (by omega)) fu M 0 iM kM (by omega) (by omega) (by omega)
theorem s_fX7_removeAt (fu : Nat) (hfu : 4000 ≤ fu) (M : jm_M) (iM : bI bx1 M) (r0 l1 : Int) (hr0 : 0 ≤ r0 ∧ r0 ≤ 32) (hl1 : jm_in l1) (x0 : 0 ≤ l1) (x1 : l1 < (M 10 r0 3)) : wp (fX7_removeAt fu M r0 l1) (fun r M1 => bI bx1 M1 ∧ Kp (TPU r0) M M1 ∧ (0 ≤ r ∧ r ≤ 30 ∧ (M1 10 r0 3 = M 10 r0 3 - 1 ∧ r = M1 10 r0 3))) := by
  have b3 : 0 ≤ M 10 r0 3 ∧ M 10 r0 3 ≤ lim1 r0 := iM 10 r0 3
  have bl := lim1_any r0
  unfold fX7_removeAt
  exact s_fX7_removeAt_2 fu hfu M r0 hr0 (by omega) fu M l1 iM Kp.rf x0 x1 (by omega)
set_option maxHeartbeats 4000000 in
set_option maxRecDepth 100000 in
theorem s_fX11_drop (fu : Nat) (hfu : 4000 ≤ fu) (M : jm_M) (iM : bI bx1 M) (l1 l2 : Int) (hl1 : jm_in l1) (hl2 : jm_in l2) : wp (fX11_drop fu M l1 l2) (fun r M1 => bI bx1 M1 ∧ Kp (TM1 (l1 + 12)) M M1 ∧ ((-1) ≤ r ∧ r ≤ 30 ∧ (((0 ≤ l1 ∧ l1 < M 2 0 5 ∧ l1 < 6 ∧ 0 ≤ l2 ∧ l2 < M 10 (l1 + 12) 3) ∧ M1 10 (l1 + 12) 3 = M 10 (l1 + 12) 3 - 1 ∧ r = M1 10 (l1 + 12) 3) ∨ (¬ (0 ≤ l1 ∧ l1 < M 2 0 5 ∧ l1 < 6 ∧ 0 ≤ l2 ∧ l2 < M 10 (l1 + 12) 3) ∧ r = -1 ∧ M1 10 (l1 + 12) 3 = M 10 (l1 + 12) 3)))) := by
  have kM : Kp (TM1 (l1 + 12)) M M := Kp.rf
  unfold fX11_drop
  refine wp_bp (s_fX2_has M iM l1 hl1 ) (fun v1 hv1 => ?_)
  have b_1 : -2147483648 ≤ l1 ∧ l1 ≤ 2147483647 := hl1
  have b_2 : 0 ≤ (M 2 0 5) ∧ (M 2 0 5) ≤ 6 := iM 2 0 5
  refine wp_ite (fun c_3 => ?_) (fun c_3 => ?_)
  · skip
    have b_4 : 0 ≤ (M 10 (l1 + 12) 3) ∧ (M 10 (l1 + 12) 3) ≤ 30 := jm_b10 (iM 10 (l1 + 12) 3) (lim1_any _).2
    exact wp_ret ⟨iM, kM, by omega, by omega, by omega⟩
  · skip
    refine wp_T ⟨by omega, by omega⟩ ?_
    have b_5 : 0 ≤ (M 10 (l1 + 12) 3) ∧ (M 10 (l1 + 12) 3) ≤ 5 := jm_b10 (iM 10 (l1 + 12) 3) (Int.le_of_eq (lim1_12 (by omega) (by omega)))
    refine wp_bp (s_fX11_isIndex M iM l2 (M 10 (l1 + 12) 3) hl2 ⟨by omega, by omega⟩ ) (fun v7 hv7 => ?_)
    have b_6 : -2147483648 ≤ l2 ∧ l2 ≤ 2147483647 := hl2
    refine wp_ite (fun c_7 => ?_) (fun c_7 => ?_)
    · skip
      exact wp_ret ⟨iM, kM, by omega, by omega, by omega⟩
    · skip
      refine wp_sk iM (jm_inL (by decide) (by decide)) kM (by unfold TM1 RC1; omega) (fun M11 u_8 iM11 kM11 => ?_)
      refine wp_T ⟨by omega, by omega⟩ ?_
      have q_9 : (M11 10 (l1 + 12) 3) = (M 10 (l1 + 12) 3) := by rw [u_8]; exact jm_une_f (by decide)
      refine wp_bk (s_fX7_removeAt fu hfu M11 iM11 (l1 + 12) l2 ⟨by omega, by omega⟩ hl2 (by omega) (by omega)) (fun v13 M14 iM14 jM14 hv13 => ?_)
      have kM14 := kM11.tr jM14 tt_TM1_TPU
      have b_10 : 0 ≤ (M14 10 (l1 + 12) 3) ∧ (M14 10 (l1 + 12) 3) ≤ 5 := jm_b10 (iM14 10 (l1 + 12) 3) (Int.le_of_eq (lim1_12 (by omega) (by omega)))
      exact wp_ret ⟨iM14, kM14, by omega, by omega, by omega⟩
set_option maxHeartbeats 4000000 in
set_option maxRecDepth 100000 in
theorem s_fX11_end (M : jm_M) (iM : bI bx1 M) (l1 : Int) (hl1 : jm_in l1) : wp (fX11_end M l1) (fun r M1 => bI bx1 M1 ∧ Kp TZ1 M M1 ∧ (0 ≤ r ∧ r ≤ 1 ∧ (((0 ≤ l1 ∧ l1 ≤ M 0 0 7) ∧ r = 1 ∧ M1 0 0 7 = l1) ∨ (¬ (0 ≤ l1 ∧ l1 ≤ M 0 0 7) ∧ r = 0 ∧ M1 0 0 7 = M 0 0 7)))) := by
  have kM : Kp TZ1 M M := Kp.rf
  unfold fX11_end
  have b_2 : -2147483648 ≤ l1 ∧ l1 ≤ 2147483647 := hl1
  refine wp_ite (fun c_1 => ?_) (fun c_1 => ?_)
  · skip
    have b_3 : 0 ≤ (M 0 0 7) ∧ (M 0 0 7) ≤ 100 := iM 0 0 7
    exact wp_ret ⟨iM, kM, by omega, by omega, by omega⟩
  · skip
    have b_5 : 0 ≤ (M 0 0 7) ∧ (M 0 0 7) ≤ 100 := iM 0 0 7
    refine wp_ite (fun c_4 => ?_) (fun c_4 => ?_)
    · skip
      refine wp_sk iM (show 0 ≤ l1 ∧ l1 ≤ 100 by omega) kM (by unfold TZ1 RC1; omega) (fun M4 u_6 iM4 kM4 => ?_)
      have q_7 : (M4 0 0 7) = l1 := by rw [u_6]; exact jm_ueq
      exact wp_ret ⟨iM4, kM4, by omega, by omega, by omega⟩
    · skip
      exact wp_ret ⟨iM, kM, by omega, by omega, by omega⟩
set_option maxHeartbeats 4000000 in
set_option maxRecDepth 100000 in
theorem s_gX11_finding_55 (fu : Nat) (hfu : 4000 ≤ fu) (M0 : jm_M) : ∀ (l1 l2 l3 l4 s0 : Int) (M : jm_M) (iM : bI bx1 M) (kM : Kp (TM1 32) M0 M) (hl1 : 0 ≤ l1 ∧ l1 ≤ 99) (hl2 : 0 ≤ l2 ∧ l2 ≤ 5) (hl3 : 0 ≤ l3 ∧ l3 ≤ 1) (hl4 : jm_in l4) (hs0 : 0 ≤ s0 ∧ s0 ≤ 1) (y0 : (0 ≤ l1 ∧ l1 ≤ 99 ∧ 0 ≤ l2 ∧ l2 < M 2 0 5 ∧ l2 < 6 ∧ 0 ≤ l3 ∧ l3 ≤ 1 ∧ ((s0 = 1 ∧ ((l3 = 0 ∧ 0 ≤ l4 ∧ l4 ≤ 999) ∨ (l3 ≠ 0 ∧ -60000 ≤ l4 ∧ l4 ≤ 60000))) ∨ (s0 = 0 ∧ ¬ ((l3 = 0 ∧ 0 ≤ l4 ∧ l4 ≤ 999) ∨ (l3 ≠ 0 ∧ -60000 ≤ l4 ∧ l4 ≤ 60000)))))) (z0 : M 10 32 3 = M0 10 32 3 ∧ M 1 0 0 = M0 1 0 0 ∧ M 1 0 1 = M0 1 0 1 ∧ M 2 0 5 = M0 2 0 5), wp (gX11_finding_55 fu  M l1 l2 l3 l4 s0) (fun r M1 => bI bx1 M1 ∧ Kp (TM1 32) M0 M1 ∧ ((-1) ≤ r ∧ r ≤ 30 ∧ ((r = -1 ∧ ¬ (0 ≤ l1 ∧ l1 ≤ 99 ∧ 0 ≤ l2 ∧ l2 < M0 2 0 5 ∧ l2 < 6 ∧ 0 ≤ l3 ∧ l3 ≤ 1 ∧ ((l3 = 0 ∧ 0 ≤ l4 ∧ l4 ≤ 999) ∨ (l3 ≠ 0 ∧ -60000 ≤ l4 ∧ l4 ≤ 60000)) ∧ M0 10 32 3 < 20) ∧ M1 10 32 3 = M0 10 32 3) ∨ ((0 ≤ l1 ∧ l1 ≤ 99 ∧ 0 ≤ l2 ∧ l2 < M0 2 0 5 ∧ l2 < 6 ∧ 0 ≤ l3 ∧ l3 ≤ 1 ∧ ((l3 = 0 ∧ 0 ≤ l4 ∧ l4 ≤ 999) ∨ (l3 ≠ 0 ∧ -60000 ≤ l4 ∧ l4 ≤ 60000))) ∧ M0 10 32 3 < 20 ∧ M1 10 32 3 = M0 10 32 3 + 1 ∧ r = M1 10 32 3)))) := by
  intro l1 l2 l3 l4 s0 M iM kM hl1 hl2 hl3 hl4 hs0 y0 z0
  unfold gX11_finding_55
  have l30 : lim1 30 = 30 := by decide
  have l31 : lim1 31 = 20 := by decide
  have l32 : lim1 32 = 20 := by decide
  refine wp_ite (fun c_1 => ?_) (fun c_1 => ?_)
  · skip
    have b_2 : 0 ≤ (M 10 32 3) ∧ (M 10 32 3) ≤ 20 := jm_b10 (iM 10 32 3) (by decide)
    exact wp_ret ⟨iM, kM, by omega, by omega, by omega⟩
  · skip
    have b_3 : 0 ≤ (M 10 32 3) ∧ (M 10 32 3) ≤ 20 := jm_b10 (iM 10 32 3) (by decide)
    refine wp_bk (s_fX7_push M iM 32 l1 l2 l3 l4 ⟨by omega, by omega⟩ (jm_inL (by omega) (by omega)) (jm_inL (by omega) (by omega)) (jm_inL (by omega) (by omega)) hl4 ) (fun v2 M3 iM3 jM3 hv2 => ?_)
    have kM3 := kM.tr jM3 tt_TM1_TPU
    have b_4 : 0 ≤ (M3 10 32 3) ∧ (M3 10 32 3) ≤ 20 := jm_b10 (iM3 10 32 3) (by decide)
    exact wp_ret ⟨iM3, kM3, by omega, by omega, by omega⟩
set_option maxHeartbeats 4000000 in
set_option maxRecDepth 100000 in
theorem s_fX11_finding (fu : Nat) (hfu : 4000 ≤ fu) (M : jm_M) (iM : bI bx1 M) (l1 l2 l3 l4 : Int) (hl1 : jm_in l1) (hl2 : jm_in l2) (hl3 : jm_in l3) (hl4 : jm_in l4) : wp (fX11_finding fu M l1 l2 l3 l4) (fun r M1 => bI bx1 M1 ∧ Kp (TM1 32) M M1 ∧ ((-1) ≤ r ∧ r ≤ 30 ∧ ((r = -1 ∧ ¬ (0 ≤ l1 ∧ l1 ≤ 99 ∧ 0 ≤ l2 ∧ l2 < M 2 0 5 ∧ l2 < 6 ∧ 0 ≤ l3 ∧ l3 ≤ 1 ∧ ((l3 = 0 ∧ 0 ≤ l4 ∧ l4 ≤ 999) ∨ (l3 ≠ 0 ∧ -60000 ≤ l4 ∧ l4 ≤ 60000)) ∧ M 10 32 3 < 20) ∧ M1 10 32 3 = M 10 32 3) ∨ ((0 ≤ l1 ∧ l1 ≤ 99 ∧ 0 ≤ l2 ∧ l2 < M 2 0 5 ∧ l2 < 6 ∧ 0 ≤ l3 ∧ l3 ≤ 1 ∧ ((l3 = 0 ∧ 0 ≤ l4 ∧ l4 ≤ 999) ∨ (l3 ≠ 0 ∧ -60000 ≤ l4 ∧ l4 ≤ 60000))) ∧ M 10 32 3 < 20 ∧ M1 10 32 3 = M 10 32 3 + 1 ∧ r = M1 10 32 3)))) := by
  have kM : Kp (TM1 32) M M := Kp.rf
  unfold fX11_finding
  refine wp_bp (s_fX11_isDay M iM l1 hl1 ) (fun v1 hv1 => ?_)
  have b_1 : -2147483648 ≤ l1 ∧ l1 ≤ 2147483647 := hl1
  refine wp_ite (fun c_2 => ?_) (fun c_2 => ?_)
  · skip
    have b_3 : 0 ≤ (M 10 32 3) ∧ (M 10 32 3) ≤ 20 := jm_b10 (iM 10 32 3) (by decide)
    exact wp_ret ⟨iM, kM, by omega, by omega, by omega⟩
  · skip
    refine wp_bp (s_fX2_has M iM l2 hl2 ) (fun v5 hv5 => ?_)
    have b_4 : -2147483648 ≤ l2 ∧ l2 ≤ 2147483647 := hl2
    have b_5 : 0 ≤ (M 2 0 5) ∧ (M 2 0 5) ≤ 6 := iM 2 0 5
    refine wp_ite (fun c_6 => ?_) (fun c_6 => ?_)
    · skip
      have b_7 : 0 ≤ (M 10 32 3) ∧ (M 10 32 3) ≤ 20 := jm_b10 (iM 10 32 3) (by decide)
      exact wp_ret ⟨iM, kM, by omega, by omega, by omega⟩
    · skip
      refine wp_bp (s_fX11_isWithin M iM l3 0 1 hl3 (jm_inL (by decide) (by decide)) (jm_inL (by decide) (by decide)) ) (fun v9 hv9 => ?_)
      have b_8 : -2147483648 ≤ l3 ∧ l3 ≤ 2147483647 := hl3
      refine wp_ite (fun c_9 => ?_) (fun c_9 => ?_)
      · skip
        have b_10 : 0 ≤ (M 10 32 3) ∧ (M 10 32 3) ≤ 20 := jm_b10 (iM 10 32 3) (by decide)
        exact wp_ret ⟨iM, kM, by omega, by omega, by omega⟩
      · skip
        refine wp_ite (fun c_11 => ?_) (fun c_11 => ?_)
        · skip
          refine wp_bp (s_fX11_isWithin M iM l4 0 999 hl4 (jm_inL (by decide) (by decide)) (jm_inL (by decide) (by decide)) ) (fun v14 hv14 => ?_)
          have b_12 : -2147483648 ≤ l4 ∧ l4 ≤ 2147483647 := hl4
          have b_13 : 0 ≤ (M 10 32 3) ∧ (M 10 32 3) ≤ 20 := jm_b10 (iM 10 32 3) (by decide)
          exact s_gX11_finding_55 fu hfu M    l1 l2 l3 l4 v14 M iM kM ⟨by omega, by omega⟩ ⟨by omega, by omega⟩ ⟨by omega, by omega⟩ hl4 ⟨by omega, by omega⟩ (by omega) (by omega) 
        · skip
          refine wp_bp (s_fX11_isWithin M iM l4 (-60000) 60000 hl4 (jm_inL (by decide) (by decide)) (jm_inL (by decide) (by decide)) ) (fun v17 hv17 => ?_)
          have b_14 : -2147483648 ≤ l4 ∧ l4 ≤ 2147483647 := hl4
          have b_15 : 0 ≤ (M 10 32 3) ∧ (M 10 32 3) ≤ 20 := jm_b10 (iM 10 32 3) (by decide)
          exact s_gX11_finding_55 fu hfu M    l1 l2 l3 l4 v17 M iM kM ⟨by omega, by omega⟩ ⟨by omega, by omega⟩ ⟨by omega, by omega⟩ hl4 ⟨by omega, by omega⟩ (by omega) (by omega) 
set_option maxHeartbeats 4000000 in
set_option maxRecDepth 100000 in
theorem s_gX11_flag_18 (fu : Nat) (hfu : 4000 ≤ fu) (M0 : jm_M) : ∀ (l1 l2 l3 l4 : Int) (M : jm_M) (iM : bI bx1 M) (kM : Kp (TM1 31) M0 M) (hl1 : (-1) ≤ l1 ∧ l1 ≤ 4) (hl2 : jm_in l2) (hl3 : jm_in l3) (hl4 : jm_in l4) (y0 : (l1 = -1 ∨ (0 ≤ l1 ∧ l1 < M 1 0 0))) (z0 : M 10 31 3 = M0 10 31 3 ∧ M 1 0 0 = M0 1 0 0 ∧ M 1 0 1 = M0 1 0 1 ∧ M 2 0 5 = M0 2 0 5), wp (gX11_flag_18 fu  M l1 l2 l3 l4) (fun r M1 => bI bx1 M1 ∧ Kp (TM1 31) M0 M1 ∧ ((-1) ≤ r ∧ r ≤ 30 ∧ ((r = -1 ∧ ¬ ((l1 = -1 ∨ (0 ≤ l1 ∧ l1 < M0 1 0 0)) ∧ 0 ≤ l2 ∧ l2 ≤ l3 ∧ 0 ≤ l4 ∧ l4 ≤ 1 ∧ M0 10 31 3 < 20) ∧ M1 10 31 3 = M0 10 31 3) ∨ (((l1 = -1 ∨ (0 ≤ l1 ∧ l1 < M0 1 0 0)) ∧ 0 ≤ l2 ∧ l2 ≤ l3 ∧ 0 ≤ l4 ∧ l4 ≤ 1) ∧ M0 10 31 3 < 20 ∧ M1 10 31 3 = M0 10 31 3 + 1 ∧ r = M1 10 31 3)))) := by
  intro l1 l2 l3 l4 M iM kM hl1 hl2 hl3 hl4 y0 z0
  unfold gX11_flag_18
  have l30 : lim1 30 = 30 := by decide
  have l31 : lim1 31 = 20 := by decide
  have l32 : lim1 32 = 20 := by decide
  have b_2 : -2147483648 ≤ l2 ∧ l2 ≤ 2147483647 := hl2
  refine wp_ite (fun c_1 => ?_) (fun c_1 => ?_)
  · skip
    have b_3 : 0 ≤ (M 10 31 3) ∧ (M 10 31 3) ≤ 20 := jm_b10 (iM 10 31 3) (by decide)
    exact wp_ret ⟨iM, kM, by omega, by omega, by omega⟩
  · skip
    have b_5 : -2147483648 ≤ l3 ∧ l3 ≤ 2147483647 := hl3
    refine wp_ite (fun c_4 => ?_) (fun c_4 => ?_)
    · skip
      have b_6 : 0 ≤ (M 10 31 3) ∧ (M 10 31 3) ≤ 20 := jm_b10 (iM 10 31 3) (by decide)
      exact wp_ret ⟨iM, kM, by omega, by omega, by omega⟩
    · skip
      refine wp_bp (s_fX11_isWithin M iM l4 0 1 hl4 (jm_inL (by decide) (by decide)) (jm_inL (by decide) (by decide)) ) (fun v3 hv3 => ?_)
      have b_7 : -2147483648 ≤ l4 ∧ l4 ≤ 2147483647 := hl4
      refine wp_ite (fun c_8 => ?_) (fun c_8 => ?_)
      · skip
        have b_9 : 0 ≤ (M 10 31 3) ∧ (M 10 31 3) ≤ 20 := jm_b10 (iM 10 31 3) (by decide)
        exact wp_ret ⟨iM, kM, by omega, by omega, by omega⟩
      · skip
        refine wp_sk iM (jm_inL (by decide) (by decide)) kM (by unfold TM1 RC1; omega) (fun M7 u_10 iM7 kM7 => ?_)
        have q_11 : (M7 10 31 3) = (M 10 31 3) := by rw [u_10]; exact jm_une_f (by decide)
        have b_12 : 0 ≤ (M 10 31 3) ∧ (M 10 31 3) ≤ 20 := jm_b10 (iM 10 31 3) (by decide)
        refine wp_bk (s_fX7_push M7 iM7 31 l1 l2 l3 l4 ⟨by omega, by omega⟩ (jm_inL (by omega) (by omega)) hl2 hl3 hl4 ) (fun v8 M9 iM9 jM9 hv8 => ?_)
        have kM9 := kM7.tr jM9 tt_TM1_TPU
        have b_13 : 0 ≤ (M9 10 31 3) ∧ (M9 10 31 3) ≤ 20 := jm_b10 (iM9 10 31 3) (by decide)
        exact wp_ret ⟨iM9, kM9, by omega, by omega, by omega⟩
set_option maxHeartbeats 4000000 in
set_option maxRecDepth 100000 in
theorem s_fX11_flag (fu : Nat) (hfu : 4000 ≤ fu) (M : jm_M) (iM : bI bx1 M) (l1 l2 l3 l4 : Int) (hl1 : jm_in l1) (hl2 : jm_in l2) (hl3 : jm_in l3) (hl4 : jm_in l4) : wp (fX11_flag fu M l1 l2 l3 l4) (fun r M1 => bI bx1 M1 ∧ Kp (TM1 31) M M1 ∧ ((-1) ≤ r ∧ r ≤ 30 ∧ ((r = -1 ∧ ¬ ((l1 = -1 ∨ (0 ≤ l1 ∧ l1 < M 1 0 0)) ∧ 0 ≤ l2 ∧ l2 ≤ l3 ∧ 0 ≤ l4 ∧ l4 ≤ 1 ∧ M 10 31 3 < 20) ∧ M1 10 31 3 = M 10 31 3) ∨ (((l1 = -1 ∨ (0 ≤ l1 ∧ l1 < M 1 0 0)) ∧ 0 ≤ l2 ∧ l2 ≤ l3 ∧ 0 ≤ l4 ∧ l4 ≤ 1) ∧ M 10 31 3 < 20 ∧ M1 10 31 3 = M 10 31 3 + 1 ∧ r = M1 10 31 3)))) := by
  have kM : Kp (TM1 31) M M := Kp.rf
  unfold fX11_flag
  have b_2 : -2147483648 ≤ l1 ∧ l1 ≤ 2147483647 := hl1
  refine wp_ite (fun c_1 => ?_) (fun c_1 => ?_)
  · skip
    have b_3 : -2147483648 ≤ l2 ∧ l2 ≤ 2147483647 := hl2
    have b_4 : -2147483648 ≤ l3 ∧ l3 ≤ 2147483647 := hl3
    have b_5 : -2147483648 ≤ l4 ∧ l4 ≤ 2147483647 := hl4
    have b_6 : 2 ≤ (M 1 0 0) ∧ (M 1 0 0) ≤ 5 := iM 1 0 0
    have b_7 : 0 ≤ (M 10 31 3) ∧ (M 10 31 3) ≤ 20 := jm_b10 (iM 10 31 3) (by decide)
    exact s_gX11_flag_18 fu hfu M    l1 l2 l3 l4 M iM kM ⟨by omega, by omega⟩ hl2 hl3 hl4 (by omega) (by omega) 
  · skip
    refine wp_bp (s_fX9_hasSector M iM l1 hl1 ) (fun v2 hv2 => ?_)
    have b_8 : 2 ≤ (M 1 0 0) ∧ (M 1 0 0) ≤ 5 := iM 1 0 0
    refine wp_ite (fun c_9 => ?_) (fun c_9 => ?_)
    · skip
      have b_10 : 0 ≤ (M 10 31 3) ∧ (M 10 31 3) ≤ 20 := jm_b10 (iM 10 31 3) (by decide)
      exact wp_ret ⟨iM, kM, by omega, by omega, by omega⟩
    · skip
      have b_11 : -2147483648 ≤ l2 ∧ l2 ≤ 2147483647 := hl2
      have b_12 : -2147483648 ≤ l3 ∧ l3 ≤ 2147483647 := hl3
      have b_13 : -2147483648 ≤ l4 ∧ l4 ≤ 2147483647 := hl4
      have b_14 : 0 ≤ (M 10 31 3) ∧ (M 10 31 3) ≤ 20 := jm_b10 (iM 10 31 3) (by decide)
      exact s_gX11_flag_18 fu hfu M    l1 l2 l3 l4 M iM kM ⟨by omega, by omega⟩ hl2 hl3 hl4 (by omega) (by omega) 
set_option maxHeartbeats 4000000 in
set_option maxRecDepth 100000 in
theorem s_gX11_gain_88 (fu : Nat) (hfu : 4000 ≤ fu) (M0 : jm_M) : ∀ (s0 : Int) (M : jm_M) (iM : bI bx1 M) (kM : Kp TAM M0 M) (hs0 : jm_in s0), wp (gX11_gain_88 fu  M s0) (fun r M1 => bI bx1 M1 ∧ Kp TAM M0 M1 ∧ ((-1) ≤ r ∧ r ≤ 2147483647)) := by
  intro s0 M iM kM hs0
  unfold gX11_gain_88
  have b_1 : 0 ≤ (M 2 0 5) ∧ (M 2 0 5) ≤ 6 := iM 2 0 5
  have b_2 : (-2147483648) ≤ (M 5 0 5) ∧ (M 5 0 5) ≤ 2147483647 := iM 5 0 5
  have f_3 := jm_min_f (M 5 0 5) (M 2 0 5)
  refine wp_e (by exact (jm_min_in (iM 5 0 5) (jm_inL (by omega) (by omega)))) (fun v3 e_4 hv3 => ?_)
  have b_5 : -2147483648 ≤ s0 ∧ s0 ≤ 2147483647 := hs0
  have b_6 : -2147483648 ≤ v3 ∧ v3 ≤ 2147483647 := hv3
  have w_7 : -2147483648 ≤ (jm_w (s0 - v3)) ∧ (jm_w (s0 - v3)) ≤ 2147483647 := jm_w_in _
  have f_8 := jm_max_f 0 (jm_w (s0 - v3))
  exact wp_ret ⟨iM, kM, by omega⟩
set_option maxHeartbeats 4000000 in
set_option maxRecDepth 100000 in
theorem s_fX11_gain (fu : Nat) (hfu : 4000 ≤ fu) (M : jm_M) (iM : bI bx1 M) (l1 l2 l3 : Int) (hl1 : jm_in l1) (hl2 : jm_in l2) (hl3 : jm_in l3) : wp (fX11_gain fu M l1 l2 l3) (fun r M1 => bI bx1 M1 ∧ Kp TAM M M1 ∧ ((-1) ≤ r ∧ r ≤ 2147483647)) := by
  have kM : Kp TAM M M := Kp.rf
  unfold fX11_gain
  refine wp_bp (s_fX2_has M iM l1 hl1 ) (fun v1 hv1 => ?_)
  have b_1 : -2147483648 ≤ l1 ∧ l1 ≤ 2147483647 := hl1
  have b_2 : 0 ≤ (M 2 0 5) ∧ (M 2 0 5) ≤ 6 := iM 2 0 5
  refine wp_ite (fun c_3 => ?_) (fun c_3 => ?_)
  · skip
    exact wp_ret ⟨iM, kM, by omega⟩
  · skip
    refine wp_bp (s_fX11_isWithin M iM l2 0 2 hl2 (jm_inL (by decide) (by decide)) (jm_inL (by decide) (by decide)) ) (fun v5 hv5 => ?_)
    have b_4 : -2147483648 ≤ l2 ∧ l2 ≤ 2147483647 := hl2
    refine wp_ite (fun c_5 => ?_) (fun c_5 => ?_)
    · skip
      exact wp_ret ⟨iM, kM, by omega⟩
    · skip
      refine wp_bp (s_fX11_isDay M iM l3 hl3 ) (fun v9 hv9 => ?_)
      have b_6 : -2147483648 ≤ l3 ∧ l3 ≤ 2147483647 := hl3
      refine wp_ite (fun c_7 => ?_) (fun c_7 => ?_)
      · skip
        exact wp_ret ⟨iM, kM, by omega⟩
      · skip
        refine wp_bk (s_fX2_reckon fu hfu M iM   ) (fun v13 M14 iM14 jM14 hv13 => ?_)
        have kM14 := kM.tr jM14 tt_TAM_TA
        refine wp_bk (s_fX5_reckonFor fu hfu M14 iM14 l3 ⟨by omega, by omega⟩ ) (fun v15 M16 iM16 jM16 hv15 => ?_)
        have kM16 := kM14.tr jM16 tt_TAM_TJ
        refine wp_bp (s_fX5_placeAmong fu hfu M16 iM16 l1 (-1) ⟨by omega, by omega⟩ (jm_inL (by decide) (by decide)) ) (fun v17 hv17 => ?_)
        refine wp_bk (s_fX10_search fu hfu M16 iM16 l1 l2 l3 ⟨by omega, by omega⟩ ⟨by omega, by omega⟩ ⟨by omega, by omega⟩ ) (fun v20 M21 iM21 jM21 hv20 => ?_)
        have kM21 := kM16.tr jM21 (fun _ _ _ h => h)
        refine wp_ite (fun c_8 => ?_) (fun c_8 => ?_)
        · skip
          exact wp_ret ⟨iM21, kM21, by omega⟩
        · skip
          have b_10 : -2147483648 ≤ v17 ∧ v17 ≤ 2147483647 := hv17
          refine wp_ite (fun c_9 => ?_) (fun c_9 => ?_)
          · skip
            have q_11 : (M21 2 0 5) = (M16 2 0 5) := jM21 2 0 5 (by unfold TAM; omega)
            have q_12 : (M16 2 0 5) = (M14 2 0 5) := jM16 2 0 5 (by unfold TJ; omega)
            have q_13 : (M14 2 0 5) = (M 2 0 5) := jM14 2 0 5 (by unfold TA; omega)
            exact s_gX11_gain_88 fu hfu M    (M21 2 0 5) M21 iM21 kM21 (bx1_in (iM21 2 0 5))  
          · skip
            exact s_gX11_gain_88 fu hfu M    v17 M21 iM21 kM21 hv17  
set_option maxHeartbeats 4000000 in
set_option maxRecDepth 100000 in
theorem s_fX11_known (fu : Nat) (hfu : 4000 ≤ fu) (M : jm_M) (iM : bI bx1 M) (l1 l2 l3 l4 : Int) (hl1 : jm_in l1) (hl2 : jm_in l2) (hl3 : jm_in l3) (hl4 : jm_in l4) : wp (fX11_known fu M l1 l2 l3 l4) (fun r M1 => bI bx1 M1 ∧ Kp TA M M1 ∧ (jm_in r)) := by
  have kM : Kp TA M M := Kp.rf
  unfold fX11_known
  refine wp_bp (s_fX2_has M iM l1 hl1 ) (fun v1 hv1 => ?_)
  have b_1 : -2147483648 ≤ l1 ∧ l1 ≤ 2147483647 := hl1
  have b_2 : 0 ≤ (M 2 0 5) ∧ (M 2 0 5) ≤ 6 := iM 2 0 5
  refine wp_ite (fun c_3 => ?_) (fun c_3 => ?_)
  · skip
    exact wp_ret ⟨iM, kM, (jm_inL (by decide) (by decide))⟩
  · skip
    refine wp_bp (s_fX9_hasLine M iM l2 l3 hl2 hl3 ) (fun v5 hv5 => ?_)
    have b_4 : -2147483648 ≤ l2 ∧ l2 ≤ 2147483647 := hl2
    have b_5 : 1 ≤ (M 1 0 1) ∧ (M 1 0 1) ≤ 12 := iM 1 0 1
    have b_6 : -2147483648 ≤ l3 ∧ l3 ≤ 2147483647 := hl3
    have b_7 : 2 ≤ (M 1 0 0) ∧ (M 1 0 0) ≤ 5 := iM 1 0 0
    refine wp_ite (fun c_8 => ?_) (fun c_8 => ?_)
    · skip
      exact wp_ret ⟨iM, kM, (jm_inL (by decide) (by decide))⟩
    · skip
      refine wp_bp (s_fX11_isWithin M iM l4 0 1 hl4 (jm_inL (by decide) (by decide)) (jm_inL (by decide) (by decide)) ) (fun v9 hv9 => ?_)
      have b_9 : -2147483648 ≤ l4 ∧ l4 ≤ 2147483647 := hl4
      refine wp_ite (fun c_10 => ?_) (fun c_10 => ?_)
      · skip
        exact wp_ret ⟨iM, kM, (jm_inL (by decide) (by decide))⟩
      · skip
        refine wp_bk (s_fX2_reckon fu hfu M iM   ) (fun v13 M14 iM14 jM14 hv13 => ?_)
        have kM14 := kM.tr jM14 (fun _ _ _ h => h)
        refine wp_bp (s_fX9_lineOf M14 iM14 l2 l3 ⟨by omega, by omega⟩ ⟨by omega, by omega⟩ ) (fun v15 hv15 => ?_)
        refine wp_ite (fun c_11 => ?_) (fun c_11 => ?_)
        · skip
          refine wp_bp (s_fX2_spanAt fu hfu M14 iM14 l1 v15 1 ⟨by omega, by omega⟩ ⟨by omega, by omega⟩ ⟨by omega, by omega⟩ ) (fun v19 hv19 => ?_)
          have b_12 : -2147483648 ≤ v19 ∧ v19 ≤ 2147483647 := hv19
          exact wp_ret ⟨iM14, kM14, hv19⟩
        · skip
          refine wp_bp (s_fX2_spanAt fu hfu M14 iM14 l1 v15 0 ⟨by omega, by omega⟩ ⟨by omega, by omega⟩ ⟨by omega, by omega⟩ ) (fun v22 hv22 => ?_)
          have b_13 : -2147483648 ≤ v22 ∧ v22 ≤ 2147483647 := hv22
          exact wp_ret ⟨iM14, kM14, hv22⟩
set_option maxHeartbeats 4000000 in
set_option maxRecDepth 100000 in
theorem s_gX2_aheadAt_6 (fu : Nat) (hfu : 4000 ≤ fu) (M : jm_M) (iM : bI bx1 M) (k6 : jm_M → Int → Int → Int → Int → Int → jm_R) (N6 : Int) (hk6 : ∀ (l1 l2 l3 l4 l5 : Int) (hl1 : 0 ≤ l1 ∧ l1 ≤ 2000) (hl2 : 0 ≤ l2 ∧ l2 ≤ 5) (hl3 : jm_in l3) (hl4 : jm_in l4) (hl5 : 0 ≤ l5 ∧ l5 ≤ 6), 7 - l5 < N6 → wp (k6 M l1 l2 l3 l4 l5) (fun r M1 => M1 = M ∧ (jm_in r))) : ∀ (l1 l2 l3 l4 l5 : Int) (hl1 : 0 ≤ l1 ∧ l1 ≤ 2000) (hl2 : 0 ≤ l2 ∧ l2 ≤ 5) (hl3 : jm_in l3) (hl4 : jm_in l4) (hl5 : 0 ≤ l5 ∧ l5 ≤ 6), 7 - l5 < N6 + 1 → wp (gX2_aheadAt_6 fu k6 M l1 l2 l3 l4 l5) (fun r M1 => M1 = M ∧ (jm_in r)) := by
  intro l1 l2 l3 l4 l5 hl1 hl2 hl3 hl4 hl5 m6
  unfold gX2_aheadAt_6
  have b_2 : 0 ≤ (M 2 0 5) ∧ (M 2 0 5) ≤ 6 := iM 2 0 5
  refine wp_ite (fun c_1 => ?_) (fun c_1 => ?_)
  · skip
    have b_3 : -2147483648 ≤ l4 ∧ l4 ≤ 2147483647 := hl4
    exact wp_ret ⟨rfl, hl4⟩
  · skip
    refine wp_F (by omega) ?_
    refine wp_T ⟨by omega, by omega⟩ ?_
    refine wp_bp (s_fX6_timeAt M iM l5 l1 ⟨by omega, by omega⟩ ⟨by omega, by omega⟩ ) (fun v5 hv5 => ?_)
    have b_6 : -2147483648 ≤ v5 ∧ v5 ≤ 2147483647 := hv5
    refine wp_ite (fun c_5 => ?_) (fun c_5 => ?_)
    · skip
      have w_7 : (jm_w (l5 + 1)) = (l5 + 1) := jm_wid (by omega) (by omega)
      refine wp_e (by exact (jm_w_in _)) (fun v9 e_8 hv9 => ?_)
      have b_9 : -2147483648 ≤ v9 ∧ v9 ≤ 2147483647 := hv9
      have b_10 : -2147483648 ≤ l3 ∧ l3 ≤ 2147483647 := hl3
      have b_11 : -2147483648 ≤ l4 ∧ l4 ≤ 2147483647 := hl4
      exact hk6 l1 l2 l3 l4 v9  ⟨by omega, by omega⟩ ⟨by omega, by omega⟩ hl3 hl4 ⟨by omega, by omega⟩  (by omega)
    · skip
      have b_13 : -2147483648 ≤ l3 ∧ l3 ≤ 2147483647 := hl3
      refine wp_ite (fun c_12 => ?_) (fun c_12 => ?_)
      · skip
        have b_14 : -2147483648 ≤ l4 ∧ l4 ≤ 2147483647 := hl4
        have w_15 : -2147483648 ≤ (jm_w (l4 + 1)) ∧ (jm_w (l4 + 1)) ≤ 2147483647 := jm_w_in _
        refine wp_e (by exact (jm_w_in _)) (fun v12 e_16 hv12 => ?_)
        have w_17 : (jm_w (l5 + 1)) = (l5 + 1) := jm_wid (by omega) (by omega)
        refine wp_e (by exact (jm_w_in _)) (fun v14 e_18 hv14 => ?_)
        have b_19 : -2147483648 ≤ v14 ∧ v14 ≤ 2147483647 := hv14
        have b_20 : -2147483648 ≤ v12 ∧ v12 ≤ 2147483647 := hv12
        exact hk6 l1 l2 l3 v12 v14  ⟨by omega, by omega⟩ ⟨by omega, by omega⟩ hl3 hv12 ⟨by omega, by omega⟩  (by omega)
      · skip
        refine wp_ite (fun c_21 => ?_) (fun c_21 => ?_)
        · skip
          refine wp_ite (fun c_22 => ?_) (fun c_22 => ?_)
          · skip
            have w_23 : (jm_w (l5 + 1)) = (l5 + 1) := jm_wid (by omega) (by omega)
            refine wp_e (by exact (jm_w_in _)) (fun v18 e_24 hv18 => ?_)
            have b_25 : -2147483648 ≤ v18 ∧ v18 ≤ 2147483647 := hv18
            have b_26 : -2147483648 ≤ l4 ∧ l4 ≤ 2147483647 := hl4
            exact hk6 l1 l2 l3 l4 v18  ⟨by omega, by omega⟩ ⟨by omega, by omega⟩ hl3 hl4 ⟨by omega, by omega⟩  (by omega)
          · skip
            have b_27 : -2147483648 ≤ l4 ∧ l4 ≤ 2147483647 := hl4
            have w_28 : -2147483648 ≤ (jm_w (l4 + 1)) ∧ (jm_w (l4 + 1)) ≤ 2147483647 := jm_w_in _
            refine wp_e (by exact (jm_w_in _)) (fun v20 e_29 hv20 => ?_)
            have w_30 : (jm_w (l5 + 1)) = (l5 + 1) := jm_wid (by omega) (by omega)
            refine wp_e (by exact (jm_w_in _)) (fun v22 e_31 hv22 => ?_)
            have b_32 : -2147483648 ≤ v22 ∧ v22 ≤ 2147483647 := hv22
            have b_33 : -2147483648 ≤ v20 ∧ v20 ≤ 2147483647 := hv20
            exact hk6 l1 l2 l3 v20 v22  ⟨by omega, by omega⟩ ⟨by omega, by omega⟩ hl3 hv20 ⟨by omega, by omega⟩  (by omega)
        · skip
          have w_34 : (jm_w (l5 + 1)) = (l5 + 1) := jm_wid (by omega) (by omega)
          refine wp_e (by exact (jm_w_in _)) (fun v24 e_35 hv24 => ?_)
          have b_36 : -2147483648 ≤ v24 ∧ v24 ≤ 2147483647 := hv24
          have b_37 : -2147483648 ≤ l4 ∧ l4 ≤ 2147483647 := hl4
          exact hk6 l1 l2 l3 l4 v24  ⟨by omega, by omega⟩ ⟨by omega, by omega⟩ hl3 hl4 ⟨by omega, by omega⟩  (by omega)
set_option maxHeartbeats 4000000 in
set_option maxRecDepth 100000 in
theorem s_fX2_aheadAt_6 (fu : Nat) (hfu : 4000 ≤ fu) (M : jm_M) (iM : bI bx1 M) : ∀ (n : Nat) (l1 l2 l3 l4 l5 : Int) (hl1 : 0 ≤ l1 ∧ l1 ≤ 2000) (hl2 : 0 ≤ l2 ∧ l2 ≤ 5) (hl3 : jm_in l3) (hl4 : jm_in l4) (hl5 : 0 ≤ l5 ∧ l5 ≤ 6), 7 - l5 < (n : Int) → wp (fX2_aheadAt_6 fu  n M l1 l2 l3 l4 l5) (fun r M1 => M1 = M ∧ (jm_in r)) := by
  intro n
  induction n with
  | zero => intro l1 l2 l3 l4 l5 hl1 hl2 hl3 hl4 hl5 hm; exfalso; omega
  | succ n ih =>
    intro l1 l2 l3 l4 l5 hl1 hl2 hl3 hl4 hl5 hm
    exact s_gX2_aheadAt_6 fu hfu M iM (fX2_aheadAt_6 fu  n) (n : Int) ih l1 l2 l3 l4 l5 hl1 hl2 hl3 hl4 hl5 (by omega)
set_option maxHeartbeats 4000000 in
set_option maxRecDepth 100000 in
theorem s_fX2_aheadAt (fu : Nat) (hfu : 4000 ≤ fu) (M : jm_M) (iM : bI bx1 M) (l1 l2 l3 : Int) (hl1 : 0 ≤ l1 ∧ l1 ≤ 2000) (hl2 : 0 ≤ l2 ∧ l2 ≤ 5) (hl3 : jm_in l3) : wp (fX2_aheadAt fu M l1 l2 l3) (fun r M1 => M1 = M ∧ (jm_in r)) := by
  unfold fX2_aheadAt
  have b_1 : -2147483648 ≤ l3 ∧ l3 ≤ 2147483647 := hl3
  exact s_fX2_aheadAt_6 fu hfu M iM    fu l1 l2 l3 0 0  ⟨by omega, by omega⟩ ⟨by omega, by omega⟩ hl3 (jm_inL (by decide) (by decide)) ⟨by omega, by omega⟩   (by omega)
set_option maxHeartbeats 4000000 in
set_option maxRecDepth 100000 in
theorem s_gX2_inOrder_2 (fu : Nat) (hfu : 4000 ≤ fu) (M : jm_M) (iM : bI bx1 M) (k2 : jm_M → Int → Int → Int → jm_R) (N2 : Int) (hk2 : ∀ (l1 l2 l3 : Int) (hl1 : 0 ≤ l1 ∧ l1 ≤ 2000) (hl2 : 0 ≤ l2 ∧ l2 ≤ 5) (hl3 : 0 ≤ l3 ∧ l3 ≤ 6), 7 - l3 < N2 → wp (k2 M l1 l2 l3) (fun r M1 => M1 = M ∧ ((-1) ≤ r ∧ r ≤ 5))) : ∀ (l1 l2 l3 : Int) (hl1 : 0 ≤ l1 ∧ l1 ≤ 2000) (hl2 : 0 ≤ l2 ∧ l2 ≤ 5) (hl3 : 0 ≤ l3 ∧ l3 ≤ 6), 7 - l3 < N2 + 1 → wp (gX2_inOrder_2 fu k2 M l1 l2 l3) (fun r M1 => M1 = M ∧ ((-1) ≤ r ∧ r ≤ 5)) := by
  intro l1 l2 l3 hl1 hl2 hl3 m2
  unfold gX2_inOrder_2
  have b_2 : 0 ≤ (M 2 0 5) ∧ (M 2 0 5) ≤ 6 := iM 2 0 5
  refine wp_ite (fun c_1 => ?_) (fun c_1 => ?_)
  · skip
    exact wp_ret ⟨rfl, by omega⟩
  · skip
    refine wp_F (by omega) ?_
    refine wp_T ⟨by omega, by omega⟩ ?_
    refine wp_bp (s_fX6_timeAt M iM l3 l1 ⟨by omega, by omega⟩ ⟨by omega, by omega⟩ ) (fun v5 hv5 => ?_)
    have b_5 : -2147483648 ≤ v5 ∧ v5 ≤ 2147483647 := hv5
    refine wp_ite (fun c_4 => ?_) (fun c_4 => ?_)
    · skip
      have w_6 : (jm_w (l3 + 1)) = (l3 + 1) := jm_wid (by omega) (by omega)
      refine wp_e (by exact (jm_w_in _)) (fun v9 e_7 hv9 => ?_)
      have b_8 : -2147483648 ≤ v9 ∧ v9 ≤ 2147483647 := hv9
      exact hk2 l1 l2 v9  ⟨by omega, by omega⟩ ⟨by omega, by omega⟩ ⟨by omega, by omega⟩  (by omega)
    · skip
      refine wp_bp (s_fX2_aheadAt fu hfu M iM l1 l3 v5 ⟨by omega, by omega⟩ ⟨by omega, by omega⟩ hv5 ) (fun v11 hv11 => ?_)
      have b_10 : -2147483648 ≤ v11 ∧ v11 ≤ 2147483647 := hv11
      refine wp_ite (fun c_9 => ?_) (fun c_9 => ?_)
      · skip
        exact wp_ret ⟨rfl, by omega⟩
      · skip
        have w_11 : (jm_w (l3 + 1)) = (l3 + 1) := jm_wid (by omega) (by omega)
        refine wp_e (by exact (jm_w_in _)) (fun v15 e_12 hv15 => ?_)
        have b_13 : -2147483648 ≤ v15 ∧ v15 ≤ 2147483647 := hv15
        exact hk2 l1 l2 v15  ⟨by omega, by omega⟩ ⟨by omega, by omega⟩ ⟨by omega, by omega⟩  (by omega)
set_option maxHeartbeats 4000000 in
set_option maxRecDepth 100000 in
theorem s_fX2_inOrder_2 (fu : Nat) (hfu : 4000 ≤ fu) (M : jm_M) (iM : bI bx1 M) : ∀ (n : Nat) (l1 l2 l3 : Int) (hl1 : 0 ≤ l1 ∧ l1 ≤ 2000) (hl2 : 0 ≤ l2 ∧ l2 ≤ 5) (hl3 : 0 ≤ l3 ∧ l3 ≤ 6), 7 - l3 < (n : Int) → wp (fX2_inOrder_2 fu  n M l1 l2 l3) (fun r M1 => M1 = M ∧ ((-1) ≤ r ∧ r ≤ 5)) := by
  intro n
  induction n with
  | zero => intro l1 l2 l3 hl1 hl2 hl3 hm; exfalso; omega
  | succ n ih =>
    intro l1 l2 l3 hl1 hl2 hl3 hm
    exact s_gX2_inOrder_2 fu hfu M iM (fX2_inOrder_2 fu  n) (n : Int) ih l1 l2 l3 hl1 hl2 hl3 (by omega)
set_option maxHeartbeats 4000000 in
set_option maxRecDepth 100000 in
theorem s_fX2_inOrder (fu : Nat) (hfu : 4000 ≤ fu) (M : jm_M) (iM : bI bx1 M) (l1 l2 : Int) (hl1 : 0 ≤ l1 ∧ l1 ≤ 2000) (hl2 : 0 ≤ l2 ∧ l2 ≤ 5) : wp (fX2_inOrder fu M l1 l2) (fun r M1 => M1 = M ∧ ((-1) ≤ r ∧ r ≤ 5)) := by
  unfold fX2_inOrder
  exact s_fX2_inOrder_2 fu hfu M iM    fu l1 l2 0  ⟨by omega, by omega⟩ ⟨by omega, by omega⟩ ⟨by omega, by omega⟩   (by omega)
set_option maxHeartbeats 4000000 in
set_option maxRecDepth 100000 in
theorem s_gX11_leads_37 (fu : Nat) (hfu : 4000 ≤ fu) (M0 : jm_M) (k37 : jm_M → Int → Int → Int → jm_R) (N37 : Int) (hk37 : ∀ (l1 l2 l3 : Int) (M : jm_M) (iM : bI bx1 M) (kM : Kp TA M0 M) (hl1 : jm_in l1) (hl2 : (-1) ≤ l2 ∧ l2 ≤ 5) (hl3 : 1 ≤ l3 ∧ l3 ≤ 12), 13 - l3 < N37 → wp (k37 M l1 l2 l3) (fun r M1 => bI bx1 M1 ∧ Kp TA M0 M1 ∧ (jm_in r))) : ∀ (l1 l2 l3 : Int) (M : jm_M) (iM : bI bx1 M) (kM : Kp TA M0 M) (hl1 : jm_in l1) (hl2 : (-1) ≤ l2 ∧ l2 ≤ 5) (hl3 : 1 ≤ l3 ∧ l3 ≤ 12), 13 - l3 < N37 + 1 → wp (gX11_leads_37 fu k37 M l1 l2 l3) (fun r M1 => bI bx1 M1 ∧ Kp TA M0 M1 ∧ (jm_in r)) := by
  intro l1 l2 l3 M iM kM hl1 hl2 hl3 m37
  unfold gX11_leads_37
  have b_2 : 1 ≤ (M 1 0 1) ∧ (M 1 0 1) ≤ 12 := iM 1 0 1
  refine wp_ite (fun c_1 => ?_) (fun c_1 => ?_)
  · skip
    have b_3 : -2147483648 ≤ l1 ∧ l1 ≤ 2147483647 := hl1
    exact wp_ret ⟨iM, kM, hl1⟩
  · skip
    have b_4 : 2 ≤ (M 1 0 0) ∧ (M 1 0 0) ≤ 5 := iM 1 0 0
    have w_5 : (jm_w ((M 1 0 0) - 1)) = ((M 1 0 0) - 1) := jm_wid (by omega) (by omega)
    refine wp_bp (s_fX9_lineOf M iM l3 (jm_w ((M 1 0 0) - 1)) ⟨by omega, by omega⟩ ⟨by omega, by omega⟩ ) (fun v4 hv4 => ?_)
    refine wp_bp (s_fX2_inOrder fu hfu M iM v4 0 ⟨by omega, by omega⟩ ⟨by omega, by omega⟩ ) (fun v7 hv7 => ?_)
    refine wp_ite (fun c_6 => ?_) (fun c_6 => ?_)
    · skip
      have b_7 : -2147483648 ≤ l1 ∧ l1 ≤ 2147483647 := hl1
      exact wp_ret ⟨iM, kM, hl1⟩
    · skip
      refine wp_ite (fun c_8 => ?_) (fun c_8 => ?_)
      · skip
        have w_9 : (jm_w (l3 + 1)) = (l3 + 1) := jm_wid (by omega) (by omega)
        refine wp_e (by exact (jm_w_in _)) (fun v12 e_10 hv12 => ?_)
        have b_11 : -2147483648 ≤ v12 ∧ v12 ≤ 2147483647 := hv12
        have b_12 : -2147483648 ≤ l1 ∧ l1 ≤ 2147483647 := hl1
        exact hk37 l1 v7 v12 M iM kM hl1 ⟨by omega, by omega⟩ ⟨by omega, by omega⟩  (by omega)
      · skip
        have b_13 : -2147483648 ≤ l1 ∧ l1 ≤ 2147483647 := hl1
        have w_14 : -2147483648 ≤ (jm_w (l1 + 1)) ∧ (jm_w (l1 + 1)) ≤ 2147483647 := jm_w_in _
        refine wp_e (by exact (jm_w_in _)) (fun v14 e_15 hv14 => ?_)
        have w_16 : (jm_w (l3 + 1)) = (l3 + 1) := jm_wid (by omega) (by omega)
        refine wp_e (by exact (jm_w_in _)) (fun v16 e_17 hv16 => ?_)
        have b_18 : -2147483648 ≤ v16 ∧ v16 ≤ 2147483647 := hv16
        have b_19 : -2147483648 ≤ v14 ∧ v14 ≤ 2147483647 := hv14
        exact hk37 v14 v7 v16 M iM kM hv14 ⟨by omega, by omega⟩ ⟨by omega, by omega⟩  (by omega)
set_option maxHeartbeats 4000000 in
set_option maxRecDepth 100000 in
theorem s_fX11_leads_37 (fu : Nat) (hfu : 4000 ≤ fu) (M0 : jm_M) : ∀ (n : Nat) (l1 l2 l3 : Int) (M : jm_M) (iM : bI bx1 M) (kM : Kp TA M0 M) (hl1 : jm_in l1) (hl2 : (-1) ≤ l2 ∧ l2 ≤ 5) (hl3 : 1 ≤ l3 ∧ l3 ≤ 12), 13 - l3 < (n : Int) → wp (fX11_leads_37 fu  n M l1 l2 l3) (fun r M1 => bI bx1 M1 ∧ Kp TA M0 M1 ∧ (jm_in r)) := by
  intro n
  induction n with
  | zero => intro l1 l2 l3 M iM kM hl1 hl2 hl3 hm; exfalso; omega
  | succ n ih =>
    intro l1 l2 l3 M iM kM hl1 hl2 hl3 hm
    exact s_gX11_leads_37 fu hfu M0 (fX11_leads_37 fu  n) (n : Int) ih l1 l2 l3 M iM kM hl1 hl2 hl3 (by omega)
set_option maxHeartbeats 4000000 in
set_option maxRecDepth 100000 in
theorem s_fX11_leads (fu : Nat) (hfu : 4000 ≤ fu) (M : jm_M) (iM : bI bx1 M) : wp (fX11_leads fu M ) (fun r M1 => bI bx1 M1 ∧ Kp TA M M1 ∧ (jm_in r)) := by
  have kM : Kp TA M M := Kp.rf
  unfold fX11_leads
  refine wp_bk (s_fX2_reckon fu hfu M iM   ) (fun v1 M2 iM2 jM2 hv1 => ?_)
  have kM2 := kM.tr jM2 (fun _ _ _ h => h)
  have q_1 : (M2 1 0 0) = (M 1 0 0) := jM2 1 0 0 (by unfold TA; omega)
  have r_2 : (jm_w ((M2 1 0 0) - 1)) = (jm_w ((M 1 0 0) - 1)) := congrArg jm_w (by omega)
  have b_3 : 2 ≤ (M 1 0 0) ∧ (M 1 0 0) ≤ 5 := iM 1 0 0
  have w_4 : (jm_w ((M 1 0 0) - 1)) = ((M 1 0 0) - 1) := jm_wid (by omega) (by omega)
  refine wp_bp (s_fX9_lineOf M2 iM2 0 (jm_w ((M2 1 0 0) - 1)) ⟨by omega, by omega⟩ ⟨by omega, by omega⟩ ) (fun v4 hv4 => ?_)
  refine wp_bp (s_fX2_inOrder fu hfu M2 iM2 v4 0 ⟨by omega, by omega⟩ ⟨by omega, by omega⟩ ) (fun v7 hv7 => ?_)
  exact s_fX11_leads_37 fu hfu M    fu 0 v7 1 M2 iM2 kM2 (jm_inL (by decide) (by decide)) ⟨by omega, by omega⟩ ⟨by omega, by omega⟩   (by omega)
set_option maxHeartbeats 4000000 in
set_option maxRecDepth 100000 in
theorem s_fX11_led (fu : Nat) (hfu : 4000 ≤ fu) (M : jm_M) (iM : bI bx1 M) (l1 l2 : Int) (hl1 : jm_in l1) (hl2 : jm_in l2) : wp (fX11_led fu M l1 l2) (fun r M1 => bI bx1 M1 ∧ Kp TA M M1 ∧ ((-1) ≤ r ∧ r ≤ 5)) := by
  have kM : Kp TA M M := Kp.rf
  unfold fX11_led
  have b_1 : 1 ≤ (M 1 0 1) ∧ (M 1 0 1) ≤ 12 := iM 1 0 1
  refine wp_bp (s_fX11_isIndex M iM l1 (M 1 0 1) hl1 ⟨by omega, by omega⟩ ) (fun v2 hv2 => ?_)
  have b_2 : -2147483648 ≤ l1 ∧ l1 ≤ 2147483647 := hl1
  refine wp_ite (fun c_3 => ?_) (fun c_3 => ?_)
  · skip
    exact wp_ret ⟨iM, kM, by omega⟩
  · skip
    have b_4 : 0 ≤ (M 2 0 5) ∧ (M 2 0 5) ≤ 6 := iM 2 0 5
    refine wp_bp (s_fX11_isIndex M iM l2 (M 2 0 5) hl2 ⟨by omega, by omega⟩ ) (fun v7 hv7 => ?_)
    have b_5 : -2147483648 ≤ l2 ∧ l2 ≤ 2147483647 := hl2
    refine wp_ite (fun c_6 => ?_) (fun c_6 => ?_)
    · skip
      exact wp_ret ⟨iM, kM, by omega⟩
    · skip
      refine wp_bk (s_fX2_reckon fu hfu M iM   ) (fun v11 M12 iM12 jM12 hv11 => ?_)
      have kM12 := kM.tr jM12 (fun _ _ _ h => h)
      have q_7 : (M12 1 0 0) = (M 1 0 0) := jM12 1 0 0 (by unfold TA; omega)
      have r_8 : (jm_w ((M12 1 0 0) - 1)) = (jm_w ((M 1 0 0) - 1)) := congrArg jm_w (by omega)
      have b_9 : 2 ≤ (M 1 0 0) ∧ (M 1 0 0) ≤ 5 := iM 1 0 0
      have w_10 : (jm_w ((M 1 0 0) - 1)) = ((M 1 0 0) - 1) := jm_wid (by omega) (by omega)
      refine wp_bp (s_fX9_lineOf M12 iM12 l1 (jm_w ((M12 1 0 0) - 1)) ⟨by omega, by omega⟩ ⟨by omega, by omega⟩ ) (fun v14 hv14 => ?_)
      refine wp_bp (s_fX2_inOrder fu hfu M12 iM12 v14 l2 ⟨by omega, by omega⟩ ⟨by omega, by omega⟩ ) (fun v17 hv17 => ?_)
      exact wp_ret ⟨iM12, kM12, by omega⟩
set_option maxHeartbeats 4000000 in
set_option maxRecDepth 100000 in
theorem s_fX11_lost (M : jm_M) (iM : bI bx1 M) (l1 l2 : Int) (hl1 : jm_in l1) (hl2 : 0 ≤ l2 ∧ l2 ≤ 1) : wp (fX11_lost M l1 l2) (fun r M1 => bI bx1 M1 ∧ Kp RC1 M M1 ∧ (0 ≤ r ∧ r ≤ 1 ∧ (((0 ≤ l1 ∧ l1 < M 1 0 0 - 1) ∧ r = 1) ∨ (¬ (0 ≤ l1 ∧ l1 < M 1 0 0 - 1) ∧ r = 0)))) := by
  have kM : Kp RC1 M M := Kp.rf
  unfold fX11_lost
  refine wp_bp (s_fX9_hasSector M iM l1 hl1 ) (fun v1 hv1 => ?_)
  have b_1 : -2147483648 ≤ l1 ∧ l1 ≤ 2147483647 := hl1
  have b_2 : 2 ≤ (M 1 0 0) ∧ (M 1 0 0) ≤ 5 := iM 1 0 0
  refine wp_ite (fun c_3 => ?_) (fun c_3 => ?_)
  · skip
    exact wp_ret ⟨iM, kM, by omega, by omega, by omega⟩
  · skip
    have w_5 : (jm_w ((M 1 0 0) - 1)) = ((M 1 0 0) - 1) := jm_wid (by omega) (by omega)
    refine wp_ite (fun c_4 => ?_) (fun c_4 => ?_)
    · skip
      exact wp_ret ⟨iM, kM, by omega, by omega, by omega⟩
    · skip
      refine wp_T ⟨by omega, by omega⟩ ?_
      refine wp_T (by omega) ?_
      refine wp_sk iM (jm_inL (by omega) (by omega)) kM (by unfold RC1; omega) (fun M8 u_6 iM8 kM8 => ?_)
      exact wp_ret ⟨iM8, kM8, by omega, by omega, by omega⟩
set_option maxHeartbeats 4000000 in
set_option maxRecDepth 100000 in
theorem s_fX11_move (fu : Nat) (hfu : 4000 ≤ fu) (M : jm_M) (iM : bI bx1 M) (l1 l2 l3 l4 : Int) (hl1 : jm_in l1) (hl2 : jm_in l2) (hl3 : jm_in l3) (hl4 : jm_in l4) : wp (fX11_move fu M l1 l2 l3 l4) (fun r M1 => bI bx1 M1 ∧ Kp RC1 M M1 ∧ (jm_in r)) := by
  have kM : Kp RC1 M M := Kp.rf
  unfold fX11_move
  refine wp_bp (s_fX2_has M iM l1 hl1 ) (fun v1 hv1 => ?_)
  have b_1 : -2147483648 ≤ l1 ∧ l1 ≤ 2147483647 := hl1
  have b_2 : 0 ≤ (M 2 0 5) ∧ (M 2 0 5) ≤ 6 := iM 2 0 5
  refine wp_ite (fun c_3 => ?_) (fun c_3 => ?_)
  · skip
    exact wp_ret ⟨iM, kM, (jm_inL (by decide) (by decide))⟩
  · skip
    refine wp_T ⟨by omega, by omega⟩ ?_
    have b_4 : 0 ≤ (M 10 (l1 + 12) 3) ∧ (M 10 (l1 + 12) 3) ≤ 5 := jm_b10 (iM 10 (l1 + 12) 3) (Int.le_of_eq (lim1_12 (by omega) (by omega)))
    refine wp_bp (s_fX11_isIndex M iM l2 (M 10 (l1 + 12) 3) hl2 ⟨by omega, by omega⟩ ) (fun v7 hv7 => ?_)
    have b_5 : -2147483648 ≤ l2 ∧ l2 ≤ 2147483647 := hl2
    refine wp_ite (fun c_6 => ?_) (fun c_6 => ?_)
    · skip
      exact wp_ret ⟨iM, kM, (jm_inL (by decide) (by decide))⟩
    · skip
      refine wp_bp (s_fX11_isWithin M iM l3 0 (jm_w ((M 1 0 1) - 2)) hl3 (jm_inL (by decide) (by decide)) (jm_w_in _) ) (fun v12 hv12 => ?_)
      have b_7 : -2147483648 ≤ l3 ∧ l3 ≤ 2147483647 := hl3
      have b_8 : 1 ≤ (M 1 0 1) ∧ (M 1 0 1) ≤ 12 := iM 1 0 1
      have w_9 : (jm_w ((M 1 0 1) - 2)) = ((M 1 0 1) - 2) := jm_wid (by omega) (by omega)
      refine wp_ite (fun c_10 => ?_) (fun c_10 => ?_)
      · skip
        exact wp_ret ⟨iM, kM, (jm_inL (by decide) (by decide))⟩
      · skip
        refine wp_bp (s_fX11_isDay M iM l4 hl4 ) (fun v16 hv16 => ?_)
        have b_11 : -2147483648 ≤ l4 ∧ l4 ≤ 2147483647 := hl4
        refine wp_ite (fun c_12 => ?_) (fun c_12 => ?_)
        · skip
          exact wp_ret ⟨iM, kM, (jm_inL (by decide) (by decide))⟩
        · skip
          refine wp_T ⟨by omega, by omega⟩ ?_
          refine wp_bp (s_fX7_cell M iM (l1 + 12) l2 0 ⟨by omega, by omega⟩ hl2 (jm_inL (by decide) (by decide)) ) (fun v21 hv21 => ?_)
          refine wp_bk (s_fX7_put M iM (l1 + 12) l2 0 l3 ⟨by omega, by omega⟩ hl2 (jm_inL (by decide) (by decide)) hl3 ) (fun v24 M25 iM25 jM25 hv24 => ?_)
          have kM25 := kM.tr jM25 tt_RC1_TPT
          refine wp_bk (s_fX2_run fu hfu M25 iM25   ) (fun v26 M27 iM27 jM27 hv26 => ?_)
          have kM27 := kM25.tr jM27 tt_RC1_TA
          refine wp_bk (s_fX5_reckonFor fu hfu M27 iM27 l4 ⟨by omega, by omega⟩ ) (fun v28 M29 iM29 jM29 hv28 => ?_)
          have kM29 := kM27.tr jM29 tt_RC1_TJ
          refine wp_bk (s_fX7_put M29 iM29 (l1 + 12) l2 0 v21 ⟨by omega, by omega⟩ hl2 (jm_inL (by decide) (by decide)) hv21 ) (fun v30 M31 iM31 jM31 hv30 => ?_)
          have kM31 := kM29.tr jM31 tt_RC1_TPT
          refine wp_bp (s_fX5_placeAmong fu hfu M31 iM31 l1 (-1) ⟨by omega, by omega⟩ (jm_inL (by decide) (by decide)) ) (fun v32 hv32 => ?_)
          have b_14 : -2147483648 ≤ v32 ∧ v32 ≤ 2147483647 := hv32
          refine wp_ite (fun c_13 => ?_) (fun c_13 => ?_)
          · skip
            exact wp_ret ⟨iM31, kM31, (jm_inL (by decide) (by decide))⟩
          · skip
            exact wp_ret ⟨iM31, kM31, hv32⟩
set_option maxHeartbeats 4000000 in
set_option maxRecDepth 100000 in
theorem s_fX6_tell (M : jm_M) (iM : bI bx1 M) (r0 l1 : Int) (hr0 : 0 ≤ r0 ∧ r0 ≤ 5) (hl1 : 0 ≤ l1 ∧ l1 ≤ 10) : wp (fX6_tell M r0 l1) (fun r M1 => M1 = M ∧ (jm_in r)) := by
  unfold fX6_tell
  refine wp_ite (fun c_1 => ?_) (fun c_1 => ?_)
  · skip
    have b_2 : (-2147483648) ≤ (M 9 r0 3) ∧ (M 9 r0 3) ≤ 2147483647 := iM 9 r0 3
    exact wp_ret ⟨rfl, (iM 9 r0 3)⟩
  · skip
    refine wp_ite (fun c_3 => ?_) (fun c_3 => ?_)
    · skip
      have b_4 : (-2147483648) ≤ (M 9 r0 4) ∧ (M 9 r0 4) ≤ 2147483647 := iM 9 r0 4
      exact wp_ret ⟨rfl, (iM 9 r0 4)⟩
    · skip
      refine wp_ite (fun c_5 => ?_) (fun c_5 => ?_)
      · skip
        have b_6 : 0 ≤ (M 9 r0 2) ∧ (M 9 r0 2) ≤ 60 := iM 9 r0 2
        exact wp_ret ⟨rfl, (jm_inL (by omega) (by omega))⟩
      · skip
        refine wp_ite (fun c_7 => ?_) (fun c_7 => ?_)
        · skip
          have b_8 : (-2147483648) ≤ (M 9 r0 5) ∧ (M 9 r0 5) ≤ 2147483647 := iM 9 r0 5
          exact wp_ret ⟨rfl, (iM 9 r0 5)⟩
        · skip
          refine wp_ite (fun c_9 => ?_) (fun c_9 => ?_)
          · skip
            refine wp_bp (s_fJ6_bitCount_0f7a4_w1 M iM (M 9 r0 6) (iM 9 r0 6) ) (fun v11 hv11 => ?_)
            have b_10 : -2147483648 ≤ v11 ∧ v11 ≤ 2147483647 := hv11
            exact wp_ret ⟨rfl, hv11⟩
          · skip
            refine wp_ite (fun c_11 => ?_) (fun c_11 => ?_)
            · skip
              have b_12 : (-2147483648) ≤ (M 9 r0 7) ∧ (M 9 r0 7) ≤ 2147483647 := iM 9 r0 7
              exact wp_ret ⟨rfl, (iM 9 r0 7)⟩
            · skip
              refine wp_ite (fun c_13 => ?_) (fun c_13 => ?_)
              · skip
                have b_14 : (-2147483648) ≤ (M 9 r0 8) ∧ (M 9 r0 8) ≤ 2147483647 := iM 9 r0 8
                exact wp_ret ⟨rfl, (iM 9 r0 8)⟩
              · skip
                refine wp_ite (fun c_15 => ?_) (fun c_15 => ?_)
                · skip
                  have b_16 : (-2147483648) ≤ (M 9 r0 9) ∧ (M 9 r0 9) ≤ 2147483647 := iM 9 r0 9
                  exact wp_ret ⟨rfl, (iM 9 r0 9)⟩
                · skip
                  refine wp_ite (fun c_17 => ?_) (fun c_17 => ?_)
                  · skip
                    refine wp_bp (s_fX6_age M iM r0 ⟨by omega, by omega⟩ ) (fun v21 hv21 => ?_)
                    have b_18 : -2147483648 ≤ v21 ∧ v21 ≤ 2147483647 := hv21
                    exact wp_ret ⟨rfl, hv21⟩
                  · skip
                    refine wp_ite (fun c_19 => ?_) (fun c_19 => ?_)
                    · skip
                      have b_20 : (-2147483648) ≤ (M 9 r0 10) ∧ (M 9 r0 10) ≤ 2147483647 := iM 9 r0 10
                      exact wp_ret ⟨rfl, (iM 9 r0 10)⟩
                    · skip
                      have b_21 : (-2147483648) ≤ (M 9 r0 11) ∧ (M 9 r0 11) ≤ 2147483647 := iM 9 r0 11
                      exact wp_ret ⟨rfl, (iM 9 r0 11)⟩
set_option maxHeartbeats 4000000 in
set_option maxRecDepth 100000 in
theorem s_fX11_of (fu : Nat) (hfu : 4000 ≤ fu) (M : jm_M) (iM : bI bx1 M) (l1 l2 : Int) (hl1 : jm_in l1) (hl2 : jm_in l2) : wp (fX11_of fu M l1 l2) (fun r M1 => bI bx1 M1 ∧ Kp TA M M1 ∧ ((-2147483648) ≤ r ∧ r ≤ 4294967296)) := by
  have kM : Kp TA M M := Kp.rf
  unfold fX11_of
  refine wp_bp (s_fX2_has M iM l1 hl1 ) (fun v1 hv1 => ?_)
  have b_1 : -2147483648 ≤ l1 ∧ l1 ≤ 2147483647 := hl1
  have b_2 : 0 ≤ (M 2 0 5) ∧ (M 2 0 5) ≤ 6 := iM 2 0 5
  refine wp_ite (fun c_3 => ?_) (fun c_3 => ?_)
  · skip
    exact wp_ret ⟨iM, kM, by omega⟩
  · skip
    refine wp_bp (s_fX11_isWithin M iM l2 0 10 hl2 (jm_inL (by decide) (by decide)) (jm_inL (by decide) (by decide)) ) (fun v5 hv5 => ?_)
    have b_4 : -2147483648 ≤ l2 ∧ l2 ≤ 2147483647 := hl2
    refine wp_ite (fun c_5 => ?_) (fun c_5 => ?_)
    · skip
      exact wp_ret ⟨iM, kM, by omega⟩
    · skip
      refine wp_bk (s_fX2_reckon fu hfu M iM   ) (fun v9 M10 iM10 jM10 hv9 => ?_)
      have kM10 := kM.tr jM10 (fun _ _ _ h => h)
      refine wp_T ⟨by omega, by omega⟩ ?_
      refine wp_bp (s_fX6_tell M10 iM10 l1 l2 ⟨by omega, by omega⟩ ⟨by omega, by omega⟩ ) (fun v12 hv12 => ?_)
      have b_6 : -2147483648 ≤ v12 ∧ v12 ≤ 2147483647 := hv12
      exact wp_ret ⟨iM10, kM10, by omega⟩
set_option maxHeartbeats 4000000 in
set_option maxRecDepth 100000 in
theorem s_fX11_option (M : jm_M) (iM : bI bx1 M) (l1 l2 l3 : Int) (hl1 : jm_in l1) (hl2 : jm_in l2) (hl3 : jm_in l3) : wp (fX11_option M l1 l2 l3) (fun r M1 => bI bx1 M1 ∧ Kp (TM1 (l1 + 18)) M M1 ∧ ((-1) ≤ r ∧ r ≤ 30 ∧ ((r = -1 ∧ ¬ (0 ≤ l1 ∧ l1 < M 2 0 5 ∧ l1 < 6 ∧ -1 ≤ l2 ∧ l2 ≤ M 1 0 1 - 2 ∧ -1 ≤ l3 ∧ l3 ≤ 3 ∧ M 10 (l1 + 18) 3 < lim1 (l1 + 18)) ∧ M1 10 (l1 + 18) 3 = M 10 (l1 + 18) 3) ∨ ((0 ≤ l1 ∧ l1 < M 2 0 5 ∧ l1 < 6 ∧ -1 ≤ l2 ∧ l2 ≤ M 1 0 1 - 2 ∧ -1 ≤ l3 ∧ l3 ≤ 3) ∧ M 10 (l1 + 18) 3 < lim1 (l1 + 18) ∧ M1 10 (l1 + 18) 3 = M 10 (l1 + 18) 3 + 1 ∧ r = M1 10 (l1 + 18) 3)))) := by
  have kM : Kp (TM1 (l1 + 18)) M M := Kp.rf
  unfold fX11_option
  refine wp_bp (s_fX2_has M iM l1 hl1 ) (fun v1 hv1 => ?_)
  have b_1 : -2147483648 ≤ l1 ∧ l1 ≤ 2147483647 := hl1
  have b_2 : 0 ≤ (M 2 0 5) ∧ (M 2 0 5) ≤ 6 := iM 2 0 5
  refine wp_ite (fun c_3 => ?_) (fun c_3 => ?_)
  · skip
    have b_4 : 0 ≤ (M 10 (l1 + 18) 3) ∧ (M 10 (l1 + 18) 3) ≤ 30 := jm_b10 (iM 10 (l1 + 18) 3) (lim1_any _).2
    exact wp_ret ⟨iM, kM, by omega, by omega, by omega⟩
  · skip
    refine wp_bp (s_fX11_isWithin M iM l2 (-1) (jm_w ((M 1 0 1) - 2)) hl2 (jm_inL (by decide) (by decide)) (jm_w_in _) ) (fun v6 hv6 => ?_)
    have b_5 : -2147483648 ≤ l2 ∧ l2 ≤ 2147483647 := hl2
    have b_6 : 1 ≤ (M 1 0 1) ∧ (M 1 0 1) ≤ 12 := iM 1 0 1
    have w_7 : (jm_w ((M 1 0 1) - 2)) = ((M 1 0 1) - 2) := jm_wid (by omega) (by omega)
    refine wp_ite (fun c_8 => ?_) (fun c_8 => ?_)
    · skip
      have b_9 : 0 ≤ (M 10 (l1 + 18) 3) ∧ (M 10 (l1 + 18) 3) ≤ 4 := jm_b10 (iM 10 (l1 + 18) 3) (Int.le_of_eq (lim1_18 (by omega) (by omega)))
      exact wp_ret ⟨iM, kM, by omega, by omega, by omega⟩
    · skip
      refine wp_bp (s_fX11_isWithin M iM l3 (-1) 3 hl3 (jm_inL (by decide) (by decide)) (jm_inL (by decide) (by decide)) ) (fun v10 hv10 => ?_)
      have b_10 : -2147483648 ≤ l3 ∧ l3 ≤ 2147483647 := hl3
      refine wp_ite (fun c_11 => ?_) (fun c_11 => ?_)
      · skip
        have b_12 : 0 ≤ (M 10 (l1 + 18) 3) ∧ (M 10 (l1 + 18) 3) ≤ 4 := jm_b10 (iM 10 (l1 + 18) 3) (Int.le_of_eq (lim1_18 (by omega) (by omega)))
        exact wp_ret ⟨iM, kM, by omega, by omega, by omega⟩
      · skip
        refine wp_T ⟨by omega, by omega⟩ ?_
        have b_13 : 0 ≤ (M 10 (l1 + 18) 3) ∧ (M 10 (l1 + 18) 3) ≤ 4 := jm_b10 (iM 10 (l1 + 18) 3) (Int.le_of_eq (lim1_18 (by omega) (by omega)))
        refine wp_bk (s_fX7_push M iM (l1 + 18) l2 l3 0 0 ⟨by omega, by omega⟩ hl2 hl3 (jm_inL (by decide) (by decide)) (jm_inL (by decide) (by decide)) ) (fun v15 M16 iM16 jM16 hv15 => ?_)
        have kM16 := kM.tr jM16 tt_TM1_TPU
        have b_14 : 0 ≤ (M16 10 (l1 + 18) 3) ∧ (M16 10 (l1 + 18) 3) ≤ 4 := jm_b10 (iM16 10 (l1 + 18) 3) (Int.le_of_eq (lim1_18 (by omega) (by omega)))
        exact wp_ret ⟨iM16, kM16, by omega, by omega, by omega⟩
set_option maxHeartbeats 4000000 in
set_option maxRecDepth 100000 in
theorem s_gX11_order_47 (fu : Nat) (hfu : 4000 ≤ fu) (M0 : jm_M) : ∀ (l1 l2 l3 l4 s0 s1 : Int) (M : jm_M) (iM : bI bx1 M) (kM : Kp (TM1 (l1 + 6)) M0 M) (hl1 : 0 ≤ l1 ∧ l1 ≤ 5) (hl2 : 0 ≤ l2 ∧ l2 ≤ 11) (hl3 : 0 ≤ l3 ∧ l3 ≤ 1) (hl4 : jm_in l4) (hs0 : (-1) ≤ s0 ∧ s0 ≤ 0) (hs1 : jm_in s1) (y0 : (0 ≤ l1 ∧ l1 < M 2 0 5 ∧ l1 < 6 ∧ 0 ≤ l2 ∧ l2 < M 1 0 1 ∧ 0 ≤ l3 ∧ l3 ≤ 1 ∧ s0 = l3 - 1 ∧ s1 = l4)) (z0 : M 10 (l1 + 6) 3 = M0 10 (l1 + 6) 3 ∧ M 1 0 0 = M0 1 0 0 ∧ M 1 0 1 = M0 1 0 1 ∧ M 2 0 5 = M0 2 0 5), wp (gX11_order_47 fu  M l1 l2 l3 l4 s0 s1) (fun r M1 => bI bx1 M1 ∧ Kp (TM1 (l1 + 6)) M0 M1 ∧ ((-1) ≤ r ∧ r ≤ 30 ∧ ((r = -1 ∧ ¬ (0 ≤ l1 ∧ l1 < M0 2 0 5 ∧ l1 < 6 ∧ 0 ≤ l2 ∧ l2 < M0 1 0 1 ∧ 0 ≤ l3 ∧ l3 ≤ 1 ∧ l3 - 1 ≤ l4 ∧ l4 ≤ 1 ∧ M0 10 (l1 + 6) 3 < lim1 (l1 + 6)) ∧ M1 10 (l1 + 6) 3 = M0 10 (l1 + 6) 3) ∨ ((0 ≤ l1 ∧ l1 < M0 2 0 5 ∧ l1 < 6 ∧ 0 ≤ l2 ∧ l2 < M0 1 0 1 ∧ 0 ≤ l3 ∧ l3 ≤ 1 ∧ l3 - 1 ≤ l4 ∧ l4 ≤ 1) ∧ M0 10 (l1 + 6) 3 < lim1 (l1 + 6) ∧ M1 10 (l1 + 6) 3 = M0 10 (l1 + 6) 3 + 1 ∧ r = M1 10 (l1 + 6) 3)))) := by
  intro l1 l2 l3 l4 s0 s1 M iM kM hl1 hl2 hl3 hl4 hs0 hs1 y0 z0
  unfold gX11_order_47
  refine wp_bp (s_fX11_isWithin M iM s1 s0 1 hs1 (jm_inL (by omega) (by omega)) (jm_inL (by decide) (by decide)) ) (fun v1 hv1 => ?_)
  have b_1 : -2147483648 ≤ s1 ∧ s1 ≤ 2147483647 := hs1
  refine wp_ite (fun c_2 => ?_) (fun c_2 => ?_)
  · skip
    have b_3 : 0 ≤ (M 10 (l1 + 6) 3) ∧ (M 10 (l1 + 6) 3) ≤ 12 := jm_b10 (iM 10 (l1 + 6) 3) (Int.le_of_eq (lim1_6 (by omega) (by omega)))
    exact wp_ret ⟨iM, kM, by omega, by omega, by omega⟩
  · skip
    refine wp_sk iM (jm_inL (by decide) (by decide)) kM (by unfold TM1 RC1; omega) (fun M5 u_4 iM5 kM5 => ?_)
    refine wp_T ⟨by omega, by omega⟩ ?_
    have q_5 : (M5 10 (l1 + 6) 3) = (M 10 (l1 + 6) 3) := by rw [u_4]; exact jm_une_f (by decide)
    have b_6 : 0 ≤ (M 10 (l1 + 6) 3) ∧ (M 10 (l1 + 6) 3) ≤ 12 := jm_b10 (iM 10 (l1 + 6) 3) (Int.le_of_eq (lim1_6 (by omega) (by omega)))
    refine wp_bk (s_fX7_push M5 iM5 (l1 + 6) l2 l3 l4 0 ⟨by omega, by omega⟩ (jm_inL (by omega) (by omega)) (jm_inL (by omega) (by omega)) hl4 (jm_inL (by decide) (by decide)) ) (fun v7 M8 iM8 jM8 hv7 => ?_)
    have kM8 := kM5.tr jM8 tt_TM1_TPU
    have b_7 : 0 ≤ (M8 10 (l1 + 6) 3) ∧ (M8 10 (l1 + 6) 3) ≤ 12 := jm_b10 (iM8 10 (l1 + 6) 3) (Int.le_of_eq (lim1_6 (by omega) (by omega)))
    exact wp_ret ⟨iM8, kM8, by omega, by omega, by omega⟩
set_option maxHeartbeats 4000000 in
set_option maxRecDepth 100000 in
theorem s_fX11_order (fu : Nat) (hfu : 4000 ≤ fu) (M : jm_M) (iM : bI bx1 M) (l1 l2 l3 l4 : Int) (hl1 : jm_in l1) (hl2 : jm_in l2) (hl3 : jm_in l3) (hl4 : jm_in l4) : wp (fX11_order fu M l1 l2 l3 l4) (fun r M1 => bI bx1 M1 ∧ Kp (TM1 (l1 + 6)) M M1 ∧ ((-1) ≤ r ∧ r ≤ 30 ∧ ((r = -1 ∧ ¬ (0 ≤ l1 ∧ l1 < M 2 0 5 ∧ l1 < 6 ∧ 0 ≤ l2 ∧ l2 < M 1 0 1 ∧ 0 ≤ l3 ∧ l3 ≤ 1 ∧ l3 - 1 ≤ l4 ∧ l4 ≤ 1 ∧ M 10 (l1 + 6) 3 < lim1 (l1 + 6)) ∧ M1 10 (l1 + 6) 3 = M 10 (l1 + 6) 3) ∨ ((0 ≤ l1 ∧ l1 < M 2 0 5 ∧ l1 < 6 ∧ 0 ≤ l2 ∧ l2 < M 1 0 1 ∧ 0 ≤ l3 ∧ l3 ≤ 1 ∧ l3 - 1 ≤ l4 ∧ l4 ≤ 1) ∧ M 10 (l1 + 6) 3 < lim1 (l1 + 6) ∧ M1 10 (l1 + 6) 3 = M 10 (l1 + 6) 3 + 1 ∧ r = M1 10 (l1 + 6) 3)))) := by
  have kM : Kp (TM1 (l1 + 6)) M M := Kp.rf
  unfold fX11_order
  refine wp_bp (s_fX2_has M iM l1 hl1 ) (fun v1 hv1 => ?_)
  have b_1 : -2147483648 ≤ l1 ∧ l1 ≤ 2147483647 := hl1
  have b_2 : 0 ≤ (M 2 0 5) ∧ (M 2 0 5) ≤ 6 := iM 2 0 5
  refine wp_ite (fun c_3 => ?_) (fun c_3 => ?_)
  · skip
    have b_4 : 0 ≤ (M 10 (l1 + 6) 3) ∧ (M 10 (l1 + 6) 3) ≤ 30 := jm_b10 (iM 10 (l1 + 6) 3) (lim1_any _).2
    exact wp_ret ⟨iM, kM, by omega, by omega, by omega⟩
  · skip
    have b_5 : 1 ≤ (M 1 0 1) ∧ (M 1 0 1) ≤ 12 := iM 1 0 1
    refine wp_bp (s_fX11_isIndex M iM l2 (M 1 0 1) hl2 ⟨by omega, by omega⟩ ) (fun v6 hv6 => ?_)
    have b_6 : -2147483648 ≤ l2 ∧ l2 ≤ 2147483647 := hl2
    refine wp_ite (fun c_7 => ?_) (fun c_7 => ?_)
    · skip
      have b_8 : 0 ≤ (M 10 (l1 + 6) 3) ∧ (M 10 (l1 + 6) 3) ≤ 12 := jm_b10 (iM 10 (l1 + 6) 3) (Int.le_of_eq (lim1_6 (by omega) (by omega)))
      exact wp_ret ⟨iM, kM, by omega, by omega, by omega⟩
    · skip
      refine wp_bp (s_fX11_isWithin M iM l3 0 1 hl3 (jm_inL (by decide) (by decide)) (jm_inL (by decide) (by decide)) ) (fun v10 hv10 => ?_)
      have b_9 : -2147483648 ≤ l3 ∧ l3 ≤ 2147483647 := hl3
      refine wp_ite (fun c_10 => ?_) (fun c_10 => ?_)
      · skip
        have b_11 : 0 ≤ (M 10 (l1 + 6) 3) ∧ (M 10 (l1 + 6) 3) ≤ 12 := jm_b10 (iM 10 (l1 + 6) 3) (Int.le_of_eq (lim1_6 (by omega) (by omega)))
        exact wp_ret ⟨iM, kM, by omega, by omega, by omega⟩
      · skip
        refine wp_ite (fun c_12 => ?_) (fun c_12 => ?_)
        · skip
          have b_13 : -2147483648 ≤ l4 ∧ l4 ≤ 2147483647 := hl4
          have b_14 : 0 ≤ (M 10 (l1 + 6) 3) ∧ (M 10 (l1 + 6) 3) ≤ 12 := jm_b10 (iM 10 (l1 + 6) 3) (Int.le_of_eq (lim1_6 (by omega) (by omega)))
          exact s_gX11_order_47 fu hfu M    l1 l2 l3 l4 (-1) l4 M iM kM ⟨by omega, by omega⟩ ⟨by omega, by omega⟩ ⟨by omega, by omega⟩ hl4 ⟨by omega, by omega⟩ hl4 (by omega) (by omega) 
        · skip
          have b_15 : -2147483648 ≤ l4 ∧ l4 ≤ 2147483647 := hl4
          have b_16 : 0 ≤ (M 10 (l1 + 6) 3) ∧ (M 10 (l1 + 6) 3) ≤ 12 := jm_b10 (iM 10 (l1 + 6) 3) (Int.le_of_eq (lim1_6 (by omega) (by omega)))
          exact s_gX11_order_47 fu hfu M    l1 l2 l3 l4 0 l4 M iM kM ⟨by omega, by omega⟩ ⟨by omega, by omega⟩ ⟨by omega, by omega⟩ hl4 ⟨by omega, by omega⟩ hl4 (by omega) (by omega) 
set_option maxHeartbeats 4000000 in
set_option maxRecDepth 100000 in
theorem s_fX11_place (fu : Nat) (hfu : 4000 ≤ fu) (M : jm_M) (iM : bI bx1 M) (l1 l2 : Int) (hl1 : jm_in l1) (hl2 : jm_in l2) : wp (fX11_place fu M l1 l2) (fun r M1 => bI bx1 M1 ∧ Kp TA M M1 ∧ (jm_in r)) := by
  have kM : Kp TA M M := Kp.rf
  unfold fX11_place
  refine wp_bp (s_fX2_has M iM l1 hl1 ) (fun v1 hv1 => ?_)
  have b_1 : -2147483648 ≤ l1 ∧ l1 ≤ 2147483647 := hl1
  have b_2 : 0 ≤ (M 2 0 5) ∧ (M 2 0 5) ≤ 6 := iM 2 0 5
  refine wp_ite (fun c_3 => ?_) (fun c_3 => ?_)
  · skip
    exact wp_ret ⟨iM, kM, (jm_inL (by decide) (by decide))⟩
  · skip
    refine wp_bp (s_fX11_isDay M iM l2 hl2 ) (fun v5 hv5 => ?_)
    have b_4 : -2147483648 ≤ l2 ∧ l2 ≤ 2147483647 := hl2
    refine wp_ite (fun c_5 => ?_) (fun c_5 => ?_)
    · skip
      exact wp_ret ⟨iM, kM, (jm_inL (by decide) (by decide))⟩
    · skip
      refine wp_bk (s_fX2_reckon fu hfu M iM   ) (fun v9 M10 iM10 jM10 hv9 => ?_)
      have kM10 := kM.tr jM10 (fun _ _ _ h => h)
      refine wp_bk (s_fX5_reckonFor fu hfu M10 iM10 l2 ⟨by omega, by omega⟩ ) (fun v11 M12 iM12 jM12 hv11 => ?_)
      have kM12 := kM10.tr jM12 tt_TA_TJ
      refine wp_bp (s_fX5_placeAmong fu hfu M12 iM12 l1 (-1) ⟨by omega, by omega⟩ (jm_inL (by decide) (by decide)) ) (fun v13 hv13 => ?_)
      have b_6 : -2147483648 ≤ v13 ∧ v13 ≤ 2147483647 := hv13
      exact wp_ret ⟨iM12, kM12, hv13⟩
set_option maxHeartbeats 4000000 in
set_option maxRecDepth 100000 in
theorem s_fX11_takeTape (M : jm_M) (iM : bI bx1 M) : wp (fX11_takeTape M ) (fun r M1 => bI bx1 M1 ∧ Kp TZ1 M M1 ∧ (0 ≤ r ∧ r ≤ 100 ∧ (M1 0 0 7 = 0))) := by
  have kM : Kp TZ1 M M := Kp.rf
  unfold fX11_takeTape
  have b_1 : 0 ≤ (M 0 0 7) ∧ (M 0 0 7) ≤ 100 := iM 0 0 7
  refine wp_e (by exact (jm_inL (by omega) (by omega))) (fun v2 e_2 hv2 => ?_)
  refine wp_sk iM (show 0 ≤ 0 ∧ 0 ≤ 100 by omega) kM (by unfold TZ1 RC1; omega) (fun M4 u_3 iM4 kM4 => ?_)
  have b_4 : -2147483648 ≤ v2 ∧ v2 ≤ 2147483647 := hv2
  have q_5 : (M4 0 0 7) = 0 := by rw [u_3]; exact jm_ueq
  exact wp_ret ⟨iM4, kM4, by omega, by omega, by omega⟩
set_option maxHeartbeats 4000000 in
set_option maxRecDepth 100000 in
theorem s_fX8_empty (M : jm_M) (iM : bI bx1 M) (r0 : Int) (hr0 : 0 ≤ r0 ∧ r0 ≤ 16) : wp (fX8_empty M r0) (fun r M1 => bI bx1 M1 ∧ Kp TX M M1 ∧ (0 ≤ r ∧ r ≤ 0)) := by
  have kM : Kp TX M M := Kp.rf
  unfold fX8_empty
  refine wp_sk iM (show 0 ≤ 0 ∧ 0 ≤ 60 by omega) kM (by unfold TX; omega) (fun M1 u_1 iM1 kM1 => ?_)
  refine wp_sk iM1 (show 0 ≤ 0 ∧ 0 ≤ 21 by omega) kM1 (by unfold TX; omega) (fun M2 u_2 iM2 kM2 => ?_)
  refine wp_sk iM2 (jm_inL (by decide) (by decide)) kM2 (by unfold TX; omega) (fun M3 u_3 iM3 kM3 => ?_)
  exact wp_ret ⟨iM3, kM3, by omega⟩
set_option maxHeartbeats 4000000 in
set_option maxRecDepth 100000 in
theorem s_fX3_beginLine (M : jm_M) (iM : bI bx1 M) : wp (fX3_beginLine M ) (fun r M1 => bI bx1 M1 ∧ Kp TR M M1 ∧ (0 ≤ r ∧ r ≤ 0 ∧ (M1 6 0 1 = 0))) := by
  have kM : Kp TR M M := Kp.rf
  unfold fX3_beginLine
  refine wp_sk iM (jm_inL (by decide) (by decide)) kM (by unfold TR; omega) (fun M1 u_1 iM1 kM1 => ?_)
  refine wp_sk iM1 (show (-1000) ≤ 0 ∧ 0 ≤ 60 by omega) kM1 (by unfold TR; omega) (fun M2 u_2 iM2 kM2 => ?_)
  refine wp_sk iM2 (jm_inL (by decide) (by decide)) kM2 (by unfold TR; omega) (fun M3 u_3 iM3 kM3 => ?_)
  refine wp_sk iM3 (jm_inL (by decide) (by decide)) kM3 (by unfold TR; omega) (fun M4 u_4 iM4 kM4 => ?_)
  refine wp_sk iM4 (show 0 ≤ 0 ∧ 0 ≤ 1 by omega) kM4 (by unfold TR; omega) (fun M5 u_5 iM5 kM5 => ?_)
  have q_6 : (M5 6 0 1) = (M4 6 0 1) := by rw [u_5]; exact jm_une_k (by decide)
  have q_7 : (M4 6 0 1) = (M3 6 0 1) := by rw [u_4]; exact jm_une_k (by decide)
  have q_8 : (M3 6 0 1) = (M2 6 0 1) := by rw [u_3]; exact jm_une_k (by decide)
  have q_9 : (M2 6 0 1) = 0 := by rw [u_2]; exact jm_ueq
  exact wp_ret ⟨iM5, kM5, by omega, by omega, by omega⟩
set_option maxHeartbeats 4000000 in
set_option maxRecDepth 100000 in
theorem s_gX3_firstWrong_a12_121 (fu : Nat) (hfu : 4000 ≤ fu) (M0 : jm_M) : ∀ (l2 : Int) (M : jm_M) (iM : bI bx1 M) (kM : Kp TQ M0 M) (hl2 : 0 ≤ l2 ∧ l2 ≤ 60), wp (gX3_firstWrong_a12_121 fu  M l2) (fun r M1 => bI bx1 M1 ∧ Kp TQ M0 M1 ∧ ((-1) ≤ r ∧ r ≤ 60)) := by
  intro l2 M iM kM hl2
  unfold gX3_firstWrong_a12_121
  exact wp_ret ⟨iM, kM, by omega⟩
set_option maxHeartbeats 4000000 in
set_option maxRecDepth 100000 in
theorem s_gX3_firstWrong_a12_125 (fu : Nat) (hfu : 4000 ≤ fu) (M0 : jm_M) : ∀ (l2 : Int) (M : jm_M) (iM : bI bx1 M) (kM : Kp TQ M0 M) (hl2 : 0 ≤ l2 ∧ l2 ≤ 60), wp (gX3_firstWrong_a12_125 fu  M l2) (fun r M1 => bI bx1 M1 ∧ Kp TQ M0 M1 ∧ ((-1) ≤ r ∧ r ≤ 60)) := by
  intro l2 M iM kM hl2
  unfold gX3_firstWrong_a12_125
  exact wp_ret ⟨iM, kM, by omega⟩
set_option maxHeartbeats 4000000 in
set_option maxRecDepth 100000 in
theorem s_gX3_firstWrong_a12_65 (fu : Nat) (hfu : 4000 ≤ fu) (M0 : jm_M) : ∀ (l2 : Int) (M : jm_M) (iM : bI bx1 M) (kM : Kp TQ M0 M) (hl2 : 0 ≤ l2 ∧ l2 ≤ 100), wp (gX3_firstWrong_a12_65 fu  M l2) (fun r M1 => bI bx1 M1 ∧ Kp TQ M0 M1 ∧ ((-1) ≤ r ∧ r ≤ 60)) := by
  intro l2 M iM kM hl2
  unfold gX3_firstWrong_a12_65
  refine wp_ite (fun c_1 => ?_) (fun c_1 => ?_)
  · skip
    have b_3 : (-2147483648) ≤ (M 6 0 7) ∧ (M 6 0 7) ≤ 2147483647 := iM 6 0 7
    refine wp_ite (fun c_2 => ?_) (fun c_2 => ?_)
    · skip
      have b_5 : (-2147483648) ≤ (M 6 0 6) ∧ (M 6 0 6) ≤ 2147483647 := iM 6 0 6
      refine wp_ite (fun c_4 => ?_) (fun c_4 => ?_)
      · skip
        exact s_gX3_firstWrong_a12_121 fu hfu M0    l2 M iM kM ⟨by omega, by omega⟩  
      · skip
        refine wp_ite (fun c_6 => ?_) (fun c_6 => ?_)
        · skip
          have b_8 : (-2147483648) ≤ (M 6 0 5) ∧ (M 6 0 5) ≤ 2147483647 := iM 6 0 5
          refine wp_ite (fun c_7 => ?_) (fun c_7 => ?_)
          · skip
            exact s_gX3_firstWrong_a12_125 fu hfu M0    l2 M iM kM ⟨by omega, by omega⟩  
          · skip
            exact s_gX3_firstWrong_a12_121 fu hfu M0    l2 M iM kM ⟨by omega, by omega⟩  
        · skip
          exact s_gX3_firstWrong_a12_125 fu hfu M0    l2 M iM kM ⟨by omega, by omega⟩  
    · skip
      have b_10 : (-2147483648) ≤ (M 6 0 6) ∧ (M 6 0 6) ≤ 2147483647 := iM 6 0 6
      refine wp_ite (fun c_9 => ?_) (fun c_9 => ?_)
      · skip
        exact wp_ret ⟨iM, kM, by omega⟩
      · skip
        exact wp_ret ⟨iM, kM, by omega⟩
  · skip
    exact wp_ret ⟨iM, kM, by omega⟩
set_option maxHeartbeats 4000000 in
set_option maxRecDepth 100000 in
theorem s_fX3_isDigit (M : jm_M) (iM : bI bx1 M) (l0 : Int) (hl0 : jm_in l0) : wp (fX3_isDigit M l0) (fun r M1 => M1 = M ∧ ((r = 1 ∧ 48 ≤ l0 ∧ l0 ≤ 57) ∨ (r = 0 ∧ ¬ (48 ≤ l0 ∧ l0 ≤ 57)))) := by
  unfold fX3_isDigit
  have b_2 : -2147483648 ≤ l0 ∧ l0 ≤ 2147483647 := hl0
  refine wp_ite (fun c_1 => ?_) (fun c_1 => ?_)
  · skip
    exact wp_ret ⟨rfl, by omega⟩
  · skip
    refine wp_ite (fun c_3 => ?_) (fun c_3 => ?_)
    · skip
      exact wp_ret ⟨rfl, by omega⟩
    · skip
      exact wp_ret ⟨rfl, by omega⟩
set_option maxHeartbeats 4000000 in
set_option maxRecDepth 100000 in
theorem s_gX3_isLetter_14 (fu : Nat) (hfu : 4000 ≤ fu) (M : jm_M) (iM : bI bx1 M) : ∀ (l1 u0 : Int) (hl1 : jm_in l1) (hu0 : 0 ≤ u0 ∧ u0 ≤ 1), wp (gX3_isLetter_14 fu  M l1 u0) (fun r M1 => M1 = M ∧ (0 ≤ r ∧ r ≤ 1)) := by
  intro l1 u0 hl1 hu0
  unfold gX3_isLetter_14
  have b_2 : -2147483648 ≤ l1 ∧ l1 ≤ 2147483647 := hl1
  refine wp_ite (fun c_1 => ?_) (fun c_1 => ?_)
  · skip
    exact wp_ret ⟨rfl, by omega⟩
  · skip
    refine wp_ite (fun c_3 => ?_) (fun c_3 => ?_)
    · skip
      exact wp_ret ⟨rfl, by omega⟩
    · skip
      refine wp_bp (s_fS_indexOf M u0 (jm_chr l1)) (fun v3 hv3 => ?_)
      refine wp_ite (fun c_4 => ?_) (fun c_4 => ?_)
      · skip
        exact wp_ret ⟨rfl, by omega⟩
      · skip
        exact wp_ret ⟨rfl, by omega⟩
set_option maxHeartbeats 4000000 in
set_option maxRecDepth 100000 in
theorem s_fX3_isLetter (fu : Nat) (hfu : 4000 ≤ fu) (M : jm_M) (iM : bI bx1 M) (l1 : Int) (hl1 : jm_in l1) : wp (fX3_isLetter fu M l1) (fun r M1 => M1 = M ∧ (0 ≤ r ∧ r ≤ 1)) := by
  unfold fX3_isLetter
  have b_2 : (-2147483648) ≤ (M 6 0 7) ∧ (M 6 0 7) ≤ 2147483647 := iM 6 0 7
  refine wp_ite (fun c_1 => ?_) (fun c_1 => ?_)
  · skip
    have b_3 : -2147483648 ≤ l1 ∧ l1 ≤ 2147483647 := hl1
    exact s_gX3_isLetter_14 fu hfu M iM    l1 1  hl1 ⟨by omega, by omega⟩  
  · skip
    have b_4 : -2147483648 ≤ l1 ∧ l1 ≤ 2147483647 := hl1
    exact s_gX3_isLetter_14 fu hfu M iM    l1 0  hl1 ⟨by omega, by omega⟩  
set_option maxHeartbeats 4000000 in
set_option maxRecDepth 100000 in
theorem s_fX3_hold (M : jm_M) (iM : bI bx1 M) (l1 : Int) (hl1 : jm_in l1) : wp (fX3_hold M l1) (fun r M1 => bI bx1 M1 ∧ Kp TR M M1 ∧ (0 ≤ r ∧ r ≤ 0 ∧ (0 ≤ M1 6 0 1 ∨ M 6 0 1 ≤ M1 6 0 1))) := by
  have kM : Kp TR M M := Kp.rf
  unfold fX3_hold
  have b_1 : (-1000) ≤ (M 6 0 1) ∧ (M 6 0 1) ≤ 60 := iM 6 0 1
  refine wp_bp (s_fX11_isIndex M iM (M 6 0 1) 60 (jm_inL (by omega) (by omega)) ⟨by omega, by omega⟩ ) (fun v2 hv2 => ?_)
  refine wp_ite (fun c_2 => ?_) (fun c_2 => ?_)
  · skip
    exact wp_ret ⟨iM, kM, by omega, by omega, by omega⟩
  · skip
    refine wp_T ⟨by omega, by omega⟩ ?_
    refine wp_sk iM hl1 kM (by unfold TR; omega) (fun M8 u_3 iM8 kM8 => ?_)
    have q_4 : (M8 6 0 1) = (M 6 0 1) := by rw [u_3]; exact jm_une_f (by decide)
    have r_5 : (jm_w ((M8 6 0 1) + 1)) = (jm_w ((M 6 0 1) + 1)) := congrArg jm_w (by omega)
    have w_6 : (jm_w ((M 6 0 1) + 1)) = ((M 6 0 1) + 1) := jm_wid (by omega) (by omega)
    refine wp_sk iM8 (show (-1000) ≤ (jm_w ((M8 6 0 1) + 1)) ∧ (jm_w ((M8 6 0 1) + 1)) ≤ 60 by omega) kM8 (by unfold TR; omega) (fun M10 u_7 iM10 kM10 => ?_)
    have q_8 : (M10 6 0 1) = (jm_w ((M8 6 0 1) + 1)) := by rw [u_7]; exact jm_ueq
    exact wp_ret ⟨iM10, kM10, by omega, by omega, by omega⟩
set_option maxHeartbeats 4000000 in
set_option maxRecDepth 100000 in
theorem s_fX3_opens (M : jm_M) (iM : bI bx1 M) : wp (fX3_opens M ) (fun r M1 => bI bx1 M1 ∧ Kp TR M M1 ∧ (0 ≤ r ∧ r ≤ 1 ∧ (0 ≤ M1 6 0 1 ∨ M 6 0 1 ≤ M1 6 0 1))) := by
  have kM : Kp TR M M := Kp.rf
  unfold fX3_opens
  refine wp_bp (s_fX11_isIndex M iM (M 6 0 3) 60 (iM 6 0 3) ⟨by omega, by omega⟩ ) (fun v2 hv2 => ?_)
  have b_1 : (-2147483648) ≤ (M 6 0 3) ∧ (M 6 0 3) ≤ 2147483647 := iM 6 0 3
  refine wp_ite (fun c_2 => ?_) (fun c_2 => ?_)
  · skip
    have b_3 : (-1000) ≤ (M 6 0 1) ∧ (M 6 0 1) ≤ 60 := iM 6 0 1
    exact wp_ret ⟨iM, kM, by omega, by omega, by omega⟩
  · skip
    refine wp_T ⟨by omega, by omega⟩ ?_
    have b_4 : 0 ≤ (M 6 0 4) ∧ (M 6 0 4) ≤ 1 := iM 6 0 4
    refine wp_T (by omega) ?_
    refine wp_sk iM (show 0 ≤ (M 6 0 4) ∧ (M 6 0 4) ≤ 1 by omega) kM (by unfold TR; omega) (fun M9 u_5 iM9 kM9 => ?_)
    have q_6 : (M9 6 0 3) = (M 6 0 3) := by rw [u_5]; exact jm_une_f (by decide)
    have r_7 : (jm_w ((M9 6 0 3) + 1)) = (jm_w ((M 6 0 3) + 1)) := congrArg jm_w (by omega)
    refine wp_sk iM9 (jm_w_in _) kM9 (by unfold TR; omega) (fun M12 u_8 iM12 kM12 => ?_)
    refine wp_sk iM12 (show 0 ≤ 0 ∧ 0 ≤ 1 by omega) kM12 (by unfold TR; omega) (fun M13 u_9 iM13 kM13 => ?_)
    have q_10 : (M13 6 0 1) = (M12 6 0 1) := by rw [u_9]; exact jm_une_k (by decide)
    have q_11 : (M12 6 0 1) = (M9 6 0 1) := by rw [u_8]; exact jm_une_k (by decide)
    have q_12 : (M9 6 0 1) = (M 6 0 1) := by rw [u_5]; exact jm_une_f (by decide)
    have b_13 : (-1000) ≤ (M 6 0 1) ∧ (M 6 0 1) ≤ 60 := iM 6 0 1
    refine wp_bk (s_fX3_hold M13 iM13 40 (jm_inL (by decide) (by decide)) ) (fun v14 M15 iM15 jM15 hv14 => ?_)
    have kM15 := kM13.tr jM15 (fun _ _ _ h => h)
    refine wp_sk iM15 (jm_inL (by decide) (by decide)) kM15 (by unfold TR; omega) (fun M16 u_14 iM16 kM16 => ?_)
    have q_15 : (M16 6 0 1) = (M15 6 0 1) := by rw [u_14]; exact jm_une_k (by decide)
    have b_16 : (-1000) ≤ (M15 6 0 1) ∧ (M15 6 0 1) ≤ 60 := iM15 6 0 1
    exact wp_ret ⟨iM16, kM16, by omega, by omega, by omega⟩
set_option maxHeartbeats 4000000 in
set_option maxRecDepth 100000 in
theorem s_gX3_takesOperand_113 (fu : Nat) (hfu : 4000 ≤ fu) (M0 : jm_M) : ∀ (l1 : Int) (M : jm_M) (iM : bI bx1 M) (kM : Kp TR M0 M) (hl1 : 33 ≤ l1 ∧ l1 ≤ 45) (z0 : 0 ≤ M 6 0 1 ∨ M0 6 0 1 ≤ M 6 0 1), wp (gX3_takesOperand_113 fu  M l1) (fun r M1 => bI bx1 M1 ∧ Kp TR M0 M1 ∧ (0 ≤ r ∧ r ≤ 1 ∧ (0 ≤ M1 6 0 1 ∨ M0 6 0 1 ≤ M1 6 0 1))) := by
  intro l1 M iM kM hl1 z0
  unfold gX3_takesOperand_113
  refine wp_ite (fun c_1 => ?_) (fun c_1 => ?_)
  · skip
    have b_2 : (-1000) ≤ (M 6 0 1) ∧ (M 6 0 1) ≤ 60 := iM 6 0 1
    refine wp_bk (s_fX3_hold M iM 126 (jm_inL (by decide) (by decide)) ) (fun v2 M3 iM3 jM3 hv2 => ?_)
    have kM3 := kM.tr jM3 (fun _ _ _ h => h)
    refine wp_sk iM3 (jm_inL (by decide) (by decide)) kM3 (by unfold TR; omega) (fun M4 u_3 iM4 kM4 => ?_)
    have q_4 : (M4 6 0 1) = (M3 6 0 1) := by rw [u_3]; exact jm_une_k (by decide)
    have b_5 : (-1000) ≤ (M3 6 0 1) ∧ (M3 6 0 1) ≤ 60 := iM3 6 0 1
    exact wp_ret ⟨iM4, kM4, by omega, by omega, by omega⟩
  · skip
    have b_6 : (-1000) ≤ (M 6 0 1) ∧ (M 6 0 1) ≤ 60 := iM 6 0 1
    refine wp_bk (s_fX3_hold M iM l1 (jm_inL (by omega) (by omega)) ) (fun v5 M6 iM6 jM6 hv5 => ?_)
    have kM6 := kM.tr jM6 (fun _ _ _ h => h)
    refine wp_sk iM6 (jm_inL (by decide) (by decide)) kM6 (by unfold TR; omega) (fun M7 u_7 iM7 kM7 => ?_)
    have q_8 : (M7 6 0 1) = (M6 6 0 1) := by rw [u_7]; exact jm_une_k (by decide)
    have b_9 : (-1000) ≤ (M6 6 0 1) ∧ (M6 6 0 1) ≤ 60 := iM6 6 0 1
    exact wp_ret ⟨iM7, kM7, by omega, by omega, by omega⟩
set_option maxHeartbeats 4000000 in
set_option maxRecDepth 100000 in
theorem s_gX3_takesOperand_90 (fu : Nat) (hfu : 4000 ≤ fu) (M0 : jm_M) : ∀ (l1 : Int) (M : jm_M) (iM : bI bx1 M) (kM : Kp TR M0 M) (hl1 : jm_in l1) (z0 : 0 ≤ M 6 0 1 ∨ M0 6 0 1 ≤ M 6 0 1), wp (gX3_takesOperand_90 fu  M l1) (fun r M1 => bI bx1 M1 ∧ Kp TR M0 M1 ∧ (0 ≤ r ∧ r ≤ 1 ∧ (0 ≤ M1 6 0 1 ∨ M0 6 0 1 ≤ M1 6 0 1))) := by
  intro l1 M iM kM hl1 z0
  unfold gX3_takesOperand_90
  have b_2 : -2147483648 ≤ l1 ∧ l1 ≤ 2147483647 := hl1
  refine wp_ite (fun c_1 => ?_) (fun c_1 => ?_)
  · skip
    have b_3 : (-1000) ≤ (M 6 0 1) ∧ (M 6 0 1) ≤ 60 := iM 6 0 1
    refine wp_bk (s_fX3_opens M iM   ) (fun v2 M3 iM3 jM3 hv2 => ?_)
    have kM3 := kM.tr jM3 (fun _ _ _ h => h)
    refine wp_T (by omega) ?_
    have b_4 : (-1000) ≤ (M3 6 0 1) ∧ (M3 6 0 1) ≤ 60 := iM3 6 0 1
    exact wp_ret ⟨iM3, kM3, by omega, by omega, by omega⟩
  · skip
    refine wp_ite (fun c_5 => ?_) (fun c_5 => ?_)
    · skip
      have b_6 : (-1000) ≤ (M 6 0 1) ∧ (M 6 0 1) ≤ 60 := iM 6 0 1
      exact s_gX3_takesOperand_113 fu hfu M0    l1 M iM kM ⟨by omega, by omega⟩ (by omega) 
    · skip
      refine wp_ite (fun c_7 => ?_) (fun c_7 => ?_)
      · skip
        have b_8 : (-1000) ≤ (M 6 0 1) ∧ (M 6 0 1) ≤ 60 := iM 6 0 1
        exact s_gX3_takesOperand_113 fu hfu M0    l1 M iM kM ⟨by omega, by omega⟩ (by omega) 
      · skip
        have b_9 : (-1000) ≤ (M 6 0 1) ∧ (M 6 0 1) ≤ 60 := iM 6 0 1
        exact wp_ret ⟨iM, kM, by omega, by omega, by omega⟩
set_option maxHeartbeats 4000000 in
set_option maxRecDepth 100000 in
theorem s_fX3_levelOf (M : jm_M) (iM : bI bx1 M) (l0 : Int) (hl0 : jm_in l0) : wp (fX3_levelOf M l0) (fun r M1 => M1 = M ∧ (0 ≤ r ∧ r ≤ 6)) := by
  unfold fX3_levelOf
  have b_2 : -2147483648 ≤ l0 ∧ l0 ≤ 2147483647 := hl0
  refine wp_ite (fun c_1 => ?_) (fun c_1 => ?_)
  · skip
    exact wp_ret ⟨rfl, by omega⟩
  · skip
    refine wp_ite (fun c_3 => ?_) (fun c_3 => ?_)
    · skip
      exact wp_ret ⟨rfl, by omega⟩
    · skip
      refine wp_ite (fun c_4 => ?_) (fun c_4 => ?_)
      · skip
        exact wp_ret ⟨rfl, by omega⟩
      · skip
        refine wp_ite (fun c_5 => ?_) (fun c_5 => ?_)
        · skip
          exact wp_ret ⟨rfl, by omega⟩
        · skip
          refine wp_ite (fun c_6 => ?_) (fun c_6 => ?_)
          · skip
            exact wp_ret ⟨rfl, by omega⟩
          · skip
            refine wp_ite (fun c_7 => ?_) (fun c_7 => ?_)
            · skip
              exact wp_ret ⟨rfl, by omega⟩
            · skip
              refine wp_ite (fun c_8 => ?_) (fun c_8 => ?_)
              · skip
                exact wp_ret ⟨rfl, by omega⟩
              · skip
                refine wp_ite (fun c_9 => ?_) (fun c_9 => ?_)
                · skip
                  exact wp_ret ⟨rfl, by omega⟩
                · skip
                  refine wp_ite (fun c_10 => ?_) (fun c_10 => ?_)
                  · skip
                    exact wp_ret ⟨rfl, by omega⟩
                  · skip
                    refine wp_ite (fun c_11 => ?_) (fun c_11 => ?_)
                    · skip
                      exact wp_ret ⟨rfl, by omega⟩
                    · skip
                      exact wp_ret ⟨rfl, by omega⟩
set_option maxHeartbeats 4000000 in
set_option maxRecDepth 100000 in
theorem s_fX8_emit (M : jm_M) (iM : bI bx1 M) (r0 l1 : Int) (hr0 : 0 ≤ r0 ∧ r0 ≤ 16) (hl1 : jm_in l1) : wp (fX8_emit M r0 l1) (fun r M1 => bI bx1 M1 ∧ Kp TX M M1 ∧ (0 ≤ r ∧ r ≤ 0)) := by
  have kM : Kp TX M M := Kp.rf
  unfold fX8_emit
  have b_1 : 0 ≤ (M 11 r0 1) ∧ (M 11 r0 1) ≤ 60 := iM 11 r0 1
  refine wp_bp (s_fX11_isIndex M iM (M 11 r0 1) 60 (jm_inL (by omega) (by omega)) ⟨by omega, by omega⟩ ) (fun v2 hv2 => ?_)
  refine wp_ite (fun c_2 => ?_) (fun c_2 => ?_)
  · skip
    exact wp_ret ⟨iM, kM, by omega⟩
  · skip
    refine wp_T ⟨by omega, by omega⟩ ?_
    refine wp_sk iM hl1 kM (by unfold TX; omega) (fun M8 u_3 iM8 kM8 => ?_)
    have q_4 : (M8 11 r0 1) = (M 11 r0 1) := by rw [u_3]; exact jm_une_f (by decide)
    have r_5 : (jm_w ((M8 11 r0 1) + 1)) = (jm_w ((M 11 r0 1) + 1)) := congrArg jm_w (by omega)
    have w_6 : (jm_w ((M 11 r0 1) + 1)) = ((M 11 r0 1) + 1) := jm_wid (by omega) (by omega)
    refine wp_sk iM8 (show 0 ≤ (jm_w ((M8 11 r0 1) + 1)) ∧ (jm_w ((M8 11 r0 1) + 1)) ≤ 60 by omega) kM8 (by unfold TX; omega) (fun M10 u_7 iM10 kM10 => ?_)
    exact wp_ret ⟨iM10, kM10, by omega⟩
set_option maxHeartbeats 4000000 in
set_option maxRecDepth 100000 in
theorem s_gX3_release_7 (fu : Nat) (hfu : 4000 ≤ fu) (M0 : jm_M) (k7 : jm_M → Int → Int → jm_R) (N7 : Int) (hk7 : ∀ (l1 l2 : Int) (M : jm_M) (iM : bI bx1 M) (kM : Kp TE M0 M) (hl1 : 1 ≤ l1 ∧ l1 ≤ 5) (hl2 : (-1001) ≤ l2 ∧ l2 ≤ 59) (y0 : 0 ≤ (M 6 0 8)) (z0 : 0 ≤ M 6 0 1 ∨ M0 6 0 1 ≤ M 6 0 1), l2 - (-1002) < N7 → wp (k7 M l1 l2) (fun r M1 => bI bx1 M1 ∧ Kp TE M0 M1 ∧ (0 ≤ r ∧ r ≤ 0 ∧ (0 ≤ M1 6 0 1 ∨ M0 6 0 1 ≤ M1 6 0 1)))) : ∀ (l1 l2 : Int) (M : jm_M) (iM : bI bx1 M) (kM : Kp TE M0 M) (hl1 : 1 ≤ l1 ∧ l1 ≤ 5) (hl2 : (-1001) ≤ l2 ∧ l2 ≤ 59) (y0 : 0 ≤ (M 6 0 8)) (z0 : 0 ≤ M 6 0 1 ∨ M0 6 0 1 ≤ M 6 0 1), l2 - (-1002) < N7 + 1 → wp (gX3_release_7 fu k7 M l1 l2) (fun r M1 => bI bx1 M1 ∧ Kp TE M0 M1 ∧ (0 ≤ r ∧ r ≤ 0 ∧ (0 ≤ M1 6 0 1 ∨ M0 6 0 1 ≤ M1 6 0 1))) := by
  intro l1 l2 M iM kM hl1 hl2 y0 z0 m7
  unfold gX3_release_7
  refine wp_ite (fun c_1 => ?_) (fun c_1 => ?_)
  · skip
    have b_2 : (-1000) ≤ (M 6 0 1) ∧ (M 6 0 1) ≤ 60 := iM 6 0 1
    exact wp_ret ⟨iM, kM, by omega, by omega, by omega⟩
  · skip
    refine wp_T ⟨by omega, by omega⟩ ?_
    refine wp_bp (s_fX3_levelOf M iM (M 25 0 l2) (iM 25 0 l2) ) (fun v4 hv4 => ?_)
    refine wp_ite (fun c_3 => ?_) (fun c_3 => ?_)
    · skip
      have b_4 : (-1000) ≤ (M 6 0 1) ∧ (M 6 0 1) ≤ 60 := iM 6 0 1
      exact wp_ret ⟨iM, kM, by omega, by omega, by omega⟩
    · skip
      have b_5 : (-1) ≤ (M 6 0 8) ∧ (M 6 0 8) ≤ 16 := iM 6 0 8
      refine wp_T ⟨by omega, by omega⟩ ?_
      refine wp_T ⟨by omega, by omega⟩ ?_
      refine wp_bk (s_fX8_emit M iM (M 6 0 8) (jm_w (2000 + (M 25 0 l2))) ⟨by omega, by omega⟩ (jm_w_in _) ) (fun v11 M12 iM12 jM12 hv11 => ?_)
      have kM12 := kM.tr jM12 tt_TE_TX
      refine wp_sk iM12 (show (-1000) ≤ l2 ∧ l2 ≤ 60 by omega) kM12 (by unfold TE; omega) (fun M13 u_6 iM13 kM13 => ?_)
      have w_7 : (jm_w (l2 + (-1))) = (l2 + (-1)) := jm_wid (by omega) (by omega)
      refine wp_e (by exact (jm_w_in _)) (fun v14 e_8 hv14 => ?_)
      have b_9 : -2147483648 ≤ v14 ∧ v14 ≤ 2147483647 := hv14
      have q_10 : (M13 6 0 8) = (M12 6 0 8) := by rw [u_6]; exact jm_une_k (by decide)
      have q_11 : (M12 6 0 8) = (M 6 0 8) := jM12 6 0 8 (by unfold TX; omega)
      have q_12 : (M13 6 0 1) = l2 := by rw [u_6]; exact jm_ueq
      exact hk7 l1 v14 M13 iM13 kM13 ⟨by omega, by omega⟩ ⟨by omega, by omega⟩ (by omega) (by omega) (by omega)
set_option maxHeartbeats 4000000 in
set_option maxRecDepth 100000 in
theorem s_fX3_release_7 (fu : Nat) (hfu : 4000 ≤ fu) (M0 : jm_M) : ∀ (n : Nat) (l1 l2 : Int) (M : jm_M) (iM : bI bx1 M) (kM : Kp TE M0 M) (hl1 : 1 ≤ l1 ∧ l1 ≤ 5) (hl2 : (-1001) ≤ l2 ∧ l2 ≤ 59) (y0 : 0 ≤ (M 6 0 8)) (z0 : 0 ≤ M 6 0 1 ∨ M0 6 0 1 ≤ M 6 0 1), l2 - (-1002) < (n : Int) → wp (fX3_release_7 fu  n M l1 l2) (fun r M1 => bI bx1 M1 ∧ Kp TE M0 M1 ∧ (0 ≤ r ∧ r ≤ 0 ∧ (0 ≤ M1 6 0 1 ∨ M0 6 0 1 ≤ M1 6 0 1))) := by
  intro n
  induction n with
  | zero => intro l1 l2 M iM kM hl1 hl2 y0 z0 hm; exfalso; omega
  | succ n ih =>
    intro l1 l2 M iM kM hl1 hl2 y0 z0 hm
    exact s_gX3_release_7 fu hfu M0 (fX3_release_7 fu  n) (n : Int) ih l1 l2 M iM kM hl1 hl2 y0 z0 (by omega)
set_option maxHeartbeats 4000000 in
set_option maxRecDepth 100000 in
theorem s_fX3_release (fu : Nat) (hfu : 4000 ≤ fu) (M : jm_M) (iM : bI bx1 M) (l1 : Int) (hl1 : 1 ≤ l1 ∧ l1 ≤ 5) (x0 : 0 ≤ (M 6 0 8)) : wp (fX3_release fu M l1) (fun r M1 => bI bx1 M1 ∧ Kp TE M M1 ∧ (0 ≤ r ∧ r ≤ 0 ∧ (0 ≤ M1 6 0 1 ∨ M 6 0 1 ≤ M1 6 0 1))) := by
  have kM : Kp TE M M := Kp.rf
  unfold fX3_release
  have b_1 : (-1000) ≤ (M 6 0 1) ∧ (M 6 0 1) ≤ 60 := iM 6 0 1
  have w_2 : (jm_w ((M 6 0 1) - 1)) = ((M 6 0 1) - 1) := jm_wid (by omega) (by omega)
  refine wp_e (by exact (jm_w_in _)) (fun v2 e_3 hv2 => ?_)
  have b_4 : -2147483648 ≤ v2 ∧ v2 ≤ 2147483647 := hv2
  have b_5 : (-1) ≤ (M 6 0 8) ∧ (M 6 0 8) ≤ 16 := iM 6 0 8
  exact s_fX3_release_7 fu hfu M    fu l1 v2 M iM kM ⟨by omega, by omega⟩ ⟨by omega, by omega⟩ (by omega) (by omega)  (by omega)
set_option maxHeartbeats 4000000 in
set_option maxRecDepth 100000 in
theorem s_fX8_endCondition (M : jm_M) (iM : bI bx1 M) (r0 : Int) (hr0 : 0 ≤ r0 ∧ r0 ≤ 16) : wp (fX8_endCondition M r0) (fun r M1 => bI bx1 M1 ∧ Kp TX M M1 ∧ (0 ≤ r ∧ r ≤ 0)) := by
  have kM : Kp TX M M := Kp.rf
  unfold fX8_endCondition
  have b_1 : 0 ≤ (M 11 r0 6) ∧ (M 11 r0 6) ≤ 21 := iM 11 r0 6
  refine wp_bp (s_fX11_isIndex M iM (M 11 r0 6) 21 (jm_inL (by omega) (by omega)) ⟨by omega, by omega⟩ ) (fun v2 hv2 => ?_)
  refine wp_ite (fun c_2 => ?_) (fun c_2 => ?_)
  · skip
    exact wp_ret ⟨iM, kM, by omega⟩
  · skip
    refine wp_T ⟨by omega, by omega⟩ ?_
    have b_3 : 0 ≤ (M 11 r0 1) ∧ (M 11 r0 1) ≤ 60 := iM 11 r0 1
    refine wp_sk iM (show 0 ≤ (M 11 r0 1) ∧ (M 11 r0 1) ≤ 60 by omega) kM (by unfold TX; omega) (fun M9 u_4 iM9 kM9 => ?_)
    have q_5 : (M9 11 r0 6) = (M 11 r0 6) := by rw [u_4]; exact jm_une_f (by decide)
    refine wp_T ⟨by omega, by omega⟩ ?_
    refine wp_sk iM9 (jm_inL (by decide) (by decide)) kM9 (by unfold TX; omega) (fun M12 u_6 iM12 kM12 => ?_)
    have q_7 : (M12 11 r0 6) = (M9 11 r0 6) := by rw [u_6]; exact jm_une_f (by decide)
    refine wp_T ⟨by omega, by omega⟩ ?_
    refine wp_sk iM12 (jm_inL (by decide) (by decide)) kM12 (by unfold TX; omega) (fun M15 u_8 iM15 kM15 => ?_)
    have q_9 : (M15 11 r0 6) = (M12 11 r0 6) := by rw [u_8]; exact jm_une_f (by decide)
    refine wp_T ⟨by omega, by omega⟩ ?_
    refine wp_sk iM15 (jm_inL (by decide) (by decide)) kM15 (by unfold TX; omega) (fun M18 u_10 iM18 kM18 => ?_)
    have q_11 : (M18 11 r0 6) = (M15 11 r0 6) := by rw [u_10]; exact jm_une_f (by decide)
    have r_12 : (jm_w ((M18 11 r0 6) + 1)) = (jm_w ((M 11 r0 6) + 1)) := congrArg jm_w (by omega)
    have w_13 : (jm_w ((M 11 r0 6) + 1)) = ((M 11 r0 6) + 1) := jm_wid (by omega) (by omega)
    refine wp_sk iM18 (show 0 ≤ (jm_w ((M18 11 r0 6) + 1)) ∧ (jm_w ((M18 11 r0 6) + 1)) ≤ 21 by omega) kM18 (by unfold TX; omega) (fun M20 u_14 iM20 kM20 => ?_)
    exact wp_ret ⟨iM20, kM20, by omega⟩
set_option maxHeartbeats 4000000 in
set_option maxRecDepth 100000 in
theorem s_fX3_endsCondition (fu : Nat) (hfu : 4000 ≤ fu) (M : jm_M) (iM : bI bx1 M) (x0 : 0 ≤ (M 6 0 8)) : wp (fX3_endsCondition fu M ) (fun r M1 => bI bx1 M1 ∧ Kp TR M M1 ∧ (1 ≤ r ∧ r ≤ 1 ∧ (0 ≤ M1 6 0 1 ∨ M 6 0 1 ≤ M1 6 0 1))) := by
  have kM : Kp TR M M := Kp.rf
  unfold fX3_endsCondition
  have b_1 : (-1) ≤ (M 6 0 8) ∧ (M 6 0 8) ≤ 16 := iM 6 0 8
  have b_2 : (-1000) ≤ (M 6 0 1) ∧ (M 6 0 1) ≤ 60 := iM 6 0 1
  refine wp_bk (s_fX3_release fu hfu M iM 1 ⟨by omega, by omega⟩ (by omega)) (fun v1 M2 iM2 jM2 hv1 => ?_)
  have kM2 := kM.tr jM2 tt_TR_TE
  have q_3 : (M2 6 0 8) = (M 6 0 8) := jM2 6 0 8 (by unfold TE; omega)
  refine wp_T ⟨by omega, by omega⟩ ?_
  refine wp_bk (s_fX8_endCondition M2 iM2 (M2 6 0 8) ⟨by omega, by omega⟩ ) (fun v4 M5 iM5 jM5 hv4 => ?_)
  have kM5 := kM2.tr jM5 tt_TR_TX
  have q_4 : (M5 6 0 7) = (M2 6 0 7) := jM5 6 0 7 (by unfold TX; omega)
  have q_5 : (M2 6 0 7) = (M 6 0 7) := jM2 6 0 7 (by unfold TE; omega)
  have b_7 : (-2147483648) ≤ (M 6 0 7) ∧ (M 6 0 7) ≤ 2147483647 := iM 6 0 7
  refine wp_ite (fun c_6 => ?_) (fun c_6 => ?_)
  · skip
    refine wp_sk iM5 (jm_inL (by decide) (by decide)) kM5 (by unfold TR; omega) (fun M8 u_8 iM8 kM8 => ?_)
    have q_9 : (M8 6 0 1) = (M5 6 0 1) := by rw [u_8]; exact jm_une_k (by decide)
    have q_10 : (M5 6 0 1) = (M2 6 0 1) := jM5 6 0 1 (by unfold TX; omega)
    have b_11 : (-1000) ≤ (M2 6 0 1) ∧ (M2 6 0 1) ≤ 60 := iM2 6 0 1
    exact wp_ret ⟨iM8, kM8, by omega, by omega, by omega⟩
  · skip
    refine wp_sk iM5 (jm_inL (by decide) (by decide)) kM5 (by unfold TR; omega) (fun M9 u_12 iM9 kM9 => ?_)
    have q_13 : (M9 6 0 1) = (M5 6 0 1) := by rw [u_12]; exact jm_une_k (by decide)
    have q_14 : (M5 6 0 1) = (M2 6 0 1) := jM5 6 0 1 (by unfold TX; omega)
    have b_15 : (-1000) ≤ (M2 6 0 1) ∧ (M2 6 0 1) ≤ 60 := iM2 6 0 1
    exact wp_ret ⟨iM9, kM9, by omega, by omega, by omega⟩
set_option maxHeartbeats 4000000 in
set_option maxRecDepth 100000 in
theorem s_fX3_takesOperand (fu : Nat) (hfu : 4000 ≤ fu) (M : jm_M) (iM : bI bx1 M) (l1 : Int) (hl1 : jm_in l1) (x0 : 0 ≤ (M 6 0 8)) : wp (fX3_takesOperand fu M l1) (fun r M1 => bI bx1 M1 ∧ Kp TR M M1 ∧ (0 ≤ r ∧ r ≤ 1 ∧ (0 ≤ M1 6 0 1 ∨ M 6 0 1 ≤ M1 6 0 1))) := by
  have kM : Kp TR M M := Kp.rf
  unfold fX3_takesOperand
  refine wp_bp (s_fX3_isDigit M iM l1 hl1 ) (fun v1 hv1 => ?_)
  have b_1 : -2147483648 ≤ l1 ∧ l1 ≤ 2147483647 := hl1
  refine wp_ite (fun c_2 => ?_) (fun c_2 => ?_)
  · skip
    refine wp_bp (s_fX3_isLetter fu hfu M iM l1 hl1 ) (fun v5 hv5 => ?_)
    refine wp_ite (fun c_3 => ?_) (fun c_3 => ?_)
    · skip
      refine wp_ite (fun c_4 => ?_) (fun c_4 => ?_)
      · skip
        have b_6 : (-2147483648) ≤ (M 6 0 7) ∧ (M 6 0 7) ≤ 2147483647 := iM 6 0 7
        refine wp_ite (fun c_5 => ?_) (fun c_5 => ?_)
        · skip
          have b_7 : (-1000) ≤ (M 6 0 1) ∧ (M 6 0 1) ≤ 60 := iM 6 0 1
          exact s_gX3_takesOperand_90 fu hfu M    l1 M iM kM hl1 (by omega) 
        · skip
          have b_9 : (-2147483648) ≤ (M 6 0 6) ∧ (M 6 0 6) ≤ 2147483647 := iM 6 0 6
          refine wp_ite (fun c_8 => ?_) (fun c_8 => ?_)
          · skip
            have b_10 : (-1) ≤ (M 6 0 8) ∧ (M 6 0 8) ≤ 16 := iM 6 0 8
            have b_11 : (-1000) ≤ (M 6 0 1) ∧ (M 6 0 1) ≤ 60 := iM 6 0 1
            refine wp_bk (s_fX3_endsCondition fu hfu M iM   (by omega)) (fun v14 M15 iM15 jM15 hv14 => ?_)
            have kM15 := kM.tr jM15 (fun _ _ _ h => h)
            refine wp_T (by omega) ?_
            have b_12 : (-1000) ≤ (M15 6 0 1) ∧ (M15 6 0 1) ≤ 60 := iM15 6 0 1
            exact wp_ret ⟨iM15, kM15, by omega, by omega, by omega⟩
          · skip
            have b_13 : (-1000) ≤ (M 6 0 1) ∧ (M 6 0 1) ≤ 60 := iM 6 0 1
            exact s_gX3_takesOperand_90 fu hfu M    l1 M iM kM hl1 (by omega) 
      · skip
        have b_14 : (-1000) ≤ (M 6 0 1) ∧ (M 6 0 1) ≤ 60 := iM 6 0 1
        exact s_gX3_takesOperand_90 fu hfu M    l1 M iM kM hl1 (by omega) 
    · skip
      have b_15 : (-1) ≤ (M 6 0 8) ∧ (M 6 0 8) ≤ 16 := iM 6 0 8
      refine wp_T ⟨by omega, by omega⟩ ?_
      refine wp_bk (s_fX8_emit M iM (M 6 0 8) (jm_w ((jm_w (1000 + l1)) - 97)) ⟨by omega, by omega⟩ (jm_w_in _) ) (fun v18 M19 iM19 jM19 hv18 => ?_)
      have kM19 := kM.tr jM19 tt_TR_TX
      refine wp_sk iM19 (jm_inL (by decide) (by decide)) kM19 (by unfold TR; omega) (fun M20 u_16 iM20 kM20 => ?_)
      refine wp_sk iM20 (jm_inL (by decide) (by decide)) kM20 (by unfold TR; omega) (fun M21 u_17 iM21 kM21 => ?_)
      have q_18 : (M21 6 0 1) = (M20 6 0 1) := by rw [u_17]; exact jm_une_k (by decide)
      have q_19 : (M20 6 0 1) = (M19 6 0 1) := by rw [u_16]; exact jm_une_k (by decide)
      have q_20 : (M19 6 0 1) = (M 6 0 1) := jM19 6 0 1 (by unfold TX; omega)
      have b_21 : (-1000) ≤ (M 6 0 1) ∧ (M 6 0 1) ≤ 60 := iM 6 0 1
      exact wp_ret ⟨iM21, kM21, by omega, by omega, by omega⟩
  · skip
    have b_22 : (-1) ≤ (M 6 0 8) ∧ (M 6 0 8) ≤ 16 := iM 6 0 8
    refine wp_T ⟨by omega, by omega⟩ ?_
    refine wp_bk (s_fX8_emit M iM (M 6 0 8) (jm_w (l1 - 48)) ⟨by omega, by omega⟩ (jm_w_in _) ) (fun v23 M24 iM24 jM24 hv23 => ?_)
    have kM24 := kM.tr jM24 tt_TR_TX
    refine wp_sk iM24 (jm_inL (by decide) (by decide)) kM24 (by unfold TR; omega) (fun M25 u_23 iM25 kM25 => ?_)
    refine wp_sk iM25 (jm_inL (by decide) (by decide)) kM25 (by unfold TR; omega) (fun M26 u_24 iM26 kM26 => ?_)
    have q_25 : (M26 6 0 1) = (M25 6 0 1) := by rw [u_24]; exact jm_une_k (by decide)
    have q_26 : (M25 6 0 1) = (M24 6 0 1) := by rw [u_23]; exact jm_une_k (by decide)
    have q_27 : (M24 6 0 1) = (M 6 0 1) := jM24 6 0 1 (by unfold TX; omega)
    have b_28 : (-1000) ≤ (M 6 0 1) ∧ (M 6 0 1) ≤ 60 := iM 6 0 1
    exact wp_ret ⟨iM26, kM26, by omega, by omega, by omega⟩
set_option maxHeartbeats 4000000 in
set_option maxRecDepth 100000 in
theorem s_fX3_closes (fu : Nat) (hfu : 4000 ≤ fu) (M : jm_M) (iM : bI bx1 M) (x0 : 0 ≤ (M 6 0 8)) (x1 : (-900) ≤ (M 6 0 1)) : wp (fX3_closes fu M ) (fun r M1 => bI bx1 M1 ∧ Kp TR M M1 ∧ (0 ≤ r ∧ r ≤ 1 ∧ (-1 ≤ M1 6 0 1 ∨ M 6 0 1 - 1 ≤ M1 6 0 1))) := by
  have kM : Kp TR M M := Kp.rf
  unfold fX3_closes
  refine wp_bp (s_fX11_isIndex M iM (jm_w ((M 6 0 3) - 1)) 60 (jm_w_in _) ⟨by omega, by omega⟩ ) (fun v2 hv2 => ?_)
  have b_1 : (-2147483648) ≤ (M 6 0 3) ∧ (M 6 0 3) ≤ 2147483647 := iM 6 0 3
  have w_2 : -2147483648 ≤ (jm_w ((M 6 0 3) - 1)) ∧ (jm_w ((M 6 0 3) - 1)) ≤ 2147483647 := jm_w_in _
  refine wp_ite (fun c_3 => ?_) (fun c_3 => ?_)
  · skip
    have b_4 : (-1000) ≤ (M 6 0 1) ∧ (M 6 0 1) ≤ 60 := iM 6 0 1
    exact wp_ret ⟨iM, kM, by omega, by omega, by omega⟩
  · skip
    have b_5 : (-1) ≤ (M 6 0 8) ∧ (M 6 0 8) ≤ 16 := iM 6 0 8
    have b_6 : (-1000) ≤ (M 6 0 1) ∧ (M 6 0 1) ≤ 60 := iM 6 0 1
    refine wp_bk (s_fX3_release fu hfu M iM 1 ⟨by omega, by omega⟩ (by omega)) (fun v6 M7 iM7 jM7 hv6 => ?_)
    have kM7 := kM.tr jM7 tt_TR_TE
    have b_7 : (-1000) ≤ (M7 6 0 1) ∧ (M7 6 0 1) ≤ 60 := iM7 6 0 1
    have w_8 : (jm_w ((M7 6 0 1) - 1)) = ((M7 6 0 1) - 1) := jm_wid (by omega) (by omega)
    refine wp_sk iM7 (show (-1000) ≤ (jm_w ((M7 6 0 1) - 1)) ∧ (jm_w ((M7 6 0 1) - 1)) ≤ 60 by omega) kM7 (by unfold TR; omega) (fun M9 u_9 iM9 kM9 => ?_)
    have q_10 : (M9 6 0 3) = (M7 6 0 3) := by rw [u_9]; exact jm_une_k (by decide)
    have q_11 : (M7 6 0 3) = (M 6 0 3) := jM7 6 0 3 (by unfold TE; omega)
    have r_12 : (jm_w ((M9 6 0 3) - 1)) = (jm_w ((M 6 0 3) - 1)) := congrArg jm_w (by omega)
    refine wp_sk iM9 (jm_w_in _) kM9 (by unfold TR; omega) (fun M11 u_13 iM11 kM11 => ?_)
    have q_14 : (M11 6 0 3) = (jm_w ((M9 6 0 3) - 1)) := by rw [u_13]; exact jm_ueq
    refine wp_T ⟨by omega, by omega⟩ ?_
    have r_15 : (M11 26 0 (M11 6 0 3)) = (M11 26 0 (jm_w ((M 6 0 3) - 1))) := by rw [show (M11 6 0 3) = (jm_w ((M 6 0 3) - 1)) by omega]
    have q_16 : (M11 26 0 (jm_w ((M 6 0 3) - 1))) = (M9 26 0 (jm_w ((M 6 0 3) - 1))) := by rw [u_13]; exact jm_une_f (by decide)
    have q_17 : (M9 26 0 (jm_w ((M 6 0 3) - 1))) = (M7 26 0 (jm_w ((M 6 0 3) - 1))) := by rw [u_9]; exact jm_une_f (by decide)
    have q_18 : (M7 26 0 (jm_w ((M 6 0 3) - 1))) = (M 26 0 (jm_w ((M 6 0 3) - 1))) := jM7 26 0 (jm_w ((M 6 0 3) - 1)) (by unfold TE; omega)
    have b_19 : 0 ≤ (M 26 0 (jm_w ((M 6 0 3) - 1))) ∧ (M 26 0 (jm_w ((M 6 0 3) - 1))) ≤ 1 := iM 26 0 (jm_w ((M 6 0 3) - 1))
    refine wp_T (by omega) ?_
    refine wp_sk iM11 (show 0 ≤ (M11 26 0 (M11 6 0 3)) ∧ (M11 26 0 (M11 6 0 3)) ≤ 1 by omega) kM11 (by unfold TR; omega) (fun M15 u_20 iM15 kM15 => ?_)
    have q_21 : (M15 6 0 1) = (M11 6 0 1) := by rw [u_20]; exact jm_une_k (by decide)
    have q_22 : (M11 6 0 1) = (M9 6 0 1) := by rw [u_13]; exact jm_une_k (by decide)
    have q_23 : (M9 6 0 1) = (jm_w ((M7 6 0 1) - 1)) := by rw [u_9]; exact jm_ueq
    exact wp_ret ⟨iM15, kM15, by omega, by omega, by omega⟩
set_option maxHeartbeats 4000000 in
set_option maxRecDepth 100000 in
theorem s_gX3_joins_48 (fu : Nat) (hfu : 4000 ≤ fu) (M0 : jm_M) : ∀ (l1 l2 : Int) (M : jm_M) (iM : bI bx1 M) (kM : Kp TR M0 M) (hl1 : jm_in l1) (hl2 : 1 ≤ l2 ∧ l2 ≤ 5) (y0 : 0 ≤ (M 6 0 8)) (z0 : 0 ≤ M 6 0 1 ∨ M0 6 0 1 ≤ M 6 0 1), wp (gX3_joins_48 fu  M l1 l2) (fun r M1 => bI bx1 M1 ∧ Kp TR M0 M1 ∧ (0 ≤ r ∧ r ≤ 1 ∧ (0 ≤ M1 6 0 1 ∨ M0 6 0 1 ≤ M1 6 0 1))) := by
  intro l1 l2 M iM kM hl1 hl2 y0 z0
  unfold gX3_joins_48
  have b_1 : (-1) ≤ (M 6 0 8) ∧ (M 6 0 8) ≤ 16 := iM 6 0 8
  have b_2 : (-1000) ≤ (M 6 0 1) ∧ (M 6 0 1) ≤ 60 := iM 6 0 1
  refine wp_bk (s_fX3_release fu hfu M iM l2 ⟨by omega, by omega⟩ (by omega)) (fun v1 M2 iM2 jM2 hv1 => ?_)
  have kM2 := kM.tr jM2 tt_TR_TE
  have b_3 : (-1000) ≤ (M2 6 0 1) ∧ (M2 6 0 1) ≤ 60 := iM2 6 0 1
  refine wp_bk (s_fX3_hold M2 iM2 l1 hl1 ) (fun v3 M4 iM4 jM4 hv3 => ?_)
  have kM4 := kM2.tr jM4 (fun _ _ _ h => h)
  refine wp_sk iM4 (jm_inL (by decide) (by decide)) kM4 (by unfold TR; omega) (fun M5 u_4 iM5 kM5 => ?_)
  have q_5 : (M5 6 0 1) = (M4 6 0 1) := by rw [u_4]; exact jm_une_k (by decide)
  have b_6 : (-1000) ≤ (M4 6 0 1) ∧ (M4 6 0 1) ≤ 60 := iM4 6 0 1
  exact wp_ret ⟨iM5, kM5, by omega, by omega, by omega⟩
set_option maxHeartbeats 4000000 in
set_option maxRecDepth 100000 in
theorem s_gX3_joins_29 (fu : Nat) (hfu : 4000 ≤ fu) (M0 : jm_M) : ∀ (l1 l2 : Int) (M : jm_M) (iM : bI bx1 M) (kM : Kp TR M0 M) (hl1 : jm_in l1) (hl2 : 1 ≤ l2 ∧ l2 ≤ 5) (y0 : 0 ≤ (M 6 0 8)) (z0 : 0 ≤ M 6 0 1 ∨ M0 6 0 1 ≤ M 6 0 1), wp (gX3_joins_29 fu  M l1 l2) (fun r M1 => bI bx1 M1 ∧ Kp TR M0 M1 ∧ (0 ≤ r ∧ r ≤ 1 ∧ (0 ≤ M1 6 0 1 ∨ M0 6 0 1 ≤ M1 6 0 1))) := by
  intro l1 l2 M iM kM hl1 hl2 y0 z0
  unfold gX3_joins_29
  refine wp_ite (fun c_1 => ?_) (fun c_1 => ?_)
  · skip
    have b_2 : -2147483648 ≤ l1 ∧ l1 ≤ 2147483647 := hl1
    have b_3 : (-1) ≤ (M 6 0 8) ∧ (M 6 0 8) ≤ 16 := iM 6 0 8
    have b_4 : (-1000) ≤ (M 6 0 1) ∧ (M 6 0 1) ≤ 60 := iM 6 0 1
    exact s_gX3_joins_48 fu hfu M0    l1 l2 M iM kM hl1 ⟨by omega, by omega⟩ (by omega) (by omega) 
  · skip
    refine wp_ite (fun c_5 => ?_) (fun c_5 => ?_)
    · skip
      refine wp_sk iM (show 0 ≤ 1 ∧ 1 ≤ 1 by omega) kM (by unfold TR; omega) (fun M3 u_6 iM3 kM3 => ?_)
      have b_7 : -2147483648 ≤ l1 ∧ l1 ≤ 2147483647 := hl1
      have q_8 : (M3 6 0 8) = (M 6 0 8) := by rw [u_6]; exact jm_une_k (by decide)
      have b_9 : (-1) ≤ (M 6 0 8) ∧ (M 6 0 8) ≤ 16 := iM 6 0 8
      have q_10 : (M3 6 0 1) = (M 6 0 1) := by rw [u_6]; exact jm_une_k (by decide)
      have b_11 : (-1000) ≤ (M 6 0 1) ∧ (M 6 0 1) ≤ 60 := iM 6 0 1
      exact s_gX3_joins_48 fu hfu M0    l1 l2 M3 iM3 kM3 hl1 ⟨by omega, by omega⟩ (by omega) (by omega) 
    · skip
      refine wp_sk iM (show 0 ≤ 0 ∧ 0 ≤ 1 by omega) kM (by unfold TR; omega) (fun M4 u_12 iM4 kM4 => ?_)
      have b_13 : -2147483648 ≤ l1 ∧ l1 ≤ 2147483647 := hl1
      have q_14 : (M4 6 0 8) = (M 6 0 8) := by rw [u_12]; exact jm_une_k (by decide)
      have b_15 : (-1) ≤ (M 6 0 8) ∧ (M 6 0 8) ≤ 16 := iM 6 0 8
      have q_16 : (M4 6 0 1) = (M 6 0 1) := by rw [u_12]; exact jm_une_k (by decide)
      have b_17 : (-1000) ≤ (M 6 0 1) ∧ (M 6 0 1) ≤ 60 := iM 6 0 1
      exact s_gX3_joins_48 fu hfu M0    l1 l2 M4 iM4 kM4 hl1 ⟨by omega, by omega⟩ (by omega) (by omega) 
set_option maxHeartbeats 4000000 in
set_option maxRecDepth 100000 in
theorem s_fX3_joins (fu : Nat) (hfu : 4000 ≤ fu) (M : jm_M) (iM : bI bx1 M) (l1 : Int) (hl1 : jm_in l1) (x0 : 0 ≤ (M 6 0 8)) : wp (fX3_joins fu M l1) (fun r M1 => bI bx1 M1 ∧ Kp TR M M1 ∧ (0 ≤ r ∧ r ≤ 1 ∧ (0 ≤ M1 6 0 1 ∨ M 6 0 1 ≤ M1 6 0 1))) := by
  have kM : Kp TR M M := Kp.rf
  unfold fX3_joins
  refine wp_bp (s_fX3_levelOf M iM l1 hl1 ) (fun v1 hv1 => ?_)
  refine wp_ite (fun c_1 => ?_) (fun c_1 => ?_)
  · skip
    have b_2 : (-1000) ≤ (M 6 0 1) ∧ (M 6 0 1) ≤ 60 := iM 6 0 1
    exact wp_ret ⟨iM, kM, by omega, by omega, by omega⟩
  · skip
    refine wp_ite (fun c_3 => ?_) (fun c_3 => ?_)
    · skip
      have b_4 : (-1000) ≤ (M 6 0 1) ∧ (M 6 0 1) ≤ 60 := iM 6 0 1
      exact wp_ret ⟨iM, kM, by omega, by omega, by omega⟩
    · skip
      refine wp_ite (fun c_5 => ?_) (fun c_5 => ?_)
      · skip
        have b_7 : 0 ≤ (M 6 0 4) ∧ (M 6 0 4) ≤ 1 := iM 6 0 4
        refine wp_ite (fun c_6 => ?_) (fun c_6 => ?_)
        · skip
          have b_8 : -2147483648 ≤ l1 ∧ l1 ≤ 2147483647 := hl1
          have b_9 : (-1) ≤ (M 6 0 8) ∧ (M 6 0 8) ≤ 16 := iM 6 0 8
          have b_10 : (-1000) ≤ (M 6 0 1) ∧ (M 6 0 1) ≤ 60 := iM 6 0 1
          exact s_gX3_joins_29 fu hfu M    l1 v1 M iM kM hl1 ⟨by omega, by omega⟩ (by omega) (by omega) 
        · skip
          have b_11 : (-1000) ≤ (M 6 0 1) ∧ (M 6 0 1) ≤ 60 := iM 6 0 1
          exact wp_ret ⟨iM, kM, by omega, by omega, by omega⟩
      · skip
        have b_12 : -2147483648 ≤ l1 ∧ l1 ≤ 2147483647 := hl1
        have b_13 : (-1) ≤ (M 6 0 8) ∧ (M 6 0 8) ≤ 16 := iM 6 0 8
        have b_14 : (-1000) ≤ (M 6 0 1) ∧ (M 6 0 1) ≤ 60 := iM 6 0 1
        exact s_gX3_joins_29 fu hfu M    l1 v1 M iM kM hl1 ⟨by omega, by omega⟩ (by omega) (by omega) 
set_option maxHeartbeats 4000000 in
set_option maxRecDepth 100000 in
theorem s_fX8_addDigit (M : jm_M) (iM : bI bx1 M) (r0 l1 : Int) (hr0 : 0 ≤ r0 ∧ r0 ≤ 16) (hl1 : 0 ≤ l1 ∧ l1 ≤ 9) : wp (fX8_addDigit M r0 l1) (fun r M1 => bI bx1 M1 ∧ Kp TX M M1 ∧ (0 ≤ r ∧ r ≤ 0)) := by
  have kM : Kp TX M M := Kp.rf
  unfold fX8_addDigit
  refine wp_bp (s_fX11_isIndex M iM (jm_w ((M 11 r0 1) - 1)) 60 (jm_w_in _) ⟨by omega, by omega⟩ ) (fun v2 hv2 => ?_)
  have b_1 : 0 ≤ (M 11 r0 1) ∧ (M 11 r0 1) ≤ 60 := iM 11 r0 1
  have w_2 : (jm_w ((M 11 r0 1) - 1)) = ((M 11 r0 1) - 1) := jm_wid (by omega) (by omega)
  refine wp_ite (fun c_3 => ?_) (fun c_3 => ?_)
  · skip
    exact wp_ret ⟨iM, kM, by omega⟩
  · skip
    refine wp_T ⟨by omega, by omega⟩ ?_
    refine wp_T ⟨by omega, by omega⟩ ?_
    refine wp_sk iM (jm_w_in _) kM (by unfold TX; omega) (fun M11 u_4 iM11 kM11 => ?_)
    exact wp_ret ⟨iM11, kM11, by omega⟩
set_option maxHeartbeats 4000000 in
set_option maxRecDepth 100000 in
theorem s_fX3_takesBehindOperand (fu : Nat) (hfu : 4000 ≤ fu) (M : jm_M) (iM : bI bx1 M) (l1 : Int) (hl1 : jm_in l1) (x0 : 0 ≤ (M 6 0 8)) (x1 : (-900) ≤ (M 6 0 1)) : wp (fX3_takesBehindOperand fu M l1) (fun r M1 => bI bx1 M1 ∧ Kp TR M M1 ∧ (0 ≤ r ∧ r ≤ 1 ∧ (-1 ≤ M1 6 0 1 ∨ M 6 0 1 - 1 ≤ M1 6 0 1))) := by
  have kM : Kp TR M M := Kp.rf
  unfold fX3_takesBehindOperand
  refine wp_bp (s_fX3_isDigit M iM l1 hl1 ) (fun v1 hv1 => ?_)
  have b_1 : -2147483648 ≤ l1 ∧ l1 ≤ 2147483647 := hl1
  refine wp_ite (fun c_2 => ?_) (fun c_2 => ?_)
  · skip
    refine wp_sk iM (jm_inL (by decide) (by decide)) kM (by unfold TR; omega) (fun M5 u_3 iM5 kM5 => ?_)
    refine wp_ite (fun c_4 => ?_) (fun c_4 => ?_)
    · skip
      have q_5 : (M5 6 0 3) = (M 6 0 3) := by rw [u_3]; exact jm_une_k (by decide)
      have b_7 : (-2147483648) ≤ (M 6 0 3) ∧ (M 6 0 3) ≤ 2147483647 := iM 6 0 3
      refine wp_ite (fun c_6 => ?_) (fun c_6 => ?_)
      · skip
        have q_8 : (M5 6 0 8) = (M 6 0 8) := by rw [u_3]; exact jm_une_k (by decide)
        have b_9 : (-1) ≤ (M 6 0 8) ∧ (M 6 0 8) ≤ 16 := iM 6 0 8
        have q_10 : (M5 6 0 1) = (M 6 0 1) := by rw [u_3]; exact jm_une_k (by decide)
        have b_11 : (-1000) ≤ (M 6 0 1) ∧ (M 6 0 1) ≤ 60 := iM 6 0 1
        refine wp_bk (s_fX3_endsCondition fu hfu M5 iM5   (by omega)) (fun v9 M10 iM10 jM10 hv9 => ?_)
        have kM10 := kM5.tr jM10 (fun _ _ _ h => h)
        refine wp_F (by omega) ?_
        have b_13 : (-1000) ≤ (M10 6 0 1) ∧ (M10 6 0 1) ≤ 60 := iM10 6 0 1
        exact wp_ret ⟨iM10, kM10, by omega, by omega, by omega⟩
      · skip
        have q_14 : (M5 6 0 1) = (M 6 0 1) := by rw [u_3]; exact jm_une_k (by decide)
        have b_15 : (-1000) ≤ (M 6 0 1) ∧ (M 6 0 1) ≤ 60 := iM 6 0 1
        exact wp_ret ⟨iM5, kM5, by omega, by omega, by omega⟩
    · skip
      refine wp_ite (fun c_16 => ?_) (fun c_16 => ?_)
      · skip
        have q_17 : (M5 6 0 8) = (M 6 0 8) := by rw [u_3]; exact jm_une_k (by decide)
        have b_18 : (-1) ≤ (M 6 0 8) ∧ (M 6 0 8) ≤ 16 := iM 6 0 8
        have q_19 : (M5 6 0 1) = (M 6 0 1) := by rw [u_3]; exact jm_une_k (by decide)
        have b_20 : (-1000) ≤ (M 6 0 1) ∧ (M 6 0 1) ≤ 60 := iM 6 0 1
        refine wp_bk (s_fX3_closes fu hfu M5 iM5   (by omega) (by omega)) (fun v14 M15 iM15 jM15 hv14 => ?_)
        have kM15 := kM5.tr jM15 (fun _ _ _ h => h)
        refine wp_T (by omega) ?_
        have b_21 : (-1000) ≤ (M15 6 0 1) ∧ (M15 6 0 1) ≤ 60 := iM15 6 0 1
        exact wp_ret ⟨iM15, kM15, by omega, by omega, by omega⟩
      · skip
        have q_22 : (M5 6 0 8) = (M 6 0 8) := by rw [u_3]; exact jm_une_k (by decide)
        have b_23 : (-1) ≤ (M 6 0 8) ∧ (M 6 0 8) ≤ 16 := iM 6 0 8
        have q_24 : (M5 6 0 1) = (M 6 0 1) := by rw [u_3]; exact jm_une_k (by decide)
        have b_25 : (-1000) ≤ (M 6 0 1) ∧ (M 6 0 1) ≤ 60 := iM 6 0 1
        refine wp_bk (s_fX3_joins fu hfu M5 iM5 l1 hl1 (by omega)) (fun v17 M18 iM18 jM18 hv17 => ?_)
        have kM18 := kM5.tr jM18 (fun _ _ _ h => h)
        refine wp_T (by omega) ?_
        have b_26 : (-1000) ≤ (M18 6 0 1) ∧ (M18 6 0 1) ≤ 60 := iM18 6 0 1
        exact wp_ret ⟨iM18, kM18, by omega, by omega, by omega⟩
  · skip
    have b_28 : (-2147483648) ≤ (M 6 0 5) ∧ (M 6 0 5) ≤ 2147483647 := iM 6 0 5
    refine wp_ite (fun c_27 => ?_) (fun c_27 => ?_)
    · skip
      have b_29 : (-1000) ≤ (M 6 0 1) ∧ (M 6 0 1) ≤ 60 := iM 6 0 1
      exact wp_ret ⟨iM, kM, by omega, by omega, by omega⟩
    · skip
      refine wp_ite (fun c_30 => ?_) (fun c_30 => ?_)
      · skip
        have b_31 : (-1) ≤ (M 6 0 8) ∧ (M 6 0 8) ≤ 16 := iM 6 0 8
        refine wp_T ⟨by omega, by omega⟩ ?_
        have w_32 : (jm_w (l1 - 48)) = (l1 - 48) := jm_wid (by omega) (by omega)
        refine wp_bk (s_fX8_addDigit M iM (M 6 0 8) (jm_w (l1 - 48)) ⟨by omega, by omega⟩ ⟨by omega, by omega⟩ ) (fun v25 M26 iM26 jM26 hv25 => ?_)
        have kM26 := kM.tr jM26 tt_TR_TX
        have q_33 : (M26 6 0 5) = (M 6 0 5) := jM26 6 0 5 (by unfold TX; omega)
        have r_34 : (jm_w ((M26 6 0 5) + 1)) = (jm_w ((M 6 0 5) + 1)) := congrArg jm_w (by omega)
        refine wp_sk iM26 (jm_w_in _) kM26 (by unfold TR; omega) (fun M28 u_35 iM28 kM28 => ?_)
        have q_36 : (M28 6 0 1) = (M26 6 0 1) := by rw [u_35]; exact jm_une_k (by decide)
        have q_37 : (M26 6 0 1) = (M 6 0 1) := jM26 6 0 1 (by unfold TX; omega)
        have b_38 : (-1000) ≤ (M 6 0 1) ∧ (M 6 0 1) ≤ 60 := iM 6 0 1
        exact wp_ret ⟨iM28, kM28, by omega, by omega, by omega⟩
      · skip
        have b_39 : (-1000) ≤ (M 6 0 1) ∧ (M 6 0 1) ≤ 60 := iM 6 0 1
        exact wp_ret ⟨iM, kM, by omega, by omega, by omega⟩
set_option maxHeartbeats 4000000 in
set_option maxRecDepth 100000 in
theorem s_fX3_takesVerdict (M : jm_M) (iM : bI bx1 M) (l1 : Int) (hl1 : jm_in l1) (x0 : 0 ≤ (M 6 0 8)) : wp (fX3_takesVerdict M l1) (fun r M1 => bI bx1 M1 ∧ Kp TR M M1 ∧ (0 ≤ r ∧ r ≤ 1 ∧ (0 ≤ M1 6 0 1 ∨ M 6 0 1 ≤ M1 6 0 1))) := by
  have kM : Kp TR M M := Kp.rf
  unfold fX3_takesVerdict
  have b_2 : -2147483648 ≤ l1 ∧ l1 ≤ 2147483647 := hl1
  refine wp_ite (fun c_1 => ?_) (fun c_1 => ?_)
  · skip
    have b_3 : (-1) ≤ (M 6 0 8) ∧ (M 6 0 8) ≤ 16 := iM 6 0 8
    refine wp_T ⟨by omega, by omega⟩ ?_
    refine wp_sk iM (jm_inL (by decide) (by decide)) kM (by unfold TR; omega) (fun M3 u_4 iM3 kM3 => ?_)
    refine wp_sk iM3 (jm_inL (by decide) (by decide)) kM3 (by unfold TR; omega) (fun M4 u_5 iM4 kM4 => ?_)
    have q_6 : (M4 6 0 1) = (M3 6 0 1) := by rw [u_5]; exact jm_une_k (by decide)
    have q_7 : (M3 6 0 1) = (M 6 0 1) := by rw [u_4]; exact jm_une_f (by decide)
    have b_8 : (-1000) ≤ (M 6 0 1) ∧ (M 6 0 1) ≤ 60 := iM 6 0 1
    exact wp_ret ⟨iM4, kM4, by omega, by omega, by omega⟩
  · skip
    refine wp_sk iM (jm_inL (by decide) (by decide)) kM (by unfold TR; omega) (fun M5 u_9 iM5 kM5 => ?_)
    refine wp_sk iM5 (jm_inL (by decide) (by decide)) kM5 (by unfold TR; omega) (fun M6 u_10 iM6 kM6 => ?_)
    refine wp_ite (fun c_11 => ?_) (fun c_11 => ?_)
    · skip
      have q_12 : (M6 6 0 1) = (M5 6 0 1) := by rw [u_10]; exact jm_une_k (by decide)
      have q_13 : (M5 6 0 1) = (M 6 0 1) := by rw [u_9]; exact jm_une_k (by decide)
      have b_14 : (-1000) ≤ (M 6 0 1) ∧ (M 6 0 1) ≤ 60 := iM 6 0 1
      exact wp_ret ⟨iM6, kM6, by omega, by omega, by omega⟩
    · skip
      have q_15 : (M6 6 0 1) = (M5 6 0 1) := by rw [u_10]; exact jm_une_k (by decide)
      have q_16 : (M5 6 0 1) = (M 6 0 1) := by rw [u_9]; exact jm_une_k (by decide)
      have b_17 : (-1000) ≤ (M 6 0 1) ∧ (M 6 0 1) ≤ 60 := iM 6 0 1
      exact wp_ret ⟨iM6, kM6, by omega, by omega, by omega⟩
set_option maxHeartbeats 4000000 in
set_option maxRecDepth 100000 in
theorem s_fX3_takesSeconds (M : jm_M) (iM : bI bx1 M) (l1 : Int) (hl1 : jm_in l1) (x0 : 0 ≤ (M 6 0 8)) : wp (fX3_takesSeconds M l1) (fun r M1 => bI bx1 M1 ∧ Kp TR M M1 ∧ (0 ≤ r ∧ r ≤ 1 ∧ (0 ≤ M1 6 0 1 ∨ M 6 0 1 ≤ M1 6 0 1))) := by
  have kM : Kp TR M M := Kp.rf
  unfold fX3_takesSeconds
  refine wp_bp (s_fX3_isDigit M iM l1 hl1 ) (fun v1 hv1 => ?_)
  have b_1 : -2147483648 ≤ l1 ∧ l1 ≤ 2147483647 := hl1
  refine wp_ite (fun c_2 => ?_) (fun c_2 => ?_)
  · skip
    have b_3 : (-1000) ≤ (M 6 0 1) ∧ (M 6 0 1) ≤ 60 := iM 6 0 1
    exact wp_ret ⟨iM, kM, by omega, by omega, by omega⟩
  · skip
    have b_5 : (-2147483648) ≤ (M 6 0 5) ∧ (M 6 0 5) ≤ 2147483647 := iM 6 0 5
    refine wp_ite (fun c_4 => ?_) (fun c_4 => ?_)
    · skip
      have b_6 : (-1) ≤ (M 6 0 8) ∧ (M 6 0 8) ≤ 16 := iM 6 0 8
      refine wp_T ⟨by omega, by omega⟩ ?_
      refine wp_T ⟨by omega, by omega⟩ ?_
      refine wp_sk iM (jm_w_in _) kM (by unfold TR; omega) (fun M10 u_7 iM10 kM10 => ?_)
      have q_8 : (M10 6 0 5) = (M 6 0 5) := by rw [u_7]; exact jm_une_f (by decide)
      have r_9 : (jm_w ((M10 6 0 5) + 1)) = (jm_w ((M 6 0 5) + 1)) := congrArg jm_w (by omega)
      refine wp_sk iM10 (jm_w_in _) kM10 (by unfold TR; omega) (fun M12 u_10 iM12 kM12 => ?_)
      have q_11 : (M12 6 0 1) = (M10 6 0 1) := by rw [u_10]; exact jm_une_k (by decide)
      have q_12 : (M10 6 0 1) = (M 6 0 1) := by rw [u_7]; exact jm_une_f (by decide)
      have b_13 : (-1000) ≤ (M 6 0 1) ∧ (M 6 0 1) ≤ 60 := iM 6 0 1
      exact wp_ret ⟨iM12, kM12, by omega, by omega, by omega⟩
    · skip
      have b_14 : (-1000) ≤ (M 6 0 1) ∧ (M 6 0 1) ≤ 60 := iM 6 0 1
      exact wp_ret ⟨iM, kM, by omega, by omega, by omega⟩
set_option maxHeartbeats 4000000 in
set_option maxRecDepth 100000 in
theorem s_fX8_act (M : jm_M) (iM : bI bx1 M) (r0 l1 : Int) (hr0 : 0 ≤ r0 ∧ r0 ≤ 16) (hl1 : 43 ≤ l1 ∧ l1 ≤ 120) : wp (fX8_act M r0 l1) (fun r M1 => bI bx1 M1 ∧ Kp TX M M1 ∧ (0 ≤ r ∧ r ≤ 0)) := by
  have kM : Kp TX M M := Kp.rf
  unfold fX8_act
  have b_1 : 0 ≤ (M 11 r0 6) ∧ (M 11 r0 6) ≤ 21 := iM 11 r0 6
  have w_2 : (jm_w ((M 11 r0 6) - 1)) = ((M 11 r0 6) - 1) := jm_wid (by omega) (by omega)
  refine wp_e (by exact (jm_w_in _)) (fun v2 e_3 hv2 => ?_)
  refine wp_bp (s_fX11_isIndex M iM v2 21 hv2 ⟨by omega, by omega⟩ ) (fun v4 hv4 => ?_)
  have b_4 : -2147483648 ≤ v2 ∧ v2 ≤ 2147483647 := hv2
  refine wp_ite (fun c_5 => ?_) (fun c_5 => ?_)
  · skip
    exact wp_ret ⟨iM, kM, by omega⟩
  · skip
    refine wp_ite (fun c_6 => ?_) (fun c_6 => ?_)
    · skip
      refine wp_T ⟨by omega, by omega⟩ ?_
      refine wp_sk iM (jm_inL (by decide) (by decide)) kM (by unfold TX; omega) (fun M10 u_7 iM10 kM10 => ?_)
      exact wp_ret ⟨iM10, kM10, by omega⟩
    · skip
      refine wp_ite (fun c_8 => ?_) (fun c_8 => ?_)
      · skip
        refine wp_T ⟨by omega, by omega⟩ ?_
        refine wp_sk iM (jm_inL (by decide) (by decide)) kM (by unfold TX; omega) (fun M13 u_9 iM13 kM13 => ?_)
        exact wp_ret ⟨iM13, kM13, by omega⟩
      · skip
        refine wp_ite (fun c_10 => ?_) (fun c_10 => ?_)
        · skip
          refine wp_T ⟨by omega, by omega⟩ ?_
          refine wp_sk iM (jm_inL (by decide) (by decide)) kM (by unfold TX; omega) (fun M16 u_11 iM16 kM16 => ?_)
          exact wp_ret ⟨iM16, kM16, by omega⟩
        · skip
          refine wp_ite (fun c_12 => ?_) (fun c_12 => ?_)
          · skip
            refine wp_T ⟨by omega, by omega⟩ ?_
            refine wp_sk iM (jm_inL (by decide) (by decide)) kM (by unfold TX; omega) (fun M19 u_13 iM19 kM19 => ?_)
            exact wp_ret ⟨iM19, kM19, by omega⟩
          · skip
            refine wp_ite (fun c_14 => ?_) (fun c_14 => ?_)
            · skip
              refine wp_T ⟨by omega, by omega⟩ ?_
              refine wp_sk iM (jm_inL (by decide) (by decide)) kM (by unfold TX; omega) (fun M22 u_15 iM22 kM22 => ?_)
              exact wp_ret ⟨iM22, kM22, by omega⟩
            · skip
              exact wp_ret ⟨iM, kM, by omega⟩
set_option maxHeartbeats 4000000 in
set_option maxRecDepth 100000 in
theorem s_fX3_takesAct (M : jm_M) (iM : bI bx1 M) (l1 : Int) (hl1 : jm_in l1) (x0 : 0 ≤ (M 6 0 8)) : wp (fX3_takesAct M l1) (fun r M1 => bI bx1 M1 ∧ Kp TR M M1 ∧ (0 ≤ r ∧ r ≤ 1 ∧ (0 ≤ M1 6 0 1 ∨ M 6 0 1 ≤ M1 6 0 1))) := by
  have kM : Kp TR M M := Kp.rf
  unfold fX3_takesAct
  have b_2 : -2147483648 ≤ l1 ∧ l1 ≤ 2147483647 := hl1
  refine wp_ite (fun c_1 => ?_) (fun c_1 => ?_)
  · skip
    have b_3 : (-1) ≤ (M 6 0 8) ∧ (M 6 0 8) ≤ 16 := iM 6 0 8
    refine wp_T ⟨by omega, by omega⟩ ?_
    refine wp_bk (s_fX8_act M iM (M 6 0 8) l1 ⟨by omega, by omega⟩ ⟨by omega, by omega⟩ ) (fun v3 M4 iM4 jM4 hv3 => ?_)
    have kM4 := kM.tr jM4 tt_TR_TX
    refine wp_sk iM4 (jm_inL (by decide) (by decide)) kM4 (by unfold TR; omega) (fun M5 u_4 iM5 kM5 => ?_)
    have q_5 : (M5 6 0 1) = (M4 6 0 1) := by rw [u_4]; exact jm_une_k (by decide)
    have q_6 : (M4 6 0 1) = (M 6 0 1) := jM4 6 0 1 (by unfold TX; omega)
    have b_7 : (-1000) ≤ (M 6 0 1) ∧ (M 6 0 1) ≤ 60 := iM 6 0 1
    exact wp_ret ⟨iM5, kM5, by omega, by omega, by omega⟩
  · skip
    refine wp_ite (fun c_8 => ?_) (fun c_8 => ?_)
    · skip
      have b_9 : (-1) ≤ (M 6 0 8) ∧ (M 6 0 8) ≤ 16 := iM 6 0 8
      refine wp_T ⟨by omega, by omega⟩ ?_
      refine wp_bk (s_fX8_act M iM (M 6 0 8) l1 ⟨by omega, by omega⟩ ⟨by omega, by omega⟩ ) (fun v8 M9 iM9 jM9 hv8 => ?_)
      have kM9 := kM.tr jM9 tt_TR_TX
      refine wp_sk iM9 (jm_inL (by decide) (by decide)) kM9 (by unfold TR; omega) (fun M10 u_10 iM10 kM10 => ?_)
      have q_11 : (M10 6 0 1) = (M9 6 0 1) := by rw [u_10]; exact jm_une_k (by decide)
      have q_12 : (M9 6 0 1) = (M 6 0 1) := jM9 6 0 1 (by unfold TX; omega)
      have b_13 : (-1000) ≤ (M 6 0 1) ∧ (M 6 0 1) ≤ 60 := iM 6 0 1
      exact wp_ret ⟨iM10, kM10, by omega, by omega, by omega⟩
    · skip
      refine wp_ite (fun c_14 => ?_) (fun c_14 => ?_)
      · skip
        have b_15 : (-1) ≤ (M 6 0 8) ∧ (M 6 0 8) ≤ 16 := iM 6 0 8
        refine wp_T ⟨by omega, by omega⟩ ?_
        refine wp_bk (s_fX8_act M iM (M 6 0 8) l1 ⟨by omega, by omega⟩ ⟨by omega, by omega⟩ ) (fun v13 M14 iM14 jM14 hv13 => ?_)
        have kM14 := kM.tr jM14 tt_TR_TX
        refine wp_sk iM14 (jm_inL (by decide) (by decide)) kM14 (by unfold TR; omega) (fun M15 u_16 iM15 kM15 => ?_)
        have q_17 : (M15 6 0 1) = (M14 6 0 1) := by rw [u_16]; exact jm_une_k (by decide)
        have q_18 : (M14 6 0 1) = (M 6 0 1) := jM14 6 0 1 (by unfold TX; omega)
        have b_19 : (-1000) ≤ (M 6 0 1) ∧ (M 6 0 1) ≤ 60 := iM 6 0 1
        exact wp_ret ⟨iM15, kM15, by omega, by omega, by omega⟩
      · skip
        refine wp_ite (fun c_20 => ?_) (fun c_20 => ?_)
        · skip
          have b_22 : (-2147483648) ≤ (M 6 0 6) ∧ (M 6 0 6) ≤ 2147483647 := iM 6 0 6
          refine wp_ite (fun c_21 => ?_) (fun c_21 => ?_)
          · skip
            have b_23 : (-1000) ≤ (M 6 0 1) ∧ (M 6 0 1) ≤ 60 := iM 6 0 1
            refine wp_bk (s_fX3_beginLine M iM   ) (fun v19 M20 iM20 jM20 hv19 => ?_)
            have kM20 := kM.tr jM20 (fun _ _ _ h => h)
            have b_24 : (-1000) ≤ (M20 6 0 1) ∧ (M20 6 0 1) ≤ 60 := iM20 6 0 1
            exact wp_ret ⟨iM20, kM20, by omega, by omega, by omega⟩
          · skip
            have b_25 : (-1000) ≤ (M 6 0 1) ∧ (M 6 0 1) ≤ 60 := iM 6 0 1
            exact wp_ret ⟨iM, kM, by omega, by omega, by omega⟩
        · skip
          refine wp_ite (fun c_26 => ?_) (fun c_26 => ?_)
          · skip
            have b_27 : (-1) ≤ (M 6 0 8) ∧ (M 6 0 8) ≤ 16 := iM 6 0 8
            refine wp_T ⟨by omega, by omega⟩ ?_
            refine wp_bk (s_fX8_act M iM (M 6 0 8) l1 ⟨by omega, by omega⟩ ⟨by omega, by omega⟩ ) (fun v23 M24 iM24 jM24 hv23 => ?_)
            have kM24 := kM.tr jM24 tt_TR_TX
            refine wp_sk iM24 (jm_inL (by decide) (by decide)) kM24 (by unfold TR; omega) (fun M25 u_28 iM25 kM25 => ?_)
            have q_29 : (M25 6 0 1) = (M24 6 0 1) := by rw [u_28]; exact jm_une_k (by decide)
            have q_30 : (M24 6 0 1) = (M 6 0 1) := jM24 6 0 1 (by unfold TX; omega)
            have b_31 : (-1000) ≤ (M 6 0 1) ∧ (M 6 0 1) ≤ 60 := iM 6 0 1
            exact wp_ret ⟨iM25, kM25, by omega, by omega, by omega⟩
          · skip
            refine wp_ite (fun c_32 => ?_) (fun c_32 => ?_)
            · skip
              refine wp_sk iM (jm_inL (by decide) (by decide)) kM (by unfold TR; omega) (fun M27 u_33 iM27 kM27 => ?_)
              have q_34 : (M27 6 0 1) = (M 6 0 1) := by rw [u_33]; exact jm_une_k (by decide)
              have b_35 : (-1000) ≤ (M 6 0 1) ∧ (M 6 0 1) ≤ 60 := iM 6 0 1
              exact wp_ret ⟨iM27, kM27, by omega, by omega, by omega⟩
            · skip
              refine wp_ite (fun c_36 => ?_) (fun c_36 => ?_)
              · skip
                have b_37 : (-1) ≤ (M 6 0 8) ∧ (M 6 0 8) ≤ 16 := iM 6 0 8
                refine wp_T ⟨by omega, by omega⟩ ?_
                refine wp_bk (s_fX8_act M iM (M 6 0 8) l1 ⟨by omega, by omega⟩ ⟨by omega, by omega⟩ ) (fun v30 M31 iM31 jM31 hv30 => ?_)
                have kM31 := kM.tr jM31 tt_TR_TX
                refine wp_sk iM31 (jm_inL (by decide) (by decide)) kM31 (by unfold TR; omega) (fun M32 u_38 iM32 kM32 => ?_)
                have q_39 : (M32 6 0 1) = (M31 6 0 1) := by rw [u_38]; exact jm_une_k (by decide)
                have q_40 : (M31 6 0 1) = (M 6 0 1) := jM31 6 0 1 (by unfold TX; omega)
                have b_41 : (-1000) ≤ (M 6 0 1) ∧ (M 6 0 1) ≤ 60 := iM 6 0 1
                exact wp_ret ⟨iM32, kM32, by omega, by omega, by omega⟩
              · skip
                refine wp_ite (fun c_42 => ?_) (fun c_42 => ?_)
                · skip
                  have b_43 : (-1) ≤ (M 6 0 8) ∧ (M 6 0 8) ≤ 16 := iM 6 0 8
                  refine wp_T ⟨by omega, by omega⟩ ?_
                  refine wp_bk (s_fX8_act M iM (M 6 0 8) l1 ⟨by omega, by omega⟩ ⟨by omega, by omega⟩ ) (fun v35 M36 iM36 jM36 hv35 => ?_)
                  have kM36 := kM.tr jM36 tt_TR_TX
                  refine wp_sk iM36 (jm_inL (by decide) (by decide)) kM36 (by unfold TR; omega) (fun M37 u_44 iM37 kM37 => ?_)
                  have q_45 : (M37 6 0 1) = (M36 6 0 1) := by rw [u_44]; exact jm_une_k (by decide)
                  have q_46 : (M36 6 0 1) = (M 6 0 1) := jM36 6 0 1 (by unfold TX; omega)
                  have b_47 : (-1000) ≤ (M 6 0 1) ∧ (M 6 0 1) ≤ 60 := iM 6 0 1
                  exact wp_ret ⟨iM37, kM37, by omega, by omega, by omega⟩
                · skip
                  have b_48 : (-1000) ≤ (M 6 0 1) ∧ (M 6 0 1) ≤ 60 := iM 6 0 1
                  exact wp_ret ⟨iM, kM, by omega, by omega, by omega⟩
set_option maxHeartbeats 4000000 in
set_option maxRecDepth 100000 in
theorem s_fX8_actBox (M : jm_M) (iM : bI bx1 M) (r0 l1 : Int) (hr0 : 0 ≤ r0 ∧ r0 ≤ 16) (hl1 : 0 ≤ l1 ∧ l1 ≤ 3) : wp (fX8_actBox M r0 l1) (fun r M1 => bI bx1 M1 ∧ Kp TX M M1 ∧ (0 ≤ r ∧ r ≤ 0)) := by
  have kM : Kp TX M M := Kp.rf
  unfold fX8_actBox
  refine wp_bp (s_fX11_isIndex M iM (jm_w ((M 11 r0 6) - 1)) 21 (jm_w_in _) ⟨by omega, by omega⟩ ) (fun v2 hv2 => ?_)
  have b_1 : 0 ≤ (M 11 r0 6) ∧ (M 11 r0 6) ≤ 21 := iM 11 r0 6
  have w_2 : (jm_w ((M 11 r0 6) - 1)) = ((M 11 r0 6) - 1) := jm_wid (by omega) (by omega)
  refine wp_ite (fun c_3 => ?_) (fun c_3 => ?_)
  · skip
    exact wp_ret ⟨iM, kM, by omega⟩
  · skip
    refine wp_T ⟨by omega, by omega⟩ ?_
    refine wp_sk iM (jm_inL (by omega) (by omega)) kM (by unfold TX; omega) (fun M8 u_4 iM8 kM8 => ?_)
    exact wp_ret ⟨iM8, kM8, by omega⟩
set_option maxHeartbeats 4000000 in
set_option maxRecDepth 100000 in
theorem s_fX3_takesBox (M : jm_M) (iM : bI bx1 M) (l1 : Int) (hl1 : jm_in l1) (x0 : 0 ≤ (M 6 0 8)) : wp (fX3_takesBox M l1) (fun r M1 => bI bx1 M1 ∧ Kp TR M M1 ∧ (0 ≤ r ∧ r ≤ 1 ∧ (0 ≤ M1 6 0 1 ∨ M 6 0 1 ≤ M1 6 0 1))) := by
  have kM : Kp TR M M := Kp.rf
  unfold fX3_takesBox
  have b_2 : -2147483648 ≤ l1 ∧ l1 ≤ 2147483647 := hl1
  refine wp_ite (fun c_1 => ?_) (fun c_1 => ?_)
  · skip
    have b_3 : (-1000) ≤ (M 6 0 1) ∧ (M 6 0 1) ≤ 60 := iM 6 0 1
    exact wp_ret ⟨iM, kM, by omega, by omega, by omega⟩
  · skip
    refine wp_ite (fun c_4 => ?_) (fun c_4 => ?_)
    · skip
      have b_5 : (-1) ≤ (M 6 0 8) ∧ (M 6 0 8) ≤ 16 := iM 6 0 8
      refine wp_T ⟨by omega, by omega⟩ ?_
      have w_6 : (jm_w (l1 - 48)) = (l1 - 48) := jm_wid (by omega) (by omega)
      refine wp_bk (s_fX8_actBox M iM (M 6 0 8) (jm_w (l1 - 48)) ⟨by omega, by omega⟩ ⟨by omega, by omega⟩ ) (fun v4 M5 iM5 jM5 hv4 => ?_)
      have kM5 := kM.tr jM5 tt_TR_TX
      refine wp_sk iM5 (jm_inL (by decide) (by decide)) kM5 (by unfold TR; omega) (fun M6 u_7 iM6 kM6 => ?_)
      have q_8 : (M6 6 0 1) = (M5 6 0 1) := by rw [u_7]; exact jm_une_k (by decide)
      have q_9 : (M5 6 0 1) = (M 6 0 1) := jM5 6 0 1 (by unfold TX; omega)
      have b_10 : (-1000) ≤ (M 6 0 1) ∧ (M 6 0 1) ≤ 60 := iM 6 0 1
      exact wp_ret ⟨iM6, kM6, by omega, by omega, by omega⟩
    · skip
      have b_11 : (-1000) ≤ (M 6 0 1) ∧ (M 6 0 1) ≤ 60 := iM 6 0 1
      exact wp_ret ⟨iM, kM, by omega, by omega, by omega⟩
set_option maxHeartbeats 4000000 in
set_option maxRecDepth 100000 in
theorem s_fX3_takes (fu : Nat) (hfu : 4000 ≤ fu) (M : jm_M) (iM : bI bx1 M) (l1 : Int) (hl1 : jm_in l1) (x0 : 0 ≤ (M 6 0 8)) (x1 : (-900) ≤ (M 6 0 1)) : wp (fX3_takes fu M l1) (fun r M1 => bI bx1 M1 ∧ Kp TR M M1 ∧ (0 ≤ r ∧ r ≤ 1 ∧ (-1 ≤ M1 6 0 1 ∨ M 6 0 1 - 1 ≤ M1 6 0 1))) := by
  have kM : Kp TR M M := Kp.rf
  unfold fX3_takes
  have b_2 : (-2147483648) ≤ (M 6 0 6) ∧ (M 6 0 6) ≤ 2147483647 := iM 6 0 6
  refine wp_ite (fun c_1 => ?_) (fun c_1 => ?_)
  · skip
    have b_3 : (-1) ≤ (M 6 0 8) ∧ (M 6 0 8) ≤ 16 := iM 6 0 8
    have b_4 : (-1000) ≤ (M 6 0 1) ∧ (M 6 0 1) ≤ 60 := iM 6 0 1
    refine wp_bk (s_fX3_takesOperand fu hfu M iM l1 hl1 (by omega)) (fun v3 M4 iM4 jM4 hv3 => ?_)
    have kM4 := kM.tr jM4 (fun _ _ _ h => h)
    refine wp_T (by omega) ?_
    have b_5 : (-1000) ≤ (M4 6 0 1) ∧ (M4 6 0 1) ≤ 60 := iM4 6 0 1
    exact wp_ret ⟨iM4, kM4, by omega, by omega, by omega⟩
  · skip
    refine wp_ite (fun c_6 => ?_) (fun c_6 => ?_)
    · skip
      have b_7 : (-1) ≤ (M 6 0 8) ∧ (M 6 0 8) ≤ 16 := iM 6 0 8
      have b_8 : (-1000) ≤ (M 6 0 1) ∧ (M 6 0 1) ≤ 60 := iM 6 0 1
      refine wp_bk (s_fX3_takesOperand fu hfu M iM l1 hl1 (by omega)) (fun v7 M8 iM8 jM8 hv7 => ?_)
      have kM8 := kM.tr jM8 (fun _ _ _ h => h)
      refine wp_T (by omega) ?_
      have b_9 : (-1000) ≤ (M8 6 0 1) ∧ (M8 6 0 1) ≤ 60 := iM8 6 0 1
      exact wp_ret ⟨iM8, kM8, by omega, by omega, by omega⟩
    · skip
      refine wp_ite (fun c_10 => ?_) (fun c_10 => ?_)
      · skip
        have b_11 : (-1) ≤ (M 6 0 8) ∧ (M 6 0 8) ≤ 16 := iM 6 0 8
        have b_12 : (-1000) ≤ (M 6 0 1) ∧ (M 6 0 1) ≤ 60 := iM 6 0 1
        refine wp_bk (s_fX3_takesBehindOperand fu hfu M iM l1 hl1 (by omega) (by omega)) (fun v11 M12 iM12 jM12 hv11 => ?_)
        have kM12 := kM.tr jM12 (fun _ _ _ h => h)
        refine wp_T (by omega) ?_
        have b_13 : (-1000) ≤ (M12 6 0 1) ∧ (M12 6 0 1) ≤ 60 := iM12 6 0 1
        exact wp_ret ⟨iM12, kM12, by omega, by omega, by omega⟩
      · skip
        refine wp_ite (fun c_14 => ?_) (fun c_14 => ?_)
        · skip
          have b_15 : (-1) ≤ (M 6 0 8) ∧ (M 6 0 8) ≤ 16 := iM 6 0 8
          have b_16 : (-1000) ≤ (M 6 0 1) ∧ (M 6 0 1) ≤ 60 := iM 6 0 1
          refine wp_bk (s_fX3_takesVerdict M iM l1 hl1 (by omega)) (fun v15 M16 iM16 jM16 hv15 => ?_)
          have kM16 := kM.tr jM16 (fun _ _ _ h => h)
          refine wp_T (by omega) ?_
          have b_17 : (-1000) ≤ (M16 6 0 1) ∧ (M16 6 0 1) ≤ 60 := iM16 6 0 1
          exact wp_ret ⟨iM16, kM16, by omega, by omega, by omega⟩
        · skip
          refine wp_ite (fun c_18 => ?_) (fun c_18 => ?_)
          · skip
            have b_19 : (-1) ≤ (M 6 0 8) ∧ (M 6 0 8) ≤ 16 := iM 6 0 8
            have b_20 : (-1000) ≤ (M 6 0 1) ∧ (M 6 0 1) ≤ 60 := iM 6 0 1
            refine wp_bk (s_fX3_takesSeconds M iM l1 hl1 (by omega)) (fun v19 M20 iM20 jM20 hv19 => ?_)
            have kM20 := kM.tr jM20 (fun _ _ _ h => h)
            refine wp_T (by omega) ?_
            have b_21 : (-1000) ≤ (M20 6 0 1) ∧ (M20 6 0 1) ≤ 60 := iM20 6 0 1
            exact wp_ret ⟨iM20, kM20, by omega, by omega, by omega⟩
          · skip
            refine wp_ite (fun c_22 => ?_) (fun c_22 => ?_)
            · skip
              have b_23 : (-1) ≤ (M 6 0 8) ∧ (M 6 0 8) ≤ 16 := iM 6 0 8
              have b_24 : (-1000) ≤ (M 6 0 1) ∧ (M 6 0 1) ≤ 60 := iM 6 0 1
              refine wp_bk (s_fX3_takesAct M iM l1 hl1 (by omega)) (fun v23 M24 iM24 jM24 hv23 => ?_)
              have kM24 := kM.tr jM24 (fun _ _ _ h => h)
              refine wp_T (by omega) ?_
              have b_25 : (-1000) ≤ (M24 6 0 1) ∧ (M24 6 0 1) ≤ 60 := iM24 6 0 1
              exact wp_ret ⟨iM24, kM24, by omega, by omega, by omega⟩
            · skip
              refine wp_ite (fun c_26 => ?_) (fun c_26 => ?_)
              · skip
                have b_27 : (-1) ≤ (M 6 0 8) ∧ (M 6 0 8) ≤ 16 := iM 6 0 8
                have b_28 : (-1000) ≤ (M 6 0 1) ∧ (M 6 0 1) ≤ 60 := iM 6 0 1
                refine wp_bk (s_fX3_takesAct M iM l1 hl1 (by omega)) (fun v27 M28 iM28 jM28 hv27 => ?_)
                have kM28 := kM.tr jM28 (fun _ _ _ h => h)
                refine wp_T (by omega) ?_
                have b_29 : (-1000) ≤ (M28 6 0 1) ∧ (M28 6 0 1) ≤ 60 := iM28 6 0 1
                exact wp_ret ⟨iM28, kM28, by omega, by omega, by omega⟩
              · skip
                refine wp_ite (fun c_30 => ?_) (fun c_30 => ?_)
                · skip
                  have b_31 : (-1) ≤ (M 6 0 8) ∧ (M 6 0 8) ≤ 16 := iM 6 0 8
                  have b_32 : (-1000) ≤ (M 6 0 1) ∧ (M 6 0 1) ≤ 60 := iM 6 0 1
                  refine wp_bk (s_fX3_takesBox M iM l1 hl1 (by omega)) (fun v31 M32 iM32 jM32 hv31 => ?_)
                  have kM32 := kM.tr jM32 (fun _ _ _ h => h)
                  refine wp_T (by omega) ?_
                  have b_33 : (-1000) ≤ (M32 6 0 1) ∧ (M32 6 0 1) ≤ 60 := iM32 6 0 1
                  exact wp_ret ⟨iM32, kM32, by omega, by omega, by omega⟩
                · skip
                  have b_34 : (-1000) ≤ (M 6 0 1) ∧ (M 6 0 1) ≤ 60 := iM 6 0 1
                  exact wp_ret ⟨iM, kM, by omega, by omega, by omega⟩
set_option maxHeartbeats 4000000 in
set_option maxRecDepth 100000 in
theorem s_gX3_firstWrong_a12_25 (fu : Nat) (hfu : 4000 ≤ fu) (M0 : jm_M) (k25 : jm_M → Int → Int → jm_R) (N25 : Int) (hk25 : ∀ (l2 l5 : Int) (M : jm_M) (iM : bI bx1 M) (kM : Kp TQ M0 M) (hl2 : 0 ≤ l2 ∧ l2 ≤ 100) (hl5 : 0 ≤ l5 ∧ l5 ≤ 60) (y0 : 0 ≤ (M 6 0 8)) (y1 : (-l5) ≤ (M 6 0 1)), 61 - l5 < N25 → wp (k25 M l2 l5) (fun r M1 => bI bx1 M1 ∧ Kp TQ M0 M1 ∧ ((-1) ≤ r ∧ r ≤ 60))) : ∀ (l2 l5 : Int) (M : jm_M) (iM : bI bx1 M) (kM : Kp TQ M0 M) (hl2 : 0 ≤ l2 ∧ l2 ≤ 100) (hl5 : 0 ≤ l5 ∧ l5 ≤ 60) (y0 : 0 ≤ (M 6 0 8)) (y1 : (-l5) ≤ (M 6 0 1)), 61 - l5 < N25 + 1 → wp (gX3_firstWrong_a12_25 fu k25 M l2 l5) (fun r M1 => bI bx1 M1 ∧ Kp TQ M0 M1 ∧ ((-1) ≤ r ∧ r ≤ 60)) := by
  intro l2 l5 M iM kM hl2 hl5 y0 y1 m25
  unfold gX3_firstWrong_a12_25
  refine wp_ite (fun c_1 => ?_) (fun c_1 => ?_)
  · skip
    exact s_gX3_firstWrong_a12_65 fu hfu M0    l2 M iM kM ⟨by omega, by omega⟩  
  · skip
    refine wp_ite (fun c_2 => ?_) (fun c_2 => ?_)
    · skip
      exact s_gX3_firstWrong_a12_65 fu hfu M0    l2 M iM kM ⟨by omega, by omega⟩  
    · skip
      refine wp_F (by omega) ?_
      refine wp_T ⟨by omega, by omega⟩ ?_
      have b_4 : (-1) ≤ (M 6 0 8) ∧ (M 6 0 8) ≤ 16 := iM 6 0 8
      have b_5 : (-1000) ≤ (M 6 0 1) ∧ (M 6 0 1) ≤ 60 := iM 6 0 1
      refine wp_bk (s_fX3_takes fu hfu M iM (M 12 0 l5) (iM 12 0 l5) (by omega) (by omega)) (fun v6 M7 iM7 jM7 hv6 => ?_)
      have kM7 := kM.tr jM7 tt_TQ_TR
      refine wp_ite (fun c_6 => ?_) (fun c_6 => ?_)
      · skip
        exact wp_ret ⟨iM7, kM7, by omega⟩
      · skip
        have w_7 : (jm_w (l5 + 1)) = (l5 + 1) := jm_wid (by omega) (by omega)
        refine wp_e (by exact (jm_w_in _)) (fun v10 e_8 hv10 => ?_)
        have b_9 : -2147483648 ≤ v10 ∧ v10 ≤ 2147483647 := hv10
        have q_10 : (M7 6 0 8) = (M 6 0 8) := jM7 6 0 8 (by unfold TR; omega)
        have b_11 : (-1000) ≤ (M7 6 0 1) ∧ (M7 6 0 1) ≤ 60 := iM7 6 0 1
        exact hk25 l2 v10 M7 iM7 kM7 ⟨by omega, by omega⟩ ⟨by omega, by omega⟩ (by omega) (by omega) (by omega)
set_option maxHeartbeats 4000000 in
set_option maxRecDepth 100000 in
theorem s_fX3_firstWrong_a12_25 (fu : Nat) (hfu : 4000 ≤ fu) (M0 : jm_M) : ∀ (n : Nat) (l2 l5 : Int) (M : jm_M) (iM : bI bx1 M) (kM : Kp TQ M0 M) (hl2 : 0 ≤ l2 ∧ l2 ≤ 100) (hl5 : 0 ≤ l5 ∧ l5 ≤ 60) (y0 : 0 ≤ (M 6 0 8)) (y1 : (-l5) ≤ (M 6 0 1)), 61 - l5 < (n : Int) → wp (fX3_firstWrong_a12_25 fu  n M l2 l5) (fun r M1 => bI bx1 M1 ∧ Kp TQ M0 M1 ∧ ((-1) ≤ r ∧ r ≤ 60)) := by
  intro n
  induction n with
  | zero => intro l2 l5 M iM kM hl2 hl5 y0 y1 hm; exfalso; omega
  | succ n ih =>
    intro l2 l5 M iM kM hl2 hl5 y0 y1 hm
    exact s_gX3_firstWrong_a12_25 fu hfu M0 (fX3_firstWrong_a12_25 fu  n) (n : Int) ih l2 l5 M iM kM hl2 hl5 y0 y1 (by omega)
set_option maxHeartbeats 4000000 in
set_option maxRecDepth 100000 in
theorem s_fX3_firstWrong_a12 (fu : Nat) (hfu : 4000 ≤ fu) (M : jm_M) (iM : bI bx1 M) (l2 r3 l4 : Int) (hl2 : 0 ≤ l2 ∧ l2 ≤ 100) (hr3 : 0 ≤ r3 ∧ r3 ≤ 16) (hl4 : 0 ≤ l4 ∧ l4 ≤ 1) : wp (fX3_firstWrong_a12 fu M l2 r3 l4) (fun r M1 => bI bx1 M1 ∧ Kp TQ M M1 ∧ ((-1) ≤ r ∧ r ≤ 60)) := by
  have kM : Kp TQ M M := Kp.rf
  unfold fX3_firstWrong_a12
  refine wp_T (by omega) ?_
  refine wp_sk iM (jm_inL (by omega) (by omega)) kM (by unfold TQ; omega) (fun M1 u_1 iM1 kM1 => ?_)
  refine wp_sk iM1 (show (-1) ≤ r3 ∧ r3 ≤ 16 by omega) kM1 (by unfold TQ; omega) (fun M3 u_2 iM3 kM3 => ?_)
  have q_3 : (M3 6 0 8) = r3 := by rw [u_2]; exact jm_ueq
  refine wp_T ⟨by omega, by omega⟩ ?_
  refine wp_bk (s_fX8_empty M3 iM3 (M3 6 0 8) ⟨by omega, by omega⟩ ) (fun v5 M6 iM6 jM6 hv5 => ?_)
  have kM6 := kM3.tr jM6 tt_TQ_TX
  have q_4 : (M6 6 0 1) = (M3 6 0 1) := jM6 6 0 1 (by unfold TX; omega)
  have q_5 : (M3 6 0 1) = (M1 6 0 1) := by rw [u_2]; exact jm_une_k (by decide)
  have q_6 : (M1 6 0 1) = (M 6 0 1) := by rw [u_1]; exact jm_une_k (by decide)
  have b_7 : (-1000) ≤ (M 6 0 1) ∧ (M 6 0 1) ≤ 60 := iM 6 0 1
  refine wp_bk (s_fX3_beginLine M6 iM6   ) (fun v7 M8 iM8 jM8 hv7 => ?_)
  have kM8 := kM6.tr jM8 tt_TQ_TR
  have q_8 : (M8 6 0 8) = (M6 6 0 8) := jM8 6 0 8 (by unfold TR; omega)
  have q_9 : (M6 6 0 8) = (M3 6 0 8) := jM6 6 0 8 (by unfold TX; omega)
  have b_10 : (-1000) ≤ (M8 6 0 1) ∧ (M8 6 0 1) ≤ 60 := iM8 6 0 1
  exact s_fX3_firstWrong_a12_25 fu hfu M    fu l2 0 M8 iM8 kM8 ⟨by omega, by omega⟩ ⟨by omega, by omega⟩ (by omega) (by omega)  (by omega)
set_option maxHeartbeats 4000000 in
set_option maxRecDepth 100000 in
theorem s_fX11_plan (fu : Nat) (hfu : 4000 ≤ fu) (M : jm_M) (iM : bI bx1 M) (l1 : Int) (hl1 : jm_in l1) : wp (fX11_plan fu M l1) (fun r M1 => bI bx1 M1 ∧ Kp TZ1 M M1 ∧ ((-100) ≤ r ∧ r ≤ 1 ∧ (M1 0 0 7 = 0))) := by
  have kM : Kp TZ1 M M := Kp.rf
  unfold fX11_plan
  have b_1 : 0 ≤ (M 0 0 7) ∧ (M 0 0 7) ≤ 100 := iM 0 0 7
  refine wp_bk (s_fX11_takeTape M iM   ) (fun v1 M2 iM2 jM2 hv1 => ?_)
  have kM2 := kM.tr jM2 (fun _ _ _ h => h)
  refine wp_bp (s_fX2_has M2 iM2 l1 hl1 ) (fun v4 hv4 => ?_)
  have b_2 : -2147483648 ≤ l1 ∧ l1 ≤ 2147483647 := hl1
  have q_3 : (M2 2 0 5) = (M 2 0 5) := jM2 2 0 5 (by unfold TZ1 RC1; omega)
  have b_4 : 0 ≤ (M 2 0 5) ∧ (M 2 0 5) ≤ 6 := iM 2 0 5
  refine wp_ite (fun c_5 => ?_) (fun c_5 => ?_)
  · skip
    have b_6 : 0 ≤ (M2 0 0 7) ∧ (M2 0 0 7) ≤ 100 := iM2 0 0 7
    exact wp_ret ⟨iM2, kM2, by omega, by omega, by omega⟩
  · skip
    have b_7 : 0 ≤ (M2 0 0 10) ∧ (M2 0 0 10) ≤ 16 := iM2 0 0 10
    refine wp_T ⟨by omega, by omega⟩ ?_
    refine wp_bk (s_fX3_firstWrong_a12 fu hfu M2 iM2 v1 (M2 0 0 10) 1 ⟨by omega, by omega⟩ ⟨by omega, by omega⟩ ⟨by omega, by omega⟩ ) (fun v9 M10 iM10 jM10 hv9 => ?_)
    have kM10 := kM2.tr jM10 tt_TZ1_TQ
    refine wp_ite (fun c_8 => ?_) (fun c_8 => ?_)
    · skip
      refine wp_T ⟨by omega, by omega⟩ ?_
      have q_9 : (M10 8 l1 11) = (M2 8 l1 11) := jM10 8 l1 11 (by unfold TQ; omega)
      have b_10 : 0 ≤ (M2 8 l1 11) ∧ (M2 8 l1 11) ≤ 16 := iM2 8 l1 11
      refine wp_T ⟨by omega, by omega⟩ ?_
      refine wp_T ⟨by omega, by omega⟩ ?_
      have q_11 : (M10 0 0 10) = (M2 0 0 10) := jM10 0 0 10 (by unfold TQ; omega)
      refine wp_T ⟨by omega, by omega⟩ ?_
      refine wp_sk iM10 (show 0 ≤ (M10 0 0 10) ∧ (M10 0 0 10) ≤ 16 by omega) kM10 (by unfold TZ1 RC1; omega) (fun M17 u_12 iM17 kM17 => ?_)
      refine wp_T ⟨by omega, by omega⟩ ?_
      refine wp_sk iM17 (jm_inL (by decide) (by decide)) kM17 (by unfold TZ1 RC1; omega) (fun M19 u_13 iM19 kM19 => ?_)
      refine wp_sk iM19 (show 0 ≤ (M10 8 l1 11) ∧ (M10 8 l1 11) ≤ 16 by omega) kM19 (by unfold TZ1 RC1; omega) (fun M20 u_14 iM20 kM20 => ?_)
      refine wp_sk iM20 (jm_inL (by decide) (by decide)) kM20 (by unfold TZ1 RC1; omega) (fun M21 u_15 iM21 kM21 => ?_)
      have q_16 : (M21 0 0 7) = (M20 0 0 7) := by rw [u_15]; exact jm_une_f (by decide)
      have q_17 : (M20 0 0 7) = (M19 0 0 7) := by rw [u_14]; exact jm_une_k (by decide)
      have q_18 : (M19 0 0 7) = (M17 0 0 7) := by rw [u_13]; exact jm_une_f (by decide)
      have q_19 : (M17 0 0 7) = (M10 0 0 7) := by rw [u_12]; exact jm_une_f (by decide)
      have q_20 : (M10 0 0 7) = (M2 0 0 7) := jM10 0 0 7 (by unfold TQ; omega)
      have b_21 : 0 ≤ (M2 0 0 7) ∧ (M2 0 0 7) ≤ 100 := iM2 0 0 7
      exact wp_ret ⟨iM21, kM21, by omega, by omega, by omega⟩
    · skip
      have w_22 : (jm_w ((-1) - v9)) = ((-1) - v9) := jm_wid (by omega) (by omega)
      have q_23 : (M10 0 0 7) = (M2 0 0 7) := jM10 0 0 7 (by unfold TQ; omega)
      have b_24 : 0 ≤ (M2 0 0 7) ∧ (M2 0 0 7) ≤ 100 := iM2 0 0 7
      exact wp_ret ⟨iM10, kM10, by omega, by omega, by omega⟩
set_option maxHeartbeats 4000000 in
set_option maxRecDepth 100000 in
theorem s_fX11_rain (M : jm_M) (iM : bI bx1 M) (l1 l2 l3 : Int) (hl1 : jm_in l1) (hl2 : jm_in l2) (hl3 : jm_in l3) : wp (fX11_rain M l1 l2 l3) (fun r M1 => bI bx1 M1 ∧ Kp (TM1 30) M M1 ∧ ((-1) ≤ r ∧ r ≤ 30 ∧ ((r = -1 ∧ ¬ (0 ≤ l1 ∧ l1 < M 1 0 0 ∧ 0 ≤ l2 ∧ 0 ≤ l3 ∧ l3 ≤ 100 ∧ M 10 30 3 < 30) ∧ M1 10 30 3 = M 10 30 3) ∨ ((0 ≤ l1 ∧ l1 < M 1 0 0 ∧ 0 ≤ l2 ∧ 0 ≤ l3 ∧ l3 ≤ 100) ∧ M 10 30 3 < 30 ∧ M1 10 30 3 = M 10 30 3 + 1 ∧ r = M1 10 30 3)))) := by
  have kM : Kp (TM1 30) M M := Kp.rf
  unfold fX11_rain
  have l30 : lim1 30 = 30 := by decide
  have l31 : lim1 31 = 20 := by decide
  have l32 : lim1 32 = 20 := by decide
  refine wp_bp (s_fX9_hasSector M iM l1 hl1 ) (fun v1 hv1 => ?_)
  have b_1 : -2147483648 ≤ l1 ∧ l1 ≤ 2147483647 := hl1
  have b_2 : 2 ≤ (M 1 0 0) ∧ (M 1 0 0) ≤ 5 := iM 1 0 0
  refine wp_ite (fun c_3 => ?_) (fun c_3 => ?_)
  · skip
    have b_4 : 0 ≤ (M 10 30 3) ∧ (M 10 30 3) ≤ 30 := jm_b10 (iM 10 30 3) (by decide)
    exact wp_ret ⟨iM, kM, by omega, by omega, by omega⟩
  · skip
    have b_6 : -2147483648 ≤ l2 ∧ l2 ≤ 2147483647 := hl2
    refine wp_ite (fun c_5 => ?_) (fun c_5 => ?_)
    · skip
      have b_7 : 0 ≤ (M 10 30 3) ∧ (M 10 30 3) ≤ 30 := jm_b10 (iM 10 30 3) (by decide)
      exact wp_ret ⟨iM, kM, by omega, by omega, by omega⟩
    · skip
      refine wp_bp (s_fX11_isWithin M iM l3 0 100 hl3 (jm_inL (by decide) (by decide)) (jm_inL (by decide) (by decide)) ) (fun v6 hv6 => ?_)
      have b_8 : -2147483648 ≤ l3 ∧ l3 ≤ 2147483647 := hl3
      refine wp_ite (fun c_9 => ?_) (fun c_9 => ?_)
      · skip
        have b_10 : 0 ≤ (M 10 30 3) ∧ (M 10 30 3) ≤ 30 := jm_b10 (iM 10 30 3) (by decide)
        exact wp_ret ⟨iM, kM, by omega, by omega, by omega⟩
      · skip
        refine wp_sk iM (jm_inL (by decide) (by decide)) kM (by unfold TM1 RC1; omega) (fun M10 u_11 iM10 kM10 => ?_)
        have q_12 : (M10 10 30 3) = (M 10 30 3) := by rw [u_11]; exact jm_une_f (by decide)
        have b_13 : 0 ≤ (M 10 30 3) ∧ (M 10 30 3) ≤ 30 := jm_b10 (iM 10 30 3) (by decide)
        refine wp_bk (s_fX7_push M10 iM10 30 l1 l2 l3 0 ⟨by omega, by omega⟩ hl1 hl2 hl3 (jm_inL (by decide) (by decide)) ) (fun v11 M12 iM12 jM12 hv11 => ?_)
        have kM12 := kM10.tr jM12 tt_TM1_TPU
        have b_14 : 0 ≤ (M12 10 30 3) ∧ (M12 10 30 3) ≤ 30 := jm_b10 (iM12 10 30 3) (by decide)
        exact wp_ret ⟨iM12, kM12, by omega, by omega, by omega⟩
set_option maxHeartbeats 4000000 in
set_option maxRecDepth 100000 in
theorem s_gX11_result_28 (fu : Nat) (hfu : 4000 ≤ fu) (M0 : jm_M) (k28 : jm_M → Int → Int → jm_R) (N28 : Int) (hk28 : ∀ (l2 l3 : Int) (M : jm_M) (iM : bI bx1 M) (kM : Kp TP M0 M) (hl2 : 0 ≤ l2 ∧ l2 ≤ 8) (hl3 : 0 ≤ l3 ∧ l3 ≤ 6) (y0 : l2 ≤ l3) (y1 : 0 ≤ l2), 7 - l3 < N28 → wp (k28 M l2 l3) (fun r M1 => bI bx1 M1 ∧ Kp TP M0 M1 ∧ ((-1) ≤ r ∧ r ≤ 6))) : ∀ (l2 l3 : Int) (M : jm_M) (iM : bI bx1 M) (kM : Kp TP M0 M) (hl2 : 0 ≤ l2 ∧ l2 ≤ 8) (hl3 : 0 ≤ l3 ∧ l3 ≤ 6) (y0 : l2 ≤ l3) (y1 : 0 ≤ l2), 7 - l3 < N28 + 1 → wp (gX11_result_28 fu k28 M l2 l3) (fun r M1 => bI bx1 M1 ∧ Kp TP M0 M1 ∧ ((-1) ≤ r ∧ r ≤ 6)) := by
  intro l2 l3 M iM kM hl2 hl3 y0 y1 m28
  unfold gX11_result_28
  have b_2 : 0 ≤ (M 2 0 5) ∧ (M 2 0 5) ≤ 6 := iM 2 0 5
  refine wp_ite (fun c_1 => ?_) (fun c_1 => ?_)
  · skip
    refine wp_sk iM (show 0 ≤ l2 ∧ l2 ≤ 6 by omega) kM (by unfold TP; omega) (fun M3 u_3 iM3 kM3 => ?_)
    exact wp_ret ⟨iM3, kM3, by omega⟩
  · skip
    refine wp_F (by omega) ?_
    refine wp_bp (s_fX5_placeAmong fu hfu M iM l3 (-1) ⟨by omega, by omega⟩ (jm_inL (by decide) (by decide)) ) (fun v6 hv6 => ?_)
    refine wp_bp (s_fX11_isIndex M iM v6 6 hv6 ⟨by omega, by omega⟩ ) (fun v9 hv9 => ?_)
    have b_5 : -2147483648 ≤ v6 ∧ v6 ≤ 2147483647 := hv6
    refine wp_ite (fun c_6 => ?_) (fun c_6 => ?_)
    · skip
      have w_7 : (jm_w (l3 + 1)) = (l3 + 1) := jm_wid (by omega) (by omega)
      refine wp_e (by exact (jm_w_in _)) (fun v13 e_8 hv13 => ?_)
      have b_9 : -2147483648 ≤ v13 ∧ v13 ≤ 2147483647 := hv13
      exact hk28 l2 v13 M iM kM ⟨by omega, by omega⟩ ⟨by omega, by omega⟩ (by omega) (by omega) (by omega)
    · skip
      refine wp_T ⟨by omega, by omega⟩ ?_
      refine wp_sk iM (jm_inL (by omega) (by omega)) kM (by unfold TP; omega) (fun M16 u_10 iM16 kM16 => ?_)
      have w_11 : (jm_w (l2 + 1)) = (l2 + 1) := jm_wid (by omega) (by omega)
      refine wp_e (by exact (jm_w_in _)) (fun v17 e_12 hv17 => ?_)
      have w_13 : (jm_w (l3 + 1)) = (l3 + 1) := jm_wid (by omega) (by omega)
      refine wp_e (by exact (jm_w_in _)) (fun v19 e_14 hv19 => ?_)
      have b_15 : -2147483648 ≤ v17 ∧ v17 ≤ 2147483647 := hv17
      have b_16 : -2147483648 ≤ v19 ∧ v19 ≤ 2147483647 := hv19
      exact hk28 v17 v19 M16 iM16 kM16 ⟨by omega, by omega⟩ ⟨by omega, by omega⟩ (by omega) (by omega) (by omega)
set_option maxHeartbeats 4000000 in
set_option maxRecDepth 100000 in
theorem s_fX11_result_28 (fu : Nat) (hfu : 4000 ≤ fu) (M0 : jm_M) : ∀ (n : Nat) (l2 l3 : Int) (M : jm_M) (iM : bI bx1 M) (kM : Kp TP M0 M) (hl2 : 0 ≤ l2 ∧ l2 ≤ 8) (hl3 : 0 ≤ l3 ∧ l3 ≤ 6) (y0 : l2 ≤ l3) (y1 : 0 ≤ l2), 7 - l3 < (n : Int) → wp (fX11_result_28 fu  n M l2 l3) (fun r M1 => bI bx1 M1 ∧ Kp TP M0 M1 ∧ ((-1) ≤ r ∧ r ≤ 6)) := by
  intro n
  induction n with
  | zero => intro l2 l3 M iM kM hl2 hl3 y0 y1 hm; exfalso; omega
  | succ n ih =>
    intro l2 l3 M iM kM hl2 hl3 y0 y1 hm
    exact s_gX11_result_28 fu hfu M0 (fX11_result_28 fu  n) (n : Int) ih l2 l3 M iM kM hl2 hl3 y0 y1 (by omega)
set_option maxHeartbeats 4000000 in
set_option maxRecDepth 100000 in
theorem s_fX11_result (fu : Nat) (hfu : 4000 ≤ fu) (M : jm_M) (iM : bI bx1 M) (l1 : Int) (hl1 : jm_in l1) : wp (fX11_result fu M l1) (fun r M1 => bI bx1 M1 ∧ Kp TP M M1 ∧ ((-1) ≤ r ∧ r ≤ 6)) := by
  have kM : Kp TP M M := Kp.rf
  unfold fX11_result
  refine wp_bp (s_fX11_isDay M iM l1 hl1 ) (fun v1 hv1 => ?_)
  have b_1 : -2147483648 ≤ l1 ∧ l1 ≤ 2147483647 := hl1
  refine wp_ite (fun c_2 => ?_) (fun c_2 => ?_)
  · skip
    exact wp_ret ⟨iM, kM, by omega⟩
  · skip
    refine wp_bk (s_fX2_reckon fu hfu M iM   ) (fun v5 M6 iM6 jM6 hv5 => ?_)
    have kM6 := kM.tr jM6 tt_TP_TA
    refine wp_bk (s_fX5_reckonFor fu hfu M6 iM6 l1 ⟨by omega, by omega⟩ ) (fun v7 M8 iM8 jM8 hv7 => ?_)
    have kM8 := kM6.tr jM8 tt_TP_TJ
    exact s_fX11_result_28 fu hfu M    fu 0 0 M8 iM8 kM8 ⟨by omega, by omega⟩ ⟨by omega, by omega⟩ (by omega) (by omega)  (by omega)
set_option maxHeartbeats 4000000 in
set_option maxRecDepth 100000 in
theorem s_fX11_row (M : jm_M) (iM : bI bx1 M) (l1 : Int) (hl1 : jm_in l1) : wp (fX11_row M l1) (fun r M1 => M1 = M ∧ ((-2147483648) ≤ r ∧ r ≤ 4294967296)) := by
  unfold fX11_row
  have b_1 : 0 ≤ (M 0 0 9) ∧ (M 0 0 9) ≤ 6 := iM 0 0 9
  refine wp_bp (s_fX11_isIndex M iM l1 (M 0 0 9) hl1 ⟨by omega, by omega⟩ ) (fun v2 hv2 => ?_)
  have b_2 : -2147483648 ≤ l1 ∧ l1 ≤ 2147483647 := hl1
  refine wp_ite (fun c_3 => ?_) (fun c_3 => ?_)
  · skip
    exact wp_ret ⟨rfl, by omega⟩
  · skip
    refine wp_T (by omega) ?_
    refine wp_T ⟨by omega, by omega⟩ ?_
    have b_5 : (-2147483648) ≤ (M 13 0 l1) ∧ (M 13 0 l1) ≤ 2147483647 := iM 13 0 l1
    exact wp_ret ⟨rfl, by omega⟩
