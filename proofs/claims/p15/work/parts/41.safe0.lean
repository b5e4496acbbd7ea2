set_option maxHeartbeats 4000000 in
set_option maxRecDepth 100000 in
theorem s_fJ6_bitCount_0f7a4_w1 (M : jm_M) (iM : bI bx1 M) (l0 : Int) (hl0 : jm_in l0) : wp (fJ6_bitCount_0f7a4_w1 M l0) (fun r M1 => M1 = M ∧ (jm_in r)) := by
  unfold fJ6_bitCount_0f7a4_w1
  have b_1 : -2147483648 ≤ l0 ∧ l0 ≤ 2147483647 := hl0
  have f_2 : -2147483648 ≤ (jm_ushr l0 1) ∧ (jm_ushr l0 1) ≤ 2147483647 := jm_ushr_in _ _
  have f_3 : -2147483648 ≤ (jm_and (jm_ushr l0 1) 1431655765) ∧ (jm_and (jm_ushr l0 1) 1431655765) ≤ 2147483647 := jm_and_in _ _
  have w_4 : -2147483648 ≤ (jm_w (l0 - (jm_and (jm_ushr l0 1) 1431655765))) ∧ (jm_w (l0 - (jm_and (jm_ushr l0 1) 1431655765))) ≤ 2147483647 := jm_w_in _
  refine wp_e (by exact (jm_w_in _)) (fun v1 e_5 hv1 => ?_)
  have b_6 : -2147483648 ≤ v1 ∧ v1 ≤ 2147483647 := hv1
  have f_7 : -2147483648 ≤ (jm_and v1 858993459) ∧ (jm_and v1 858993459) ≤ 2147483647 := jm_and_in _ _
  have f_8 : -2147483648 ≤ (jm_ushr v1 2) ∧ (jm_ushr v1 2) ≤ 2147483647 := jm_ushr_in _ _
  have f_9 : -2147483648 ≤ (jm_and (jm_ushr v1 2) 858993459) ∧ (jm_and (jm_ushr v1 2) 858993459) ≤ 2147483647 := jm_and_in _ _
  have w_10 : -2147483648 ≤ (jm_w ((jm_and v1 858993459) + (jm_and (jm_ushr v1 2) 858993459))) ∧ (jm_w ((jm_and v1 858993459) + (jm_and (jm_ushr v1 2) 858993459))) ≤ 2147483647 := jm_w_in _
  refine wp_e (by exact (jm_w_in _)) (fun v3 e_11 hv3 => ?_)
  have b_12 : -2147483648 ≤ v3 ∧ v3 ≤ 2147483647 := hv3
  have f_13 : -2147483648 ≤ (jm_ushr v3 4) ∧ (jm_ushr v3 4) ≤ 2147483647 := jm_ushr_in _ _
  have w_14 : -2147483648 ≤ (jm_w (v3 + (jm_ushr v3 4))) ∧ (jm_w (v3 + (jm_ushr v3 4))) ≤ 2147483647 := jm_w_in _
  have f_15 : -2147483648 ≤ (jm_and (jm_w (v3 + (jm_ushr v3 4))) 252645135) ∧ (jm_and (jm_w (v3 + (jm_ushr v3 4))) 252645135) ≤ 2147483647 := jm_and_in _ _
  refine wp_e (by exact (jm_and_in _ _)) (fun v5 e_16 hv5 => ?_)
  have b_17 : -2147483648 ≤ v5 ∧ v5 ≤ 2147483647 := hv5
  have f_18 : -2147483648 ≤ (jm_ushr v5 8) ∧ (jm_ushr v5 8) ≤ 2147483647 := jm_ushr_in _ _
  have w_19 : -2147483648 ≤ (jm_w (v5 + (jm_ushr v5 8))) ∧ (jm_w (v5 + (jm_ushr v5 8))) ≤ 2147483647 := jm_w_in _
  refine wp_e (by exact (jm_w_in _)) (fun v7 e_20 hv7 => ?_)
  have b_21 : -2147483648 ≤ v7 ∧ v7 ≤ 2147483647 := hv7
  have f_22 : -2147483648 ≤ (jm_ushr v7 16) ∧ (jm_ushr v7 16) ≤ 2147483647 := jm_ushr_in _ _
  have w_23 : -2147483648 ≤ (jm_w (v7 + (jm_ushr v7 16))) ∧ (jm_w (v7 + (jm_ushr v7 16))) ≤ 2147483647 := jm_w_in _
  refine wp_e (by exact (jm_w_in _)) (fun v9 e_24 hv9 => ?_)
  have b_25 : -2147483648 ≤ v9 ∧ v9 ≤ 2147483647 := hv9
  have f_26 : -2147483648 ≤ (jm_and v9 63) ∧ (jm_and v9 63) ≤ 2147483647 := jm_and_in _ _
  exact wp_ret ⟨rfl, (jm_and_in _ _)⟩
set_option maxHeartbeats 4000000 in
set_option maxRecDepth 100000 in
theorem s_gJ7_fill_53178_a31_w1_5 (fu : Nat) (hfu : 4000 ≤ fu) (M0 : jm_M) (k5 : jm_M → Int → Int → Int → Int → jm_R) (N5 : Int) (hk5 : ∀ (r0 l1 l2 l3 : Int) (M : jm_M) (iM : bI bx1 M) (kM : Kp TB M0 M) (hr0 : 0 ≤ r0 ∧ r0 ≤ 5) (hl1 : (-1) ≤ l1 ∧ l1 ≤ (-1)) (hl2 : 0 ≤ l2 ∧ l2 ≤ 12) (hl3 : 12 ≤ l3 ∧ l3 ≤ 12), 13 - l2 < N5 → wp (k5 M r0 l1 l2 l3) (fun r M1 => bI bx1 M1 ∧ Kp TB M0 M1 ∧ (0 ≤ r ∧ r ≤ 0))) : ∀ (r0 l1 l2 l3 : Int) (M : jm_M) (iM : bI bx1 M) (kM : Kp TB M0 M) (hr0 : 0 ≤ r0 ∧ r0 ≤ 5) (hl1 : (-1) ≤ l1 ∧ l1 ≤ (-1)) (hl2 : 0 ≤ l2 ∧ l2 ≤ 12) (hl3 : 12 ≤ l3 ∧ l3 ≤ 12), 13 - l2 < N5 + 1 → wp (gJ7_fill_53178_a31_w1_5 fu k5 M r0 l1 l2 l3) (fun r M1 => bI bx1 M1 ∧ Kp TB M0 M1 ∧ (0 ≤ r ∧ r ≤ 0)) := by
  intro r0 l1 l2 l3 M iM kM hr0 hl1 hl2 hl3 m5
  unfold gJ7_fill_53178_a31_w1_5
  refine wp_ite (fun c_1 => ?_) (fun c_1 => ?_)
  · skip
    exact wp_ret ⟨iM, kM, by omega⟩
  · skip
    refine wp_T ⟨by omega, by omega⟩ ?_
    refine wp_sk iM (jm_inL (by omega) (by omega)) kM (by unfold TB; omega) (fun M3 u_2 iM3 kM3 => ?_)
    have w_3 : (jm_w (l2 + 1)) = (l2 + 1) := jm_wid (by omega) (by omega)
    refine wp_e (by exact (jm_w_in _)) (fun v4 e_4 hv4 => ?_)
    have b_5 : -2147483648 ≤ v4 ∧ v4 ≤ 2147483647 := hv4
    exact hk5 r0 l1 v4 l3 M3 iM3 kM3 ⟨by omega, by omega⟩ ⟨by omega, by omega⟩ ⟨by omega, by omega⟩ ⟨by omega, by omega⟩  (by omega)
set_option maxHeartbeats 4000000 in
set_option maxRecDepth 100000 in
theorem s_fJ7_fill_53178_a31_w1_5 (fu : Nat) (hfu : 4000 ≤ fu) (M0 : jm_M) : ∀ (n : Nat) (r0 l1 l2 l3 : Int) (M : jm_M) (iM : bI bx1 M) (kM : Kp TB M0 M) (hr0 : 0 ≤ r0 ∧ r0 ≤ 5) (hl1 : (-1) ≤ l1 ∧ l1 ≤ (-1)) (hl2 : 0 ≤ l2 ∧ l2 ≤ 12) (hl3 : 12 ≤ l3 ∧ l3 ≤ 12), 13 - l2 < (n : Int) → wp (fJ7_fill_53178_a31_w1_5 fu  n M r0 l1 l2 l3) (fun r M1 => bI bx1 M1 ∧ Kp TB M0 M1 ∧ (0 ≤ r ∧ r ≤ 0)) := by
  intro n
  induction n with
  | zero => intro r0 l1 l2 l3 M iM kM hr0 hl1 hl2 hl3 hm; exfalso; omega
  | succ n ih =>
    intro r0 l1 l2 l3 M iM kM hr0 hl1 hl2 hl3 hm
    exact s_gJ7_fill_53178_a31_w1_5 fu hfu M0 (fJ7_fill_53178_a31_w1_5 fu  n) (n : Int) ih r0 l1 l2 l3 M iM kM hr0 hl1 hl2 hl3 (by omega)
set_option maxHeartbeats 4000000 in
set_option maxRecDepth 100000 in
theorem s_fJ7_fill_53178_a31_w1 (fu : Nat) (hfu : 4000 ≤ fu) (M : jm_M) (iM : bI bx1 M) (r0 l1 : Int) (hr0 : 0 ≤ r0 ∧ r0 ≤ 5) (hl1 : (-1) ≤ l1 ∧ l1 ≤ (-1)) : wp (fJ7_fill_53178_a31_w1 fu M r0 l1) (fun r M1 => bI bx1 M1 ∧ Kp TB M M1 ∧ (0 ≤ r ∧ r ≤ 0)) := by
  have kM : Kp TB M M := Kp.rf
  unfold fJ7_fill_53178_a31_w1
  exact s_fJ7_fill_53178_a31_w1_5 fu hfu M    fu r0 l1 0 12 M iM kM ⟨by omega, by omega⟩ ⟨by omega, by omega⟩ ⟨by omega, by omega⟩ ⟨by omega, by omega⟩   (by omega)
set_option maxHeartbeats 4000000 in
set_option maxRecDepth 100000 in
theorem s_gJ7_fill_53178_a32_w1_5 (fu : Nat) (hfu : 4000 ≤ fu) (M0 : jm_M) (k5 : jm_M → Int → Int → Int → Int → jm_R) (N5 : Int) (hk5 : ∀ (r0 l1 l2 l3 : Int) (M : jm_M) (iM : bI bx1 M) (kM : Kp TB M0 M) (hr0 : 0 ≤ r0 ∧ r0 ≤ 5) (hl1 : 0 ≤ l1 ∧ l1 ≤ 0) (hl2 : 0 ≤ l2 ∧ l2 ≤ 5) (hl3 : 5 ≤ l3 ∧ l3 ≤ 5), 6 - l2 < N5 → wp (k5 M r0 l1 l2 l3) (fun r M1 => bI bx1 M1 ∧ Kp TB M0 M1 ∧ (0 ≤ r ∧ r ≤ 0))) : ∀ (r0 l1 l2 l3 : Int) (M : jm_M) (iM : bI bx1 M) (kM : Kp TB M0 M) (hr0 : 0 ≤ r0 ∧ r0 ≤ 5) (hl1 : 0 ≤ l1 ∧ l1 ≤ 0) (hl2 : 0 ≤ l2 ∧ l2 ≤ 5) (hl3 : 5 ≤ l3 ∧ l3 ≤ 5), 6 - l2 < N5 + 1 → wp (gJ7_fill_53178_a32_w1_5 fu k5 M r0 l1 l2 l3) (fun r M1 => bI bx1 M1 ∧ Kp TB M0 M1 ∧ (0 ≤ r ∧ r ≤ 0)) := by
  intro r0 l1 l2 l3 M iM kM hr0 hl1 hl2 hl3 m5
  unfold gJ7_fill_53178_a32_w1_5
  refine wp_ite (fun c_1 => ?_) (fun c_1 => ?_)
  · skip
    exact wp_ret ⟨iM, kM, by omega⟩
  · skip
    refine wp_T ⟨by omega, by omega⟩ ?_
    refine wp_sk iM (jm_inL (by omega) (by omega)) kM (by unfold TB; omega) (fun M3 u_2 iM3 kM3 => ?_)
    have w_3 : (jm_w (l2 + 1)) = (l2 + 1) := jm_wid (by omega) (by omega)
    refine wp_e (by exact (jm_w_in _)) (fun v4 e_4 hv4 => ?_)
    have b_5 : -2147483648 ≤ v4 ∧ v4 ≤ 2147483647 := hv4
    exact hk5 r0 l1 v4 l3 M3 iM3 kM3 ⟨by omega, by omega⟩ ⟨by omega, by omega⟩ ⟨by omega, by omega⟩ ⟨by omega, by omega⟩  (by omega)
set_option maxHeartbeats 4000000 in
set_option maxRecDepth 100000 in
theorem s_fJ7_fill_53178_a32_w1_5 (fu : Nat) (hfu : 4000 ≤ fu) (M0 : jm_M) : ∀ (n : Nat) (r0 l1 l2 l3 : Int) (M : jm_M) (iM : bI bx1 M) (kM : Kp TB M0 M) (hr0 : 0 ≤ r0 ∧ r0 ≤ 5) (hl1 : 0 ≤ l1 ∧ l1 ≤ 0) (hl2 : 0 ≤ l2 ∧ l2 ≤ 5) (hl3 : 5 ≤ l3 ∧ l3 ≤ 5), 6 - l2 < (n : Int) → wp (fJ7_fill_53178_a32_w1_5 fu  n M r0 l1 l2 l3) (fun r M1 => bI bx1 M1 ∧ Kp TB M0 M1 ∧ (0 ≤ r ∧ r ≤ 0)) := by
  intro n
  induction n with
  | zero => intro r0 l1 l2 l3 M iM kM hr0 hl1 hl2 hl3 hm; exfalso; omega
  | succ n ih =>
    intro r0 l1 l2 l3 M iM kM hr0 hl1 hl2 hl3 hm
    exact s_gJ7_fill_53178_a32_w1_5 fu hfu M0 (fJ7_fill_53178_a32_w1_5 fu  n) (n : Int) ih r0 l1 l2 l3 M iM kM hr0 hl1 hl2 hl3 (by omega)
set_option maxHeartbeats 4000000 in
set_option maxRecDepth 100000 in
theorem s_fJ7_fill_53178_a32_w1 (fu : Nat) (hfu : 4000 ≤ fu) (M : jm_M) (iM : bI bx1 M) (r0 l1 : Int) (hr0 : 0 ≤ r0 ∧ r0 ≤ 5) (hl1 : 0 ≤ l1 ∧ l1 ≤ 0) : wp (fJ7_fill_53178_a32_w1 fu M r0 l1) (fun r M1 => bI bx1 M1 ∧ Kp TB M M1 ∧ (0 ≤ r ∧ r ≤ 0)) := by
  have kM : Kp TB M M := Kp.rf
  unfold fJ7_fill_53178_a32_w1
  exact s_fJ7_fill_53178_a32_w1_5 fu hfu M    fu r0 l1 0 5 M iM kM ⟨by omega, by omega⟩ ⟨by omega, by omega⟩ ⟨by omega, by omega⟩ ⟨by omega, by omega⟩   (by omega)
set_option maxHeartbeats 4000000 in
set_option maxRecDepth 100000 in
theorem s_gJ7_fill_53178_a34_w1_5 (fu : Nat) (hfu : 4000 ≤ fu) (M0 : jm_M) (k5 : jm_M → Int → Int → Int → jm_R) (N5 : Int) (hk5 : ∀ (l1 l2 l3 : Int) (M : jm_M) (iM : bI bx1 M) (kM : Kp TB M0 M) (hl1 : 0 ≤ l1 ∧ l1 ≤ 0) (hl2 : 0 ≤ l2 ∧ l2 ≤ 4) (hl3 : 4 ≤ l3 ∧ l3 ≤ 4), 5 - l2 < N5 → wp (k5 M l1 l2 l3) (fun r M1 => bI bx1 M1 ∧ Kp TB M0 M1 ∧ (0 ≤ r ∧ r ≤ 0))) : ∀ (l1 l2 l3 : Int) (M : jm_M) (iM : bI bx1 M) (kM : Kp TB M0 M) (hl1 : 0 ≤ l1 ∧ l1 ≤ 0) (hl2 : 0 ≤ l2 ∧ l2 ≤ 4) (hl3 : 4 ≤ l3 ∧ l3 ≤ 4), 5 - l2 < N5 + 1 → wp (gJ7_fill_53178_a34_w1_5 fu k5 M l1 l2 l3) (fun r M1 => bI bx1 M1 ∧ Kp TB M0 M1 ∧ (0 ≤ r ∧ r ≤ 0)) := by
  intro l1 l2 l3 M iM kM hl1 hl2 hl3 m5
  unfold gJ7_fill_53178_a34_w1_5
  refine wp_ite (fun c_1 => ?_) (fun c_1 => ?_)
  · skip
    exact wp_ret ⟨iM, kM, by omega⟩
  · skip
    refine wp_T ⟨by omega, by omega⟩ ?_
    refine wp_sk iM (jm_inL (by omega) (by omega)) kM (by unfold TB; omega) (fun M3 u_2 iM3 kM3 => ?_)
    have w_3 : (jm_w (l2 + 1)) = (l2 + 1) := jm_wid (by omega) (by omega)
    refine wp_e (by exact (jm_w_in _)) (fun v4 e_4 hv4 => ?_)
    have b_5 : -2147483648 ≤ v4 ∧ v4 ≤ 2147483647 := hv4
    exact hk5 l1 v4 l3 M3 iM3 kM3 ⟨by omega, by omega⟩ ⟨by omega, by omega⟩ ⟨by omega, by omega⟩  (by omega)
set_option maxHeartbeats 4000000 in
set_option maxRecDepth 100000 in
theorem s_fJ7_fill_53178_a34_w1_5 (fu : Nat) (hfu : 4000 ≤ fu) (M0 : jm_M) : ∀ (n : Nat) (l1 l2 l3 : Int) (M : jm_M) (iM : bI bx1 M) (kM : Kp TB M0 M) (hl1 : 0 ≤ l1 ∧ l1 ≤ 0) (hl2 : 0 ≤ l2 ∧ l2 ≤ 4) (hl3 : 4 ≤ l3 ∧ l3 ≤ 4), 5 - l2 < (n : Int) → wp (fJ7_fill_53178_a34_w1_5 fu  n M l1 l2 l3) (fun r M1 => bI bx1 M1 ∧ Kp TB M0 M1 ∧ (0 ≤ r ∧ r ≤ 0)) := by
  intro n
  induction n with
  | zero => intro l1 l2 l3 M iM kM hl1 hl2 hl3 hm; exfalso; omega
  | succ n ih =>
    intro l1 l2 l3 M iM kM hl1 hl2 hl3 hm
    exact s_gJ7_fill_53178_a34_w1_5 fu hfu M0 (fJ7_fill_53178_a34_w1_5 fu  n) (n : Int) ih l1 l2 l3 M iM kM hl1 hl2 hl3 (by omega)
set_option maxHeartbeats 4000000 in
set_option maxRecDepth 100000 in
theorem s_fJ7_fill_53178_a34_w1 (fu : Nat) (hfu : 4000 ≤ fu) (M : jm_M) (iM : bI bx1 M) (l1 : Int) (hl1 : 0 ≤ l1 ∧ l1 ≤ 0) : wp (fJ7_fill_53178_a34_w1 fu M l1) (fun r M1 => bI bx1 M1 ∧ Kp TB M M1 ∧ (0 ≤ r ∧ r ≤ 0)) := by
  have kM : Kp TB M M := Kp.rf
  unfold fJ7_fill_53178_a34_w1
  exact s_fJ7_fill_53178_a34_w1_5 fu hfu M    fu l1 0 4 M iM kM ⟨by omega, by omega⟩ ⟨by omega, by omega⟩ ⟨by omega, by omega⟩   (by omega)
theorem jm_tabs : ∀ j : Nat, j < 33 → lenC1 (j : Int) = lim1 (j : Int) * wid1 (j : Int) := by decide +kernel
theorem jm_tab {r0 l1 l2 s : Int} (h0 : 0 ≤ r0 ∧ r0 ≤ 32) (h1 : 0 ≤ l1 ∧ l1 < s) (hs : s ≤ lim1 r0) (h2 : 0 ≤ l2 ∧ l2 < wid1 r0) : 0 ≤ jm_w (jm_w (l1 * wid1 r0) + l2) ∧ jm_w (jm_w (l1 * wid1 r0) + l2) < lenC1 r0 := by
  have e := jm_tabs r0.toNat (by omega)
  have er : ((r0.toNat : Nat) : Int) = r0 := by omega
  rw [er] at e
  have hl := lim1_any r0
  have hw := wid1_any r0
  rw [e]
  rcases (by omega : wid1 r0 = 2 ∨ wid1 r0 = 3 ∨ wid1 r0 = 4) with q | q | q
  all_goals
    rw [q] at h2 ⊢
    have w1 := jm_wid (x := l1 * 2) (by omega) (by omega)
    have w2 := jm_wid (x := l1 * 3) (by omega) (by omega)
    have w3 := jm_wid (x := l1 * 4) (by omega) (by omega)
    first | rw [w1] | rw [w2] | rw [w3]
    rw [jm_wid (by omega) (by omega)]
    omega
theorem s_fX7_cell (M : jm_M) (iM : bI bx1 M) (r0 l1 l2 : Int) (hr0 : 0 ≤ r0 ∧ r0 ≤ 32) (hl1 : jm_in l1) (hl2 : jm_in l2) : wp (fX7_cell M r0 l1 l2) (fun r M1 => M1 = M ∧ (jm_in r)) := by
  have b3 : 0 ≤ M 10 r0 3 ∧ M 10 r0 3 ≤ lim1 r0 := iM 10 r0 3
  have b1 : M 10 r0 1 = wid1 r0 := iM 10 r0 1
  have n1 : jm_in (-1) := jm_inL (by decide) (by decide)
  unfold fX7_cell
  refine wp_ite (fun c1 => wp_ret ⟨rfl, n1⟩) (fun c1 => ?_)
  refine wp_ite (fun c2 => wp_ret ⟨rfl, n1⟩) (fun c2 => ?_)
  refine wp_ite (fun c3 => wp_ret ⟨rfl, n1⟩) (fun c3 => ?_)
  refine wp_ite (fun c4 => ?_) (fun c4 => wp_ret ⟨rfl, n1⟩)
  rw [b1] at c4 ⊢
  refine wp_T (jm_tab hr0 ⟨by omega, by omega⟩ b3.2 ⟨by omega, c4⟩) ?_
  exact wp_ret ⟨rfl, iM 19 r0 _⟩
set_option maxHeartbeats 4000000 in
set_option maxRecDepth 100000 in
theorem s_fX0_isOf (M : jm_M) (iM : bI bx1 M) (l1 l2 l3 : Int) (hl1 : 0 ≤ l1 ∧ l1 ≤ 19) (hl2 : 0 ≤ l2 ∧ l2 ≤ 5) (hl3 : 0 ≤ l3 ∧ l3 ≤ 1) : wp (fX0_isOf M l1 l2 l3) (fun r M1 => M1 = M ∧ (0 ≤ r ∧ r ≤ 1)) := by
  unfold fX0_isOf
  refine wp_bp (s_fX7_cell M iM 32 l1 1 ⟨by omega, by omega⟩ (jm_inL (by omega) (by omega)) (jm_inL (by decide) (by decide)) ) (fun v1 hv1 => ?_)
  have b_2 : -2147483648 ≤ v1 ∧ v1 ≤ 2147483647 := hv1
  refine wp_ite (fun c_1 => ?_) (fun c_1 => ?_)
  · skip
    refine wp_bp (s_fX7_cell M iM 32 l1 2 ⟨by omega, by omega⟩ (jm_inL (by omega) (by omega)) (jm_inL (by decide) (by decide)) ) (fun v5 hv5 => ?_)
    have b_4 : -2147483648 ≤ v5 ∧ v5 ≤ 2147483647 := hv5
    refine wp_ite (fun c_3 => ?_) (fun c_3 => ?_)
    · skip
      exact wp_ret ⟨rfl, by omega⟩
    · skip
      exact wp_ret ⟨rfl, by omega⟩
  · skip
    exact wp_ret ⟨rfl, by omega⟩
set_option maxHeartbeats 4000000 in
set_option maxRecDepth 100000 in
theorem s_fX11_isIndex (M : jm_M) (iM : bI bx1 M) (l0 l1 : Int) (hl0 : jm_in l0) (hl1 : 0 ≤ l1 ∧ l1 ≤ 60) : wp (fX11_isIndex M l0 l1) (fun r M1 => M1 = M ∧ ((r = 1 ∧ 0 ≤ l0 ∧ l0 < l1) ∨ (r = 0 ∧ ¬ (0 ≤ l0 ∧ l0 < l1)))) := by
  unfold fX11_isIndex
  have b_2 : -2147483648 ≤ l0 ∧ l0 ≤ 2147483647 := hl0
  refine wp_ite (fun c_1 => ?_) (fun c_1 => ?_)
  · skip
    exact wp_ret ⟨rfl, by omega⟩
  · skip
    refine wp_ite (fun c_3 => ?_) (fun c_3 => ?_)
    · skip
      exact wp_ret ⟨rfl, by omega⟩
    · skip
      exact wp_ret ⟨rfl, by omega⟩
set_option maxHeartbeats 4000000 in
set_option maxRecDepth 100000 in
theorem s_fX4_let (M : jm_M) (iM : bI bx1 M) (l1 l2 : Int) (hl1 : 90 ≤ l1 ∧ l1 ≤ 199) (hl2 : jm_in l2) : wp (fX4_let M l1 l2) (fun r M1 => bI bx1 M1 ∧ Kp TLH M M1 ∧ (0 ≤ r ∧ r ≤ 0)) := by
  have kM : Kp TLH M M := Kp.rf
  unfold fX4_let
  refine wp_bp (s_fX11_isIndex M iM (jm_w (l1 - 97)) 26 (jm_w_in _) ⟨by omega, by omega⟩ ) (fun v1 hv1 => ?_)
  have w_1 : (jm_w (l1 - 97)) = (l1 - 97) := jm_wid (by omega) (by omega)
  refine wp_ite (fun c_2 => ?_) (fun c_2 => ?_)
  · skip
    exact wp_ret ⟨iM, kM, by omega⟩
  · skip
    refine wp_T ⟨by omega, by omega⟩ ?_
    refine wp_sk iM hl2 kM (by unfold TLH; omega) (fun M6 u_3 iM6 kM6 => ?_)
    exact wp_ret ⟨iM6, kM6, by omega⟩
set_option maxHeartbeats 4000000 in
set_option maxRecDepth 100000 in
theorem s_fX4_join (M : jm_M) (iM : bI bx1 M) (l0 l1 l2 : Int) (hl0 : 0 ≤ l0 ∧ l0 ≤ 2147481647) (hl1 : jm_in l1) (hl2 : jm_in l2) : wp (fX4_join M l0 l1 l2) (fun r M1 => M1 = M ∧ (jm_in r)) := by
  unfold fX4_join
  refine wp_ite (fun c_1 => ?_) (fun c_1 => ?_)
  · skip
    have b_3 : -2147483648 ≤ l1 ∧ l1 ≤ 2147483647 := hl1
    refine wp_ite (fun c_2 => ?_) (fun c_2 => ?_)
    · skip
      exact wp_ret ⟨rfl, (jm_inL (by decide) (by decide))⟩
    · skip
      have b_5 : -2147483648 ≤ l2 ∧ l2 ≤ 2147483647 := hl2
      refine wp_ite (fun c_4 => ?_) (fun c_4 => ?_)
      · skip
        exact wp_ret ⟨rfl, (jm_inL (by decide) (by decide))⟩
      · skip
        exact wp_ret ⟨rfl, (jm_inL (by decide) (by decide))⟩
  · skip
    refine wp_ite (fun c_6 => ?_) (fun c_6 => ?_)
    · skip
      have b_7 : -2147483648 ≤ l1 ∧ l1 ≤ 2147483647 := hl1
      have b_8 : -2147483648 ≤ l2 ∧ l2 ≤ 2147483647 := hl2
      have w_9 : -2147483648 ≤ (jm_w (l1 + l2)) ∧ (jm_w (l1 + l2)) ≤ 2147483647 := jm_w_in _
      exact wp_ret ⟨rfl, (jm_w_in _)⟩
    · skip
      refine wp_ite (fun c_10 => ?_) (fun c_10 => ?_)
      · skip
        have b_11 : -2147483648 ≤ l1 ∧ l1 ≤ 2147483647 := hl1
        have b_12 : -2147483648 ≤ l2 ∧ l2 ≤ 2147483647 := hl2
        have w_13 : -2147483648 ≤ (jm_w (l1 - l2)) ∧ (jm_w (l1 - l2)) ≤ 2147483647 := jm_w_in _
        exact wp_ret ⟨rfl, (jm_w_in _)⟩
      · skip
        refine wp_ite (fun c_14 => ?_) (fun c_14 => ?_)
        · skip
          have b_16 : -2147483648 ≤ l2 ∧ l2 ≤ 2147483647 := hl2
          have b_17 : -2147483648 ≤ l1 ∧ l1 ≤ 2147483647 := hl1
          refine wp_ite (fun c_15 => ?_) (fun c_15 => ?_)
          · skip
            exact wp_ret ⟨rfl, (jm_inL (by decide) (by decide))⟩
          · skip
            exact wp_ret ⟨rfl, (jm_inL (by decide) (by decide))⟩
        · skip
          refine wp_ite (fun c_18 => ?_) (fun c_18 => ?_)
          · skip
            have b_20 : -2147483648 ≤ l1 ∧ l1 ≤ 2147483647 := hl1
            have b_21 : -2147483648 ≤ l2 ∧ l2 ≤ 2147483647 := hl2
            refine wp_ite (fun c_19 => ?_) (fun c_19 => ?_)
            · skip
              exact wp_ret ⟨rfl, (jm_inL (by decide) (by decide))⟩
            · skip
              exact wp_ret ⟨rfl, (jm_inL (by decide) (by decide))⟩
          · skip
            refine wp_ite (fun c_22 => ?_) (fun c_22 => ?_)
            · skip
              have b_24 : -2147483648 ≤ l1 ∧ l1 ≤ 2147483647 := hl1
              have b_25 : -2147483648 ≤ l2 ∧ l2 ≤ 2147483647 := hl2
              refine wp_ite (fun c_23 => ?_) (fun c_23 => ?_)
              · skip
                exact wp_ret ⟨rfl, (jm_inL (by decide) (by decide))⟩
              · skip
                exact wp_ret ⟨rfl, (jm_inL (by decide) (by decide))⟩
            · skip
              refine wp_ite (fun c_26 => ?_) (fun c_26 => ?_)
              · skip
                have b_28 : -2147483648 ≤ l1 ∧ l1 ≤ 2147483647 := hl1
                refine wp_ite (fun c_27 => ?_) (fun c_27 => ?_)
                · skip
                  have b_30 : -2147483648 ≤ l2 ∧ l2 ≤ 2147483647 := hl2
                  refine wp_ite (fun c_29 => ?_) (fun c_29 => ?_)
                  · skip
                    exact wp_ret ⟨rfl, (jm_inL (by decide) (by decide))⟩
                  · skip
                    exact wp_ret ⟨rfl, (jm_inL (by decide) (by decide))⟩
                · skip
                  exact wp_ret ⟨rfl, (jm_inL (by decide) (by decide))⟩
              · skip
                have b_31 : -2147483648 ≤ l1 ∧ l1 ≤ 2147483647 := hl1
                have b_32 : -2147483648 ≤ l2 ∧ l2 ≤ 2147483647 := hl2
                have w_33 : -2147483648 ≤ (jm_w (l1 * l2)) ∧ (jm_w (l1 * l2)) ≤ 2147483647 := jm_w_in _
                exact wp_ret ⟨rfl, (jm_w_in _)⟩
set_option maxHeartbeats 4000000 in
set_option maxRecDepth 100000 in
theorem s_gX4_holds_163 (fu : Nat) (hfu : 4000 ≤ fu) (M0 : jm_M) (k47 : jm_M → Int → Int → Int → Int → Int → jm_R) (N47 : Int) (hk47 : ∀ (r1 l3 l4 l5 l6 : Int) (M : jm_M) (iM : bI bx1 M) (kM : Kp TLH M0 M) (hr1 : 0 ≤ r1 ∧ r1 ≤ 16) (hl3 : 0 ≤ l3 ∧ l3 ≤ 60) (hl4 : 0 ≤ l4 ∧ l4 ≤ 60) (hl5 : (-1) ≤ l5 ∧ l5 ≤ 59) (hl6 : 0 ≤ l6 ∧ l6 ≤ 60), 61 - l6 < N47 → wp (k47 M r1 l3 l4 l5 l6) (fun r M1 => bI bx1 M1 ∧ Kp TLH M0 M1 ∧ (0 ≤ r ∧ r ≤ 1))) : ∀ (r1 l3 l4 l5 l6 l7 : Int) (M : jm_M) (iM : bI bx1 M) (kM : Kp TLH M0 M) (hr1 : 0 ≤ r1 ∧ r1 ≤ 16) (hl3 : 0 ≤ l3 ∧ l3 ≤ 60) (hl4 : 1 ≤ l4 ∧ l4 ≤ 60) (hl5 : (-1) ≤ l5 ∧ l5 ≤ 59) (hl6 : 0 ≤ l6 ∧ l6 ≤ 59) (hl7 : 2000 ≤ l7 ∧ l7 ≤ 2147483647), 61 - l6 < N47 + 1 → wp (gX4_holds_163 fu k47 M r1 l3 l4 l5 l6 l7) (fun r M1 => bI bx1 M1 ∧ Kp TLH M0 M1 ∧ (0 ≤ r ∧ r ≤ 1)) := by
  intro r1 l3 l4 l5 l6 l7 M iM kM hr1 hl3 hl4 hl5 hl6 hl7 m47
  unfold gX4_holds_163
  refine wp_ite (fun c_1 => ?_) (fun c_1 => ?_)
  · skip
    have w_2 : (jm_w (l6 + 1)) = (l6 + 1) := jm_wid (by omega) (by omega)
    refine wp_e (by exact (jm_w_in _)) (fun v2 e_3 hv2 => ?_)
    have b_4 : -2147483648 ≤ v2 ∧ v2 ≤ 2147483647 := hv2
    exact hk47 r1 l3 l4 l5 v2 M iM kM ⟨by omega, by omega⟩ ⟨by omega, by omega⟩ ⟨by omega, by omega⟩ ⟨by omega, by omega⟩ ⟨by omega, by omega⟩  (by omega)
  · skip
    have w_5 : (jm_w (l5 + (-1))) = (l5 + (-1)) := jm_wid (by omega) (by omega)
    refine wp_e (by exact (jm_w_in _)) (fun v4 e_6 hv4 => ?_)
    have b_7 : -2147483648 ≤ v4 ∧ v4 ≤ 2147483647 := hv4
    refine wp_T ⟨by omega, by omega⟩ ?_
    have w_8 : (jm_w (v4 + 1)) = (v4 + 1) := jm_wid (by omega) (by omega)
    refine wp_T ⟨by omega, by omega⟩ ?_
    have w_9 : (jm_w (l7 - 2000)) = (l7 - 2000) := jm_wid (by omega) (by omega)
    refine wp_bp (s_fX4_join M iM (jm_w (l7 - 2000)) (M 28 0 v4) (M 28 0 (jm_w (v4 + 1))) ⟨by omega, by omega⟩ (iM 28 0 v4) (iM 28 0 (jm_w (v4 + 1))) ) (fun v10 hv10 => ?_)
    refine wp_T ⟨by omega, by omega⟩ ?_
    refine wp_sk iM hv10 kM (by unfold TLH; omega) (fun M14 u_10 iM14 kM14 => ?_)
    have w_11 : (jm_w (l6 + 1)) = (l6 + 1) := jm_wid (by omega) (by omega)
    refine wp_e (by exact (jm_w_in _)) (fun v15 e_12 hv15 => ?_)
    have b_13 : -2147483648 ≤ v15 ∧ v15 ≤ 2147483647 := hv15
    exact hk47 r1 l3 l4 v4 v15 M14 iM14 kM14 ⟨by omega, by omega⟩ ⟨by omega, by omega⟩ ⟨by omega, by omega⟩ ⟨by omega, by omega⟩ ⟨by omega, by omega⟩  (by omega)
set_option maxHeartbeats 4000000 in
set_option maxRecDepth 100000 in
theorem s_gX4_holds_119 (fu : Nat) (hfu : 4000 ≤ fu) (M0 : jm_M) (k47 : jm_M → Int → Int → Int → Int → Int → jm_R) (N47 : Int) (hk47 : ∀ (r1 l3 l4 l5 l6 : Int) (M : jm_M) (iM : bI bx1 M) (kM : Kp TLH M0 M) (hr1 : 0 ≤ r1 ∧ r1 ≤ 16) (hl3 : 0 ≤ l3 ∧ l3 ≤ 60) (hl4 : 0 ≤ l4 ∧ l4 ≤ 60) (hl5 : (-1) ≤ l5 ∧ l5 ≤ 59) (hl6 : 0 ≤ l6 ∧ l6 ≤ 60), 61 - l6 < N47 → wp (k47 M r1 l3 l4 l5 l6) (fun r M1 => bI bx1 M1 ∧ Kp TLH M0 M1 ∧ (0 ≤ r ∧ r ≤ 1))) : ∀ (r1 l3 l4 l5 l6 l7 : Int) (M : jm_M) (iM : bI bx1 M) (kM : Kp TLH M0 M) (hr1 : 0 ≤ r1 ∧ r1 ≤ 16) (hl3 : 0 ≤ l3 ∧ l3 ≤ 60) (hl4 : 1 ≤ l4 ∧ l4 ≤ 60) (hl5 : 0 ≤ l5 ∧ l5 ≤ 59) (hl6 : 0 ≤ l6 ∧ l6 ≤ 59) (hl7 : 2033 ≤ l7 ∧ l7 ≤ 2126), 61 - l6 < N47 + 1 → wp (gX4_holds_119 fu k47 M r1 l3 l4 l5 l6 l7) (fun r M1 => bI bx1 M1 ∧ Kp TLH M0 M1 ∧ (0 ≤ r ∧ r ≤ 1)) := by
  intro r1 l3 l4 l5 l6 l7 M iM kM hr1 hl3 hl4 hl5 hl6 hl7 m47
  unfold gX4_holds_119
  refine wp_ite (fun c_1 => ?_) (fun c_1 => ?_)
  · skip
    refine wp_T ⟨by omega, by omega⟩ ?_
    refine wp_T ⟨by omega, by omega⟩ ?_
    refine wp_sk iM (jm_w_in _) kM (by unfold TLH; omega) (fun M5 u_2 iM5 kM5 => ?_)
    have w_3 : (jm_w (l6 + 1)) = (l6 + 1) := jm_wid (by omega) (by omega)
    refine wp_e (by exact (jm_w_in _)) (fun v6 e_4 hv6 => ?_)
    have b_5 : -2147483648 ≤ v6 ∧ v6 ≤ 2147483647 := hv6
    exact hk47 r1 l3 l4 l5 v6 M5 iM5 kM5 ⟨by omega, by omega⟩ ⟨by omega, by omega⟩ ⟨by omega, by omega⟩ ⟨by omega, by omega⟩ ⟨by omega, by omega⟩  (by omega)
  · skip
    refine wp_T ⟨by omega, by omega⟩ ?_
    have b_7 : (-2147483648) ≤ (M 28 0 l5) ∧ (M 28 0 l5) ≤ 2147483647 := iM 28 0 l5
    refine wp_ite (fun c_6 => ?_) (fun c_6 => ?_)
    · skip
      refine wp_T ⟨by omega, by omega⟩ ?_
      refine wp_sk iM (jm_inL (by decide) (by decide)) kM (by unfold TLH; omega) (fun M12 u_8 iM12 kM12 => ?_)
      have w_9 : (jm_w (l6 + 1)) = (l6 + 1) := jm_wid (by omega) (by omega)
      refine wp_e (by exact (jm_w_in _)) (fun v13 e_10 hv13 => ?_)
      have b_11 : -2147483648 ≤ v13 ∧ v13 ≤ 2147483647 := hv13
      exact hk47 r1 l3 l4 l5 v13 M12 iM12 kM12 ⟨by omega, by omega⟩ ⟨by omega, by omega⟩ ⟨by omega, by omega⟩ ⟨by omega, by omega⟩ ⟨by omega, by omega⟩  (by omega)
    · skip
      refine wp_T ⟨by omega, by omega⟩ ?_
      refine wp_sk iM (jm_inL (by decide) (by decide)) kM (by unfold TLH; omega) (fun M16 u_12 iM16 kM16 => ?_)
      have w_13 : (jm_w (l6 + 1)) = (l6 + 1) := jm_wid (by omega) (by omega)
      refine wp_e (by exact (jm_w_in _)) (fun v17 e_14 hv17 => ?_)
      have b_15 : -2147483648 ≤ v17 ∧ v17 ≤ 2147483647 := hv17
      exact hk47 r1 l3 l4 l5 v17 M16 iM16 kM16 ⟨by omega, by omega⟩ ⟨by omega, by omega⟩ ⟨by omega, by omega⟩ ⟨by omega, by omega⟩ ⟨by omega, by omega⟩  (by omega)
set_option maxHeartbeats 4000000 in
set_option maxRecDepth 100000 in
theorem s_fX4_valueOf (M : jm_M) (iM : bI bx1 M) (l1 : Int) (hl1 : (-2147483648) ≤ l1 ∧ l1 ≤ 1999) : wp (fX4_valueOf M l1) (fun r M1 => M1 = M ∧ (jm_in r)) := by
  unfold fX4_valueOf
  refine wp_ite (fun c_1 => ?_) (fun c_1 => ?_)
  · skip
    have w_2 : (jm_w (l1 - 1000)) = (l1 - 1000) := jm_wid (by omega) (by omega)
    refine wp_e (by exact (jm_w_in _)) (fun v2 e_3 hv2 => ?_)
    have b_5 : -2147483648 ≤ v2 ∧ v2 ≤ 2147483647 := hv2
    refine wp_ite (fun c_4 => ?_) (fun c_4 => ?_)
    · skip
      exact wp_ret ⟨rfl, (jm_inL (by decide) (by decide))⟩
    · skip
      refine wp_T ⟨by omega, by omega⟩ ?_
      have b_6 : (-2147483648) ≤ (M 27 0 v2) ∧ (M 27 0 v2) ≤ 2147483647 := iM 27 0 v2
      exact wp_ret ⟨rfl, (iM 27 0 v2)⟩
  · skip
    exact wp_ret ⟨rfl, (jm_inL (by omega) (by omega))⟩
set_option maxHeartbeats 4000000 in
set_option maxRecDepth 100000 in
theorem s_gX4_holds_47 (fu : Nat) (hfu : 4000 ≤ fu) (M0 : jm_M) (k47 : jm_M → Int → Int → Int → Int → Int → jm_R) (N47 : Int) (hk47 : ∀ (r1 l3 l4 l5 l6 : Int) (M : jm_M) (iM : bI bx1 M) (kM : Kp TLH M0 M) (hr1 : 0 ≤ r1 ∧ r1 ≤ 16) (hl3 : 0 ≤ l3 ∧ l3 ≤ 60) (hl4 : 0 ≤ l4 ∧ l4 ≤ 60) (hl5 : (-1) ≤ l5 ∧ l5 ≤ 59) (hl6 : 0 ≤ l6 ∧ l6 ≤ 60), 61 - l6 < N47 → wp (k47 M r1 l3 l4 l5 l6) (fun r M1 => bI bx1 M1 ∧ Kp TLH M0 M1 ∧ (0 ≤ r ∧ r ≤ 1))) : ∀ (r1 l3 l4 l5 l6 : Int) (M : jm_M) (iM : bI bx1 M) (kM : Kp TLH M0 M) (hr1 : 0 ≤ r1 ∧ r1 ≤ 16) (hl3 : 0 ≤ l3 ∧ l3 ≤ 60) (hl4 : 0 ≤ l4 ∧ l4 ≤ 60) (hl5 : (-1) ≤ l5 ∧ l5 ≤ 59) (hl6 : 0 ≤ l6 ∧ l6 ≤ 60), 61 - l6 < N47 + 1 → wp (gX4_holds_47 fu k47 M r1 l3 l4 l5 l6) (fun r M1 => bI bx1 M1 ∧ Kp TLH M0 M1 ∧ (0 ≤ r ∧ r ≤ 1)) := by
  intro r1 l3 l4 l5 l6 M iM kM hr1 hl3 hl4 hl5 hl6 m47
  unfold gX4_holds_47
  refine wp_ite (fun c_1 => ?_) (fun c_1 => ?_)
  · skip
    refine wp_ite (fun c_2 => ?_) (fun c_2 => ?_)
    · skip
      exact wp_ret ⟨iM, kM, by omega⟩
    · skip
      refine wp_T ⟨by omega, by omega⟩ ?_
      have b_4 : (-2147483648) ≤ (M 28 0 0) ∧ (M 28 0 0) ≤ 2147483647 := iM 28 0 0
      refine wp_ite (fun c_3 => ?_) (fun c_3 => ?_)
      · skip
        exact wp_ret ⟨iM, kM, by omega⟩
      · skip
        exact wp_ret ⟨iM, kM, by omega⟩
  · skip
    refine wp_T ⟨by omega, by omega⟩ ?_
    have b_5 : (-2147483648) ≤ (M 20 r1 l6) ∧ (M 20 r1 l6) ≤ 2147483647 := iM 20 r1 l6
    refine wp_e (by exact (iM 20 r1 l6)) (fun v8 e_6 hv8 => ?_)
    have b_8 : -2147483648 ≤ v8 ∧ v8 ≤ 2147483647 := hv8
    refine wp_ite (fun c_7 => ?_) (fun c_7 => ?_)
    · skip
      refine wp_ite (fun c_9 => ?_) (fun c_9 => ?_)
      · skip
        exact s_gX4_holds_163 fu hfu M0 k47 N47 hk47 r1 l3 l4 l5 l6 v8 M iM kM ⟨by omega, by omega⟩ ⟨by omega, by omega⟩ ⟨by omega, by omega⟩ ⟨by omega, by omega⟩ ⟨by omega, by omega⟩ ⟨by omega, by omega⟩  (by omega)
      · skip
        refine wp_ite (fun c_10 => ?_) (fun c_10 => ?_)
        · skip
          exact s_gX4_holds_119 fu hfu M0 k47 N47 hk47 r1 l3 l4 l5 l6 v8 M iM kM ⟨by omega, by omega⟩ ⟨by omega, by omega⟩ ⟨by omega, by omega⟩ ⟨by omega, by omega⟩ ⟨by omega, by omega⟩ ⟨by omega, by omega⟩  (by omega)
        · skip
          refine wp_ite (fun c_11 => ?_) (fun c_11 => ?_)
          · skip
            exact s_gX4_holds_119 fu hfu M0 k47 N47 hk47 r1 l3 l4 l5 l6 v8 M iM kM ⟨by omega, by omega⟩ ⟨by omega, by omega⟩ ⟨by omega, by omega⟩ ⟨by omega, by omega⟩ ⟨by omega, by omega⟩ ⟨by omega, by omega⟩  (by omega)
          · skip
            exact s_gX4_holds_163 fu hfu M0 k47 N47 hk47 r1 l3 l4 l5 l6 v8 M iM kM ⟨by omega, by omega⟩ ⟨by omega, by omega⟩ ⟨by omega, by omega⟩ ⟨by omega, by omega⟩ ⟨by omega, by omega⟩ ⟨by omega, by omega⟩  (by omega)
    · skip
      have w_12 : (jm_w (l5 + 1)) = (l5 + 1) := jm_wid (by omega) (by omega)
      have f_13 := jm_min_f (jm_w (l5 + 1)) 59
      refine wp_e (by exact (jm_min_in (jm_w_in _) (jm_inL (by decide) (by decide)))) (fun v14 e_14 hv14 => ?_)
      refine wp_bp (s_fX4_valueOf M iM v8 ⟨by omega, by omega⟩ ) (fun v16 hv16 => ?_)
      have b_15 : -2147483648 ≤ v14 ∧ v14 ≤ 2147483647 := hv14
      refine wp_T ⟨by omega, by omega⟩ ?_
      refine wp_sk iM hv16 kM (by unfold TLH; omega) (fun M20 u_16 iM20 kM20 => ?_)
      have w_17 : (jm_w (l6 + 1)) = (l6 + 1) := jm_wid (by omega) (by omega)
      refine wp_e (by exact (jm_w_in _)) (fun v21 e_18 hv21 => ?_)
      have b_19 : -2147483648 ≤ v21 ∧ v21 ≤ 2147483647 := hv21
      exact hk47 r1 l3 l4 v14 v21 M20 iM20 kM20 ⟨by omega, by omega⟩ ⟨by omega, by omega⟩ ⟨by omega, by omega⟩ ⟨by omega, by omega⟩ ⟨by omega, by omega⟩  (by omega)
set_option maxHeartbeats 4000000 in
set_option maxRecDepth 100000 in
theorem s_fX4_holds_47 (fu : Nat) (hfu : 4000 ≤ fu) (M0 : jm_M) : ∀ (n : Nat) (r1 l3 l4 l5 l6 : Int) (M : jm_M) (iM : bI bx1 M) (kM : Kp TLH M0 M) (hr1 : 0 ≤ r1 ∧ r1 ≤ 16) (hl3 : 0 ≤ l3 ∧ l3 ≤ 60) (hl4 : 0 ≤ l4 ∧ l4 ≤ 60) (hl5 : (-1) ≤ l5 ∧ l5 ≤ 59) (hl6 : 0 ≤ l6 ∧ l6 ≤ 60), 61 - l6 < (n : Int) → wp (fX4_holds_47 fu  n M r1 l3 l4 l5 l6) (fun r M1 => bI bx1 M1 ∧ Kp TLH M0 M1 ∧ (0 ≤ r ∧ r ≤ 1)) := by
  intro n
  induction n with
  | zero => intro r1 l3 l4 l5 l6 M iM kM hr1 hl3 hl4 hl5 hl6 hm; exfalso; omega
  | succ n ih =>
    intro r1 l3 l4 l5 l6 M iM kM hr1 hl3 hl4 hl5 hl6 hm
    exact s_gX4_holds_47 fu hfu M0 (fX4_holds_47 fu  n) (n : Int) ih r1 l3 l4 l5 l6 M iM kM hr1 hl3 hl4 hl5 hl6 (by omega)
set_option maxHeartbeats 4000000 in
set_option maxRecDepth 100000 in
theorem s_gX4_holds_27 (fu : Nat) (hfu : 4000 ≤ fu) (M0 : jm_M) : ∀ (r1 l2 s0 : Int) (M : jm_M) (iM : bI bx1 M) (kM : Kp TLH M0 M) (hr1 : 0 ≤ r1 ∧ r1 ≤ 16) (hl2 : 0 ≤ l2 ∧ l2 ≤ 20) (hs0 : 0 ≤ s0 ∧ s0 ≤ 60), wp (gX4_holds_27 fu  M r1 l2 s0) (fun r M1 => bI bx1 M1 ∧ Kp TLH M0 M1 ∧ (0 ≤ r ∧ r ≤ 1)) := by
  intro r1 l2 s0 M iM kM hr1 hl2 hs0
  unfold gX4_holds_27
  refine wp_T ⟨by omega, by omega⟩ ?_
  have b_1 : 0 ≤ (M 21 r1 l2) ∧ (M 21 r1 l2) ≤ 60 := iM 21 r1 l2
  have f_2 := jm_min_f (M 21 r1 l2) 60
  refine wp_e (by exact (jm_min_in (jm_inL (by omega) (by omega)) (jm_inL (by decide) (by decide)))) (fun v3 e_3 hv3 => ?_)
  have b_4 : -2147483648 ≤ v3 ∧ v3 ≤ 2147483647 := hv3
  exact s_fX4_holds_47 fu hfu M0    fu r1 s0 v3 (-1) s0 M iM kM ⟨by omega, by omega⟩ ⟨by omega, by omega⟩ ⟨by omega, by omega⟩ ⟨by omega, by omega⟩ ⟨by omega, by omega⟩   (by omega)
set_option maxHeartbeats 4000000 in
set_option maxRecDepth 100000 in
theorem s_fX4_holds (fu : Nat) (hfu : 4000 ≤ fu) (M : jm_M) (iM : bI bx1 M) (r1 l2 : Int) (hr1 : 0 ≤ r1 ∧ r1 ≤ 16) (hl2 : 0 ≤ l2 ∧ l2 ≤ 20) : wp (fX4_holds fu M r1 l2) (fun r M1 => bI bx1 M1 ∧ Kp TLH M M1 ∧ (0 ≤ r ∧ r ≤ 1)) := by
  have kM : Kp TLH M M := Kp.rf
  unfold fX4_holds
  refine wp_bp (s_fX11_isIndex M iM l2 21 (jm_inL (by omega) (by omega)) ⟨by omega, by omega⟩ ) (fun v1 hv1 => ?_)
  refine wp_ite (fun c_1 => ?_) (fun c_1 => ?_)
  · skip
    exact wp_ret ⟨iM, kM, by omega⟩
  · skip
    refine wp_ite (fun c_2 => ?_) (fun c_2 => ?_)
    · skip
      exact s_gX4_holds_27 fu hfu M    r1 l2 0 M iM kM ⟨by omega, by omega⟩ ⟨by omega, by omega⟩ ⟨by omega, by omega⟩  
    · skip
      have w_3 : (jm_w (l2 - 1)) = (l2 - 1) := jm_wid (by omega) (by omega)
      refine wp_T ⟨by omega, by omega⟩ ?_
      have b_4 : 0 ≤ (M 21 r1 (jm_w (l2 - 1))) ∧ (M 21 r1 (jm_w (l2 - 1))) ≤ 60 := iM 21 r1 (jm_w (l2 - 1))
      exact s_gX4_holds_27 fu hfu M    r1 l2 (M 21 r1 (jm_w (l2 - 1))) M iM kM ⟨by omega, by omega⟩ ⟨by omega, by omega⟩ ⟨by omega, by omega⟩  
set_option maxHeartbeats 4000000 in
set_option maxRecDepth 100000 in
theorem s_gX0_secondsBy_130 (fu : Nat) (hfu : 4000 ≤ fu) (M0 : jm_M) (k130 : jm_M → Int → Int → Int → jm_R) (N130 : Int) (hk130 : ∀ (l5 l6 l7 : Int) (M : jm_M) (iM : bI bx1 M) (kM : Kp TJ M0 M) (hl5 : 0 ≤ l5 ∧ l5 ≤ 99) (hl6 : jm_in l6) (hl7 : 0 ≤ l7 ∧ l7 ≤ 10), 11 - l7 < N130 → wp (k130 M l5 l6 l7) (fun r M1 => bI bx1 M1 ∧ Kp TJ M0 M1 ∧ (jm_in r))) : ∀ (l5 l6 l7 : Int) (M : jm_M) (iM : bI bx1 M) (kM : Kp TJ M0 M) (hl5 : 0 ≤ l5 ∧ l5 ≤ 99) (hl6 : jm_in l6) (hl7 : 0 ≤ l7 ∧ l7 ≤ 10), 11 - l7 < N130 + 1 → wp (gX0_secondsBy_130 fu k130 M l5 l6 l7) (fun r M1 => bI bx1 M1 ∧ Kp TJ M0 M1 ∧ (jm_in r)) := by
  intro l5 l6 l7 M iM kM hl5 hl6 hl7 m130
  unfold gX0_secondsBy_130
  have b_2 : 0 ≤ (M 3 0 3) ∧ (M 3 0 3) ≤ 10 := iM 3 0 3
  refine wp_ite (fun c_1 => ?_) (fun c_1 => ?_)
  · skip
    have b_3 : -2147483648 ≤ l6 ∧ l6 ≤ 2147483647 := hl6
    exact wp_ret ⟨iM, kM, hl6⟩
  · skip
    refine wp_F (by omega) ?_
    refine wp_T ⟨by omega, by omega⟩ ?_
    have b_6 : (-2147483648) ≤ (M 35 0 l7) ∧ (M 35 0 l7) ≤ 2147483647 := iM 35 0 l7
    refine wp_ite (fun c_5 => ?_) (fun c_5 => ?_)
    · skip
      have w_7 : (jm_w (l7 + 1)) = (l7 + 1) := jm_wid (by omega) (by omega)
      refine wp_e (by exact (jm_w_in _)) (fun v7 e_8 hv7 => ?_)
      have b_9 : -2147483648 ≤ v7 ∧ v7 ≤ 2147483647 := hv7
      have b_10 : -2147483648 ≤ l6 ∧ l6 ≤ 2147483647 := hl6
      exact hk130 l5 l6 v7 M iM kM ⟨by omega, by omega⟩ hl6 ⟨by omega, by omega⟩  (by omega)
    · skip
      refine wp_T ⟨by omega, by omega⟩ ?_
      have b_11 : 0 ≤ (M 48 0 l7) ∧ (M 48 0 l7) ≤ 16 := iM 48 0 l7
      refine wp_T ⟨by omega, by omega⟩ ?_
      refine wp_bk (s_fX4_holds fu hfu M iM (M 48 0 l7) 0 ⟨by omega, by omega⟩ ⟨by omega, by omega⟩ ) (fun v11 M12 iM12 jM12 hv11 => ?_)
      have kM12 := kM.tr jM12 tt_TJ_TLH
      refine wp_ite (fun c_12 => ?_) (fun c_12 => ?_)
      · skip
        have w_13 : (jm_w (l7 + 1)) = (l7 + 1) := jm_wid (by omega) (by omega)
        refine wp_e (by exact (jm_w_in _)) (fun v15 e_14 hv15 => ?_)
        have b_15 : -2147483648 ≤ v15 ∧ v15 ≤ 2147483647 := hv15
        have b_16 : -2147483648 ≤ l6 ∧ l6 ≤ 2147483647 := hl6
        exact hk130 l5 l6 v15 M12 iM12 kM12 ⟨by omega, by omega⟩ hl6 ⟨by omega, by omega⟩  (by omega)
      · skip
        refine wp_T ⟨by omega, by omega⟩ ?_
        have q_17 : (M12 48 0 l7) = (M 48 0 l7) := jM12 48 0 l7 (by unfold TLH; omega)
        refine wp_T ⟨by omega, by omega⟩ ?_
        have r_18 : (M12 11 (M12 48 0 l7) 7) = (M12 11 (M 48 0 l7) 7) := by rw [show (M12 48 0 l7) = (M 48 0 l7) by omega]
        have q_19 : (M12 11 (M 48 0 l7) 7) = (M 11 (M 48 0 l7) 7) := jM12 11 (M 48 0 l7) 7 (by unfold TLH; omega)
        have b_21 : (-2147483648) ≤ (M 11 (M 48 0 l7) 7) ∧ (M 11 (M 48 0 l7) 7) ≤ 2147483647 := iM 11 (M 48 0 l7) 7
        refine wp_ite (fun c_20 => ?_) (fun c_20 => ?_)
        · skip
          exact wp_ret ⟨iM12, kM12, (jm_inL (by decide) (by decide))⟩
        · skip
          refine wp_T ⟨by omega, by omega⟩ ?_
          refine wp_T ⟨by omega, by omega⟩ ?_
          have r_22 : (jm_w (l6 + (M12 11 (M12 48 0 l7) 7))) = (jm_w (l6 + (M 11 (M 48 0 l7) 7))) := congrArg jm_w (by omega)
          have b_23 : -2147483648 ≤ l6 ∧ l6 ≤ 2147483647 := hl6
          have w_24 : -2147483648 ≤ (jm_w (l6 + (M 11 (M 48 0 l7) 7))) ∧ (jm_w (l6 + (M 11 (M 48 0 l7) 7))) ≤ 2147483647 := jm_w_in _
          refine wp_e (by exact (jm_w_in _)) (fun v24 e_25 hv24 => ?_)
          have w_26 : (jm_w (l7 + 1)) = (l7 + 1) := jm_wid (by omega) (by omega)
          refine wp_e (by exact (jm_w_in _)) (fun v26 e_27 hv26 => ?_)
          have b_28 : -2147483648 ≤ v26 ∧ v26 ≤ 2147483647 := hv26
          have b_29 : -2147483648 ≤ v24 ∧ v24 ≤ 2147483647 := hv24
          exact hk130 l5 v24 v26 M12 iM12 kM12 ⟨by omega, by omega⟩ hv24 ⟨by omega, by omega⟩  (by omega)
set_option maxHeartbeats 4000000 in
set_option maxRecDepth 100000 in
theorem s_fX0_secondsBy_130 (fu : Nat) (hfu : 4000 ≤ fu) (M0 : jm_M) : ∀ (n : Nat) (l5 l6 l7 : Int) (M : jm_M) (iM : bI bx1 M) (kM : Kp TJ M0 M) (hl5 : 0 ≤ l5 ∧ l5 ≤ 99) (hl6 : jm_in l6) (hl7 : 0 ≤ l7 ∧ l7 ≤ 10), 11 - l7 < (n : Int) → wp (fX0_secondsBy_130 fu  n M l5 l6 l7) (fun r M1 => bI bx1 M1 ∧ Kp TJ M0 M1 ∧ (jm_in r)) := by
  intro n
  induction n with
  | zero => intro l5 l6 l7 M iM kM hl5 hl6 hl7 hm; exfalso; omega
  | succ n ih =>
    intro l5 l6 l7 M iM kM hl5 hl6 hl7 hm
    exact s_gX0_secondsBy_130 fu hfu M0 (fX0_secondsBy_130 fu  n) (n : Int) ih l5 l6 l7 M iM kM hl5 hl6 hl7 (by omega)
set_option maxHeartbeats 4000000 in
set_option maxRecDepth 100000 in
theorem s_gX0_secondsBy_95 (fu : Nat) (hfu : 4000 ≤ fu) (M0 : jm_M) : ∀ (r1 r2 l5 s0 s1 : Int) (M : jm_M) (iM : bI bx1 M) (kM : Kp TJ M0 M) (hr1 : 0 ≤ r1 ∧ r1 ≤ 5) (hr2 : 0 ≤ r2 ∧ r2 ≤ 5) (hl5 : 0 ≤ l5 ∧ l5 ≤ 99) (hs0 : 0 ≤ s0 ∧ s0 ≤ 1) (hs1 : 111 ≤ s1 ∧ s1 ≤ 111), wp (gX0_secondsBy_95 fu  M r1 r2 l5 s0 s1) (fun r M1 => bI bx1 M1 ∧ Kp TJ M0 M1 ∧ (jm_in r)) := by
  intro r1 r2 l5 s0 s1 M iM kM hr1 hr2 hl5 hs0 hs1
  unfold gX0_secondsBy_95
  refine wp_bk (s_fX4_let M iM s1 s0 ⟨by omega, by omega⟩ (jm_inL (by omega) (by omega)) ) (fun v1 M2 iM2 jM2 hv1 => ?_)
  have kM2 := kM.tr jM2 tt_TJ_TLH
  have q_1 : (M2 9 r2 8) = (M 9 r2 8) := jM2 9 r2 8 (by unfold TLH; omega)
  refine wp_bk (s_fX4_let M2 iM2 102 (M2 9 r2 8) ⟨by omega, by omega⟩ (bx1_in (iM2 9 r2 8)) ) (fun v4 M5 iM5 jM5 hv4 => ?_)
  have kM5 := kM2.tr jM5 tt_TJ_TLH
  have q_2 : (M5 8 r1 3) = (M2 8 r1 3) := jM5 8 r1 3 (by unfold TLH; omega)
  have q_3 : (M2 8 r1 3) = (M 8 r1 3) := jM2 8 r1 3 (by unfold TLH; omega)
  refine wp_bk (s_fX4_let M5 iM5 116 (M5 8 r1 3) ⟨by omega, by omega⟩ (bx1_in (iM5 8 r1 3)) ) (fun v7 M8 iM8 jM8 hv7 => ?_)
  have kM8 := kM5.tr jM8 tt_TJ_TLH
  exact s_fX0_secondsBy_130 fu hfu M0    fu l5 0 0 M8 iM8 kM8 ⟨by omega, by omega⟩ (jm_inL (by decide) (by decide)) ⟨by omega, by omega⟩   (by omega)
set_option maxHeartbeats 4000000 in
set_option maxRecDepth 100000 in
theorem s_fX0_secondsBy (fu : Nat) (hfu : 4000 ≤ fu) (M : jm_M) (iM : bI bx1 M) (r1 r2 l3 l4 l5 : Int) (hr1 : 0 ≤ r1 ∧ r1 ≤ 5) (hr2 : 0 ≤ r2 ∧ r2 ≤ 5) (hl3 : jm_in l3) (hl4 : jm_in l4) (hl5 : 0 ≤ l5 ∧ l5 ≤ 99) : wp (fX0_secondsBy fu M r1 r2 l3 l4 l5) (fun r M1 => bI bx1 M1 ∧ Kp TJ M M1 ∧ (jm_in r)) := by
  have kM : Kp TJ M M := Kp.rf
  unfold fX0_secondsBy
  refine wp_bk (s_fX4_let M iM 115 (M 9 r2 5) ⟨by omega, by omega⟩ (iM 9 r2 5) ) (fun v2 M3 iM3 jM3 hv2 => ?_)
  have kM3 := kM.tr jM3 tt_TJ_TLH
  have q_1 : (M3 9 r2 6) = (M 9 r2 6) := jM3 9 r2 6 (by unfold TLH; omega)
  refine wp_bp (s_fJ6_bitCount_0f7a4_w1 M3 iM3 (M3 9 r2 6) (bx1_in (iM3 9 r2 6)) ) (fun v5 hv5 => ?_)
  refine wp_bk (s_fX4_let M3 iM3 107 v5 ⟨by omega, by omega⟩ hv5 ) (fun v8 M9 iM9 jM9 hv8 => ?_)
  have kM9 := kM3.tr jM9 tt_TJ_TLH
  have q_2 : (M9 9 r2 7) = (M3 9 r2 7) := jM9 9 r2 7 (by unfold TLH; omega)
  have q_3 : (M3 9 r2 7) = (M 9 r2 7) := jM3 9 r2 7 (by unfold TLH; omega)
  refine wp_bk (s_fX4_let M9 iM9 112 (M9 9 r2 7) ⟨by omega, by omega⟩ (bx1_in (iM9 9 r2 7)) ) (fun v11 M12 iM12 jM12 hv11 => ?_)
  have kM12 := kM9.tr jM12 tt_TJ_TLH
  refine wp_bk (s_fX4_let M12 iM12 108 l3 ⟨by omega, by omega⟩ hl3 ) (fun v13 M14 iM14 jM14 hv13 => ?_)
  have kM14 := kM12.tr jM14 tt_TJ_TLH
  refine wp_bk (s_fX4_let M14 iM14 119 l4 ⟨by omega, by omega⟩ hl4 ) (fun v15 M16 iM16 jM16 hv15 => ?_)
  have kM16 := kM14.tr jM16 tt_TJ_TLH
  have q_4 : (M16 8 r1 4) = (M14 8 r1 4) := jM16 8 r1 4 (by unfold TLH; omega)
  have q_5 : (M14 8 r1 4) = (M12 8 r1 4) := jM14 8 r1 4 (by unfold TLH; omega)
  have q_6 : (M12 8 r1 4) = (M9 8 r1 4) := jM12 8 r1 4 (by unfold TLH; omega)
  have q_7 : (M9 8 r1 4) = (M3 8 r1 4) := jM9 8 r1 4 (by unfold TLH; omega)
  have q_8 : (M3 8 r1 4) = (M 8 r1 4) := jM3 8 r1 4 (by unfold TLH; omega)
  refine wp_bk (s_fX4_let M16 iM16 99 (M16 8 r1 4) ⟨by omega, by omega⟩ (bx1_in (iM16 8 r1 4)) ) (fun v18 M19 iM19 jM19 hv18 => ?_)
  have kM19 := kM16.tr jM19 tt_TJ_TLH
  have q_9 : (M19 9 r2 3) = (M16 9 r2 3) := jM19 9 r2 3 (by unfold TLH; omega)
  have q_10 : (M16 9 r2 3) = (M14 9 r2 3) := jM16 9 r2 3 (by unfold TLH; omega)
  have q_11 : (M14 9 r2 3) = (M12 9 r2 3) := jM14 9 r2 3 (by unfold TLH; omega)
  have q_12 : (M12 9 r2 3) = (M9 9 r2 3) := jM12 9 r2 3 (by unfold TLH; omega)
  have q_13 : (M9 9 r2 3) = (M3 9 r2 3) := jM9 9 r2 3 (by unfold TLH; omega)
  have q_14 : (M3 9 r2 3) = (M 9 r2 3) := jM3 9 r2 3 (by unfold TLH; omega)
  have b_16 : (-2147483648) ≤ (M 9 r2 3) ∧ (M 9 r2 3) ≤ 2147483647 := iM 9 r2 3
  refine wp_ite (fun c_15 => ?_) (fun c_15 => ?_)
  · skip
    exact s_gX0_secondsBy_95 fu hfu M    r1 r2 l5 1 111 M19 iM19 kM19 ⟨by omega, by omega⟩ ⟨by omega, by omega⟩ ⟨by omega, by omega⟩ ⟨by omega, by omega⟩ ⟨by omega, by omega⟩  
  · skip
    exact s_gX0_secondsBy_95 fu hfu M    r1 r2 l5 0 111 M19 iM19 kM19 ⟨by omega, by omega⟩ ⟨by omega, by omega⟩ ⟨by omega, by omega⟩ ⟨by omega, by omega⟩ ⟨by omega, by omega⟩  
set_option maxHeartbeats 4000000 in
set_option maxRecDepth 100000 in
theorem s_fX0_takeRule (M : jm_M) (iM : bI bx1 M) (r1 l2 : Int) (hr1 : 0 ≤ r1 ∧ r1 ≤ 16) (hl2 : 0 ≤ l2 ∧ l2 ≤ 99) : wp (fX0_takeRule M r1 l2) (fun r M1 => bI bx1 M1 ∧ Kp TV1 M M1 ∧ (0 ≤ r ∧ r ≤ 16)) := by
  have kM : Kp TV1 M M := Kp.rf
  unfold fX0_takeRule
  have b_1 : 0 ≤ (M 3 0 3) ∧ (M 3 0 3) ≤ 10 := iM 3 0 3
  refine wp_bp (s_fX11_isIndex M iM (M 3 0 3) 10 (jm_inL (by omega) (by omega)) ⟨by omega, by omega⟩ ) (fun v2 hv2 => ?_)
  refine wp_ite (fun c_2 => ?_) (fun c_2 => ?_)
  · skip
    exact wp_ret ⟨iM, kM, by omega⟩
  · skip
    refine wp_T ⟨by omega, by omega⟩ ?_
    have b_3 : 0 ≤ (M 48 0 (M 3 0 3)) ∧ (M 48 0 (M 3 0 3)) ≤ 16 := iM 48 0 (M 3 0 3)
    refine wp_T ⟨by omega, by omega⟩ ?_
    refine wp_T ⟨by omega, by omega⟩ ?_
    refine wp_sk iM (show 0 ≤ r1 ∧ r1 ≤ 16 by omega) kM (by unfold TV1 RC1; omega) (fun M11 u_4 iM11 kM11 => ?_)
    have q_5 : (M11 3 0 3) = (M 3 0 3) := by rw [u_4]; exact jm_une_f (by decide)
    refine wp_T ⟨by omega, by omega⟩ ?_
    refine wp_sk iM11 (jm_inL (by omega) (by omega)) kM11 (by unfold TV1 RC1; omega) (fun M14 u_6 iM14 kM14 => ?_)
    have q_7 : (M14 3 0 3) = (M11 3 0 3) := by rw [u_6]; exact jm_une_f (by decide)
    have r_8 : (jm_w ((M14 3 0 3) + 1)) = (jm_w ((M 3 0 3) + 1)) := congrArg jm_w (by omega)
    have w_9 : (jm_w ((M 3 0 3) + 1)) = ((M 3 0 3) + 1) := jm_wid (by omega) (by omega)
    refine wp_sk iM14 (show 0 ≤ (jm_w ((M14 3 0 3) + 1)) ∧ (jm_w ((M14 3 0 3) + 1)) ≤ 10 by omega) kM14 (by unfold TV1 RC1; omega) (fun M16 u_10 iM16 kM16 => ?_)
    exact wp_ret ⟨iM16, kM16, by omega⟩
set_option maxHeartbeats 4000000 in
set_option maxRecDepth 100000 in
theorem s_gX0_timeBy_5 (fu : Nat) (hfu : 4000 ≤ fu) (M : jm_M) (iM : bI bx1 M) (k5 : jm_M → Int → Int → Int → Int → jm_R) (N5 : Int) (hk5 : ∀ (l1 l2 l3 l4 : Int) (hl1 : 0 ≤ l1 ∧ l1 ≤ 5) (hl2 : 0 ≤ l2 ∧ l2 ≤ 99) (hl3 : jm_in l3) (hl4 : 0 ≤ l4 ∧ l4 ≤ 20), 21 - l4 < N5 → wp (k5 M l1 l2 l3 l4) (fun r M1 => M1 = M ∧ (jm_in r))) : ∀ (l1 l2 l3 l4 : Int) (hl1 : 0 ≤ l1 ∧ l1 ≤ 5) (hl2 : 0 ≤ l2 ∧ l2 ≤ 99) (hl3 : jm_in l3) (hl4 : 0 ≤ l4 ∧ l4 ≤ 20), 21 - l4 < N5 + 1 → wp (gX0_timeBy_5 fu k5 M l1 l2 l3 l4) (fun r M1 => M1 = M ∧ (jm_in r)) := by
  intro l1 l2 l3 l4 hl1 hl2 hl3 hl4 m5
  unfold gX0_timeBy_5
  have b_2 : 0 ≤ (M 10 32 3) ∧ (M 10 32 3) ≤ 20 := jm_b10 (iM 10 32 3) (by decide)
  refine wp_ite (fun c_1 => ?_) (fun c_1 => ?_)
  · skip
    have b_3 : -2147483648 ≤ l3 ∧ l3 ≤ 2147483647 := hl3
    exact wp_ret ⟨rfl, hl3⟩
  · skip
    refine wp_bp (s_fX0_isOf M iM l4 l1 1 ⟨by omega, by omega⟩ ⟨by omega, by omega⟩ ⟨by omega, by omega⟩ ) (fun v3 hv3 => ?_)
    refine wp_ite (fun c_4 => ?_) (fun c_4 => ?_)
    · skip
      have w_5 : (jm_w (l4 + 1)) = (l4 + 1) := jm_wid (by omega) (by omega)
      refine wp_e (by exact (jm_w_in _)) (fun v7 e_6 hv7 => ?_)
      have b_7 : -2147483648 ≤ v7 ∧ v7 ≤ 2147483647 := hv7
      have b_8 : -2147483648 ≤ l3 ∧ l3 ≤ 2147483647 := hl3
      exact hk5 l1 l2 l3 v7  ⟨by omega, by omega⟩ ⟨by omega, by omega⟩ hl3 ⟨by omega, by omega⟩  (by omega)
    · skip
      refine wp_bp (s_fX7_cell M iM 32 l4 0 ⟨by omega, by omega⟩ (jm_inL (by omega) (by omega)) (jm_inL (by decide) (by decide)) ) (fun v9 hv9 => ?_)
      have b_10 : -2147483648 ≤ v9 ∧ v9 ≤ 2147483647 := hv9
      refine wp_ite (fun c_9 => ?_) (fun c_9 => ?_)
      · skip
        have w_11 : (jm_w (l4 + 1)) = (l4 + 1) := jm_wid (by omega) (by omega)
        refine wp_e (by exact (jm_w_in _)) (fun v13 e_12 hv13 => ?_)
        have b_13 : -2147483648 ≤ v13 ∧ v13 ≤ 2147483647 := hv13
        have b_14 : -2147483648 ≤ l3 ∧ l3 ≤ 2147483647 := hl3
        exact hk5 l1 l2 l3 v13  ⟨by omega, by omega⟩ ⟨by omega, by omega⟩ hl3 ⟨by omega, by omega⟩  (by omega)
      · skip
        refine wp_bp (s_fX7_cell M iM 32 l4 3 ⟨by omega, by omega⟩ (jm_inL (by omega) (by omega)) (jm_inL (by decide) (by decide)) ) (fun v15 hv15 => ?_)
        have b_15 : -2147483648 ≤ l3 ∧ l3 ≤ 2147483647 := hl3
        have b_16 : -2147483648 ≤ v15 ∧ v15 ≤ 2147483647 := hv15
        have w_17 : -2147483648 ≤ (jm_w (l3 + v15)) ∧ (jm_w (l3 + v15)) ≤ 2147483647 := jm_w_in _
        refine wp_e (by exact (jm_w_in _)) (fun v18 e_18 hv18 => ?_)
        have w_19 : (jm_w (l4 + 1)) = (l4 + 1) := jm_wid (by omega) (by omega)
        refine wp_e (by exact (jm_w_in _)) (fun v20 e_20 hv20 => ?_)
        have b_21 : -2147483648 ≤ v20 ∧ v20 ≤ 2147483647 := hv20
        have b_22 : -2147483648 ≤ v18 ∧ v18 ≤ 2147483647 := hv18
        exact hk5 l1 l2 v18 v20  ⟨by omega, by omega⟩ ⟨by omega, by omega⟩ hv18 ⟨by omega, by omega⟩  (by omega)
set_option maxHeartbeats 4000000 in
set_option maxRecDepth 100000 in
theorem s_fX0_timeBy_5 (fu : Nat) (hfu : 4000 ≤ fu) (M : jm_M) (iM : bI bx1 M) : ∀ (n : Nat) (l1 l2 l3 l4 : Int) (hl1 : 0 ≤ l1 ∧ l1 ≤ 5) (hl2 : 0 ≤ l2 ∧ l2 ≤ 99) (hl3 : jm_in l3) (hl4 : 0 ≤ l4 ∧ l4 ≤ 20), 21 - l4 < (n : Int) → wp (fX0_timeBy_5 fu  n M l1 l2 l3 l4) (fun r M1 => M1 = M ∧ (jm_in r)) := by
  intro n
  induction n with
  | zero => intro l1 l2 l3 l4 hl1 hl2 hl3 hl4 hm; exfalso; omega
  | succ n ih =>
    intro l1 l2 l3 l4 hl1 hl2 hl3 hl4 hm
    exact s_gX0_timeBy_5 fu hfu M iM (fX0_timeBy_5 fu  n) (n : Int) ih l1 l2 l3 l4 hl1 hl2 hl3 hl4 (by omega)
set_option maxHeartbeats 4000000 in
set_option maxRecDepth 100000 in
theorem s_fX0_timeBy (fu : Nat) (hfu : 4000 ≤ fu) (M : jm_M) (iM : bI bx1 M) (l1 l2 : Int) (hl1 : 0 ≤ l1 ∧ l1 ≤ 5) (hl2 : 0 ≤ l2 ∧ l2 ≤ 99) : wp (fX0_timeBy fu M l1 l2) (fun r M1 => M1 = M ∧ (jm_in r)) := by
  unfold fX0_timeBy
  exact s_fX0_timeBy_5 fu hfu M iM    fu l1 l2 0 0  ⟨by omega, by omega⟩ ⟨by omega, by omega⟩ (jm_inL (by decide) (by decide)) ⟨by omega, by omega⟩   (by omega)
set_option maxHeartbeats 4000000 in
set_option maxRecDepth 100000 in
theorem s_gX0_weightBy_8 (fu : Nat) (hfu : 4000 ≤ fu) (M : jm_M) (iM : bI bx1 M) (k8 : jm_M → Int → Int → Int → Int → Int → jm_R) (N8 : Int) (hk8 : ∀ (l1 l2 l3 l4 l5 : Int) (hl1 : 0 ≤ l1 ∧ l1 ≤ 5) (hl2 : 0 ≤ l2 ∧ l2 ≤ 99) (hl3 : jm_in l3) (hl4 : 0 ≤ l4 ∧ l4 ≤ 99) (hl5 : 0 ≤ l5 ∧ l5 ≤ 20), 21 - l5 < N8 → wp (k8 M l1 l2 l3 l4 l5) (fun r M1 => M1 = M ∧ (jm_in r))) : ∀ (l1 l2 l3 l4 l5 : Int) (hl1 : 0 ≤ l1 ∧ l1 ≤ 5) (hl2 : 0 ≤ l2 ∧ l2 ≤ 99) (hl3 : jm_in l3) (hl4 : 0 ≤ l4 ∧ l4 ≤ 99) (hl5 : 0 ≤ l5 ∧ l5 ≤ 20), 21 - l5 < N8 + 1 → wp (gX0_weightBy_8 fu k8 M l1 l2 l3 l4 l5) (fun r M1 => M1 = M ∧ (jm_in r)) := by
  intro l1 l2 l3 l4 l5 hl1 hl2 hl3 hl4 hl5 m8
  unfold gX0_weightBy_8
  have b_2 : 0 ≤ (M 10 32 3) ∧ (M 10 32 3) ≤ 20 := jm_b10 (iM 10 32 3) (by decide)
  refine wp_ite (fun c_1 => ?_) (fun c_1 => ?_)
  · skip
    have b_3 : -2147483648 ≤ l3 ∧ l3 ≤ 2147483647 := hl3
    exact wp_ret ⟨rfl, hl3⟩
  · skip
    refine wp_bp (s_fX7_cell M iM 32 l5 0 ⟨by omega, by omega⟩ (jm_inL (by omega) (by omega)) (jm_inL (by decide) (by decide)) ) (fun v3 hv3 => ?_)
    refine wp_bp (s_fX0_isOf M iM l5 l1 0 ⟨by omega, by omega⟩ ⟨by omega, by omega⟩ ⟨by omega, by omega⟩ ) (fun v6 hv6 => ?_)
    refine wp_ite (fun c_4 => ?_) (fun c_4 => ?_)
    · skip
      have w_5 : (jm_w (l5 + 1)) = (l5 + 1) := jm_wid (by omega) (by omega)
      refine wp_e (by exact (jm_w_in _)) (fun v10 e_6 hv10 => ?_)
      have b_7 : -2147483648 ≤ v10 ∧ v10 ≤ 2147483647 := hv10
      have b_8 : -2147483648 ≤ l3 ∧ l3 ≤ 2147483647 := hl3
      exact hk8 l1 l2 l3 l4 v10  ⟨by omega, by omega⟩ ⟨by omega, by omega⟩ hl3 ⟨by omega, by omega⟩ ⟨by omega, by omega⟩  (by omega)
    · skip
      have b_10 : -2147483648 ≤ v3 ∧ v3 ≤ 2147483647 := hv3
      refine wp_ite (fun c_9 => ?_) (fun c_9 => ?_)
      · skip
        have w_11 : (jm_w (l5 + 1)) = (l5 + 1) := jm_wid (by omega) (by omega)
        refine wp_e (by exact (jm_w_in _)) (fun v13 e_12 hv13 => ?_)
        have b_13 : -2147483648 ≤ v13 ∧ v13 ≤ 2147483647 := hv13
        have b_14 : -2147483648 ≤ l3 ∧ l3 ≤ 2147483647 := hl3
        exact hk8 l1 l2 l3 l4 v13  ⟨by omega, by omega⟩ ⟨by omega, by omega⟩ hl3 ⟨by omega, by omega⟩ ⟨by omega, by omega⟩  (by omega)
      · skip
        refine wp_ite (fun c_15 => ?_) (fun c_15 => ?_)
        · skip
          have w_16 : (jm_w (l5 + 1)) = (l5 + 1) := jm_wid (by omega) (by omega)
          refine wp_e (by exact (jm_w_in _)) (fun v16 e_17 hv16 => ?_)
          have b_18 : -2147483648 ≤ v16 ∧ v16 ≤ 2147483647 := hv16
          have b_19 : -2147483648 ≤ l3 ∧ l3 ≤ 2147483647 := hl3
          exact hk8 l1 l2 l3 l4 v16  ⟨by omega, by omega⟩ ⟨by omega, by omega⟩ hl3 ⟨by omega, by omega⟩ ⟨by omega, by omega⟩  (by omega)
        · skip
          refine wp_bp (s_fX7_cell M iM 32 l5 3 ⟨by omega, by omega⟩ (jm_inL (by omega) (by omega)) (jm_inL (by decide) (by decide)) ) (fun v18 hv18 => ?_)
          have w_20 : (jm_w (l5 + 1)) = (l5 + 1) := jm_wid (by omega) (by omega)
          refine wp_e (by exact (jm_w_in _)) (fun v21 e_21 hv21 => ?_)
          have b_22 : -2147483648 ≤ v21 ∧ v21 ≤ 2147483647 := hv21
          have b_23 : -2147483648 ≤ v18 ∧ v18 ≤ 2147483647 := hv18
          exact hk8 l1 l2 v18 v3 v21  ⟨by omega, by omega⟩ ⟨by omega, by omega⟩ hv18 ⟨by omega, by omega⟩ ⟨by omega, by omega⟩  (by omega)
set_option maxHeartbeats 4000000 in
set_option maxRecDepth 100000 in
theorem s_fX0_weightBy_8 (fu : Nat) (hfu : 4000 ≤ fu) (M : jm_M) (iM : bI bx1 M) : ∀ (n : Nat) (l1 l2 l3 l4 l5 : Int) (hl1 : 0 ≤ l1 ∧ l1 ≤ 5) (hl2 : 0 ≤ l2 ∧ l2 ≤ 99) (hl3 : jm_in l3) (hl4 : 0 ≤ l4 ∧ l4 ≤ 99) (hl5 : 0 ≤ l5 ∧ l5 ≤ 20), 21 - l5 < (n : Int) → wp (fX0_weightBy_8 fu  n M l1 l2 l3 l4 l5) (fun r M1 => M1 = M ∧ (jm_in r)) := by
  intro n
  induction n with
  | zero => intro l1 l2 l3 l4 l5 hl1 hl2 hl3 hl4 hl5 hm; exfalso; omega
  | succ n ih =>
    intro l1 l2 l3 l4 l5 hl1 hl2 hl3 hl4 hl5 hm
    exact s_gX0_weightBy_8 fu hfu M iM (fX0_weightBy_8 fu  n) (n : Int) ih l1 l2 l3 l4 l5 hl1 hl2 hl3 hl4 hl5 (by omega)
set_option maxHeartbeats 4000000 in
set_option maxRecDepth 100000 in
theorem s_fX0_weightBy (fu : Nat) (hfu : 4000 ≤ fu) (M : jm_M) (iM : bI bx1 M) (l1 l2 : Int) (hl1 : 0 ≤ l1 ∧ l1 ≤ 5) (hl2 : 0 ≤ l2 ∧ l2 ≤ 99) : wp (fX0_weightBy fu M l1 l2) (fun r M1 => M1 = M ∧ (jm_in r)) := by
  unfold fX0_weightBy
  exact s_fX0_weightBy_8 fu hfu M iM    fu l1 l2 0 0 0  ⟨by omega, by omega⟩ ⟨by omega, by omega⟩ (jm_inL (by decide) (by decide)) ⟨by omega, by omega⟩ ⟨by omega, by omega⟩   (by omega)
set_option maxHeartbeats 4000000 in
set_option maxRecDepth 100000 in
theorem s_fX2_has (M : jm_M) (iM : bI bx1 M) (l1 : Int) (hl1 : jm_in l1) : wp (fX2_has M l1) (fun r M1 => M1 = M ∧ ((r = 1 ∧ 0 ≤ l1 ∧ l1 < (M 2 0 5) ∧ l1 < 6) ∨ (r = 0 ∧ ¬ (0 ≤ l1 ∧ l1 < (M 2 0 5) ∧ l1 < 6)))) := by
  unfold fX2_has
  have b_1 : 0 ≤ (M 2 0 5) ∧ (M 2 0 5) ≤ 6 := iM 2 0 5
  refine wp_bp (s_fX11_isIndex M iM l1 (M 2 0 5) hl1 ⟨by omega, by omega⟩ ) (fun v2 hv2 => ?_)
  have b_2 : -2147483648 ≤ l1 ∧ l1 ≤ 2147483647 := hl1
  refine wp_ite (fun c_3 => ?_) (fun c_3 => ?_)
  · skip
    exact wp_ret ⟨rfl, by omega⟩
  · skip
    refine wp_F (by omega) ?_
    exact wp_ret ⟨rfl, by omega⟩
set_option maxHeartbeats 4000000 in
set_option maxRecDepth 100000 in
theorem s_fX10_isBetter (M : jm_M) (iM : bI bx1 M) (l0 l1 l2 l3 : Int) (hl0 : jm_in l0) (hl1 : jm_in l1) (hl2 : jm_in l2) (hl3 : jm_in l3) : wp (fX10_isBetter M l0 l1 l2 l3) (fun r M1 => M1 = M ∧ (0 ≤ r ∧ r ≤ 1)) := by
  unfold fX10_isBetter
  have b_2 : -2147483648 ≤ l0 ∧ l0 ≤ 2147483647 := hl0
  have b_3 : -2147483648 ≤ l2 ∧ l2 ≤ 2147483647 := hl2
  refine wp_ite (fun c_1 => ?_) (fun c_1 => ?_)
  · skip
    exact wp_ret ⟨rfl, by omega⟩
  · skip
    refine wp_ite (fun c_4 => ?_) (fun c_4 => ?_)
    · skip
      have b_6 : -2147483648 ≤ l3 ∧ l3 ≤ 2147483647 := hl3
      have b_7 : -2147483648 ≤ l1 ∧ l1 ≤ 2147483647 := hl1
      refine wp_ite (fun c_5 => ?_) (fun c_5 => ?_)
      · skip
        exact wp_ret ⟨rfl, by omega⟩
      · skip
        exact wp_ret ⟨rfl, by omega⟩
    · skip
      exact wp_ret ⟨rfl, by omega⟩
set_option maxHeartbeats 4000000 in
set_option maxRecDepth 100000 in
theorem s_gX10_isSettled_69 (fu : Nat) (hfu : 4000 ≤ fu) (M : jm_M) (iM : bI bx1 M) (k69 : jm_M → Int → Int → Int → Int → jm_R) (N69 : Int) (hk69 : ∀ (l1 l4 l5 l6 : Int) (hl1 : 0 ≤ l1 ∧ l1 ≤ 3) (hl4 : 1 ≤ l4 ∧ l4 ≤ 4) (hl5 : 0 ≤ l5 ∧ l5 ≤ 15) (hl6 : 0 ≤ l6 ∧ l6 ≤ 4), 5 - l6 < N69 → wp (k69 M l1 l4 l5 l6) (fun r M1 => M1 = M ∧ (0 ≤ r ∧ r ≤ 1))) : ∀ (l1 l4 l5 l6 : Int) (hl1 : 0 ≤ l1 ∧ l1 ≤ 3) (hl4 : 1 ≤ l4 ∧ l4 ≤ 4) (hl5 : 0 ≤ l5 ∧ l5 ≤ 15) (hl6 : 0 ≤ l6 ∧ l6 ≤ 4), 5 - l6 < N69 + 1 → wp (gX10_isSettled_69 fu k69 M l1 l4 l5 l6) (fun r M1 => M1 = M ∧ (0 ≤ r ∧ r ≤ 1)) := by
  intro l1 l4 l5 l6 hl1 hl4 hl5 hl6 m69
  unfold gX10_isSettled_69
  refine wp_ite (fun c_1 => ?_) (fun c_1 => ?_)
  · skip
    exact wp_ret ⟨rfl, by omega⟩
  · skip
    have w_2 : (jm_w (l1 * 4)) = (l1 * 4) := jm_wid (by omega) (by omega)
    have w_3 : (jm_w ((jm_w (l1 * 4)) + l6)) = ((jm_w (l1 * 4)) + l6) := jm_wid (by omega) (by omega)
    refine wp_e (by exact (jm_w_in _)) (fun v2 e_4 hv2 => ?_)
    have b_5 : -2147483648 ≤ v2 ∧ v2 ≤ 2147483647 := hv2
    refine wp_T ⟨by omega, by omega⟩ ?_
    refine wp_T ⟨by omega, by omega⟩ ?_
    refine wp_T ⟨by omega, by omega⟩ ?_
    refine wp_T ⟨by omega, by omega⟩ ?_
    refine wp_bp (s_fX10_isBetter M iM (M 44 0 v2) (M 45 0 v2) (M 44 0 l5) (M 45 0 l5) (iM 44 0 v2) (iM 45 0 v2) (iM 44 0 l5) (iM 45 0 l5) ) (fun v12 hv12 => ?_)
    refine wp_ite (fun c_6 => ?_) (fun c_6 => ?_)
    · skip
      have w_7 : (jm_w (l6 + 1)) = (l6 + 1) := jm_wid (by omega) (by omega)
      refine wp_e (by exact (jm_w_in _)) (fun v16 e_8 hv16 => ?_)
      have b_9 : -2147483648 ≤ v16 ∧ v16 ≤ 2147483647 := hv16
      exact hk69 l1 l4 l5 v16  ⟨by omega, by omega⟩ ⟨by omega, by omega⟩ ⟨by omega, by omega⟩ ⟨by omega, by omega⟩  (by omega)
    · skip
      exact wp_ret ⟨rfl, by omega⟩
set_option maxHeartbeats 4000000 in
set_option maxRecDepth 100000 in
theorem s_fX10_isSettled_69 (fu : Nat) (hfu : 4000 ≤ fu) (M : jm_M) (iM : bI bx1 M) : ∀ (n : Nat) (l1 l4 l5 l6 : Int) (hl1 : 0 ≤ l1 ∧ l1 ≤ 3) (hl4 : 1 ≤ l4 ∧ l4 ≤ 4) (hl5 : 0 ≤ l5 ∧ l5 ≤ 15) (hl6 : 0 ≤ l6 ∧ l6 ≤ 4), 5 - l6 < (n : Int) → wp (fX10_isSettled_69 fu  n M l1 l4 l5 l6) (fun r M1 => M1 = M ∧ (0 ≤ r ∧ r ≤ 1)) := by
  intro n
  induction n with
  | zero => intro l1 l4 l5 l6 hl1 hl4 hl5 hl6 hm; exfalso; omega
  | succ n ih =>
    intro l1 l4 l5 l6 hl1 hl4 hl5 hl6 hm
    exact s_gX10_isSettled_69 fu hfu M iM (fX10_isSettled_69 fu  n) (n : Int) ih l1 l4 l5 l6 hl1 hl4 hl5 hl6 (by omega)
set_option maxHeartbeats 4000000 in
set_option maxRecDepth 100000 in
theorem s_gX10_isSettled_10 (fu : Nat) (hfu : 4000 ≤ fu) (M : jm_M) (iM : bI bx1 M) (k10 : jm_M → Int → Int → Int → Int → Int → Int → jm_R) (N10 : Int) (hk10 : ∀ (l1 l2 l3 l4 l5 l6 : Int) (hl1 : 0 ≤ l1 ∧ l1 ≤ 3) (hl2 : 0 ≤ l2 ∧ l2 ≤ 3) (hl3 : 1 ≤ l3 ∧ l3 ≤ 4) (hl4 : 1 ≤ l4 ∧ l4 ≤ 4) (hl5 : 0 ≤ l5 ∧ l5 ≤ 15) (hl6 : 0 ≤ l6 ∧ l6 ≤ 4), 5 - l6 < N10 → wp (k10 M l1 l2 l3 l4 l5 l6) (fun r M1 => M1 = M ∧ (0 ≤ r ∧ r ≤ 1))) : ∀ (l1 l2 l3 l4 l5 l6 : Int) (hl1 : 0 ≤ l1 ∧ l1 ≤ 3) (hl2 : 0 ≤ l2 ∧ l2 ≤ 3) (hl3 : 1 ≤ l3 ∧ l3 ≤ 4) (hl4 : 1 ≤ l4 ∧ l4 ≤ 4) (hl5 : 0 ≤ l5 ∧ l5 ≤ 15) (hl6 : 0 ≤ l6 ∧ l6 ≤ 4), 5 - l6 < N10 + 1 → wp (gX10_isSettled_10 fu k10 M l1 l2 l3 l4 l5 l6) (fun r M1 => M1 = M ∧ (0 ≤ r ∧ r ≤ 1)) := by
  intro l1 l2 l3 l4 l5 l6 hl1 hl2 hl3 hl4 hl5 hl6 m10
  unfold gX10_isSettled_10
  refine wp_ite (fun c_1 => ?_) (fun c_1 => ?_)
  · skip
    exact s_fX10_isSettled_69 fu hfu M iM    fu l1 l4 l5 0  ⟨by omega, by omega⟩ ⟨by omega, by omega⟩ ⟨by omega, by omega⟩ ⟨by omega, by omega⟩   (by omega)
  · skip
    have w_2 : (jm_w (l6 * 4)) = (l6 * 4) := jm_wid (by omega) (by omega)
    have w_3 : (jm_w ((jm_w (l6 * 4)) + l2)) = ((jm_w (l6 * 4)) + l2) := jm_wid (by omega) (by omega)
    refine wp_e (by exact (jm_w_in _)) (fun v2 e_4 hv2 => ?_)
    have b_5 : -2147483648 ≤ v2 ∧ v2 ≤ 2147483647 := hv2
    refine wp_T ⟨by omega, by omega⟩ ?_
    refine wp_T ⟨by omega, by omega⟩ ?_
    refine wp_T ⟨by omega, by omega⟩ ?_
    refine wp_T ⟨by omega, by omega⟩ ?_
    refine wp_bp (s_fX10_isBetter M iM (M 42 0 v2) (M 43 0 v2) (M 42 0 l5) (M 43 0 l5) (iM 42 0 v2) (iM 43 0 v2) (iM 42 0 l5) (iM 43 0 l5) ) (fun v12 hv12 => ?_)
    refine wp_ite (fun c_6 => ?_) (fun c_6 => ?_)
    · skip
      have w_7 : (jm_w (l6 + 1)) = (l6 + 1) := jm_wid (by omega) (by omega)
      refine wp_e (by exact (jm_w_in _)) (fun v16 e_8 hv16 => ?_)
      have b_9 : -2147483648 ≤ v16 ∧ v16 ≤ 2147483647 := hv16
      exact hk10 l1 l2 l3 l4 l5 v16  ⟨by omega, by omega⟩ ⟨by omega, by omega⟩ ⟨by omega, by omega⟩ ⟨by omega, by omega⟩ ⟨by omega, by omega⟩ ⟨by omega, by omega⟩  (by omega)
    · skip
      exact wp_ret ⟨rfl, by omega⟩
set_option maxHeartbeats 4000000 in
set_option maxRecDepth 100000 in
theorem s_fX10_isSettled_10 (fu : Nat) (hfu : 4000 ≤ fu) (M : jm_M) (iM : bI bx1 M) : ∀ (n : Nat) (l1 l2 l3 l4 l5 l6 : Int) (hl1 : 0 ≤ l1 ∧ l1 ≤ 3) (hl2 : 0 ≤ l2 ∧ l2 ≤ 3) (hl3 : 1 ≤ l3 ∧ l3 ≤ 4) (hl4 : 1 ≤ l4 ∧ l4 ≤ 4) (hl5 : 0 ≤ l5 ∧ l5 ≤ 15) (hl6 : 0 ≤ l6 ∧ l6 ≤ 4), 5 - l6 < (n : Int) → wp (fX10_isSettled_10 fu  n M l1 l2 l3 l4 l5 l6) (fun r M1 => M1 = M ∧ (0 ≤ r ∧ r ≤ 1)) := by
  intro n
  induction n with
  | zero => intro l1 l2 l3 l4 l5 l6 hl1 hl2 hl3 hl4 hl5 hl6 hm; exfalso; omega
  | succ n ih =>
    intro l1 l2 l3 l4 l5 l6 hl1 hl2 hl3 hl4 hl5 hl6 hm
    exact s_gX10_isSettled_10 fu hfu M iM (fX10_isSettled_10 fu  n) (n : Int) ih l1 l2 l3 l4 l5 l6 hl1 hl2 hl3 hl4 hl5 hl6 (by omega)
set_option maxHeartbeats 4000000 in
set_option maxRecDepth 100000 in
theorem s_fX10_isSettled (fu : Nat) (hfu : 4000 ≤ fu) (M : jm_M) (iM : bI bx1 M) (l1 l2 l3 l4 : Int) (hl1 : 0 ≤ l1 ∧ l1 ≤ 3) (hl2 : 0 ≤ l2 ∧ l2 ≤ 3) (hl3 : 1 ≤ l3 ∧ l3 ≤ 4) (hl4 : 1 ≤ l4 ∧ l4 ≤ 4) : wp (fX10_isSettled fu M l1 l2 l3 l4) (fun r M1 => M1 = M ∧ (0 ≤ r ∧ r ≤ 1)) := by
  unfold fX10_isSettled
  have w_1 : (jm_w (l1 * 4)) = (l1 * 4) := jm_wid (by omega) (by omega)
  have w_2 : (jm_w ((jm_w (l1 * 4)) + l2)) = ((jm_w (l1 * 4)) + l2) := jm_wid (by omega) (by omega)
  refine wp_e (by exact (jm_w_in _)) (fun v1 e_3 hv1 => ?_)
  have b_4 : -2147483648 ≤ v1 ∧ v1 ≤ 2147483647 := hv1
  exact s_fX10_isSettled_10 fu hfu M iM    fu l1 l2 l3 l4 v1 0  ⟨by omega, by omega⟩ ⟨by omega, by omega⟩ ⟨by omega, by omega⟩ ⟨by omega, by omega⟩ ⟨by omega, by omega⟩ ⟨by omega, by omega⟩   (by omega)
set_option maxHeartbeats 4000000 in
set_option maxRecDepth 100000 in
theorem s_gX10_firstSettled_193 (fu : Nat) (hfu : 4000 ≤ fu) (M0 : jm_M) (k183 : jm_M → Int → Int → Int → jm_R) (k193 : jm_M → Int → Int → Int → Int → jm_R) (N183 N193 : Int) (hk183 : ∀ (l4 l5 l6 : Int) (M : jm_M) (iM : bI bx1 M) (kM : Kp TAM M0 M) (hl4 : 0 ≤ l4 ∧ l4 ≤ 4) (hl5 : 0 ≤ l5 ∧ l5 ≤ 4) (hl6 : 0 ≤ l6 ∧ l6 ≤ 4), 5 - l6 < N183 → wp (k183 M l4 l5 l6) (fun r M1 => bI bx1 M1 ∧ Kp TAM M0 M1 ∧ ((-2) ≤ r ∧ r ≤ 35))) (hk193 : ∀ (l4 l5 l6 l7 : Int) (M : jm_M) (iM : bI bx1 M) (kM : Kp TAM M0 M) (hl4 : 1 ≤ l4 ∧ l4 ≤ 4) (hl5 : 0 ≤ l5 ∧ l5 ≤ 4) (hl6 : 0 ≤ l6 ∧ l6 ≤ 3) (hl7 : 0 ≤ l7 ∧ l7 ≤ 4), 5 - l6 < N183 + 1 → 5 - l7 < N193 → wp (k193 M l4 l5 l6 l7) (fun r M1 => bI bx1 M1 ∧ Kp TAM M0 M1 ∧ ((-2) ≤ r ∧ r ≤ 35))) : ∀ (l4 l5 l6 l7 : Int) (M : jm_M) (iM : bI bx1 M) (kM : Kp TAM M0 M) (hl4 : 1 ≤ l4 ∧ l4 ≤ 4) (hl5 : 0 ≤ l5 ∧ l5 ≤ 4) (hl6 : 0 ≤ l6 ∧ l6 ≤ 3) (hl7 : 0 ≤ l7 ∧ l7 ≤ 4), 5 - l6 < N183 + 1 → 5 - l7 < N193 + 1 → wp (gX10_firstSettled_193 fu k183 k193 M l4 l5 l6 l7) (fun r M1 => bI bx1 M1 ∧ Kp TAM M0 M1 ∧ ((-2) ≤ r ∧ r ≤ 35)) := by
  intro l4 l5 l6 l7 M iM kM hl4 hl5 hl6 hl7 m183 m193
  unfold gX10_firstSettled_193
  refine wp_ite (fun c_1 => ?_) (fun c_1 => ?_)
  · skip
    have w_2 : (jm_w (l6 + 1)) = (l6 + 1) := jm_wid (by omega) (by omega)
    refine wp_e (by exact (jm_w_in _)) (fun v2 e_3 hv2 => ?_)
    have b_4 : -2147483648 ≤ v2 ∧ v2 ≤ 2147483647 := hv2
    exact hk183 l4 l5 v2 M iM kM ⟨by omega, by omega⟩ ⟨by omega, by omega⟩ ⟨by omega, by omega⟩  (by omega)
  · skip
    refine wp_bp (s_fX10_isSettled fu hfu M iM l6 l7 l4 l5 ⟨by omega, by omega⟩ ⟨by omega, by omega⟩ ⟨by omega, by omega⟩ ⟨by omega, by omega⟩ ) (fun v4 hv4 => ?_)
    refine wp_ite (fun c_5 => ?_) (fun c_5 => ?_)
    · skip
      have w_6 : (jm_w (l7 + 1)) = (l7 + 1) := jm_wid (by omega) (by omega)
      refine wp_e (by exact (jm_w_in _)) (fun v8 e_7 hv8 => ?_)
      have b_8 : -2147483648 ≤ v8 ∧ v8 ≤ 2147483647 := hv8
      exact hk193 l4 l5 l6 v8 M iM kM ⟨by omega, by omega⟩ ⟨by omega, by omega⟩ ⟨by omega, by omega⟩ ⟨by omega, by omega⟩  (by omega) (by omega)
    · skip
      have w_9 : (jm_w (10 * l6)) = (10 * l6) := jm_wid (by omega) (by omega)
      have w_10 : (jm_w ((jm_w (10 * l6)) + l7)) = ((jm_w (10 * l6)) + l7) := jm_wid (by omega) (by omega)
      exact wp_ret ⟨iM, kM, by omega⟩
set_option maxHeartbeats 4000000 in
set_option maxRecDepth 100000 in
theorem s_fX10_firstSettled_193 (fu : Nat) (hfu : 4000 ≤ fu) (M0 : jm_M) (k183 : jm_M → Int → Int → Int → jm_R) (N183 : Int) (hk183 : ∀ (l4 l5 l6 : Int) (M : jm_M) (iM : bI bx1 M) (kM : Kp TAM M0 M) (hl4 : 0 ≤ l4 ∧ l4 ≤ 4) (hl5 : 0 ≤ l5 ∧ l5 ≤ 4) (hl6 : 0 ≤ l6 ∧ l6 ≤ 4), 5 - l6 < N183 → wp (k183 M l4 l5 l6) (fun r M1 => bI bx1 M1 ∧ Kp TAM M0 M1 ∧ ((-2) ≤ r ∧ r ≤ 35))) : ∀ (n : Nat) (l4 l5 l6 l7 : Int) (M : jm_M) (iM : bI bx1 M) (kM : Kp TAM M0 M) (hl4 : 1 ≤ l4 ∧ l4 ≤ 4) (hl5 : 0 ≤ l5 ∧ l5 ≤ 4) (hl6 : 0 ≤ l6 ∧ l6 ≤ 3) (hl7 : 0 ≤ l7 ∧ l7 ≤ 4), 5 - l6 < N183 + 1 → 5 - l7 < (n : Int) → wp (fX10_firstSettled_193 fu k183 n M l4 l5 l6 l7) (fun r M1 => bI bx1 M1 ∧ Kp TAM M0 M1 ∧ ((-2) ≤ r ∧ r ≤ 35)) := by
  intro n
  induction n with
  | zero => intro l4 l5 l6 l7 M iM kM hl4 hl5 hl6 hl7 m183 hm; exfalso; omega
  | succ n ih =>
    intro l4 l5 l6 l7 M iM kM hl4 hl5 hl6 hl7 m183 hm
    exact s_gX10_firstSettled_193 fu hfu M0 k183 (fX10_firstSettled_193 fu k183 n) N183 (n : Int) hk183 ih l4 l5 l6 l7 M iM kM hl4 hl5 hl6 hl7 m183 (by omega)
set_option maxHeartbeats 4000000 in
set_option maxRecDepth 100000 in
theorem s_gX10_firstSettled_183 (fu : Nat) (hfu : 4000 ≤ fu) (M0 : jm_M) (k183 : jm_M → Int → Int → Int → jm_R) (N183 : Int) (hk183 : ∀ (l4 l5 l6 : Int) (M : jm_M) (iM : bI bx1 M) (kM : Kp TAM M0 M) (hl4 : 0 ≤ l4 ∧ l4 ≤ 4) (hl5 : 0 ≤ l5 ∧ l5 ≤ 4) (hl6 : 0 ≤ l6 ∧ l6 ≤ 4), 5 - l6 < N183 → wp (k183 M l4 l5 l6) (fun r M1 => bI bx1 M1 ∧ Kp TAM M0 M1 ∧ ((-2) ≤ r ∧ r ≤ 35))) : ∀ (l4 l5 l6 : Int) (M : jm_M) (iM : bI bx1 M) (kM : Kp TAM M0 M) (hl4 : 0 ≤ l4 ∧ l4 ≤ 4) (hl5 : 0 ≤ l5 ∧ l5 ≤ 4) (hl6 : 0 ≤ l6 ∧ l6 ≤ 4), 5 - l6 < N183 + 1 → wp (gX10_firstSettled_183 fu k183 M l4 l5 l6) (fun r M1 => bI bx1 M1 ∧ Kp TAM M0 M1 ∧ ((-2) ≤ r ∧ r ≤ 35)) := by
  intro l4 l5 l6 M iM kM hl4 hl5 hl6 m183
  unfold gX10_firstSettled_183
  refine wp_ite (fun c_1 => ?_) (fun c_1 => ?_)
  · skip
    exact wp_ret ⟨iM, kM, by omega⟩
  · skip
    exact s_fX10_firstSettled_193 fu hfu M0 k183 N183 hk183 fu l4 l5 l6 0 M iM kM ⟨by omega, by omega⟩ ⟨by omega, by omega⟩ ⟨by omega, by omega⟩ ⟨by omega, by omega⟩  (by omega) (by omega)
set_option maxHeartbeats 4000000 in
set_option maxRecDepth 100000 in
theorem s_fX10_firstSettled_183 (fu : Nat) (hfu : 4000 ≤ fu) (M0 : jm_M) : ∀ (n : Nat) (l4 l5 l6 : Int) (M : jm_M) (iM : bI bx1 M) (kM : Kp TAM M0 M) (hl4 : 0 ≤ l4 ∧ l4 ≤ 4) (hl5 : 0 ≤ l5 ∧ l5 ≤ 4) (hl6 : 0 ≤ l6 ∧ l6 ≤ 4), 5 - l6 < (n : Int) → wp (fX10_firstSettled_183 fu  n M l4 l5 l6) (fun r M1 => bI bx1 M1 ∧ Kp TAM M0 M1 ∧ ((-2) ≤ r ∧ r ≤ 35)) := by
  intro n
  induction n with
  | zero => intro l4 l5 l6 M iM kM hl4 hl5 hl6 hm; exfalso; omega
  | succ n ih =>
    intro l4 l5 l6 M iM kM hl4 hl5 hl6 hm
    exact s_gX10_firstSettled_183 fu hfu M0 (fX10_firstSettled_183 fu  n) (n : Int) ih l4 l5 l6 M iM kM hl4 hl5 hl6 (by omega)
set_option maxHeartbeats 4000000 in
set_option maxRecDepth 100000 in
theorem s_fX7_isFull (M : jm_M) (iM : bI bx1 M) (r0 : Int) (hr0 : 0 ≤ r0 ∧ r0 ≤ 5) : wp (fX7_isFull M r0) (fun r M1 => M1 = M ∧ ((r = 1 ∧ (M 10 r0 0) ≤ (M 10 r0 3)) ∨ (r = 0 ∧ ¬ ((M 10 r0 0) ≤ (M 10 r0 3))))) := by
  unfold fX7_isFull
  have b_2 : 0 ≤ (M 10 r0 3) ∧ (M 10 r0 3) ≤ 4 := jm_b10 (iM 10 r0 3) (Int.le_of_eq (lim1_0 (by omega) (by omega)))
  have b_3 : (M 10 r0 0) = lim1 r0 ∧ 2 ≤ lim1 r0 ∧ lim1 r0 ≤ 4 := ⟨iM 10 r0 0, (lim1_any _).1, (Int.le_of_eq (lim1_0 (by omega) (by omega)))⟩
  refine wp_ite (fun c_1 => ?_) (fun c_1 => ?_)
  · skip
    exact wp_ret ⟨rfl, by omega⟩
  · skip
    exact wp_ret ⟨rfl, by omega⟩
theorem s0_fX7_put (M : jm_M) (iM : bI bx1 M) (r0 l1 l2 l3 : Int) (hr0 : 0 ≤ r0 ∧ r0 ≤ 32) (hl1 : jm_in l1) (hl2 : jm_in l2) (hl3 : jm_in l3) : wp (fX7_put M r0 l1 l2 l3) (fun r M1 => bI bx1 M1 ∧ ((∀ (f : Nat) (i k : Int), ¬ (f = 19 ∧ i = r0) → M1 f i k = M f i k) ∧ r = 0)) := by
  have b3 : 0 ≤ M 10 r0 3 ∧ M 10 r0 3 ≤ lim1 r0 := iM 10 r0 3
  have b1 : M 10 r0 1 = wid1 r0 := iM 10 r0 1
  unfold fX7_put
  refine wp_ite (fun c1 => wp_ret ⟨iM, fun _ _ _ _ => rfl, rfl⟩) (fun c1 => ?_)
  refine wp_ite (fun c2 => wp_ret ⟨iM, fun _ _ _ _ => rfl, rfl⟩) (fun c2 => ?_)
  refine wp_ite (fun c3 => wp_ret ⟨iM, fun _ _ _ _ => rfl, rfl⟩) (fun c3 => ?_)
  refine wp_ite (fun c4 => wp_ret ⟨iM, fun _ _ _ _ => rfl, rfl⟩) (fun c4 => ?_)
  rw [b1] at c4 ⊢
  refine wp_T (jm_tab hr0 ⟨by omega, by omega⟩ b3.2 ⟨by omega, by omega⟩) ?_
  refine wp_si iM (show jm_in l3 from hl3) (fun M9 u9 i9 => ?_)
  refine wp_ret ⟨i9, fun f i k h => ?_, rfl⟩
  rw [u9]
  exact jm_une (fun q => h ⟨q.1, q.2.1⟩)
theorem s_fX7_put (M : jm_M) (iM : bI bx1 M) (r0 l1 l2 l3 : Int) (hr0 : 0 ≤ r0 ∧ r0 ≤ 32) (hl1 : jm_in l1) (hl2 : jm_in l2) (hl3 : jm_in l3) : wp (fX7_put M r0 l1 l2 l3) (fun r M1 => bI bx1 M1 ∧ Kp (TPT r0) M M1 ∧ (0 ≤ r ∧ r ≤ 0)) :=
  wp_mono (s0_fX7_put M iM r0 l1 l2 l3 hr0 hl1 hl2 hl3) fun r M1 q => ⟨q.1, fun f i k h => q.2.1 f i k h, by have := q.2.2; omega⟩
theorem s0_fX7_push (M : jm_M) (iM : bI bx1 M) (r0 l1 l2 l3 l4 : Int) (hr0 : 0 ≤ r0 ∧ r0 ≤ 32) (h1 : jm_in l1) (h2 : jm_in l2) (h3 : jm_in l3) (h4 : jm_in l4) : wp (fX7_push M r0 l1 l2 l3 l4) (fun r M1 => bI bx1 M1 ∧ ((∀ (f : Nat) (i k : Int), ¬ (f = 19 ∧ i = r0) → ¬ (f = 10 ∧ i = r0 ∧ k = 3) → M1 f i k = M f i k) ∧ ((r = -1 ∧ M 10 r0 3 = lim1 r0 ∧ M1 10 r0 3 = M 10 r0 3) ∨ (r = M 10 r0 3 + 1 ∧ M1 10 r0 3 = r ∧ M 10 r0 3 < lim1 r0)))) := by
  have b3 : 0 ≤ M 10 r0 3 ∧ M 10 r0 3 ≤ lim1 r0 := iM 10 r0 3
  have b0 : M 10 r0 0 = lim1 r0 := iM 10 r0 0
  have bl := lim1_any r0
  unfold fX7_push
  refine wp_bp (M := M) (P := fun r => (r = 0 ∧ M 10 r0 3 < lim1 r0) ∨ (r = 1 ∧ M 10 r0 3 = lim1 r0)) ?_ ?_
  · unfold fX7_isFull
    rw [b0]
    refine wp_ite (fun c => wp_ret ⟨rfl, Or.inl ⟨rfl, c⟩⟩) (fun c => wp_ret ⟨rfl, Or.inr ⟨rfl, by omega⟩⟩)
  · intro v1 hv
    refine wp_ite (fun c => ?_) (fun c => ?_)
    · have hlt : M 10 r0 3 < lim1 r0 := by omega
      have w1 : jm_w (M 10 r0 3 + 1) = M 10 r0 3 + 1 := jm_wid (by omega) (by omega)
      rw [w1]
      refine wp_si iM (show 0 ≤ M 10 r0 3 + 1 ∧ M 10 r0 3 + 1 ≤ lim1 r0 by omega) (fun M6 u6 i6 => ?_)
      have q6 : M6 10 r0 3 = M 10 r0 3 + 1 := by rw [u6]; exact jm_ueq
      have hs : jm_in (M 10 r0 3) := jm_inL (by omega) (by omega)
      have wz : jm_w (M 10 r0 3 + 1 - 1) = M 10 r0 3 := by rw [jm_wid (by omega) (by omega)]; omega
      have w2 : jm_w (M6 10 r0 3 - 1) = M 10 r0 3 := by rw [q6]; exact wz
      rw [w2]
      refine wp_b (s0_fX7_put M6 i6 r0 _ 0 l1 hr0 hs (jm_inL (by decide) (by decide)) h1) (fun v8 M9 h9 => ?_)
      obtain ⟨i9, k9, -⟩ := h9
      have q9 : M9 10 r0 3 = M 10 r0 3 + 1 := by rw [k9 10 r0 3 (by omega)]; exact q6
      have w3 : jm_w (M9 10 r0 3 - 1) = M 10 r0 3 := by rw [q9]; exact wz
      rw [w3]
      refine wp_b (s0_fX7_put M9 i9 r0 _ 1 l2 hr0 hs (jm_inL (by decide) (by decide)) h2) (fun v11 M12 h12 => ?_)
      obtain ⟨i12, k12, -⟩ := h12
      have q12 : M12 10 r0 3 = M 10 r0 3 + 1 := by rw [k12 10 r0 3 (by omega)]; exact q9
      have w4 : jm_w (M12 10 r0 3 - 1) = M 10 r0 3 := by rw [q12]; exact wz
      rw [w4]
      refine wp_b (s0_fX7_put M12 i12 r0 _ 2 l3 hr0 hs (jm_inL (by decide) (by decide)) h3) (fun v14 M15 h15 => ?_)
      obtain ⟨i15, k15, -⟩ := h15
      have q15 : M15 10 r0 3 = M 10 r0 3 + 1 := by rw [k15 10 r0 3 (by omega)]; exact q12
      have w5 : jm_w (M15 10 r0 3 - 1) = M 10 r0 3 := by rw [q15]; exact wz
      rw [w5]
      refine wp_b (s0_fX7_put M15 i15 r0 _ 3 l4 hr0 hs (jm_inL (by decide) (by decide)) h4) (fun v17 M18 h18 => ?_)
      obtain ⟨i18, k18, -⟩ := h18
      have q18 : M18 10 r0 3 = M 10 r0 3 + 1 := by rw [k18 10 r0 3 (by omega)]; exact q15
      refine wp_ret ⟨i18, fun f i k ha hb => ?_, Or.inr ⟨q18, rfl, hlt⟩⟩
      rw [k18 f i k ha, k15 f i k ha, k12 f i k ha, k9 f i k ha, u6]
      exact jm_une hb
    · exact wp_ret ⟨iM, fun _ _ _ _ _ => rfl, Or.inl ⟨rfl, by omega, rfl⟩⟩
theorem s_fX7_push (M : jm_M) (iM : bI bx1 M) (r0 l1 l2 l3 l4 : Int) (hr0 : 0 ≤ r0 ∧ r0 ≤ 32) (h1 : jm_in l1) (h2 : jm_in l2) (h3 : jm_in l3) (h4 : jm_in l4) : wp (fX7_push M r0 l1 l2 l3 l4) (fun r M1 => bI bx1 M1 ∧ Kp (TPU r0) M M1 ∧ ((-1) ≤ r ∧ r ≤ 30 ∧ ((r = -1 ∧ M 10 r0 3 = lim1 r0 ∧ M1 10 r0 3 = M 10 r0 3) ∨ (r = M 10 r0 3 + 1 ∧ M1 10 r0 3 = r ∧ M 10 r0 3 < lim1 r0)))) :=
  wp_mono (s0_fX7_push M iM r0 l1 l2 l3 l4 hr0 h1 h2 h3 h4) fun r M1 q => ⟨q.1, fun f i k h => q.2.1 f i k h.1 h.2, by
    have b3 : 0 ≤ M 10 r0 3 ∧ M 10 r0 3 ≤ lim1 r0 := iM 10 r0 3
    have bl := lim1_any r0
    have := q.2.2
    omega⟩
theorem s_fX1_tryOption (M : jm_M) (iM : bI bx1 M) (r0 l1 : Int) (hr0 : 0 ≤ r0 ∧ r0 ≤ 5) (hl1 : jm_in l1) : wp (fX1_tryOption M r0 l1) (fun r M1 => bI bx1 M1 ∧ Kp TAM M M1 ∧ (0 ≤ r ∧ r ≤ 0)) := by
  have kM : Kp TAM M M := Kp.rf
  have bl := lim1_any (r0 + 24)
  unfold fX1_tryOption
  refine wp_sk iM (show jm_in 1 from jm_inL (by decide) (by decide)) kM (by unfold TAM; omega) (fun M1 u1 i1 k1 => ?_)
  refine wp_sk i1 (show 0 ≤ 0 ∧ 0 ≤ lim1 (r0 + 24) by omega) k1 (by unfold TAM; omega) (fun M2 u2 i2 k2 => ?_)
  refine wp_bp (s_fX7_cell M2 i2 (r0 + 18) l1 0 ⟨by omega, by omega⟩ hl1 (jm_inL (by decide) (by decide))) (fun v3 h3 => ?_)
  refine wp_ite (fun c => wp_ret ⟨i2, k2, by omega⟩) (fun c => ?_)
  refine wp_bp (s_fX7_cell M2 i2 (r0 + 18) l1 0 ⟨by omega, by omega⟩ hl1 (jm_inL (by decide) (by decide))) (fun v7 h7 => ?_)
  refine wp_bp (s_fX7_cell M2 i2 (r0 + 18) l1 1 ⟨by omega, by omega⟩ hl1 (jm_inL (by decide) (by decide))) (fun v10 h10 => ?_)
  refine wp_b (s0_fX7_push M2 i2 (r0 + 24) v7 v10 200 0 ⟨by omega, by omega⟩ h7 h10 (jm_inL (by decide) (by decide)) (jm_inL (by decide) (by decide))) (fun v13 M14 h14 => ?_)
  obtain ⟨i14, k14, -⟩ := h14
  refine wp_ret ⟨i14, fun f i k h => ?_, by omega⟩
  rw [k14 f i k (by unfold TAM at h; omega) (by unfold TAM at h; omega)]
  exact k2 f i k h
set_option maxHeartbeats 4000000 in
set_option maxRecDepth 100000 in
theorem s_fX2_goesAhead (M : jm_M) (iM : bI bx1 M) (r0 r1 : Int) (hr0 : 0 ≤ r0 ∧ r0 ≤ 5) (hr1 : 0 ≤ r1 ∧ r1 ≤ 5) : wp (fX2_goesAhead M r0 r1) (fun r M1 => M1 = M ∧ (0 ≤ r ∧ r ≤ 1)) := by
  unfold fX2_goesAhead
  have b_2 : (-2147483648) ≤ (M 9 r0 0) ∧ (M 9 r0 0) ≤ 2147483647 := iM 9 r0 0
  have b_3 : (-2147483648) ≤ (M 9 r1 0) ∧ (M 9 r1 0) ≤ 2147483647 := iM 9 r1 0
  refine wp_ite (fun c_1 => ?_) (fun c_1 => ?_)
  · skip
    exact wp_ret ⟨rfl, by omega⟩
  · skip
    refine wp_ite (fun c_4 => ?_) (fun c_4 => ?_)
    · skip
      have b_6 : 0 ≤ (M 9 r0 1) ∧ (M 9 r0 1) ≤ 361 := iM 9 r0 1
      have b_7 : 0 ≤ (M 9 r1 1) ∧ (M 9 r1 1) ≤ 361 := iM 9 r1 1
      refine wp_ite (fun c_5 => ?_) (fun c_5 => ?_)
      · skip
        exact wp_ret ⟨rfl, by omega⟩
      · skip
        exact wp_ret ⟨rfl, by omega⟩
    · skip
      exact wp_ret ⟨rfl, by omega⟩
set_option maxHeartbeats 4000000 in
set_option maxRecDepth 100000 in
theorem s_gX2_nextToGo_4 (fu : Nat) (hfu : 4000 ≤ fu) (M : jm_M) (iM : bI bx1 M) (k4 : jm_M → Int → Int → jm_R) (N4 : Int) (hk4 : ∀ (l1 l2 : Int) (hl1 : (-1) ≤ l1 ∧ l1 ≤ 5) (hl2 : 0 ≤ l2 ∧ l2 ≤ 6), 7 - l2 < N4 → wp (k4 M l1 l2) (fun r M1 => M1 = M ∧ ((-1) ≤ r ∧ r ≤ 5))) : ∀ (l1 l2 : Int) (hl1 : (-1) ≤ l1 ∧ l1 ≤ 5) (hl2 : 0 ≤ l2 ∧ l2 ≤ 6), 7 - l2 < N4 + 1 → wp (gX2_nextToGo_4 fu k4 M l1 l2) (fun r M1 => M1 = M ∧ ((-1) ≤ r ∧ r ≤ 5)) := by
  intro l1 l2 hl1 hl2 m4
  unfold gX2_nextToGo_4
  have b_2 : 0 ≤ (M 2 0 5) ∧ (M 2 0 5) ≤ 6 := iM 2 0 5
  refine wp_ite (fun c_1 => ?_) (fun c_1 => ?_)
  · skip
    exact wp_ret ⟨rfl, by omega⟩
  · skip
    refine wp_F (by omega) ?_
    refine wp_T ⟨by omega, by omega⟩ ?_
    have b_5 : (-2147483648) ≤ (M 9 l2 3) ∧ (M 9 l2 3) ≤ 2147483647 := iM 9 l2 3
    refine wp_ite (fun c_4 => ?_) (fun c_4 => ?_)
    · skip
      refine wp_ite (fun c_6 => ?_) (fun c_6 => ?_)
      · skip
        have w_7 : (jm_w (l2 + 1)) = (l2 + 1) := jm_wid (by omega) (by omega)
        refine wp_e (by exact (jm_w_in _)) (fun v8 e_8 hv8 => ?_)
        have b_9 : -2147483648 ≤ v8 ∧ v8 ≤ 2147483647 := hv8
        exact hk4 l2 v8  ⟨by omega, by omega⟩ ⟨by omega, by omega⟩  (by omega)
      · skip
        refine wp_T ⟨by omega, by omega⟩ ?_
        refine wp_T ⟨by omega, by omega⟩ ?_
        refine wp_bp (s_fX2_goesAhead M iM l2 l1 ⟨by omega, by omega⟩ ⟨by omega, by omega⟩ ) (fun v12 hv12 => ?_)
        refine wp_ite (fun c_10 => ?_) (fun c_10 => ?_)
        · skip
          have w_11 : (jm_w (l2 + 1)) = (l2 + 1) := jm_wid (by omega) (by omega)
          refine wp_e (by exact (jm_w_in _)) (fun v16 e_12 hv16 => ?_)
          have b_13 : -2147483648 ≤ v16 ∧ v16 ≤ 2147483647 := hv16
          exact hk4 l1 v16  ⟨by omega, by omega⟩ ⟨by omega, by omega⟩  (by omega)
        · skip
          have w_14 : (jm_w (l2 + 1)) = (l2 + 1) := jm_wid (by omega) (by omega)
          refine wp_e (by exact (jm_w_in _)) (fun v18 e_15 hv18 => ?_)
          have b_16 : -2147483648 ≤ v18 ∧ v18 ≤ 2147483647 := hv18
          exact hk4 l2 v18  ⟨by omega, by omega⟩ ⟨by omega, by omega⟩  (by omega)
    · skip
      have w_17 : (jm_w (l2 + 1)) = (l2 + 1) := jm_wid (by omega) (by omega)
      refine wp_e (by exact (jm_w_in _)) (fun v20 e_18 hv20 => ?_)
      have b_19 : -2147483648 ≤ v20 ∧ v20 ≤ 2147483647 := hv20
      exact hk4 l1 v20  ⟨by omega, by omega⟩ ⟨by omega, by omega⟩  (by omega)
set_option maxHeartbeats 4000000 in
set_option maxRecDepth 100000 in
theorem s_fX2_nextToGo_4 (fu : Nat) (hfu : 4000 ≤ fu) (M : jm_M) (iM : bI bx1 M) : ∀ (n : Nat) (l1 l2 : Int) (hl1 : (-1) ≤ l1 ∧ l1 ≤ 5) (hl2 : 0 ≤ l2 ∧ l2 ≤ 6), 7 - l2 < (n : Int) → wp (fX2_nextToGo_4 fu  n M l1 l2) (fun r M1 => M1 = M ∧ ((-1) ≤ r ∧ r ≤ 5)) := by
  intro n
  induction n with
  | zero => intro l1 l2 hl1 hl2 hm; exfalso; omega
  | succ n ih =>
    intro l1 l2 hl1 hl2 hm
    exact s_gX2_nextToGo_4 fu hfu M iM (fX2_nextToGo_4 fu  n) (n : Int) ih l1 l2 hl1 hl2 (by omega)
set_option maxHeartbeats 4000000 in
set_option maxRecDepth 100000 in
theorem s_fX2_nextToGo (fu : Nat) (hfu : 4000 ≤ fu) (M : jm_M) (iM : bI bx1 M) : wp (fX2_nextToGo fu M ) (fun r M1 => M1 = M ∧ ((-1) ≤ r ∧ r ≤ 5)) := by
  unfold fX2_nextToGo
  exact s_fX2_nextToGo_4 fu hfu M iM    fu (-1) 0  ⟨by omega, by omega⟩ ⟨by omega, by omega⟩   (by omega)
set_option maxHeartbeats 4000000 in
set_option maxRecDepth 100000 in
theorem s_fX9_sectorOf (M : jm_M) (iM : bI bx1 M) (l1 : Int) (hl1 : 0 ≤ l1 ∧ l1 ≤ 2000) : wp (fX9_sectorOf M l1) (fun r M1 => M1 = M ∧ (0 ≤ r ∧ r ≤ 4)) := by
  unfold fX9_sectorOf
  have b_2 : 2 ≤ (M 1 0 0) ∧ (M 1 0 0) ≤ 5 := iM 1 0 0
  refine wp_F (by omega) ?_
  refine wp_T (by omega) ?_
  have f_3 : 0 ≤ (jm_mod l1 (M 1 0 0)) ∧ (jm_mod l1 (M 1 0 0)) < (M 1 0 0) := jm_mod_f (by omega) (by omega)
  exact wp_ret ⟨rfl, by omega⟩
set_option maxHeartbeats 4000000 in
set_option maxRecDepth 100000 in
theorem s_gX2_hear_3 (fu : Nat) (hfu : 4000 ≤ fu) (M0 : jm_M) (k3 : jm_M → Int → Int → Int → Int → jm_R) (N3 : Int) (hk3 : ∀ (r1 r2 l3 l4 : Int) (M : jm_M) (iM : bI bx1 M) (kM : Kp TB M0 M) (hr1 : 0 ≤ r1 ∧ r1 ≤ 5) (hr2 : 0 ≤ r2 ∧ r2 ≤ 5) (hl3 : 0 ≤ l3 ∧ l3 ≤ 361) (hl4 : 0 ≤ l4 ∧ l4 ≤ 12), 13 - l4 < N3 → wp (k3 M r1 r2 l3 l4) (fun r M1 => bI bx1 M1 ∧ Kp TB M0 M1 ∧ (0 ≤ r ∧ r ≤ 0))) : ∀ (r1 r2 l3 l4 : Int) (M : jm_M) (iM : bI bx1 M) (kM : Kp TB M0 M) (hr1 : 0 ≤ r1 ∧ r1 ≤ 5) (hr2 : 0 ≤ r2 ∧ r2 ≤ 5) (hl3 : 0 ≤ l3 ∧ l3 ≤ 361) (hl4 : 0 ≤ l4 ∧ l4 ≤ 12), 13 - l4 < N3 + 1 → wp (gX2_hear_3 fu k3 M r1 r2 l3 l4) (fun r M1 => bI bx1 M1 ∧ Kp TB M0 M1 ∧ (0 ≤ r ∧ r ≤ 0)) := by
  intro r1 r2 l3 l4 M iM kM hr1 hr2 hl3 hl4 m3
  unfold gX2_hear_3
  have b_2 : 0 ≤ (M 10 (r1 + 6) 3) ∧ (M 10 (r1 + 6) 3) ≤ 12 := jm_b10 (iM 10 (r1 + 6) 3) (Int.le_of_eq (lim1_6 (by omega) (by omega)))
  refine wp_ite (fun c_1 => ?_) (fun c_1 => ?_)
  · skip
    exact wp_ret ⟨iM, kM, by omega⟩
  · skip
    refine wp_bp (s_fX7_cell M iM (r1 + 6) l4 0 ⟨by omega, by omega⟩ (jm_inL (by omega) (by omega)) (jm_inL (by decide) (by decide)) ) (fun v3 hv3 => ?_)
    refine wp_T ⟨by omega, by omega⟩ ?_
    have b_4 : -2147483648 ≤ v3 ∧ v3 ≤ 2147483647 := hv3
    have b_5 : 2 ≤ (M 1 0 0) ∧ (M 1 0 0) ≤ 5 := iM 1 0 0
    have w_6 : -2147483648 ≤ (jm_w (v3 * (M 1 0 0))) ∧ (jm_w (v3 * (M 1 0 0))) ≤ 2147483647 := jm_w_in _
    have b_7 : (-2147483648) ≤ (M 18 0 7) ∧ (M 18 0 7) ≤ 2147483647 := iM 18 0 7
    have w_8 : -2147483648 ≤ (jm_w ((jm_w (v3 * (M 1 0 0))) + (M 18 0 7))) ∧ (jm_w ((jm_w (v3 * (M 1 0 0))) + (M 18 0 7))) ≤ 2147483647 := jm_w_in _
    refine wp_ite (fun c_3 => ?_) (fun c_3 => ?_)
    · skip
      refine wp_bp (s_fX7_cell M iM (r1 + 6) l4 1 ⟨by omega, by omega⟩ (jm_inL (by omega) (by omega)) (jm_inL (by decide) (by decide)) ) (fun v10 hv10 => ?_)
      have b_10 : -2147483648 ≤ v10 ∧ v10 ≤ 2147483647 := hv10
      refine wp_ite (fun c_9 => ?_) (fun c_9 => ?_)
      · skip
        refine wp_bp (s_fX7_cell M iM (r1 + 6) l4 2 ⟨by omega, by omega⟩ (jm_inL (by omega) (by omega)) (jm_inL (by decide) (by decide)) ) (fun v14 hv14 => ?_)
        refine wp_sk iM hv14 kM (by unfold TB; omega) (fun M17 u_11 iM17 kM17 => ?_)
        have w_12 : (jm_w (l4 + 1)) = (l4 + 1) := jm_wid (by omega) (by omega)
        refine wp_e (by exact (jm_w_in _)) (fun v18 e_13 hv18 => ?_)
        have b_14 : -2147483648 ≤ v18 ∧ v18 ≤ 2147483647 := hv18
        exact hk3 r1 r2 l3 v18 M17 iM17 kM17 ⟨by omega, by omega⟩ ⟨by omega, by omega⟩ ⟨by omega, by omega⟩ ⟨by omega, by omega⟩  (by omega)
      · skip
        refine wp_bp (s_fX7_cell M iM (r1 + 6) l4 2 ⟨by omega, by omega⟩ (jm_inL (by omega) (by omega)) (jm_inL (by decide) (by decide)) ) (fun v20 hv20 => ?_)
        refine wp_sk iM hv20 kM (by unfold TB; omega) (fun M23 u_15 iM23 kM23 => ?_)
        have w_16 : (jm_w (l4 + 1)) = (l4 + 1) := jm_wid (by omega) (by omega)
        refine wp_e (by exact (jm_w_in _)) (fun v24 e_17 hv24 => ?_)
        have b_18 : -2147483648 ≤ v24 ∧ v24 ≤ 2147483647 := hv24
        exact hk3 r1 r2 l3 v24 M23 iM23 kM23 ⟨by omega, by omega⟩ ⟨by omega, by omega⟩ ⟨by omega, by omega⟩ ⟨by omega, by omega⟩  (by omega)
    · skip
      have w_19 : (jm_w (l4 + 1)) = (l4 + 1) := jm_wid (by omega) (by omega)
      refine wp_e (by exact (jm_w_in _)) (fun v26 e_20 hv26 => ?_)
      have b_21 : -2147483648 ≤ v26 ∧ v26 ≤ 2147483647 := hv26
      exact hk3 r1 r2 l3 v26 M iM kM ⟨by omega, by omega⟩ ⟨by omega, by omega⟩ ⟨by omega, by omega⟩ ⟨by omega, by omega⟩  (by omega)
set_option maxHeartbeats 4000000 in
set_option maxRecDepth 100000 in
theorem s_fX2_hear_3 (fu : Nat) (hfu : 4000 ≤ fu) (M0 : jm_M) : ∀ (n : Nat) (r1 r2 l3 l4 : Int) (M : jm_M) (iM : bI bx1 M) (kM : Kp TB M0 M) (hr1 : 0 ≤ r1 ∧ r1 ≤ 5) (hr2 : 0 ≤ r2 ∧ r2 ≤ 5) (hl3 : 0 ≤ l3 ∧ l3 ≤ 361) (hl4 : 0 ≤ l4 ∧ l4 ≤ 12), 13 - l4 < (n : Int) → wp (fX2_hear_3 fu  n M r1 r2 l3 l4) (fun r M1 => bI bx1 M1 ∧ Kp TB M0 M1 ∧ (0 ≤ r ∧ r ≤ 0)) := by
  intro n
  induction n with
  | zero => intro r1 r2 l3 l4 M iM kM hr1 hr2 hl3 hl4 hm; exfalso; omega
  | succ n ih =>
    intro r1 r2 l3 l4 M iM kM hr1 hr2 hl3 hl4 hm
    exact s_gX2_hear_3 fu hfu M0 (fX2_hear_3 fu  n) (n : Int) ih r1 r2 l3 l4 M iM kM hr1 hr2 hl3 hl4 (by omega)
set_option maxHeartbeats 4000000 in
set_option maxRecDepth 100000 in
theorem s_fX2_hear (fu : Nat) (hfu : 4000 ≤ fu) (M : jm_M) (iM : bI bx1 M) (r1 r2 l3 : Int) (hr1 : 0 ≤ r1 ∧ r1 ≤ 5) (hr2 : 0 ≤ r2 ∧ r2 ≤ 5) (hl3 : 0 ≤ l3 ∧ l3 ≤ 361) : wp (fX2_hear fu M r1 r2 l3) (fun r M1 => bI bx1 M1 ∧ Kp TB M M1 ∧ (0 ≤ r ∧ r ≤ 0)) := by
  have kM : Kp TB M M := Kp.rf
  unfold fX2_hear
  exact s_fX2_hear_3 fu hfu M    fu r1 r2 l3 0 M iM kM ⟨by omega, by omega⟩ ⟨by omega, by omega⟩ ⟨by omega, by omega⟩ ⟨by omega, by omega⟩   (by omega)
set_option maxHeartbeats 4000000 in
set_option maxRecDepth 100000 in
theorem s_gX9_slowAt_2 (fu : Nat) (hfu : 4000 ≤ fu) (M : jm_M) (iM : bI bx1 M) (k2 : jm_M → Int → Int → jm_R) (N2 : Int) (hk2 : ∀ (l1 l2 : Int) (hl1 : jm_in l1) (hl2 : 0 ≤ l2 ∧ l2 ≤ 20), 21 - l2 < N2 → wp (k2 M l1 l2) (fun r M1 => M1 = M ∧ (0 ≤ r ∧ r ≤ 1))) : ∀ (l1 l2 : Int) (hl1 : jm_in l1) (hl2 : 0 ≤ l2 ∧ l2 ≤ 20), 21 - l2 < N2 + 1 → wp (gX9_slowAt_2 fu k2 M l1 l2) (fun r M1 => M1 = M ∧ (0 ≤ r ∧ r ≤ 1)) := by
  intro l1 l2 hl1 hl2 m2
  unfold gX9_slowAt_2
  have b_2 : 0 ≤ (M 10 31 3) ∧ (M 10 31 3) ≤ 20 := jm_b10 (iM 10 31 3) (by decide)
  refine wp_ite (fun c_1 => ?_) (fun c_1 => ?_)
  · skip
    exact wp_ret ⟨rfl, by omega⟩
  · skip
    refine wp_bp (s_fX7_cell M iM 31 l2 3 ⟨by omega, by omega⟩ (jm_inL (by omega) (by omega)) (jm_inL (by decide) (by decide)) ) (fun v3 hv3 => ?_)
    have b_4 : -2147483648 ≤ v3 ∧ v3 ≤ 2147483647 := hv3
    refine wp_ite (fun c_3 => ?_) (fun c_3 => ?_)
    · skip
      refine wp_bp (s_fX7_cell M iM 31 l2 1 ⟨by omega, by omega⟩ (jm_inL (by omega) (by omega)) (jm_inL (by decide) (by decide)) ) (fun v7 hv7 => ?_)
      have b_6 : -2147483648 ≤ l1 ∧ l1 ≤ 2147483647 := hl1
      have b_7 : -2147483648 ≤ v7 ∧ v7 ≤ 2147483647 := hv7
      refine wp_ite (fun c_5 => ?_) (fun c_5 => ?_)
      · skip
        have w_8 : (jm_w (l2 + 1)) = (l2 + 1) := jm_wid (by omega) (by omega)
        refine wp_e (by exact (jm_w_in _)) (fun v11 e_9 hv11 => ?_)
        have b_10 : -2147483648 ≤ v11 ∧ v11 ≤ 2147483647 := hv11
        exact hk2 l1 v11  hl1 ⟨by omega, by omega⟩  (by omega)
      · skip
        refine wp_bp (s_fX7_cell M iM 31 l2 2 ⟨by omega, by omega⟩ (jm_inL (by omega) (by omega)) (jm_inL (by decide) (by decide)) ) (fun v13 hv13 => ?_)
        have b_12 : -2147483648 ≤ v13 ∧ v13 ≤ 2147483647 := hv13
        refine wp_ite (fun c_11 => ?_) (fun c_11 => ?_)
        · skip
          have w_13 : (jm_w (l2 + 1)) = (l2 + 1) := jm_wid (by omega) (by omega)
          refine wp_e (by exact (jm_w_in _)) (fun v17 e_14 hv17 => ?_)
          have b_15 : -2147483648 ≤ v17 ∧ v17 ≤ 2147483647 := hv17
          exact hk2 l1 v17  hl1 ⟨by omega, by omega⟩  (by omega)
        · skip
          exact wp_ret ⟨rfl, by omega⟩
    · skip
      have w_16 : (jm_w (l2 + 1)) = (l2 + 1) := jm_wid (by omega) (by omega)
      refine wp_e (by exact (jm_w_in _)) (fun v19 e_17 hv19 => ?_)
      have b_18 : -2147483648 ≤ v19 ∧ v19 ≤ 2147483647 := hv19
      have b_19 : -2147483648 ≤ l1 ∧ l1 ≤ 2147483647 := hl1
      exact hk2 l1 v19  hl1 ⟨by omega, by omega⟩  (by omega)
set_option maxHeartbeats 4000000 in
set_option maxRecDepth 100000 in
theorem s_fX9_slowAt_2 (fu : Nat) (hfu : 4000 ≤ fu) (M : jm_M) (iM : bI bx1 M) : ∀ (n : Nat) (l1 l2 : Int) (hl1 : jm_in l1) (hl2 : 0 ≤ l2 ∧ l2 ≤ 20), 21 - l2 < (n : Int) → wp (fX9_slowAt_2 fu  n M l1 l2) (fun r M1 => M1 = M ∧ (0 ≤ r ∧ r ≤ 1)) := by
  intro n
  induction n with
  | zero => intro l1 l2 hl1 hl2 hm; exfalso; omega
  | succ n ih =>
    intro l1 l2 hl1 hl2 hm
    exact s_gX9_slowAt_2 fu hfu M iM (fX9_slowAt_2 fu  n) (n : Int) ih l1 l2 hl1 hl2 (by omega)
set_option maxHeartbeats 4000000 in
set_option maxRecDepth 100000 in
theorem s_fX9_slowAt (fu : Nat) (hfu : 4000 ≤ fu) (M : jm_M) (iM : bI bx1 M) (l1 : Int) (hl1 : jm_in l1) : wp (fX9_slowAt fu M l1) (fun r M1 => M1 = M ∧ (0 ≤ r ∧ r ≤ 1)) := by
  unfold fX9_slowAt
  have b_1 : -2147483648 ≤ l1 ∧ l1 ≤ 2147483647 := hl1
  exact s_fX9_slowAt_2 fu hfu M iM    fu l1 0  hl1 ⟨by omega, by omega⟩   (by omega)
set_option maxHeartbeats 4000000 in
set_option maxRecDepth 100000 in
theorem s_fX6_age (M : jm_M) (iM : bI bx1 M) (r0 : Int) (hr0 : 0 ≤ r0 ∧ r0 ≤ 5) : wp (fX6_age M r0) (fun r M1 => M1 = M ∧ (jm_in r)) := by
  unfold fX6_age
  refine wp_bp (s_fX11_isIndex M iM (M 9 r0 9) 4 (iM 9 r0 9) ⟨by omega, by omega⟩ ) (fun v2 hv2 => ?_)
  have b_1 : (-2147483648) ≤ (M 9 r0 9) ∧ (M 9 r0 9) ≤ 2147483647 := iM 9 r0 9
  refine wp_ite (fun c_2 => ?_) (fun c_2 => ?_)
  · skip
    exact wp_ret ⟨rfl, (jm_inL (by decide) (by decide))⟩
  · skip
    refine wp_T ⟨by omega, by omega⟩ ?_
    have b_3 : (-2147483648) ≤ (M 29 r0 (M 9 r0 9)) ∧ (M 29 r0 (M 9 r0 9)) ≤ 2147483647 := iM 29 r0 (M 9 r0 9)
    exact wp_ret ⟨rfl, (iM 29 r0 (M 9 r0 9))⟩
set_option maxHeartbeats 4000000 in
set_option maxRecDepth 100000 in
theorem s_gX9_wetAt_8 (fu : Nat) (hfu : 4000 ≤ fu) (M : jm_M) (iM : bI bx1 M) (k8 : jm_M → Int → Int → Int → Int → Int → jm_R) (N8 : Int) (hk8 : ∀ (l1 l2 l3 l4 l5 : Int) (hl1 : 0 ≤ l1 ∧ l1 ≤ 4) (hl2 : jm_in l2) (hl3 : jm_in l3) (hl4 : 0 ≤ l4 ∧ l4 ≤ 2147483647) (hl5 : 0 ≤ l5 ∧ l5 ≤ 30), 31 - l5 < N8 → wp (k8 M l1 l2 l3 l4 l5) (fun r M1 => M1 = M ∧ (jm_in r))) : ∀ (l1 l2 l3 l4 l5 : Int) (hl1 : 0 ≤ l1 ∧ l1 ≤ 4) (hl2 : jm_in l2) (hl3 : jm_in l3) (hl4 : 0 ≤ l4 ∧ l4 ≤ 2147483647) (hl5 : 0 ≤ l5 ∧ l5 ≤ 30), 31 - l5 < N8 + 1 → wp (gX9_wetAt_8 fu k8 M l1 l2 l3 l4 l5) (fun r M1 => M1 = M ∧ (jm_in r)) := by
  intro l1 l2 l3 l4 l5 hl1 hl2 hl3 hl4 hl5 m8
  unfold gX9_wetAt_8
  have b_2 : 0 ≤ (M 10 30 3) ∧ (M 10 30 3) ≤ 30 := jm_b10 (iM 10 30 3) (by decide)
  refine wp_ite (fun c_1 => ?_) (fun c_1 => ?_)
  · skip
    have b_3 : -2147483648 ≤ l3 ∧ l3 ≤ 2147483647 := hl3
    exact wp_ret ⟨rfl, hl3⟩
  · skip
    refine wp_bp (s_fX7_cell M iM 30 l5 1 ⟨by omega, by omega⟩ (jm_inL (by omega) (by omega)) (jm_inL (by decide) (by decide)) ) (fun v3 hv3 => ?_)
    refine wp_bp (s_fX7_cell M iM 30 l5 0 ⟨by omega, by omega⟩ (jm_inL (by omega) (by omega)) (jm_inL (by decide) (by decide)) ) (fun v6 hv6 => ?_)
    have b_5 : -2147483648 ≤ v6 ∧ v6 ≤ 2147483647 := hv6
    refine wp_ite (fun c_4 => ?_) (fun c_4 => ?_)
    · skip
      have b_7 : -2147483648 ≤ l2 ∧ l2 ≤ 2147483647 := hl2
      have b_8 : -2147483648 ≤ v3 ∧ v3 ≤ 2147483647 := hv3
      refine wp_ite (fun c_6 => ?_) (fun c_6 => ?_)
      · skip
        have w_9 : (jm_w (l5 + 1)) = (l5 + 1) := jm_wid (by omega) (by omega)
        refine wp_e (by exact (jm_w_in _)) (fun v11 e_10 hv11 => ?_)
        have b_11 : -2147483648 ≤ v11 ∧ v11 ≤ 2147483647 := hv11
        have b_12 : -2147483648 ≤ l3 ∧ l3 ≤ 2147483647 := hl3
        exact hk8 l1 l2 l3 l4 v11  ⟨by omega, by omega⟩ hl2 hl3 ⟨by omega, by omega⟩ ⟨by omega, by omega⟩  (by omega)
      · skip
        refine wp_ite (fun c_13 => ?_) (fun c_13 => ?_)
        · skip
          have w_14 : (jm_w (l5 + 1)) = (l5 + 1) := jm_wid (by omega) (by omega)
          refine wp_e (by exact (jm_w_in _)) (fun v14 e_15 hv14 => ?_)
          have b_16 : -2147483648 ≤ v14 ∧ v14 ≤ 2147483647 := hv14
          have b_17 : -2147483648 ≤ l3 ∧ l3 ≤ 2147483647 := hl3
          exact hk8 l1 l2 l3 l4 v14  ⟨by omega, by omega⟩ hl2 hl3 ⟨by omega, by omega⟩ ⟨by omega, by omega⟩  (by omega)
        · skip
          refine wp_bp (s_fX7_cell M iM 30 l5 2 ⟨by omega, by omega⟩ (jm_inL (by omega) (by omega)) (jm_inL (by decide) (by decide)) ) (fun v16 hv16 => ?_)
          have w_18 : (jm_w (l5 + 1)) = (l5 + 1) := jm_wid (by omega) (by omega)
          refine wp_e (by exact (jm_w_in _)) (fun v19 e_19 hv19 => ?_)
          have b_20 : -2147483648 ≤ v19 ∧ v19 ≤ 2147483647 := hv19
          have b_21 : -2147483648 ≤ v16 ∧ v16 ≤ 2147483647 := hv16
          exact hk8 l1 l2 v16 v3 v19  ⟨by omega, by omega⟩ hl2 hv16 ⟨by omega, by omega⟩ ⟨by omega, by omega⟩  (by omega)
    · skip
      have w_22 : (jm_w (l5 + 1)) = (l5 + 1) := jm_wid (by omega) (by omega)
      refine wp_e (by exact (jm_w_in _)) (fun v21 e_23 hv21 => ?_)
      have b_24 : -2147483648 ≤ v21 ∧ v21 ≤ 2147483647 := hv21
      have b_25 : -2147483648 ≤ l2 ∧ l2 ≤ 2147483647 := hl2
      have b_26 : -2147483648 ≤ l3 ∧ l3 ≤ 2147483647 := hl3
      exact hk8 l1 l2 l3 l4 v21  ⟨by omega, by omega⟩ hl2 hl3 ⟨by omega, by omega⟩ ⟨by omega, by omega⟩  (by omega)
set_option maxHeartbeats 4000000 in
set_option maxRecDepth 100000 in
theorem s_fX9_wetAt_8 (fu : Nat) (hfu : 4000 ≤ fu) (M : jm_M) (iM : bI bx1 M) : ∀ (n : Nat) (l1 l2 l3 l4 l5 : Int) (hl1 : 0 ≤ l1 ∧ l1 ≤ 4) (hl2 : jm_in l2) (hl3 : jm_in l3) (hl4 : 0 ≤ l4 ∧ l4 ≤ 2147483647) (hl5 : 0 ≤ l5 ∧ l5 ≤ 30), 31 - l5 < (n : Int) → wp (fX9_wetAt_8 fu  n M l1 l2 l3 l4 l5) (fun r M1 => M1 = M ∧ (jm_in r)) := by
  intro n
  induction n with
  | zero => intro l1 l2 l3 l4 l5 hl1 hl2 hl3 hl4 hl5 hm; exfalso; omega
  | succ n ih =>
    intro l1 l2 l3 l4 l5 hl1 hl2 hl3 hl4 hl5 hm
    exact s_gX9_wetAt_8 fu hfu M iM (fX9_wetAt_8 fu  n) (n : Int) ih l1 l2 l3 l4 l5 hl1 hl2 hl3 hl4 hl5 (by omega)
set_option maxHeartbeats 4000000 in
set_option maxRecDepth 100000 in
theorem s_fX9_wetAt (fu : Nat) (hfu : 4000 ≤ fu) (M : jm_M) (iM : bI bx1 M) (l1 l2 : Int) (hl1 : 0 ≤ l1 ∧ l1 ≤ 4) (hl2 : jm_in l2) : wp (fX9_wetAt fu M l1 l2) (fun r M1 => M1 = M ∧ (jm_in r)) := by
  unfold fX9_wetAt
  have b_1 : -2147483648 ≤ l2 ∧ l2 ≤ 2147483647 := hl2
  exact s_fX9_wetAt_8 fu hfu M iM    fu l1 l2 0 0 0  ⟨by omega, by omega⟩ hl2 (jm_inL (by decide) (by decide)) ⟨by omega, by omega⟩ ⟨by omega, by omega⟩   (by omega)
set_option maxHeartbeats 4000000 in
set_option maxRecDepth 100000 in
theorem s_fX9_tyreNumber (M : jm_M) (iM : bI bx1 M) (l1 l2 : Int) (hl1 : jm_in l1) (hl2 : 0 ≤ l2 ∧ l2 ≤ 5) : wp (fX9_tyreNumber M l1 l2) (fun r M1 => M1 = M ∧ (jm_in r ∧ (0 ≤ l1 ∧ l1 < 4 ∧ 0 ≤ l2 ∧ l2 < 6 → r = M 17 0 (jm_w ((jm_w (l1 * 6)) + l2))))) := by
  unfold fX9_tyreNumber
  refine wp_bp (s_fX11_isIndex M iM l1 4 hl1 ⟨by omega, by omega⟩ ) (fun v1 hv1 => ?_)
  have b_1 : -2147483648 ≤ l1 ∧ l1 ≤ 2147483647 := hl1
  refine wp_ite (fun c_2 => ?_) (fun c_2 => ?_)
  · skip
    exact wp_ret ⟨rfl, (jm_inL (by decide) (by decide)), by omega⟩
  · skip
    refine wp_bp (s_fX11_isIndex M iM l2 6 (jm_inL (by omega) (by omega)) ⟨by omega, by omega⟩ ) (fun v5 hv5 => ?_)
    refine wp_ite (fun c_3 => ?_) (fun c_3 => ?_)
    · skip
      exact wp_ret ⟨rfl, (jm_inL (by decide) (by decide)), by omega⟩
    · skip
      have w_4 : (jm_w (l1 * 6)) = (l1 * 6) := jm_wid (by omega) (by omega)
      have w_5 : (jm_w ((jm_w (l1 * 6)) + l2)) = ((jm_w (l1 * 6)) + l2) := jm_wid (by omega) (by omega)
      refine wp_T ⟨by omega, by omega⟩ ?_
      have b_6 : (-2147483648) ≤ (M 17 0 (jm_w ((jm_w (l1 * 6)) + l2))) ∧ (M 17 0 (jm_w ((jm_w (l1 * 6)) + l2))) ≤ 2147483647 := iM 17 0 (jm_w ((jm_w (l1 * 6)) + l2))
      exact wp_ret ⟨rfl, (iM 17 0 (jm_w ((jm_w (l1 * 6)) + l2))), by omega⟩
set_option maxHeartbeats 4000000 in
set_option maxRecDepth 100000 in
theorem s_gX2_freeTime_136 (fu : Nat) (hfu : 4000 ≤ fu) (M : jm_M) (iM : bI bx1 M) : ∀ (r2 l5 l7 l8 : Int) (hr2 : 0 ≤ r2 ∧ r2 ≤ 5) (hl5 : jm_in l5) (hl7 : jm_in l7) (hl8 : jm_in l8), wp (gX2_freeTime_136 fu  M r2 l5 l7 l8) (fun r M1 => M1 = M ∧ (1000 ≤ r ∧ r ≤ 2147483647)) := by
  intro r2 l5 l7 l8 hr2 hl5 hl7 hl8
  unfold gX2_freeTime_136
  refine wp_bp (s_fX9_tyreNumber M iM l5 5 hl5 ⟨by omega, by omega⟩ ) (fun v1 hv1 => ?_)
  have hv1b := hv1.1
  refine wp_T ⟨by omega, by omega⟩ ?_
  have b_1 : -2147483648 ≤ l8 ∧ l8 ≤ 2147483647 := hl8
  have b_2 : -2147483648 ≤ v1 ∧ v1 ≤ 2147483647 := hv1b
  have b_3 : -2147483648 ≤ l7 ∧ l7 ≤ 2147483647 := hl7
  have w_4 : -2147483648 ≤ (jm_w (v1 * l7)) ∧ (jm_w (v1 * l7)) ≤ 2147483647 := jm_w_in _
  have b_5 : (-2147483648) ≤ (M 18 0 2) ∧ (M 18 0 2) ≤ 2147483647 := iM 18 0 2
  have b_6 : (-2147483648) ≤ (M 9 r2 13) ∧ (M 9 r2 13) ≤ 2147483647 := iM 9 r2 13
  have w_7 : -2147483648 ≤ (jm_w ((M 18 0 2) * (M 9 r2 13))) ∧ (jm_w ((M 18 0 2) * (M 9 r2 13))) ≤ 2147483647 := jm_w_in _
  have w_8 : -2147483648 ≤ (jm_w ((jm_w (v1 * l7)) + (jm_w ((M 18 0 2) * (M 9 r2 13))))) ∧ (jm_w ((jm_w (v1 * l7)) + (jm_w ((M 18 0 2) * (M 9 r2 13))))) ≤ 2147483647 := jm_w_in _
  have w_9 : -2147483648 ≤ (jm_w (l8 + (jm_w ((jm_w (v1 * l7)) + (jm_w ((M 18 0 2) * (M 9 r2 13))))))) ∧ (jm_w (l8 + (jm_w ((jm_w (v1 * l7)) + (jm_w ((M 18 0 2) * (M 9 r2 13))))))) ≤ 2147483647 := jm_w_in _
  refine wp_e (by exact (jm_w_in _)) (fun v7 e_10 hv7 => ?_)
  have b_11 : -2147483648 ≤ v7 ∧ v7 ≤ 2147483647 := hv7
  have f_12 := jm_max_f 1000 v7
  exact wp_ret ⟨rfl, by omega⟩
set_option maxHeartbeats 4000000 in
set_option maxRecDepth 100000 in
theorem s_fX2_freeTime (fu : Nat) (hfu : 4000 ≤ fu) (M : jm_M) (iM : bI bx1 M) (r1 r2 l3 l4 : Int) (hr1 : 0 ≤ r1 ∧ r1 ≤ 5) (hr2 : 0 ≤ r2 ∧ r2 ≤ 5) (hl3 : 0 ≤ l3 ∧ l3 ≤ 4) (hl4 : jm_in l4) : wp (fX2_freeTime fu M r1 r2 l3 l4) (fun r M1 => M1 = M ∧ (1000 ≤ r ∧ r ≤ 2147483647)) := by
  unfold fX2_freeTime
  refine wp_bp (s_fX7_cell M iM r1 (M 9 r2 9) 0 ⟨by omega, by omega⟩ (iM 9 r2 9) (jm_inL (by decide) (by decide)) ) (fun v2 hv2 => ?_)
  refine wp_bp (s_fX6_age M iM r2 ⟨by omega, by omega⟩ ) (fun v5 hv5 => ?_)
  refine wp_bp (s_fX9_wetAt fu hfu M iM l3 l4 ⟨by omega, by omega⟩ hl4 ) (fun v8 hv8 => ?_)
  refine wp_bp (s_fX9_tyreNumber M iM v2 4 hv2 ⟨by omega, by omega⟩ ) (fun v11 hv11 => ?_)
  have hv11b := hv11.1
  have b_1 : -2147483648 ≤ v8 ∧ v8 ≤ 2147483647 := hv8
  have b_2 : -2147483648 ≤ v11 ∧ v11 ≤ 2147483647 := hv11b
  have w_3 : -2147483648 ≤ (jm_w (v8 - v11)) ∧ (jm_w (v8 - v11)) ≤ 2147483647 := jm_w_in _
  refine wp_e (by exact (jm_abs_in (jm_w_in _))) (fun v14 e_5 hv14 => ?_)
  refine wp_T ⟨by omega, by omega⟩ ?_
  refine wp_T ⟨by omega, by omega⟩ ?_
  have b_6 : (-2147483648) ≤ (M 14 0 l3) ∧ (M 14 0 l3) ≤ 2147483647 := iM 14 0 l3
  have b_7 : (-2147483648) ≤ (M 8 r1 0) ∧ (M 8 r1 0) ≤ 2147483647 := iM 8 r1 0
  have w_8 : -2147483648 ≤ (jm_w ((M 14 0 l3) + (M 8 r1 0))) ∧ (jm_w ((M 14 0 l3) + (M 8 r1 0))) ≤ 2147483647 := jm_w_in _
  have b_9 : (-2147483648) ≤ (M 18 0 1) ∧ (M 18 0 1) ≤ 2147483647 := iM 18 0 1
  have b_10 : (-2147483648) ≤ (M 9 r2 8) ∧ (M 9 r2 8) ≤ 2147483647 := iM 9 r2 8
  have w_11 : -2147483648 ≤ (jm_w ((M 18 0 1) * (M 9 r2 8))) ∧ (jm_w ((M 18 0 1) * (M 9 r2 8))) ≤ 2147483647 := jm_w_in _
  have w_12 : -2147483648 ≤ (jm_w ((jm_w ((M 14 0 l3) + (M 8 r1 0))) + (jm_w ((M 18 0 1) * (M 9 r2 8))))) ∧ (jm_w ((jm_w ((M 14 0 l3) + (M 8 r1 0))) + (jm_w ((M 18 0 1) * (M 9 r2 8))))) ≤ 2147483647 := jm_w_in _
  refine wp_e (by exact (jm_w_in _)) (fun v22 e_13 hv22 => ?_)
  refine wp_bp (s_fX9_tyreNumber M iM v2 0 hv2 ⟨by omega, by omega⟩ ) (fun v24 hv24 => ?_)
  have hv24b := hv24.1
  refine wp_bp (s_fX9_tyreNumber M iM v2 1 hv2 ⟨by omega, by omega⟩ ) (fun v27 hv27 => ?_)
  have hv27b := hv27.1
  have b_14 : -2147483648 ≤ v22 ∧ v22 ≤ 2147483647 := hv22
  have b_15 : -2147483648 ≤ v24 ∧ v24 ≤ 2147483647 := hv24b
  have b_16 : -2147483648 ≤ v27 ∧ v27 ≤ 2147483647 := hv27b
  have b_17 : -2147483648 ≤ v5 ∧ v5 ≤ 2147483647 := hv5
  have w_18 : -2147483648 ≤ (jm_w (v27 * v5)) ∧ (jm_w (v27 * v5)) ≤ 2147483647 := jm_w_in _
  have w_19 : -2147483648 ≤ (jm_w (v24 + (jm_w (v27 * v5)))) ∧ (jm_w (v24 + (jm_w (v27 * v5)))) ≤ 2147483647 := jm_w_in _
  have w_20 : -2147483648 ≤ (jm_w (v22 + (jm_w (v24 + (jm_w (v27 * v5)))))) ∧ (jm_w (v22 + (jm_w (v24 + (jm_w (v27 * v5)))))) ≤ 2147483647 := jm_w_in _
  refine wp_e (by exact (jm_w_in _)) (fun v30 e_21 hv30 => ?_)
  refine wp_bp (s_fX9_tyreNumber M iM v2 2 hv2 ⟨by omega, by omega⟩ ) (fun v32 hv32 => ?_)
  have hv32b := hv32.1
  have b_23 : -2147483648 ≤ v32 ∧ v32 ≤ 2147483647 := hv32b
  refine wp_ite (fun c_22 => ?_) (fun c_22 => ?_)
  · skip
    have b_24 : -2147483648 ≤ v2 ∧ v2 ≤ 2147483647 := hv2
    have b_25 : -2147483648 ≤ v14 ∧ v14 ≤ 2147483647 := hv14
    have b_26 : -2147483648 ≤ v30 ∧ v30 ≤ 2147483647 := hv30
    exact s_gX2_freeTime_136 fu hfu M iM    r2 v2 v14 v30  ⟨by omega, by omega⟩ hv2 hv14 hv30  
  · skip
    refine wp_bp (s_fX9_tyreNumber M iM v2 3 hv2 ⟨by omega, by omega⟩ ) (fun v36 hv36 => ?_)
    have hv36b := hv36.1
    have b_27 : -2147483648 ≤ v30 ∧ v30 ≤ 2147483647 := hv30
    have b_28 : -2147483648 ≤ v36 ∧ v36 ≤ 2147483647 := hv36b
    have w_29 : -2147483648 ≤ (jm_w (v30 + v36)) ∧ (jm_w (v30 + v36)) ≤ 2147483647 := jm_w_in _
    refine wp_e (by exact (jm_w_in _)) (fun v39 e_30 hv39 => ?_)
    have b_31 : -2147483648 ≤ v2 ∧ v2 ≤ 2147483647 := hv2
    have b_32 : -2147483648 ≤ v14 ∧ v14 ≤ 2147483647 := hv14
    have b_33 : -2147483648 ≤ v39 ∧ v39 ≤ 2147483647 := hv39
    exact s_gX2_freeTime_136 fu hfu M iM    r2 v2 v14 v39  ⟨by omega, by omega⟩ hv2 hv14 hv39  
set_option maxHeartbeats 4000000 in
set_option maxRecDepth 100000 in
theorem s_fX6_wear (M : jm_M) (iM : bI bx1 M) (r0 : Int) (hr0 : 0 ≤ r0 ∧ r0 ≤ 5) : wp (fX6_wear M r0) (fun r M1 => bI bx1 M1 ∧ Kp TB M M1 ∧ (0 ≤ r ∧ r ≤ 0)) := by
  have kM : Kp TB M M := Kp.rf
  unfold fX6_wear
  refine wp_bp (s_fX11_isIndex M iM (M 9 r0 9) 4 (iM 9 r0 9) ⟨by omega, by omega⟩ ) (fun v2 hv2 => ?_)
  have b_1 : (-2147483648) ≤ (M 9 r0 9) ∧ (M 9 r0 9) ≤ 2147483647 := iM 9 r0 9
  refine wp_ite (fun c_2 => ?_) (fun c_2 => ?_)
  · skip
    exact wp_ret ⟨iM, kM, by omega⟩
  · skip
    refine wp_T ⟨by omega, by omega⟩ ?_
    have b_4 : (-2147483648) ≤ (M 9 r0 13) ∧ (M 9 r0 13) ≤ 2147483647 := iM 9 r0 13
    refine wp_ite (fun c_3 => ?_) (fun c_3 => ?_)
    · skip
      refine wp_T ⟨by omega, by omega⟩ ?_
      refine wp_sk iM (jm_w_in _) kM (by unfold TB; omega) (fun M12 u_5 iM12 kM12 => ?_)
      exact wp_ret ⟨iM12, kM12, by omega⟩
    · skip
      refine wp_T ⟨by omega, by omega⟩ ?_
      refine wp_sk iM (jm_w_in _) kM (by unfold TB; omega) (fun M14 u_6 iM14 kM14 => ?_)
      exact wp_ret ⟨iM14, kM14, by omega⟩
set_option maxHeartbeats 4000000 in
set_option maxRecDepth 100000 in
theorem s_gX2_latestBefore_9 (fu : Nat) (hfu : 4000 ≤ fu) (M : jm_M) (iM : bI bx1 M) (k9 : jm_M → Int → Int → Int → Int → Int → Int → jm_R) (N9 : Int) (hk9 : ∀ (l1 l2 l3 l4 l5 l6 : Int) (hl1 : 0 ≤ l1 ∧ l1 ≤ 5) (hl2 : 0 ≤ l2 ∧ l2 ≤ 4) (hl3 : jm_in l3) (hl4 : (-1) ≤ l4 ∧ l4 ≤ 5) (hl5 : 0 ≤ l5 ∧ l5 ≤ 2147483646) (hl6 : 0 ≤ l6 ∧ l6 ≤ 6), 7 - l6 < N9 → wp (k9 M l1 l2 l3 l4 l5 l6) (fun r M1 => M1 = M ∧ ((-1) ≤ r ∧ r ≤ 5))) : ∀ (l1 l2 l3 l4 l5 l6 : Int) (hl1 : 0 ≤ l1 ∧ l1 ≤ 5) (hl2 : 0 ≤ l2 ∧ l2 ≤ 4) (hl3 : jm_in l3) (hl4 : (-1) ≤ l4 ∧ l4 ≤ 5) (hl5 : 0 ≤ l5 ∧ l5 ≤ 2147483646) (hl6 : 0 ≤ l6 ∧ l6 ≤ 6), 7 - l6 < N9 + 1 → wp (gX2_latestBefore_9 fu k9 M l1 l2 l3 l4 l5 l6) (fun r M1 => M1 = M ∧ ((-1) ≤ r ∧ r ≤ 5)) := by
  intro l1 l2 l3 l4 l5 l6 hl1 hl2 hl3 hl4 hl5 hl6 m9
  unfold gX2_latestBefore_9
  have b_2 : 0 ≤ (M 2 0 5) ∧ (M 2 0 5) ≤ 6 := iM 2 0 5
  refine wp_ite (fun c_1 => ?_) (fun c_1 => ?_)
  · skip
    exact wp_ret ⟨rfl, by omega⟩
  · skip
    refine wp_F (by omega) ?_
    refine wp_T ⟨by omega, by omega⟩ ?_
    refine wp_T ⟨by omega, by omega⟩ ?_
    have b_4 : (-2147483648) ≤ (M 32 l6 l2) ∧ (M 32 l6 l2) ≤ 2147483647 := iM 32 l6 l2
    refine wp_e (by exact (iM 32 l6 l2)) (fun v7 e_5 hv7 => ?_)
    refine wp_ite (fun c_6 => ?_) (fun c_6 => ?_)
    · skip
      have w_7 : (jm_w (l6 + 1)) = (l6 + 1) := jm_wid (by omega) (by omega)
      refine wp_e (by exact (jm_w_in _)) (fun v10 e_8 hv10 => ?_)
      have b_9 : -2147483648 ≤ v10 ∧ v10 ≤ 2147483647 := hv10
      have b_10 : -2147483648 ≤ l3 ∧ l3 ≤ 2147483647 := hl3
      exact hk9 l1 l2 l3 l4 l5 v10  ⟨by omega, by omega⟩ ⟨by omega, by omega⟩ hl3 ⟨by omega, by omega⟩ ⟨by omega, by omega⟩ ⟨by omega, by omega⟩  (by omega)
    · skip
      have b_12 : -2147483648 ≤ v7 ∧ v7 ≤ 2147483647 := hv7
      refine wp_ite (fun c_11 => ?_) (fun c_11 => ?_)
      · skip
        have w_13 : (jm_w (l6 + 1)) = (l6 + 1) := jm_wid (by omega) (by omega)
        refine wp_e (by exact (jm_w_in _)) (fun v13 e_14 hv13 => ?_)
        have b_15 : -2147483648 ≤ v13 ∧ v13 ≤ 2147483647 := hv13
        have b_16 : -2147483648 ≤ l3 ∧ l3 ≤ 2147483647 := hl3
        exact hk9 l1 l2 l3 l4 l5 v13  ⟨by omega, by omega⟩ ⟨by omega, by omega⟩ hl3 ⟨by omega, by omega⟩ ⟨by omega, by omega⟩ ⟨by omega, by omega⟩  (by omega)
      · skip
        have b_18 : -2147483648 ≤ l3 ∧ l3 ≤ 2147483647 := hl3
        refine wp_ite (fun c_17 => ?_) (fun c_17 => ?_)
        · skip
          have w_19 : (jm_w (l6 + 1)) = (l6 + 1) := jm_wid (by omega) (by omega)
          refine wp_e (by exact (jm_w_in _)) (fun v16 e_20 hv16 => ?_)
          have b_21 : -2147483648 ≤ v16 ∧ v16 ≤ 2147483647 := hv16
          exact hk9 l1 l2 l3 l4 l5 v16  ⟨by omega, by omega⟩ ⟨by omega, by omega⟩ hl3 ⟨by omega, by omega⟩ ⟨by omega, by omega⟩ ⟨by omega, by omega⟩  (by omega)
        · skip
          have w_22 : (jm_w (l6 + 1)) = (l6 + 1) := jm_wid (by omega) (by omega)
          refine wp_e (by exact (jm_w_in _)) (fun v18 e_23 hv18 => ?_)
          have b_24 : -2147483648 ≤ v18 ∧ v18 ≤ 2147483647 := hv18
          exact hk9 l1 l2 l3 l6 v7 v18  ⟨by omega, by omega⟩ ⟨by omega, by omega⟩ hl3 ⟨by omega, by omega⟩ ⟨by omega, by omega⟩ ⟨by omega, by omega⟩  (by omega)
set_option maxHeartbeats 4000000 in
set_option maxRecDepth 100000 in
theorem s_fX2_latestBefore_9 (fu : Nat) (hfu : 4000 ≤ fu) (M : jm_M) (iM : bI bx1 M) : ∀ (n : Nat) (l1 l2 l3 l4 l5 l6 : Int) (hl1 : 0 ≤ l1 ∧ l1 ≤ 5) (hl2 : 0 ≤ l2 ∧ l2 ≤ 4) (hl3 : jm_in l3) (hl4 : (-1) ≤ l4 ∧ l4 ≤ 5) (hl5 : 0 ≤ l5 ∧ l5 ≤ 2147483646) (hl6 : 0 ≤ l6 ∧ l6 ≤ 6), 7 - l6 < (n : Int) → wp (fX2_latestBefore_9 fu  n M l1 l2 l3 l4 l5 l6) (fun r M1 => M1 = M ∧ ((-1) ≤ r ∧ r ≤ 5)) := by
  intro n
  induction n with
  | zero => intro l1 l2 l3 l4 l5 l6 hl1 hl2 hl3 hl4 hl5 hl6 hm; exfalso; omega
  | succ n ih =>
    intro l1 l2 l3 l4 l5 l6 hl1 hl2 hl3 hl4 hl5 hl6 hm
    exact s_gX2_latestBefore_9 fu hfu M iM (fX2_latestBefore_9 fu  n) (n : Int) ih l1 l2 l3 l4 l5 l6 hl1 hl2 hl3 hl4 hl5 hl6 (by omega)
set_option maxHeartbeats 4000000 in
set_option maxRecDepth 100000 in
theorem s_fX2_latestBefore (fu : Nat) (hfu : 4000 ≤ fu) (M : jm_M) (iM : bI bx1 M) (l1 l2 l3 : Int) (hl1 : 0 ≤ l1 ∧ l1 ≤ 5) (hl2 : 0 ≤ l2 ∧ l2 ≤ 4) (hl3 : jm_in l3) : wp (fX2_latestBefore fu M l1 l2 l3) (fun r M1 => M1 = M ∧ ((-1) ≤ r ∧ r ≤ 5)) := by
  unfold fX2_latestBefore
  have b_1 : -2147483648 ≤ l3 ∧ l3 ≤ 2147483647 := hl3
  exact s_fX2_latestBefore_9 fu hfu M iM    fu l1 l2 l3 (-1) 0 0  ⟨by omega, by omega⟩ ⟨by omega, by omega⟩ hl3 ⟨by omega, by omega⟩ ⟨by omega, by omega⟩ ⟨by omega, by omega⟩   (by omega)
set_option maxHeartbeats 4000000 in
set_option maxRecDepth 100000 in
theorem s_gX9_yellowAt_46 (fu : Nat) (hfu : 4000 ≤ fu) (M : jm_M) (iM : bI bx1 M) (k2 : jm_M → Int → Int → Int → jm_R) (N2 : Int) (hk2 : ∀ (l1 l2 l3 : Int) (hl1 : (-1) ≤ l1 ∧ l1 ≤ 4) (hl2 : jm_in l2) (hl3 : 0 ≤ l3 ∧ l3 ≤ 20), 21 - l3 < N2 → wp (k2 M l1 l2 l3) (fun r M1 => M1 = M ∧ (0 ≤ r ∧ r ≤ 1))) : ∀ (l1 l2 l3 s0 : Int) (hl1 : (-1) ≤ l1 ∧ l1 ≤ 4) (hl2 : jm_in l2) (hl3 : 0 ≤ l3 ∧ l3 ≤ 19) (hs0 : 0 ≤ s0 ∧ s0 ≤ 1), 21 - l3 < N2 + 1 → wp (gX9_yellowAt_46 fu k2 M l1 l2 l3 s0) (fun r M1 => M1 = M ∧ (0 ≤ r ∧ r ≤ 1)) := by
  intro l1 l2 l3 s0 hl1 hl2 hl3 hs0 m2
  unfold gX9_yellowAt_46
  refine wp_ite (fun c_1 => ?_) (fun c_1 => ?_)
  · skip
    have w_2 : (jm_w (l3 + 1)) = (l3 + 1) := jm_wid (by omega) (by omega)
    refine wp_e (by exact (jm_w_in _)) (fun v2 e_3 hv2 => ?_)
    have b_4 : -2147483648 ≤ v2 ∧ v2 ≤ 2147483647 := hv2
    have b_5 : -2147483648 ≤ l2 ∧ l2 ≤ 2147483647 := hl2
    exact hk2 l1 l2 v2  ⟨by omega, by omega⟩ hl2 ⟨by omega, by omega⟩  (by omega)
  · skip
    refine wp_bp (s_fX7_cell M iM 31 l3 3 ⟨by omega, by omega⟩ (jm_inL (by omega) (by omega)) (jm_inL (by decide) (by decide)) ) (fun v4 hv4 => ?_)
    have b_7 : -2147483648 ≤ v4 ∧ v4 ≤ 2147483647 := hv4
    refine wp_ite (fun c_6 => ?_) (fun c_6 => ?_)
    · skip
      refine wp_bp (s_fX7_cell M iM 31 l3 1 ⟨by omega, by omega⟩ (jm_inL (by omega) (by omega)) (jm_inL (by decide) (by decide)) ) (fun v8 hv8 => ?_)
      have b_9 : -2147483648 ≤ l2 ∧ l2 ≤ 2147483647 := hl2
      have b_10 : -2147483648 ≤ v8 ∧ v8 ≤ 2147483647 := hv8
      refine wp_ite (fun c_8 => ?_) (fun c_8 => ?_)
      · skip
        have w_11 : (jm_w (l3 + 1)) = (l3 + 1) := jm_wid (by omega) (by omega)
        refine wp_e (by exact (jm_w_in _)) (fun v12 e_12 hv12 => ?_)
        have b_13 : -2147483648 ≤ v12 ∧ v12 ≤ 2147483647 := hv12
        exact hk2 l1 l2 v12  ⟨by omega, by omega⟩ hl2 ⟨by omega, by omega⟩  (by omega)
      · skip
        refine wp_bp (s_fX7_cell M iM 31 l3 2 ⟨by omega, by omega⟩ (jm_inL (by omega) (by omega)) (jm_inL (by decide) (by decide)) ) (fun v14 hv14 => ?_)
        have b_15 : -2147483648 ≤ v14 ∧ v14 ≤ 2147483647 := hv14
        refine wp_ite (fun c_14 => ?_) (fun c_14 => ?_)
        · skip
          have w_16 : (jm_w (l3 + 1)) = (l3 + 1) := jm_wid (by omega) (by omega)
          refine wp_e (by exact (jm_w_in _)) (fun v18 e_17 hv18 => ?_)
          have b_18 : -2147483648 ≤ v18 ∧ v18 ≤ 2147483647 := hv18
          exact hk2 l1 l2 v18  ⟨by omega, by omega⟩ hl2 ⟨by omega, by omega⟩  (by omega)
        · skip
          exact wp_ret ⟨rfl, by omega⟩
    · skip
      have w_19 : (jm_w (l3 + 1)) = (l3 + 1) := jm_wid (by omega) (by omega)
      refine wp_e (by exact (jm_w_in _)) (fun v20 e_20 hv20 => ?_)
      have b_21 : -2147483648 ≤ v20 ∧ v20 ≤ 2147483647 := hv20
      have b_22 : -2147483648 ≤ l2 ∧ l2 ≤ 2147483647 := hl2
      exact hk2 l1 l2 v20  ⟨by omega, by omega⟩ hl2 ⟨by omega, by omega⟩  (by omega)
set_option maxHeartbeats 4000000 in
set_option maxRecDepth 100000 in
theorem s_gX9_yellowAt_2 (fu : Nat) (hfu : 4000 ≤ fu) (M : jm_M) (iM : bI bx1 M) (k2 : jm_M → Int → Int → Int → jm_R) (N2 : Int) (hk2 : ∀ (l1 l2 l3 : Int) (hl1 : (-1) ≤ l1 ∧ l1 ≤ 4) (hl2 : jm_in l2) (hl3 : 0 ≤ l3 ∧ l3 ≤ 20), 21 - l3 < N2 → wp (k2 M l1 l2 l3) (fun r M1 => M1 = M ∧ (0 ≤ r ∧ r ≤ 1))) : ∀ (l1 l2 l3 : Int) (hl1 : (-1) ≤ l1 ∧ l1 ≤ 4) (hl2 : jm_in l2) (hl3 : 0 ≤ l3 ∧ l3 ≤ 20), 21 - l3 < N2 + 1 → wp (gX9_yellowAt_2 fu k2 M l1 l2 l3) (fun r M1 => M1 = M ∧ (0 ≤ r ∧ r ≤ 1)) := by
  intro l1 l2 l3 hl1 hl2 hl3 m2
  unfold gX9_yellowAt_2
  have b_2 : 0 ≤ (M 10 31 3) ∧ (M 10 31 3) ≤ 20 := jm_b10 (iM 10 31 3) (by decide)
  refine wp_ite (fun c_1 => ?_) (fun c_1 => ?_)
  · skip
    exact wp_ret ⟨rfl, by omega⟩
  · skip
    refine wp_bp (s_fX7_cell M iM 31 l3 0 ⟨by omega, by omega⟩ (jm_inL (by omega) (by omega)) (jm_inL (by decide) (by decide)) ) (fun v3 hv3 => ?_)
    have b_4 : -2147483648 ≤ v3 ∧ v3 ≤ 2147483647 := hv3
    refine wp_ite (fun c_3 => ?_) (fun c_3 => ?_)
    · skip
      have b_5 : -2147483648 ≤ l2 ∧ l2 ≤ 2147483647 := hl2
      exact s_gX9_yellowAt_46 fu hfu M iM k2 N2 hk2 l1 l2 l3 1  ⟨by omega, by omega⟩ hl2 ⟨by omega, by omega⟩ ⟨by omega, by omega⟩  (by omega)
    · skip
      refine wp_ite (fun c_6 => ?_) (fun c_6 => ?_)
      · skip
        have b_7 : -2147483648 ≤ l2 ∧ l2 ≤ 2147483647 := hl2
        exact s_gX9_yellowAt_46 fu hfu M iM k2 N2 hk2 l1 l2 l3 1  ⟨by omega, by omega⟩ hl2 ⟨by omega, by omega⟩ ⟨by omega, by omega⟩  (by omega)
      · skip
        refine wp_ite (fun c_8 => ?_) (fun c_8 => ?_)
        · skip
          have b_9 : -2147483648 ≤ l2 ∧ l2 ≤ 2147483647 := hl2
          exact s_gX9_yellowAt_46 fu hfu M iM k2 N2 hk2 l1 l2 l3 1  ⟨by omega, by omega⟩ hl2 ⟨by omega, by omega⟩ ⟨by omega, by omega⟩  (by omega)
        · skip
          have b_10 : -2147483648 ≤ l2 ∧ l2 ≤ 2147483647 := hl2
          exact s_gX9_yellowAt_46 fu hfu M iM k2 N2 hk2 l1 l2 l3 0  ⟨by omega, by omega⟩ hl2 ⟨by omega, by omega⟩ ⟨by omega, by omega⟩  (by omega)
set_option maxHeartbeats 4000000 in
set_option maxRecDepth 100000 in
theorem s_fX9_yellowAt_2 (fu : Nat) (hfu : 4000 ≤ fu) (M : jm_M) (iM : bI bx1 M) : ∀ (n : Nat) (l1 l2 l3 : Int) (hl1 : (-1) ≤ l1 ∧ l1 ≤ 4) (hl2 : jm_in l2) (hl3 : 0 ≤ l3 ∧ l3 ≤ 20), 21 - l3 < (n : Int) → wp (fX9_yellowAt_2 fu  n M l1 l2 l3) (fun r M1 => M1 = M ∧ (0 ≤ r ∧ r ≤ 1)) := by
  intro n
  induction n with
  | zero => intro l1 l2 l3 hl1 hl2 hl3 hm; exfalso; omega
  | succ n ih =>
    intro l1 l2 l3 hl1 hl2 hl3 hm
    exact s_gX9_yellowAt_2 fu hfu M iM (fX9_yellowAt_2 fu  n) (n : Int) ih l1 l2 l3 hl1 hl2 hl3 (by omega)
set_option maxHeartbeats 4000000 in
set_option maxRecDepth 100000 in
theorem s_fX9_yellowAt (fu : Nat) (hfu : 4000 ≤ fu) (M : jm_M) (iM : bI bx1 M) (l1 l2 : Int) (hl1 : (-1) ≤ l1 ∧ l1 ≤ 4) (hl2 : jm_in l2) : wp (fX9_yellowAt fu M l1 l2) (fun r M1 => M1 = M ∧ (0 ≤ r ∧ r ≤ 1)) := by
  unfold fX9_yellowAt
  have b_1 : -2147483648 ≤ l2 ∧ l2 ≤ 2147483647 := hl2
  exact s_fX9_yellowAt_2 fu hfu M iM    fu l1 l2 0  ⟨by omega, by omega⟩ hl2 ⟨by omega, by omega⟩   (by omega)
set_option maxHeartbeats 4000000 in
set_option maxRecDepth 100000 in
theorem s_gX2_passes_93 (fu : Nat) (hfu : 4000 ≤ fu) (M0 : jm_M) : ∀ (r1 : Int) (M : jm_M) (iM : bI bx1 M) (kM : Kp TB M0 M) (hr1 : 0 ≤ r1 ∧ r1 ≤ 5), wp (gX2_passes_93 fu  M r1) (fun r M1 => bI bx1 M1 ∧ Kp TB M0 M1 ∧ (0 ≤ r ∧ r ≤ 1)) := by
  intro r1 M iM kM hr1
  unfold gX2_passes_93
  have b_2 : (-2147483648) ≤ (M 9 r1 14) ∧ (M 9 r1 14) ≤ 2147483647 := iM 9 r1 14
  refine wp_ite (fun c_1 => ?_) (fun c_1 => ?_)
  · skip
    exact wp_ret ⟨iM, kM, by omega⟩
  · skip
    refine wp_sk iM (jm_w_in _) kM (by unfold TB; omega) (fun M4 u_3 iM4 kM4 => ?_)
    have q_4 : (M4 9 r1 10) = (M 9 r1 10) := by rw [u_3]; exact jm_une_k (by decide)
    have r_5 : (jm_w ((M4 9 r1 10) + 1)) = (jm_w ((M 9 r1 10) + 1)) := congrArg jm_w (by omega)
    refine wp_sk iM4 (jm_w_in _) kM4 (by unfold TB; omega) (fun M6 u_6 iM6 kM6 => ?_)
    exact wp_ret ⟨iM6, kM6, by omega⟩
set_option maxHeartbeats 4000000 in
set_option maxRecDepth 100000 in
theorem s_gX2_passes_44 (fu : Nat) (hfu : 4000 ≤ fu) (M0 : jm_M) : ∀ (r1 r2 l3 l4 l5 s0 : Int) (M : jm_M) (iM : bI bx1 M) (kM : Kp TB M0 M) (hr1 : 0 ≤ r1 ∧ r1 ≤ 5) (hr2 : 0 ≤ r2 ∧ r2 ≤ 5) (hl3 : 0 ≤ l3 ∧ l3 ≤ 4) (hl4 : jm_in l4) (hl5 : (-2147483648) ≤ l5 ∧ l5 ≤ 2147483646) (hs0 : jm_in s0), wp (gX2_passes_44 fu  M r1 r2 l3 l4 l5 s0) (fun r M1 => bI bx1 M1 ∧ Kp TB M0 M1 ∧ (0 ≤ r ∧ r ≤ 1)) := by
  intro r1 r2 l3 l4 l5 s0 M iM kM hr1 hr2 hl3 hl4 hl5 hs0
  unfold gX2_passes_44
  have b_2 : -2147483648 ≤ s0 ∧ s0 ≤ 2147483647 := hs0
  refine wp_ite (fun c_1 => ?_) (fun c_1 => ?_)
  · skip
    exact wp_ret ⟨iM, kM, by omega⟩
  · skip
    refine wp_T ⟨by omega, by omega⟩ ?_
    have w_4 : -2147483648 ≤ (jm_w (l5 + s0)) ∧ (jm_w (l5 + s0)) ≤ 2147483647 := jm_w_in _
    have b_5 : (-2147483648) ≤ (M 33 r2 l3) ∧ (M 33 r2 l3) ≤ 2147483647 := iM 33 r2 l3
    refine wp_ite (fun c_3 => ?_) (fun c_3 => ?_)
    · skip
      refine wp_bp (s_fX9_yellowAt fu hfu M iM l3 l4 ⟨by omega, by omega⟩ hl4 ) (fun v5 hv5 => ?_)
      refine wp_ite (fun c_6 => ?_) (fun c_6 => ?_)
      · skip
        refine wp_bp (s_fX9_slowAt fu hfu M iM l4 hl4 ) (fun v9 hv9 => ?_)
        refine wp_ite (fun c_7 => ?_) (fun c_7 => ?_)
        · skip
          refine wp_sk iM (jm_w_in _) kM (by unfold TB; omega) (fun M14 u_8 iM14 kM14 => ?_)
          exact wp_ret ⟨iM14, kM14, by omega⟩
        · skip
          exact s_gX2_passes_93 fu hfu M0    r1 M iM kM ⟨by omega, by omega⟩  
      · skip
        exact s_gX2_passes_93 fu hfu M0    r1 M iM kM ⟨by omega, by omega⟩  
    · skip
      exact wp_ret ⟨iM, kM, by omega⟩
set_option maxHeartbeats 4000000 in
set_option maxRecDepth 100000 in
theorem s_gX2_passes_24 (fu : Nat) (hfu : 4000 ≤ fu) (M0 : jm_M) : ∀ (r1 r2 l3 l4 l5 s0 : Int) (M : jm_M) (iM : bI bx1 M) (kM : Kp TB M0 M) (hr1 : 0 ≤ r1 ∧ r1 ≤ 5) (hr2 : 0 ≤ r2 ∧ r2 ≤ 5) (hl3 : 0 ≤ l3 ∧ l3 ≤ 4) (hl4 : jm_in l4) (hl5 : (-2147483648) ≤ l5 ∧ l5 ≤ 2147483646) (hs0 : 0 ≤ s0 ∧ s0 ≤ 1), wp (gX2_passes_24 fu  M r1 r2 l3 l4 l5 s0) (fun r M1 => bI bx1 M1 ∧ Kp TB M0 M1 ∧ (0 ≤ r ∧ r ≤ 1)) := by
  intro r1 r2 l3 l4 l5 s0 M iM kM hr1 hr2 hl3 hl4 hl5 hs0
  unfold gX2_passes_24
  refine wp_ite (fun c_1 => ?_) (fun c_1 => ?_)
  · skip
    refine wp_T ⟨by omega, by omega⟩ ?_
    have b_2 : -2147483648 ≤ l4 ∧ l4 ≤ 2147483647 := hl4
    have b_3 : (-2147483648) ≤ (M 15 0 l3) ∧ (M 15 0 l3) ≤ 2147483647 := iM 15 0 l3
    exact s_gX2_passes_44 fu hfu M0    r1 r2 l3 l4 l5 (M 15 0 l3) M iM kM ⟨by omega, by omega⟩ ⟨by omega, by omega⟩ ⟨by omega, by omega⟩ hl4 ⟨by omega, by omega⟩ (iM 15 0 l3)  
  · skip
    have b_4 : -2147483648 ≤ l4 ∧ l4 ≤ 2147483647 := hl4
    exact s_gX2_passes_44 fu hfu M0    r1 r2 l3 l4 l5 0 M iM kM ⟨by omega, by omega⟩ ⟨by omega, by omega⟩ ⟨by omega, by omega⟩ hl4 ⟨by omega, by omega⟩ (jm_inL (by decide) (by decide))  
set_option maxHeartbeats 4000000 in
set_option maxRecDepth 100000 in
theorem s_fX2_passes (fu : Nat) (hfu : 4000 ≤ fu) (M : jm_M) (iM : bI bx1 M) (r1 r2 l3 l4 l5 : Int) (hr1 : 0 ≤ r1 ∧ r1 ≤ 5) (hr2 : 0 ≤ r2 ∧ r2 ≤ 5) (hl3 : 0 ≤ l3 ∧ l3 ≤ 4) (hl4 : jm_in l4) (hl5 : (-2147483648) ≤ l5 ∧ l5 ≤ 2147483646) : wp (fX2_passes fu M r1 r2 l3 l4 l5) (fun r M1 => bI bx1 M1 ∧ Kp TB M M1 ∧ (0 ≤ r ∧ r ≤ 1)) := by
  have kM : Kp TB M M := Kp.rf
  unfold fX2_passes
  have b_2 : 0 ≤ (M 9 r1 1) ∧ (M 9 r1 1) ≤ 361 := iM 9 r1 1
  have b_3 : 0 ≤ (M 9 r2 1) ∧ (M 9 r2 1) ≤ 361 := iM 9 r2 1
  have w_4 : (jm_w ((M 9 r1 1) - (M 9 r2 1))) = ((M 9 r1 1) - (M 9 r2 1)) := jm_wid (by omega) (by omega)
  have b_5 : 2 ≤ (M 1 0 0) ∧ (M 1 0 0) ≤ 5 := iM 1 0 0
  refine wp_ite (fun c_1 => ?_) (fun c_1 => ?_)
  · skip
    have b_6 : -2147483648 ≤ l4 ∧ l4 ≤ 2147483647 := hl4
    exact s_gX2_passes_24 fu hfu M    r1 r2 l3 l4 l5 0 M iM kM ⟨by omega, by omega⟩ ⟨by omega, by omega⟩ ⟨by omega, by omega⟩ hl4 ⟨by omega, by omega⟩ ⟨by omega, by omega⟩  
  · skip
    have b_7 : -2147483648 ≤ l4 ∧ l4 ≤ 2147483647 := hl4
    exact s_gX2_passes_24 fu hfu M    r1 r2 l3 l4 l5 1 M iM kM ⟨by omega, by omega⟩ ⟨by omega, by omega⟩ ⟨by omega, by omega⟩ hl4 ⟨by omega, by omega⟩ ⟨by omega, by omega⟩  
set_option maxHeartbeats 4000000 in
set_option maxRecDepth 100000 in
theorem s_gX2_heldEnd_9 (fu : Nat) (hfu : 4000 ≤ fu) (M0 : jm_M) (k9 : jm_M → Int → Int → Int → Int → Int → Int → jm_R) (N9 : Int) (hk9 : ∀ (l1 l2 l3 l4 l5 l6 : Int) (M : jm_M) (iM : bI bx1 M) (kM : Kp TB M0 M) (hl1 : 0 ≤ l1 ∧ l1 ≤ 5) (hl2 : 0 ≤ l2 ∧ l2 ≤ 4) (hl3 : jm_in l3) (hl4 : jm_in l4) (hl5 : jm_in l5) (hl6 : 0 ≤ l6 ∧ l6 ≤ 6), 7 - l6 < N9 → wp (k9 M l1 l2 l3 l4 l5 l6) (fun r M1 => bI bx1 M1 ∧ Kp TB M0 M1 ∧ (jm_in r))) : ∀ (l1 l2 l3 l4 l5 l6 : Int) (M : jm_M) (iM : bI bx1 M) (kM : Kp TB M0 M) (hl1 : 0 ≤ l1 ∧ l1 ≤ 5) (hl2 : 0 ≤ l2 ∧ l2 ≤ 4) (hl3 : jm_in l3) (hl4 : jm_in l4) (hl5 : jm_in l5) (hl6 : 0 ≤ l6 ∧ l6 ≤ 6), 7 - l6 < N9 + 1 → wp (gX2_heldEnd_9 fu k9 M l1 l2 l3 l4 l5 l6) (fun r M1 => bI bx1 M1 ∧ Kp TB M0 M1 ∧ (jm_in r)) := by
  intro l1 l2 l3 l4 l5 l6 M iM kM hl1 hl2 hl3 hl4 hl5 hl6 m9
  unfold gX2_heldEnd_9
  refine wp_ite (fun c_1 => ?_) (fun c_1 => ?_)
  · skip
    have b_2 : -2147483648 ≤ l4 ∧ l4 ≤ 2147483647 := hl4
    exact wp_ret ⟨iM, kM, hl4⟩
  · skip
    refine wp_bp (s_fX2_latestBefore fu hfu M iM l1 l2 l5 ⟨by omega, by omega⟩ ⟨by omega, by omega⟩ hl5 ) (fun v2 hv2 => ?_)
    refine wp_bp (s_fX2_has M iM v2 (jm_inL (by omega) (by omega)) ) (fun v5 hv5 => ?_)
    have b_3 : 0 ≤ (M 2 0 5) ∧ (M 2 0 5) ≤ 6 := iM 2 0 5
    refine wp_ite (fun c_4 => ?_) (fun c_4 => ?_)
    · skip
      have b_5 : -2147483648 ≤ l4 ∧ l4 ≤ 2147483647 := hl4
      exact wp_ret ⟨iM, kM, hl4⟩
    · skip
      refine wp_T ⟨by omega, by omega⟩ ?_
      refine wp_T ⟨by omega, by omega⟩ ?_
      refine wp_T ⟨by omega, by omega⟩ ?_
      have b_6 : (-2147483648) ≤ (M 33 v2 l2) ∧ (M 33 v2 l2) ≤ 2147483647 := iM 33 v2 l2
      have b_7 : (-2147483648) ≤ (M 18 0 0) ∧ (M 18 0 0) ≤ 2147483647 := iM 18 0 0
      have w_8 : -2147483648 ≤ (jm_w ((M 33 v2 l2) + (M 18 0 0))) ∧ (jm_w ((M 33 v2 l2) + (M 18 0 0))) ≤ 2147483647 := jm_w_in _
      refine wp_e (by exact (jm_w_in _)) (fun v14 e_9 hv14 => ?_)
      have b_11 : -2147483648 ≤ l4 ∧ l4 ≤ 2147483647 := hl4
      have b_12 : -2147483648 ≤ v14 ∧ v14 ≤ 2147483647 := hv14
      refine wp_ite (fun c_10 => ?_) (fun c_10 => ?_)
      · skip
        refine wp_T ⟨by omega, by omega⟩ ?_
        refine wp_T ⟨by omega, by omega⟩ ?_
        refine wp_bk (s_fX2_passes fu hfu M iM l1 v2 l2 l3 l4 ⟨by omega, by omega⟩ ⟨by omega, by omega⟩ ⟨by omega, by omega⟩ hl3 ⟨by omega, by omega⟩ ) (fun v19 M20 iM20 jM20 hv19 => ?_)
        have kM20 := kM.tr jM20 (fun _ _ _ h => h)
        refine wp_ite (fun c_13 => ?_) (fun c_13 => ?_)
        · skip
          refine wp_T ⟨by omega, by omega⟩ ?_
          refine wp_sk iM20 (jm_w_in _) kM20 (by unfold TB; omega) (fun M25 u_14 iM25 kM25 => ?_)
          exact wp_ret ⟨iM25, kM25, hv14⟩
        · skip
          refine wp_T ⟨by omega, by omega⟩ ?_
          refine wp_T ⟨by omega, by omega⟩ ?_
          have b_15 : (-2147483648) ≤ (M20 32 v2 l2) ∧ (M20 32 v2 l2) ≤ 2147483647 := iM20 32 v2 l2
          refine wp_e (by exact (iM20 32 v2 l2)) (fun v29 e_16 hv29 => ?_)
          have w_17 : (jm_w (l6 + 1)) = (l6 + 1) := jm_wid (by omega) (by omega)
          refine wp_e (by exact (jm_w_in _)) (fun v31 e_18 hv31 => ?_)
          have b_19 : -2147483648 ≤ v31 ∧ v31 ≤ 2147483647 := hv31
          have b_20 : -2147483648 ≤ l3 ∧ l3 ≤ 2147483647 := hl3
          have b_21 : -2147483648 ≤ v29 ∧ v29 ≤ 2147483647 := hv29
          exact hk9 l1 l2 l3 l4 v29 v31 M20 iM20 kM20 ⟨by omega, by omega⟩ ⟨by omega, by omega⟩ hl3 hl4 hv29 ⟨by omega, by omega⟩  (by omega)
      · skip
        exact wp_ret ⟨iM, kM, hl4⟩
set_option maxHeartbeats 4000000 in
set_option maxRecDepth 100000 in
theorem s_fX2_heldEnd_9 (fu : Nat) (hfu : 4000 ≤ fu) (M0 : jm_M) : ∀ (n : Nat) (l1 l2 l3 l4 l5 l6 : Int) (M : jm_M) (iM : bI bx1 M) (kM : Kp TB M0 M) (hl1 : 0 ≤ l1 ∧ l1 ≤ 5) (hl2 : 0 ≤ l2 ∧ l2 ≤ 4) (hl3 : jm_in l3) (hl4 : jm_in l4) (hl5 : jm_in l5) (hl6 : 0 ≤ l6 ∧ l6 ≤ 6), 7 - l6 < (n : Int) → wp (fX2_heldEnd_9 fu  n M l1 l2 l3 l4 l5 l6) (fun r M1 => bI bx1 M1 ∧ Kp TB M0 M1 ∧ (jm_in r)) := by
  intro n
  induction n with
  | zero => intro l1 l2 l3 l4 l5 l6 M iM kM hl1 hl2 hl3 hl4 hl5 hl6 hm; exfalso; omega
  | succ n ih =>
    intro l1 l2 l3 l4 l5 l6 M iM kM hl1 hl2 hl3 hl4 hl5 hl6 hm
    exact s_gX2_heldEnd_9 fu hfu M0 (fX2_heldEnd_9 fu  n) (n : Int) ih l1 l2 l3 l4 l5 l6 M iM kM hl1 hl2 hl3 hl4 hl5 hl6 (by omega)
set_option maxHeartbeats 4000000 in
set_option maxRecDepth 100000 in
theorem s_fX2_heldEnd (fu : Nat) (hfu : 4000 ≤ fu) (M : jm_M) (iM : bI bx1 M) (l1 l2 l3 l4 : Int) (hl1 : 0 ≤ l1 ∧ l1 ≤ 5) (hl2 : 0 ≤ l2 ∧ l2 ≤ 4) (hl3 : jm_in l3) (hl4 : jm_in l4) : wp (fX2_heldEnd fu M l1 l2 l3 l4) (fun r M1 => bI bx1 M1 ∧ Kp TB M M1 ∧ (jm_in r)) := by
  have kM : Kp TB M M := Kp.rf
  unfold fX2_heldEnd
  have b_1 : (-2147483648) ≤ (M 2 0 6) ∧ (M 2 0 6) ≤ 2147483647 := iM 2 0 6
  refine wp_e (by exact (iM 2 0 6)) (fun v2 e_2 hv2 => ?_)
  have b_3 : -2147483648 ≤ l3 ∧ l3 ≤ 2147483647 := hl3
  have b_4 : -2147483648 ≤ l4 ∧ l4 ≤ 2147483647 := hl4
  have b_5 : -2147483648 ≤ v2 ∧ v2 ≤ 2147483647 := hv2
  exact s_fX2_heldEnd_9 fu hfu M    fu l1 l2 l3 l4 v2 0 M iM kM ⟨by omega, by omega⟩ ⟨by omega, by omega⟩ hl3 hl4 hv2 ⟨by omega, by omega⟩   (by omega)
set_option maxHeartbeats 4000000 in
set_option maxRecDepth 100000 in
theorem s_fX6_endLine (M : jm_M) (iM : bI bx1 M) (r0 l1 l2 l3 l4 : Int) (hr0 : 0 ≤ r0 ∧ r0 ≤ 5) (hl1 : 0 ≤ l1 ∧ l1 ≤ 361) (hl2 : 0 ≤ l2 ∧ l2 ≤ 4) (hl3 : jm_in l3) (hl4 : jm_in l4) : wp (fX6_endLine M r0 l1 l2 l3 l4) (fun r M1 => bI bx1 M1 ∧ Kp TB M M1 ∧ (0 ≤ r ∧ r ≤ 0)) := by
  have kM : Kp TB M M := Kp.rf
  unfold fX6_endLine
  refine wp_bp (s_fX11_isIndex M iM l1 60 (jm_inL (by omega) (by omega)) ⟨by omega, by omega⟩ ) (fun v1 hv1 => ?_)
  refine wp_ite (fun c_1 => ?_) (fun c_1 => ?_)
  · skip
    exact wp_ret ⟨iM, kM, by omega⟩
  · skip
    refine wp_bp (s_fX11_isIndex M iM l2 5 (jm_inL (by omega) (by omega)) ⟨by omega, by omega⟩ ) (fun v5 hv5 => ?_)
    refine wp_ite (fun c_2 => ?_) (fun c_2 => ?_)
    · skip
      exact wp_ret ⟨iM, kM, by omega⟩
    · skip
      refine wp_T ⟨by omega, by omega⟩ ?_
      refine wp_sk iM hl3 kM (by unfold TB; omega) (fun M10 u_3 iM10 kM10 => ?_)
      have w_4 : (jm_w (l1 + 1)) = (l1 + 1) := jm_wid (by omega) (by omega)
      refine wp_sk iM10 (show 0 ≤ (jm_w (l1 + 1)) ∧ (jm_w (l1 + 1)) ≤ 60 by omega) kM10 (by unfold TB; omega) (fun M11 u_5 iM11 kM11 => ?_)
      refine wp_T ⟨by omega, by omega⟩ ?_
      refine wp_sk iM11 hl4 kM11 (by unfold TB; omega) (fun M13 u_6 iM13 kM13 => ?_)
      refine wp_T ⟨by omega, by omega⟩ ?_
      refine wp_sk iM13 hl3 kM13 (by unfold TB; omega) (fun M15 u_7 iM15 kM15 => ?_)
      refine wp_sk iM15 hl3 kM15 (by unfold TB; omega) (fun M16 u_8 iM16 kM16 => ?_)
      exact wp_ret ⟨iM16, kM16, by omega⟩
set_option maxHeartbeats 4000000 in
set_option maxRecDepth 100000 in
theorem s_fX9_lapOf (M : jm_M) (iM : bI bx1 M) (l1 : Int) (hl1 : 0 ≤ l1 ∧ l1 ≤ 361) : wp (fX9_lapOf M l1) (fun r M1 => M1 = M ∧ (0 ≤ r ∧ r ≤ 361)) := by
  unfold fX9_lapOf
  have b_2 : 2 ≤ (M 1 0 0) ∧ (M 1 0 0) ≤ 5 := iM 1 0 0
  refine wp_F (by omega) ?_
  refine wp_T (by omega) ?_
  have f_3 : 0 ≤ (jm_div l1 (M 1 0 0)) ∧ (jm_div l1 (M 1 0 0)) ≤ l1 := jm_div_f (by omega) (by omega) (by omega)
  exact wp_ret ⟨rfl, by omega⟩
set_option maxHeartbeats 4000000 in
set_option maxRecDepth 100000 in
theorem s_fX6_rest (M : jm_M) (iM : bI bx1 M) (r0 l1 l2 : Int) (hr0 : 0 ≤ r0 ∧ r0 ≤ 5) (hl1 : 1 ≤ l1 ∧ l1 ≤ 2) (hl2 : jm_in l2) : wp (fX6_rest M r0 l1 l2) (fun r M1 => bI bx1 M1 ∧ Kp TB M M1 ∧ (0 ≤ r ∧ r ≤ 0)) := by
  have kM : Kp TB M M := Kp.rf
  unfold fX6_rest
  refine wp_sk iM (jm_inL (by omega) (by omega)) kM (by unfold TB; omega) (fun M1 u_1 iM1 kM1 => ?_)
  refine wp_sk iM1 hl2 kM1 (by unfold TB; omega) (fun M2 u_2 iM2 kM2 => ?_)
  exact wp_ret ⟨iM2, kM2, by omega⟩
set_option maxHeartbeats 4000000 in
set_option maxRecDepth 100000 in
theorem s_fX9_lineOf (M : jm_M) (iM : bI bx1 M) (l1 l2 : Int) (hl1 : 0 ≤ l1 ∧ l1 ≤ 361) (hl2 : 0 ≤ l2 ∧ l2 ≤ 4) : wp (fX9_lineOf M l1 l2) (fun r M1 => M1 = M ∧ (0 ≤ r ∧ r ≤ 2000)) := by
  unfold fX9_lineOf
  have b_1 : 2 ≤ (M 1 0 0) ∧ (M 1 0 0) ≤ 5 := iM 1 0 0
  have p_2 : 0 ≤ (l1 * (M 1 0 0)) ∧ (l1 * (M 1 0 0)) ≤ 1805 := jm_mulb (A := 361) (B := 5) (by omega) (by omega) (by omega) (by omega) (by decide)
  have w_3 : (jm_w (l1 * (M 1 0 0))) = (l1 * (M 1 0 0)) := jm_wid (by omega) (by omega)
  have w_4 : (jm_w ((jm_w (l1 * (M 1 0 0))) + l2)) = ((jm_w (l1 * (M 1 0 0))) + l2) := jm_wid (by omega) (by omega)
  exact wp_ret ⟨rfl, by omega⟩
set_option maxHeartbeats 4000000 in
set_option maxRecDepth 100000 in
theorem s_fX6_timeAt (M : jm_M) (iM : bI bx1 M) (r0 l1 : Int) (hr0 : 0 ≤ r0 ∧ r0 ≤ 5) (hl1 : 0 ≤ l1 ∧ l1 ≤ 2001) : wp (fX6_timeAt M r0 l1) (fun r M1 => M1 = M ∧ (jm_in r)) := by
  unfold fX6_timeAt
  have b_1 : 0 ≤ (M 9 r0 2) ∧ (M 9 r0 2) ≤ 60 := iM 9 r0 2
  refine wp_bp (s_fX11_isIndex M iM l1 (M 9 r0 2) (jm_inL (by omega) (by omega)) ⟨by omega, by omega⟩ ) (fun v2 hv2 => ?_)
  refine wp_ite (fun c_2 => ?_) (fun c_2 => ?_)
  · skip
    exact wp_ret ⟨rfl, (jm_inL (by decide) (by decide))⟩
  · skip
    refine wp_T ⟨by omega, by omega⟩ ?_
    have b_3 : (-2147483648) ≤ (M 30 r0 l1) ∧ (M 30 r0 l1) ≤ 2147483647 := iM 30 r0 l1
    exact wp_ret ⟨rfl, (iM 30 r0 l1)⟩
set_option maxHeartbeats 4000000 in
set_option maxRecDepth 100000 in
theorem s_gX2_isRaceWon_29 (fu : Nat) (hfu : 4000 ≤ fu) (M : jm_M) (iM : bI bx1 M) (k29 : jm_M → Int → Int → Int → Int → jm_R) (N29 : Int) (hk29 : ∀ (l1 l2 l3 l4 : Int) (hl1 : 0 ≤ l1 ∧ l1 ≤ 5) (hl2 : jm_in l2) (hl3 : 0 ≤ l3 ∧ l3 ≤ 2000) (hl4 : 0 ≤ l4 ∧ l4 ≤ 6), 7 - l4 < N29 → wp (k29 M l1 l2 l3 l4) (fun r M1 => M1 = M ∧ (0 ≤ r ∧ r ≤ 1))) : ∀ (l1 l2 l3 l4 : Int) (hl1 : 0 ≤ l1 ∧ l1 ≤ 5) (hl2 : jm_in l2) (hl3 : 0 ≤ l3 ∧ l3 ≤ 2000) (hl4 : 0 ≤ l4 ∧ l4 ≤ 6), 7 - l4 < N29 + 1 → wp (gX2_isRaceWon_29 fu k29 M l1 l2 l3 l4) (fun r M1 => M1 = M ∧ (0 ≤ r ∧ r ≤ 1)) := by
  intro l1 l2 l3 l4 hl1 hl2 hl3 hl4 m29
  unfold gX2_isRaceWon_29
  have b_2 : 0 ≤ (M 2 0 5) ∧ (M 2 0 5) ≤ 6 := iM 2 0 5
  refine wp_ite (fun c_1 => ?_) (fun c_1 => ?_)
  · skip
    exact wp_ret ⟨rfl, by omega⟩
  · skip
    refine wp_F (by omega) ?_
    refine wp_T ⟨by omega, by omega⟩ ?_
    refine wp_bp (s_fX6_timeAt M iM l4 l3 ⟨by omega, by omega⟩ ⟨by omega, by omega⟩ ) (fun v5 hv5 => ?_)
    refine wp_ite (fun c_4 => ?_) (fun c_4 => ?_)
    · skip
      have w_5 : (jm_w (l4 + 1)) = (l4 + 1) := jm_wid (by omega) (by omega)
      refine wp_e (by exact (jm_w_in _)) (fun v9 e_6 hv9 => ?_)
      have b_7 : -2147483648 ≤ v9 ∧ v9 ≤ 2147483647 := hv9
      have b_8 : -2147483648 ≤ l2 ∧ l2 ≤ 2147483647 := hl2
      exact hk29 l1 l2 l3 v9  ⟨by omega, by omega⟩ hl2 ⟨by omega, by omega⟩ ⟨by omega, by omega⟩  (by omega)
    · skip
      have b_10 : -2147483648 ≤ v5 ∧ v5 ≤ 2147483647 := hv5
      refine wp_ite (fun c_9 => ?_) (fun c_9 => ?_)
      · skip
        have w_11 : (jm_w (l4 + 1)) = (l4 + 1) := jm_wid (by omega) (by omega)
        refine wp_e (by exact (jm_w_in _)) (fun v12 e_12 hv12 => ?_)
        have b_13 : -2147483648 ≤ v12 ∧ v12 ≤ 2147483647 := hv12
        have b_14 : -2147483648 ≤ l2 ∧ l2 ≤ 2147483647 := hl2
        exact hk29 l1 l2 l3 v12  ⟨by omega, by omega⟩ hl2 ⟨by omega, by omega⟩ ⟨by omega, by omega⟩  (by omega)
      · skip
        have b_16 : -2147483648 ≤ l2 ∧ l2 ≤ 2147483647 := hl2
        refine wp_ite (fun c_15 => ?_) (fun c_15 => ?_)
        · skip
          have w_17 : (jm_w (l4 + 1)) = (l4 + 1) := jm_wid (by omega) (by omega)
          refine wp_e (by exact (jm_w_in _)) (fun v15 e_18 hv15 => ?_)
          have b_19 : -2147483648 ≤ v15 ∧ v15 ≤ 2147483647 := hv15
          exact hk29 l1 l2 l3 v15  ⟨by omega, by omega⟩ hl2 ⟨by omega, by omega⟩ ⟨by omega, by omega⟩  (by omega)
        · skip
          exact wp_ret ⟨rfl, by omega⟩
set_option maxHeartbeats 4000000 in
set_option maxRecDepth 100000 in
theorem s_fX2_isRaceWon_29 (fu : Nat) (hfu : 4000 ≤ fu) (M : jm_M) (iM : bI bx1 M) : ∀ (n : Nat) (l1 l2 l3 l4 : Int) (hl1 : 0 ≤ l1 ∧ l1 ≤ 5) (hl2 : jm_in l2) (hl3 : 0 ≤ l3 ∧ l3 ≤ 2000) (hl4 : 0 ≤ l4 ∧ l4 ≤ 6), 7 - l4 < (n : Int) → wp (fX2_isRaceWon_29 fu  n M l1 l2 l3 l4) (fun r M1 => M1 = M ∧ (0 ≤ r ∧ r ≤ 1)) := by
  intro n
  induction n with
  | zero => intro l1 l2 l3 l4 hl1 hl2 hl3 hl4 hm; exfalso; omega
  | succ n ih =>
    intro l1 l2 l3 l4 hl1 hl2 hl3 hl4 hm
    exact s_gX2_isRaceWon_29 fu hfu M iM (fX2_isRaceWon_29 fu  n) (n : Int) ih l1 l2 l3 l4 hl1 hl2 hl3 hl4 (by omega)
set_option maxHeartbeats 4000000 in
set_option maxRecDepth 100000 in
theorem s_fX2_isRaceWon (fu : Nat) (hfu : 4000 ≤ fu) (M : jm_M) (iM : bI bx1 M) (l1 l2 : Int) (hl1 : 0 ≤ l1 ∧ l1 ≤ 5) (hl2 : jm_in l2) : wp (fX2_isRaceWon fu M l1 l2) (fun r M1 => M1 = M ∧ (0 ≤ r ∧ r ≤ 1)) := by
  unfold fX2_isRaceWon
  have b_1 : 1 ≤ (M 1 0 1) ∧ (M 1 0 1) ≤ 12 := iM 1 0 1
  have w_2 : (jm_w ((M 1 0 1) - 1)) = ((M 1 0 1) - 1) := jm_wid (by omega) (by omega)
  have b_3 : 2 ≤ (M 1 0 0) ∧ (M 1 0 0) ≤ 5 := iM 1 0 0
  have w_4 : (jm_w ((M 1 0 0) - 1)) = ((M 1 0 0) - 1) := jm_wid (by omega) (by omega)
  refine wp_bp (s_fX9_lineOf M iM (jm_w ((M 1 0 1) - 1)) (jm_w ((M 1 0 0) - 1)) ⟨by omega, by omega⟩ ⟨by omega, by omega⟩ ) (fun v3 hv3 => ?_)
  have b_5 : -2147483648 ≤ l2 ∧ l2 ≤ 2147483647 := hl2
  exact s_fX2_isRaceWon_29 fu hfu M iM    fu l1 l2 v3 0  ⟨by omega, by omega⟩ hl2 ⟨by omega, by omega⟩ ⟨by omega, by omega⟩   (by omega)
set_option maxHeartbeats 4000000 in
set_option maxRecDepth 100000 in
theorem s_fX1_isAsked (M : jm_M) (iM : bI bx1 M) (r0 : Int) (hr0 : 0 ≤ r0 ∧ r0 ≤ 5) : wp (fX1_isAsked M r0) (fun r M1 => M1 = M ∧ (0 ≤ r ∧ r ≤ 1)) := by
  unfold fX1_isAsked
  have b_2 : (-2147483648) ≤ (M 8 r0 12) ∧ (M 8 r0 12) ≤ 2147483647 := iM 8 r0 12
  refine wp_ite (fun c_1 => ?_) (fun c_1 => ?_)
  · skip
    exact wp_ret ⟨rfl, by omega⟩
  · skip
    have b_4 : (-2147483648) ≤ (M 8 r0 13) ∧ (M 8 r0 13) ≤ 2147483647 := iM 8 r0 13
    refine wp_ite (fun c_3 => ?_) (fun c_3 => ?_)
    · skip
      exact wp_ret ⟨rfl, by omega⟩
    · skip
      exact wp_ret ⟨rfl, by omega⟩
set_option maxHeartbeats 4000000 in
set_option maxRecDepth 100000 in
theorem s_fX1_stopsInForce (M : jm_M) (iM : bI bx1 M) (r0 : Int) (hr0 : 0 ≤ r0 ∧ r0 ≤ 5) : wp (fX1_stopsInForce M r0) (fun r M1 => M1 = M ∧ (12 ≤ r ∧ r ≤ 29)) := by
  unfold fX1_stopsInForce
  have b_2 : (-2147483648) ≤ (M 8 r0 13) ∧ (M 8 r0 13) ≤ 2147483647 := iM 8 r0 13
  refine wp_ite (fun c_1 => ?_) (fun c_1 => ?_)
  · skip
    exact wp_ret ⟨rfl, by omega⟩
  · skip
    exact wp_ret ⟨rfl, by omega⟩
set_option maxHeartbeats 4000000 in
set_option maxRecDepth 100000 in
theorem s_gX1_stopBehind_12 (fu : Nat) (hfu : 4000 ≤ fu) (M : jm_M) (iM : bI bx1 M) (k12 : jm_M → Int → Int → Int → jm_R) (N12 : Int) (hk12 : ∀ (l1 r2 l3 : Int) (hl1 : 0 ≤ l1 ∧ l1 ≤ 361) (hr2 : 12 ≤ r2 ∧ r2 ≤ 29) (hl3 : (-1) ≤ l3 ∧ l3 ≤ 4), l3 - (-2) < N12 → wp (k12 M l1 r2 l3) (fun r M1 => M1 = M ∧ ((-1) ≤ r ∧ r ≤ 4))) : ∀ (l1 r2 l3 : Int) (hl1 : 0 ≤ l1 ∧ l1 ≤ 361) (hr2 : 12 ≤ r2 ∧ r2 ≤ 29) (hl3 : (-1) ≤ l3 ∧ l3 ≤ 4), l3 - (-2) < N12 + 1 → wp (gX1_stopBehind_12 fu k12 M l1 r2 l3) (fun r M1 => M1 = M ∧ ((-1) ≤ r ∧ r ≤ 4)) := by
  intro l1 r2 l3 hl1 hr2 hl3 m12
  unfold gX1_stopBehind_12
  refine wp_ite (fun c_1 => ?_) (fun c_1 => ?_)
  · skip
    exact wp_ret ⟨rfl, by omega⟩
  · skip
    refine wp_bp (s_fX7_cell M iM r2 l3 0 ⟨by omega, by omega⟩ (jm_inL (by omega) (by omega)) (jm_inL (by decide) (by decide)) ) (fun v2 hv2 => ?_)
    have b_3 : -2147483648 ≤ v2 ∧ v2 ≤ 2147483647 := hv2
    refine wp_ite (fun c_2 => ?_) (fun c_2 => ?_)
    · skip
      exact wp_ret ⟨rfl, by omega⟩
    · skip
      have w_4 : (jm_w (l3 + (-1))) = (l3 + (-1)) := jm_wid (by omega) (by omega)
      refine wp_e (by exact (jm_w_in _)) (fun v6 e_5 hv6 => ?_)
      have b_6 : -2147483648 ≤ v6 ∧ v6 ≤ 2147483647 := hv6
      exact hk12 l1 r2 v6  ⟨by omega, by omega⟩ ⟨by omega, by omega⟩ ⟨by omega, by omega⟩  (by omega)
set_option maxHeartbeats 4000000 in
set_option maxRecDepth 100000 in
theorem s_fX1_stopBehind_12 (fu : Nat) (hfu : 4000 ≤ fu) (M : jm_M) (iM : bI bx1 M) : ∀ (n : Nat) (l1 r2 l3 : Int) (hl1 : 0 ≤ l1 ∧ l1 ≤ 361) (hr2 : 12 ≤ r2 ∧ r2 ≤ 29) (hl3 : (-1) ≤ l3 ∧ l3 ≤ 4), l3 - (-2) < (n : Int) → wp (fX1_stopBehind_12 fu  n M l1 r2 l3) (fun r M1 => M1 = M ∧ ((-1) ≤ r ∧ r ≤ 4)) := by
  intro n
  induction n with
  | zero => intro l1 r2 l3 hl1 hr2 hl3 hm; exfalso; omega
  | succ n ih =>
    intro l1 r2 l3 hl1 hr2 hl3 hm
    exact s_gX1_stopBehind_12 fu hfu M iM (fX1_stopBehind_12 fu  n) (n : Int) ih l1 r2 l3 hl1 hr2 hl3 (by omega)
set_option maxHeartbeats 4000000 in
set_option maxRecDepth 100000 in
theorem s_fX1_stopBehind (fu : Nat) (hfu : 4000 ≤ fu) (M : jm_M) (iM : bI bx1 M) (r0 l1 : Int) (hr0 : 0 ≤ r0 ∧ r0 ≤ 5) (hl1 : 0 ≤ l1 ∧ l1 ≤ 361) : wp (fX1_stopBehind fu M r0 l1) (fun r M1 => M1 = M ∧ ((-1) ≤ r ∧ r ≤ 4)) := by
  unfold fX1_stopBehind
  refine wp_bp (s_fX1_stopsInForce M iM r0 ⟨by omega, by omega⟩ ) (fun v1 hv1 => ?_)
  have b_1 : 0 ≤ (M 10 v1 3) ∧ (M 10 v1 3) ≤ 5 := jm_b10 (iM 10 v1 3) (lim1_12_30 (by omega) (by omega))
  have w_2 : (jm_w ((M 10 v1 3) - 1)) = ((M 10 v1 3) - 1) := jm_wid (by omega) (by omega)
  refine wp_e (by exact (jm_w_in _)) (fun v5 e_3 hv5 => ?_)
  have b_4 : -2147483648 ≤ v5 ∧ v5 ≤ 2147483647 := hv5
  exact s_fX1_stopBehind_12 fu hfu M iM    fu l1 v1 v5  ⟨by omega, by omega⟩ ⟨by omega, by omega⟩ ⟨by omega, by omega⟩   (by omega)
set_option maxHeartbeats 4000000 in
set_option maxRecDepth 100000 in
theorem s_fX2_freeFrom (M : jm_M) (iM : bI bx1 M) (l1 : Int) (hl1 : jm_in l1) : wp (fX2_freeFrom M l1) (fun r M1 => M1 = M ∧ (jm_in r)) := by
  unfold fX2_freeFrom
  refine wp_bp (s_fX11_isIndex M iM l1 4 hl1 ⟨by omega, by omega⟩ ) (fun v1 hv1 => ?_)
  have b_1 : -2147483648 ≤ l1 ∧ l1 ≤ 2147483647 := hl1
  refine wp_ite (fun c_2 => ?_) (fun c_2 => ?_)
  · skip
    exact wp_ret ⟨rfl, (jm_inL (by decide) (by decide))⟩
  · skip
    refine wp_T ⟨by omega, by omega⟩ ?_
    have b_3 : (-2147483648) ≤ (M 34 0 l1) ∧ (M 34 0 l1) ≤ 2147483647 := iM 34 0 l1
    exact wp_ret ⟨rfl, (iM 34 0 l1)⟩
set_option maxHeartbeats 4000000 in
set_option maxRecDepth 100000 in
theorem s_gX2_atBox_75 (fu : Nat) (hfu : 4000 ≤ fu) (M0 : jm_M) : ∀ (r1 r2 l5 l6 l7 l8 : Int) (M : jm_M) (iM : bI bx1 M) (kM : Kp TB M0 M) (hr1 : 0 ≤ r1 ∧ r1 ≤ 5) (hr2 : 0 ≤ r2 ∧ r2 ≤ 5) (hl5 : jm_in l5) (hl6 : jm_in l6) (hl7 : jm_in l7) (hl8 : jm_in l8), wp (gX2_atBox_75 fu  M r1 r2 l5 l6 l7 l8) (fun r M1 => bI bx1 M1 ∧ Kp TB M0 M1 ∧ (0 ≤ r ∧ r ≤ 0)) := by
  intro r1 r2 l5 l6 l7 l8 M iM kM hr1 hr2 hl5 hl6 hl7 hl8
  unfold gX2_atBox_75
  have b_1 : -2147483648 ≤ l5 ∧ l5 ≤ 2147483647 := hl5
  have b_2 : (-2147483648) ≤ (M 8 r1 1) ∧ (M 8 r1 1) ≤ 2147483647 := iM 8 r1 1
  have b_3 : (-2147483648) ≤ (M 9 r2 8) ∧ (M 9 r2 8) ≤ 2147483647 := iM 9 r2 8
  have w_4 : -2147483648 ≤ (jm_w ((M 8 r1 1) - (M 9 r2 8))) ∧ (jm_w ((M 8 r1 1) - (M 9 r2 8))) ≤ 2147483647 := jm_w_in _
  have f_5 := jm_min_f l5 (jm_w ((M 8 r1 1) - (M 9 r2 8)))
  refine wp_e (by exact (jm_min_in hl5 (jm_w_in _))) (fun v3 e_6 hv3 => ?_)
  refine wp_T ⟨by omega, by omega⟩ ?_
  have b_7 : -2147483648 ≤ l8 ∧ l8 ≤ 2147483647 := hl8
  have b_8 : (-2147483648) ≤ (M 18 0 5) ∧ (M 18 0 5) ≤ 2147483647 := iM 18 0 5
  have b_9 : -2147483648 ≤ v3 ∧ v3 ≤ 2147483647 := hv3
  have w_10 : -2147483648 ≤ (jm_w ((M 18 0 5) * v3)) ∧ (jm_w ((M 18 0 5) * v3)) ≤ 2147483647 := jm_w_in _
  have w_11 : -2147483648 ≤ (jm_w (l8 + (jm_w ((M 18 0 5) * v3)))) ∧ (jm_w (l8 + (jm_w ((M 18 0 5) * v3)))) ≤ 2147483647 := jm_w_in _
  refine wp_e (by exact (jm_w_in _)) (fun v7 e_12 hv7 => ?_)
  refine wp_sk iM (jm_w_in _) kM (by unfold TB; omega) (fun M10 u_13 iM10 kM10 => ?_)
  have q_14 : (M10 9 r2 12) = (M 9 r2 12) := by rw [u_13]; exact jm_une_k (by decide)
  have r_15 : (jm_w ((M10 9 r2 12) + (jm_w (l7 - l6)))) = (jm_w ((M 9 r2 12) + (jm_w (l7 - l6)))) := congrArg jm_w (by omega)
  refine wp_sk iM10 (jm_w_in _) kM10 (by unfold TB; omega) (fun M12 u_16 iM12 kM12 => ?_)
  have q_17 : (M12 9 r2 5) = (M10 9 r2 5) := by rw [u_16]; exact jm_une_k (by decide)
  have q_18 : (M10 9 r2 5) = (M 9 r2 5) := by rw [u_13]; exact jm_une_k (by decide)
  have r_19 : (jm_w ((M12 9 r2 5) + 1)) = (jm_w ((M 9 r2 5) + 1)) := congrArg jm_w (by omega)
  refine wp_sk iM12 (jm_w_in _) kM12 (by unfold TB; omega) (fun M14 u_20 iM14 kM14 => ?_)
  refine wp_sk iM14 (jm_w_in _) kM14 (by unfold TB; omega) (fun M15 u_21 iM15 kM15 => ?_)
  have q_22 : (M15 8 r1 3) = (M14 8 r1 3) := by rw [u_21]; exact jm_une_f (by decide)
  have q_23 : (M14 8 r1 3) = (M12 8 r1 3) := by rw [u_20]; exact jm_une_f (by decide)
  have q_24 : (M12 8 r1 3) = (M10 8 r1 3) := by rw [u_16]; exact jm_une_f (by decide)
  have q_25 : (M10 8 r1 3) = (M 8 r1 3) := by rw [u_13]; exact jm_une_f (by decide)
  refine wp_bp (s_fX11_isIndex M15 iM15 (M15 8 r1 3) 4 (bx1_in (iM15 8 r1 3)) ⟨by omega, by omega⟩ ) (fun v17 hv17 => ?_)
  have b_26 : (-2147483648) ≤ (M 8 r1 3) ∧ (M 8 r1 3) ≤ 2147483647 := iM 8 r1 3
  refine wp_ite (fun c_27 => ?_) (fun c_27 => ?_)
  · skip
    exact wp_ret ⟨iM15, kM15, by omega⟩
  · skip
    refine wp_T ⟨by omega, by omega⟩ ?_
    refine wp_sk iM15 (jm_w_in _) kM15 (by unfold TB; omega) (fun M23 u_28 iM23 kM23 => ?_)
    exact wp_ret ⟨iM23, kM23, by omega⟩
set_option maxHeartbeats 4000000 in
set_option maxRecDepth 100000 in
theorem s_fX2_atBox (fu : Nat) (hfu : 4000 ≤ fu) (M : jm_M) (iM : bI bx1 M) (r1 r2 l3 l4 l5 : Int) (hr1 : 0 ≤ r1 ∧ r1 ≤ 5) (hr2 : 0 ≤ r2 ∧ r2 ≤ 5) (hl3 : jm_in l3) (hl4 : jm_in l4) (hl5 : jm_in l5) : wp (fX2_atBox fu M r1 r2 l3 l4 l5) (fun r M1 => bI bx1 M1 ∧ Kp TB M M1 ∧ (0 ≤ r ∧ r ≤ 0)) := by
  have kM : Kp TB M M := Kp.rf
  unfold fX2_atBox
  refine wp_T ⟨by omega, by omega⟩ ?_
  have b_1 : -2147483648 ≤ l3 ∧ l3 ≤ 2147483647 := hl3
  have b_2 : (-2147483648) ≤ (M 18 0 3) ∧ (M 18 0 3) ≤ 2147483647 := iM 18 0 3
  have w_3 : -2147483648 ≤ (jm_w (l3 + (M 18 0 3))) ∧ (jm_w (l3 + (M 18 0 3))) ≤ 2147483647 := jm_w_in _
  refine wp_e (by exact (jm_w_in _)) (fun v3 e_4 hv3 => ?_)
  refine wp_bp (s_fX2_freeFrom M iM (M 8 r1 3) (iM 8 r1 3) ) (fun v6 hv6 => ?_)
  have b_5 : -2147483648 ≤ v3 ∧ v3 ≤ 2147483647 := hv3
  have b_6 : -2147483648 ≤ v6 ∧ v6 ≤ 2147483647 := hv6
  have f_7 := jm_max_f v3 v6
  refine wp_e (by exact (jm_max_in hv3 hv6)) (fun v9 e_8 hv9 => ?_)
  have b_9 : 0 ≤ (M 10 r1 3) ∧ (M 10 r1 3) ≤ 4 := jm_b10 (iM 10 r1 3) (Int.le_of_eq (lim1_0 (by omega) (by omega)))
  refine wp_bp (s_fX11_isIndex M iM l4 (M 10 r1 3) hl4 ⟨by omega, by omega⟩ ) (fun v12 hv12 => ?_)
  have b_10 : -2147483648 ≤ l4 ∧ l4 ≤ 2147483647 := hl4
  refine wp_ite (fun c_11 => ?_) (fun c_11 => ?_)
  · skip
    have b_12 : -2147483648 ≤ l5 ∧ l5 ≤ 2147483647 := hl5
    have b_13 : -2147483648 ≤ v9 ∧ v9 ≤ 2147483647 := hv9
    exact s_gX2_atBox_75 fu hfu M    r1 r2 l5 v3 v9 0 M iM kM ⟨by omega, by omega⟩ ⟨by omega, by omega⟩ hl5 hv3 hv9 (jm_inL (by decide) (by decide))  
  · skip
    have b_15 : (-2147483648) ≤ (M 9 r2 9) ∧ (M 9 r2 9) ≤ 2147483647 := iM 9 r2 9
    refine wp_ite (fun c_14 => ?_) (fun c_14 => ?_)
    · skip
      have b_16 : -2147483648 ≤ l5 ∧ l5 ≤ 2147483647 := hl5
      have b_17 : -2147483648 ≤ v9 ∧ v9 ≤ 2147483647 := hv9
      exact s_gX2_atBox_75 fu hfu M    r1 r2 l5 v3 v9 0 M iM kM ⟨by omega, by omega⟩ ⟨by omega, by omega⟩ hl5 hv3 hv9 (jm_inL (by decide) (by decide))  
    · skip
      refine wp_T ⟨by omega, by omega⟩ ?_
      have b_18 : (-2147483648) ≤ (M 18 0 4) ∧ (M 18 0 4) ≤ 2147483647 := iM 18 0 4
      have w_19 : (jm_w (0 + (M 18 0 4))) = (0 + (M 18 0 4)) := jm_wid (by omega) (by omega)
      refine wp_e (by exact (jm_w_in _)) (fun v20 e_20 hv20 => ?_)
      refine wp_sk iM hl4 kM (by unfold TB; omega) (fun M22 u_21 iM22 kM22 => ?_)
      have b_22 : -2147483648 ≤ l5 ∧ l5 ≤ 2147483647 := hl5
      have b_23 : -2147483648 ≤ v9 ∧ v9 ≤ 2147483647 := hv9
      have b_24 : -2147483648 ≤ v20 ∧ v20 ≤ 2147483647 := hv20
      exact s_gX2_atBox_75 fu hfu M    r1 r2 l5 v3 v9 v20 M22 iM22 kM22 ⟨by omega, by omega⟩ ⟨by omega, by omega⟩ hl5 hv3 hv9 hv20  
set_option maxHeartbeats 4000000 in
set_option maxRecDepth 100000 in
theorem s_gX2_endLap_76 (fu : Nat) (hfu : 4000 ≤ fu) (M0 : jm_M) : ∀ (r2 r3 l4 l5 l6 : Int) (M : jm_M) (iM : bI bx1 M) (kM : Kp TB M0 M) (hr2 : 0 ≤ r2 ∧ r2 ≤ 5) (hr3 : 0 ≤ r3 ∧ r3 ≤ 5) (hl4 : 0 ≤ l4 ∧ l4 ≤ 361) (hl5 : jm_in l5) (hl6 : jm_in l6), wp (gX2_endLap_76 fu  M r2 r3 l4 l5 l6) (fun r M1 => bI bx1 M1 ∧ Kp TB M0 M1 ∧ (0 ≤ r ∧ r ≤ 0)) := by
  intro r2 r3 l4 l5 l6 M iM kM hr2 hr3 hl4 hl5 hl6
  unfold gX2_endLap_76
  refine wp_bp (s_fX1_stopBehind fu hfu M iM r2 l4 ⟨by omega, by omega⟩ ⟨by omega, by omega⟩ ) (fun v1 hv1 => ?_)
  refine wp_ite (fun c_1 => ?_) (fun c_1 => ?_)
  · skip
    have b_3 : -2147483648 ≤ l6 ∧ l6 ≤ 2147483647 := hl6
    refine wp_ite (fun c_2 => ?_) (fun c_2 => ?_)
    · skip
      exact wp_ret ⟨iM, kM, by omega⟩
    · skip
      refine wp_bk (s_fX2_atBox fu hfu M iM r2 r3 l5 l6 200 ⟨by omega, by omega⟩ ⟨by omega, by omega⟩ hl5 hl6 (jm_inL (by decide) (by decide)) ) (fun v6 M7 iM7 jM7 hv6 => ?_)
      have kM7 := kM.tr jM7 (fun _ _ _ h => h)
      exact wp_ret ⟨iM7, kM7, by omega⟩
  · skip
    refine wp_bp (s_fX1_stopsInForce M iM r2 ⟨by omega, by omega⟩ ) (fun v8 hv8 => ?_)
    refine wp_bp (s_fX7_cell M iM v8 v1 1 ⟨by omega, by omega⟩ (jm_inL (by omega) (by omega)) (jm_inL (by decide) (by decide)) ) (fun v11 hv11 => ?_)
    refine wp_bp (s_fX7_cell M iM v8 v1 2 ⟨by omega, by omega⟩ (jm_inL (by omega) (by omega)) (jm_inL (by decide) (by decide)) ) (fun v14 hv14 => ?_)
    refine wp_bk (s_fX2_atBox fu hfu M iM r2 r3 l5 v11 v14 ⟨by omega, by omega⟩ ⟨by omega, by omega⟩ hl5 hv11 hv14 ) (fun v17 M18 iM18 jM18 hv17 => ?_)
    have kM18 := kM.tr jM18 (fun _ _ _ h => h)
    exact wp_ret ⟨iM18, kM18, by omega⟩
set_option maxHeartbeats 4000000 in
set_option maxRecDepth 100000 in
theorem s_gX2_setLetters_321 (fu : Nat) (hfu : 4000 ≤ fu) (M0 : jm_M) : ∀ (r2 r3 l5 s0 s1 : Int) (M : jm_M) (iM : bI bx1 M) (kM : Kp TB M0 M) (hr2 : 0 ≤ r2 ∧ r2 ≤ 5) (hr3 : 0 ≤ r3 ∧ r3 ≤ 5) (hl5 : jm_in l5) (hs0 : 0 ≤ s0 ∧ s0 ≤ 1) (hs1 : 121 ≤ s1 ∧ s1 ≤ 121), wp (gX2_setLetters_321 fu  M r2 r3 l5 s0 s1) (fun r M1 => bI bx1 M1 ∧ Kp TB M0 M1 ∧ (0 ≤ r ∧ r ≤ 0)) := by
  intro r2 r3 l5 s0 s1 M iM kM hr2 hr3 hl5 hs0 hs1
  unfold gX2_setLetters_321
  refine wp_bk (s_fX4_let M iM s1 s0 ⟨by omega, by omega⟩ (jm_inL (by omega) (by omega)) ) (fun v1 M2 iM2 jM2 hv1 => ?_)
  have kM2 := kM.tr jM2 tt_TB_TLH
  have q_1 : (M2 9 r3 5) = (M 9 r3 5) := jM2 9 r3 5 (by unfold TLH; omega)
  refine wp_bk (s_fX4_let M2 iM2 116 (M2 9 r3 5) ⟨by omega, by omega⟩ (bx1_in (iM2 9 r3 5)) ) (fun v4 M5 iM5 jM5 hv4 => ?_)
  have kM5 := kM2.tr jM5 tt_TB_TLH
  have q_2 : (M5 8 r2 3) = (M2 8 r2 3) := jM5 8 r2 3 (by unfold TLH; omega)
  have q_3 : (M2 8 r2 3) = (M 8 r2 3) := jM2 8 r2 3 (by unfold TLH; omega)
  refine wp_bp (s_fX2_freeFrom M5 iM5 (M5 8 r2 3) (bx1_in (iM5 8 r2 3)) ) (fun v7 hv7 => ?_)
  refine wp_T ⟨by omega, by omega⟩ ?_
  have q_4 : (M5 18 0 3) = (M2 18 0 3) := jM5 18 0 3 (by unfold TLH; omega)
  have q_5 : (M2 18 0 3) = (M 18 0 3) := jM2 18 0 3 (by unfold TLH; omega)
  have r_6 : (jm_w (l5 + (M5 18 0 3))) = (jm_w (l5 + (M 18 0 3))) := congrArg jm_w (by omega)
  have b_8 : -2147483648 ≤ l5 ∧ l5 ≤ 2147483647 := hl5
  have b_9 : (-2147483648) ≤ (M 18 0 3) ∧ (M 18 0 3) ≤ 2147483647 := iM 18 0 3
  have w_10 : -2147483648 ≤ (jm_w (l5 + (M 18 0 3))) ∧ (jm_w (l5 + (M 18 0 3))) ≤ 2147483647 := jm_w_in _
  have b_11 : -2147483648 ≤ v7 ∧ v7 ≤ 2147483647 := hv7
  refine wp_ite (fun c_7 => ?_) (fun c_7 => ?_)
  · skip
    refine wp_bk (s_fX4_let M5 iM5 104 0 ⟨by omega, by omega⟩ (jm_inL (by decide) (by decide)) ) (fun v13 M14 iM14 jM14 hv13 => ?_)
    have kM14 := kM5.tr jM14 tt_TB_TLH
    exact wp_ret ⟨iM14, kM14, by omega⟩
  · skip
    refine wp_bk (s_fX4_let M5 iM5 104 1 ⟨by omega, by omega⟩ (jm_inL (by decide) (by decide)) ) (fun v15 M16 iM16 jM16 hv15 => ?_)
    have kM16 := kM5.tr jM16 tt_TB_TLH
    exact wp_ret ⟨iM16, kM16, by omega⟩
set_option maxHeartbeats 4000000 in
set_option maxRecDepth 100000 in
theorem s_gX2_setLetters_294 (fu : Nat) (hfu : 4000 ≤ fu) (M0 : jm_M) : ∀ (r2 r3 l5 s0 s1 : Int) (M : jm_M) (iM : bI bx1 M) (kM : Kp TB M0 M) (hr2 : 0 ≤ r2 ∧ r2 ≤ 5) (hr3 : 0 ≤ r3 ∧ r3 ≤ 5) (hl5 : jm_in l5) (hs0 : 0 ≤ s0 ∧ s0 ≤ 1) (hs1 : 118 ≤ s1 ∧ s1 ≤ 118), wp (gX2_setLetters_294 fu  M r2 r3 l5 s0 s1) (fun r M1 => bI bx1 M1 ∧ Kp TB M0 M1 ∧ (0 ≤ r ∧ r ≤ 0)) := by
  intro r2 r3 l5 s0 s1 M iM kM hr2 hr3 hl5 hs0 hs1
  unfold gX2_setLetters_294
  refine wp_bk (s_fX4_let M iM s1 s0 ⟨by omega, by omega⟩ (jm_inL (by omega) (by omega)) ) (fun v1 M2 iM2 jM2 hv1 => ?_)
  have kM2 := kM.tr jM2 tt_TB_TLH
  refine wp_bp (s_fX9_yellowAt fu hfu M2 iM2 (-1) l5 ⟨by omega, by omega⟩ hl5 ) (fun v3 hv3 => ?_)
  refine wp_ite (fun c_1 => ?_) (fun c_1 => ?_)
  · skip
    have b_2 : -2147483648 ≤ l5 ∧ l5 ≤ 2147483647 := hl5
    exact s_gX2_setLetters_321 fu hfu M0    r2 r3 l5 0 121 M2 iM2 kM2 ⟨by omega, by omega⟩ ⟨by omega, by omega⟩ hl5 ⟨by omega, by omega⟩ ⟨by omega, by omega⟩  
  · skip
    have b_3 : -2147483648 ≤ l5 ∧ l5 ≤ 2147483647 := hl5
    exact s_gX2_setLetters_321 fu hfu M0    r2 r3 l5 1 121 M2 iM2 kM2 ⟨by omega, by omega⟩ ⟨by omega, by omega⟩ hl5 ⟨by omega, by omega⟩ ⟨by omega, by omega⟩  
set_option maxHeartbeats 4000000 in
set_option maxRecDepth 100000 in
theorem s_gX2_setLetters_168 (fu : Nat) (hfu : 4000 ≤ fu) (M0 : jm_M) : ∀ (r2 r3 l5 s0 s1 : Int) (M : jm_M) (iM : bI bx1 M) (kM : Kp TB M0 M) (hr2 : 0 ≤ r2 ∧ r2 ≤ 5) (hr3 : 0 ≤ r3 ∧ r3 ≤ 5) (hl5 : jm_in l5) (hs0 : jm_in s0) (hs1 : 97 ≤ s1 ∧ s1 ≤ 97), wp (gX2_setLetters_168 fu  M r2 r3 l5 s0 s1) (fun r M1 => bI bx1 M1 ∧ Kp TB M0 M1 ∧ (0 ≤ r ∧ r ≤ 0)) := by
  intro r2 r3 l5 s0 s1 M iM kM hr2 hr3 hl5 hs0 hs1
  unfold gX2_setLetters_168
  refine wp_bk (s_fX4_let M iM s1 s0 ⟨by omega, by omega⟩ hs0 ) (fun v1 M2 iM2 jM2 hv1 => ?_)
  have kM2 := kM.tr jM2 tt_TB_TLH
  have q_1 : (M2 9 r3 8) = (M 9 r3 8) := jM2 9 r3 8 (by unfold TLH; omega)
  refine wp_bk (s_fX4_let M2 iM2 102 (M2 9 r3 8) ⟨by omega, by omega⟩ (bx1_in (iM2 9 r3 8)) ) (fun v4 M5 iM5 jM5 hv4 => ?_)
  have kM5 := kM2.tr jM5 tt_TB_TLH
  have q_2 : (M5 8 r2 2) = (M2 8 r2 2) := jM5 8 r2 2 (by unfold TLH; omega)
  have q_3 : (M2 8 r2 2) = (M 8 r2 2) := jM2 8 r2 2 (by unfold TLH; omega)
  have q_4 : (M5 1 0 1) = (M2 1 0 1) := jM5 1 0 1 (by unfold TLH; omega)
  have q_5 : (M2 1 0 1) = (M 1 0 1) := jM2 1 0 1 (by unfold TLH; omega)
  have q_6 : (M5 1 0 0) = (M2 1 0 0) := jM5 1 0 0 (by unfold TLH; omega)
  have q_7 : (M2 1 0 0) = (M 1 0 0) := jM2 1 0 0 (by unfold TLH; omega)
  have r_8 : ((M5 1 0 1) * (M5 1 0 0)) = ((M 1 0 1) * (M 1 0 0)) := by rw [show (M5 1 0 1) = (M 1 0 1) by omega, show (M5 1 0 0) = (M 1 0 0) by omega]
  have r_9 : (jm_w ((M5 1 0 1) * (M5 1 0 0))) = (jm_w ((M 1 0 1) * (M 1 0 0))) := congrArg jm_w (by omega)
  have q_10 : (M5 9 r3 2) = (M2 9 r3 2) := jM5 9 r3 2 (by unfold TLH; omega)
  have q_11 : (M2 9 r3 2) = (M 9 r3 2) := jM2 9 r3 2 (by unfold TLH; omega)
  have r_12 : (jm_w ((jm_w ((M5 1 0 1) * (M5 1 0 0))) - (M5 9 r3 2))) = (jm_w ((jm_w ((M 1 0 1) * (M 1 0 0))) - (M 9 r3 2))) := congrArg jm_w (by omega)
  have r_13 : ((M5 8 r2 2) * (jm_w ((jm_w ((M5 1 0 1) * (M5 1 0 0))) - (M5 9 r3 2)))) = ((M 8 r2 2) * (jm_w ((jm_w ((M 1 0 1) * (M 1 0 0))) - (M 9 r3 2)))) := by rw [show (M5 8 r2 2) = (M 8 r2 2) by omega, show (jm_w ((jm_w ((M5 1 0 1) * (M5 1 0 0))) - (M5 9 r3 2))) = (jm_w ((jm_w ((M 1 0 1) * (M 1 0 0))) - (M 9 r3 2))) by omega]
  have r_14 : (jm_w ((M5 8 r2 2) * (jm_w ((jm_w ((M5 1 0 1) * (M5 1 0 0))) - (M5 9 r3 2))))) = (jm_w ((M 8 r2 2) * (jm_w ((jm_w ((M 1 0 1) * (M 1 0 0))) - (M 9 r3 2))))) := congrArg jm_w (by omega)
  refine wp_bk (s_fX4_let M5 iM5 110 (jm_w ((M5 8 r2 2) * (jm_w ((jm_w ((M5 1 0 1) * (M5 1 0 0))) - (M5 9 r3 2))))) ⟨by omega, by omega⟩ (jm_w_in _) ) (fun v10 M11 iM11 jM11 hv10 => ?_)
  have kM11 := kM5.tr jM11 tt_TB_TLH
  refine wp_bp (s_fX6_age M11 iM11 r3 ⟨by omega, by omega⟩ ) (fun v12 hv12 => ?_)
  refine wp_bk (s_fX4_let M11 iM11 111 v12 ⟨by omega, by omega⟩ hv12 ) (fun v15 M16 iM16 jM16 hv15 => ?_)
  have kM16 := kM11.tr jM16 tt_TB_TLH
  have q_15 : (M16 9 r3 9) = (M11 9 r3 9) := jM16 9 r3 9 (by unfold TLH; omega)
  have q_16 : (M11 9 r3 9) = (M5 9 r3 9) := jM11 9 r3 9 (by unfold TLH; omega)
  have q_17 : (M5 9 r3 9) = (M2 9 r3 9) := jM5 9 r3 9 (by unfold TLH; omega)
  have q_18 : (M2 9 r3 9) = (M 9 r3 9) := jM2 9 r3 9 (by unfold TLH; omega)
  refine wp_bp (s_fX7_cell M16 iM16 r2 (M16 9 r3 9) 0 ⟨by omega, by omega⟩ (bx1_in (iM16 9 r3 9)) (jm_inL (by decide) (by decide)) ) (fun v18 hv18 => ?_)
  refine wp_bk (s_fX4_let M16 iM16 107 v18 ⟨by omega, by omega⟩ hv18 ) (fun v21 M22 iM22 jM22 hv21 => ?_)
  have kM22 := kM16.tr jM22 tt_TB_TLH
  refine wp_bp (s_fX9_wetAt fu hfu M22 iM22 0 l5 ⟨by omega, by omega⟩ hl5 ) (fun v23 hv23 => ?_)
  refine wp_bk (s_fX4_let M22 iM22 119 v23 ⟨by omega, by omega⟩ hv23 ) (fun v26 M27 iM27 jM27 hv26 => ?_)
  have kM27 := kM22.tr jM27 tt_TB_TLH
  refine wp_bp (s_fX9_slowAt fu hfu M27 iM27 l5 hl5 ) (fun v28 hv28 => ?_)
  refine wp_ite (fun c_19 => ?_) (fun c_19 => ?_)
  · skip
    have b_20 : -2147483648 ≤ l5 ∧ l5 ≤ 2147483647 := hl5
    exact s_gX2_setLetters_294 fu hfu M0    r2 r3 l5 0 118 M27 iM27 kM27 ⟨by omega, by omega⟩ ⟨by omega, by omega⟩ hl5 ⟨by omega, by omega⟩ ⟨by omega, by omega⟩  
  · skip
    have b_21 : -2147483648 ≤ l5 ∧ l5 ≤ 2147483647 := hl5
    exact s_gX2_setLetters_294 fu hfu M0    r2 r3 l5 1 118 M27 iM27 kM27 ⟨by omega, by omega⟩ ⟨by omega, by omega⟩ hl5 ⟨by omega, by omega⟩ ⟨by omega, by omega⟩  
set_option maxHeartbeats 4000000 in
set_option maxRecDepth 100000 in
theorem s_gX2_setLetters_96 (fu : Nat) (hfu : 4000 ≤ fu) (M0 : jm_M) : ∀ (r2 r3 l4 l5 l7 l8 : Int) (M : jm_M) (iM : bI bx1 M) (kM : Kp TB M0 M) (hr2 : 0 ≤ r2 ∧ r2 ≤ 5) (hr3 : 0 ≤ r3 ∧ r3 ≤ 5) (hl4 : 0 ≤ l4 ∧ l4 ≤ 361) (hl5 : jm_in l5) (hl7 : jm_in l7) (hl8 : (-1) ≤ l8 ∧ l8 ≤ 2147483647), wp (gX2_setLetters_96 fu  M r2 r3 l4 l5 l7 l8) (fun r M1 => bI bx1 M1 ∧ Kp TB M0 M1 ∧ (0 ≤ r ∧ r ≤ 0)) := by
  intro r2 r3 l4 l5 l7 l8 M iM kM hr2 hr3 hl4 hl5 hl7 hl8
  unfold gX2_setLetters_96
  refine wp_bk (s_fX4_let M iM 108 (jm_w (l4 + 1)) ⟨by omega, by omega⟩ (jm_w_in _) ) (fun v1 M2 iM2 jM2 hv1 => ?_)
  have kM2 := kM.tr jM2 tt_TB_TLH
  have q_1 : (M2 1 0 1) = (M 1 0 1) := jM2 1 0 1 (by unfold TLH; omega)
  have r_2 : (jm_w ((M2 1 0 1) - l4)) = (jm_w ((M 1 0 1) - l4)) := congrArg jm_w (by omega)
  have r_3 : (jm_w ((jm_w ((M2 1 0 1) - l4)) - 1)) = (jm_w ((jm_w ((M 1 0 1) - l4)) - 1)) := congrArg jm_w (by omega)
  refine wp_bk (s_fX4_let M2 iM2 114 (jm_w ((jm_w ((M2 1 0 1) - l4)) - 1)) ⟨by omega, by omega⟩ (jm_w_in _) ) (fun v4 M5 iM5 jM5 hv4 => ?_)
  have kM5 := kM2.tr jM5 tt_TB_TLH
  refine wp_bk (s_fX4_let M5 iM5 112 (jm_w (l7 + 1)) ⟨by omega, by omega⟩ (jm_w_in _) ) (fun v6 M7 iM7 jM7 hv6 => ?_)
  have kM7 := kM5.tr jM7 tt_TB_TLH
  have b_5 : -2147483648 ≤ l7 ∧ l7 ≤ 2147483647 := hl7
  refine wp_ite (fun c_4 => ?_) (fun c_4 => ?_)
  · skip
    have b_6 : -2147483648 ≤ l5 ∧ l5 ≤ 2147483647 := hl5
    exact s_gX2_setLetters_168 fu hfu M0    r2 r3 l5 999 97 M7 iM7 kM7 ⟨by omega, by omega⟩ ⟨by omega, by omega⟩ hl5 (jm_inL (by decide) (by decide)) ⟨by omega, by omega⟩  
  · skip
    have b_7 : -2147483648 ≤ l5 ∧ l5 ≤ 2147483647 := hl5
    have w_8 : -2147483648 ≤ (jm_w (l5 - l8)) ∧ (jm_w (l5 - l8)) ≤ 2147483647 := jm_w_in _
    have f_9 : -2147483648 ≤ (jm_div (jm_w (l5 - l8)) 100) ∧ (jm_div (jm_w (l5 - l8)) 100) ≤ 2147483647 := jm_div_in _ _
    exact s_gX2_setLetters_168 fu hfu M0    r2 r3 l5 (jm_div (jm_w (l5 - l8)) 100) 97 M7 iM7 kM7 ⟨by omega, by omega⟩ ⟨by omega, by omega⟩ hl5 (jm_div_in _ _) ⟨by omega, by omega⟩  
set_option maxHeartbeats 4000000 in
set_option maxRecDepth 100000 in
theorem s_gX2_setLetters_29 (fu : Nat) (hfu : 4000 ≤ fu) (M0 : jm_M) (k29 : jm_M → Int → Int → Int → Int → Int → Int → Int → Int → Int → jm_R) (N29 : Int) (hk29 : ∀ (l1 r2 r3 l4 l5 l6 l7 l8 l9 : Int) (M : jm_M) (iM : bI bx1 M) (kM : Kp TB M0 M) (hl1 : 0 ≤ l1 ∧ l1 ≤ 5) (hr2 : 0 ≤ r2 ∧ r2 ≤ 5) (hr3 : 0 ≤ r3 ∧ r3 ≤ 5) (hl4 : 0 ≤ l4 ∧ l4 ≤ 361) (hl5 : jm_in l5) (hl6 : 0 ≤ l6 ∧ l6 ≤ 2000) (hl7 : jm_in l7) (hl8 : (-1) ≤ l8 ∧ l8 ≤ 2147483647) (hl9 : 0 ≤ l9 ∧ l9 ≤ 6), 7 - l9 < N29 → wp (k29 M l1 r2 r3 l4 l5 l6 l7 l8 l9) (fun r M1 => bI bx1 M1 ∧ Kp TB M0 M1 ∧ (0 ≤ r ∧ r ≤ 0))) : ∀ (l1 r2 r3 l4 l5 l6 l7 l8 l9 : Int) (M : jm_M) (iM : bI bx1 M) (kM : Kp TB M0 M) (hl1 : 0 ≤ l1 ∧ l1 ≤ 5) (hr2 : 0 ≤ r2 ∧ r2 ≤ 5) (hr3 : 0 ≤ r3 ∧ r3 ≤ 5) (hl4 : 0 ≤ l4 ∧ l4 ≤ 361) (hl5 : jm_in l5) (hl6 : 0 ≤ l6 ∧ l6 ≤ 2000) (hl7 : jm_in l7) (hl8 : (-1) ≤ l8 ∧ l8 ≤ 2147483647) (hl9 : 0 ≤ l9 ∧ l9 ≤ 6), 7 - l9 < N29 + 1 → wp (gX2_setLetters_29 fu k29 M l1 r2 r3 l4 l5 l6 l7 l8 l9) (fun r M1 => bI bx1 M1 ∧ Kp TB M0 M1 ∧ (0 ≤ r ∧ r ≤ 0)) := by
  intro l1 r2 r3 l4 l5 l6 l7 l8 l9 M iM kM hl1 hr2 hr3 hl4 hl5 hl6 hl7 hl8 hl9 m29
  unfold gX2_setLetters_29
  have b_2 : 0 ≤ (M 2 0 5) ∧ (M 2 0 5) ≤ 6 := iM 2 0 5
  refine wp_ite (fun c_1 => ?_) (fun c_1 => ?_)
  · skip
    have b_3 : -2147483648 ≤ l5 ∧ l5 ≤ 2147483647 := hl5
    have b_4 : -2147483648 ≤ l7 ∧ l7 ≤ 2147483647 := hl7
    exact s_gX2_setLetters_96 fu hfu M0    r2 r3 l4 l5 l7 l8 M iM kM ⟨by omega, by omega⟩ ⟨by omega, by omega⟩ ⟨by omega, by omega⟩ hl5 hl7 ⟨by omega, by omega⟩  
  · skip
    refine wp_F (by omega) ?_
    refine wp_T ⟨by omega, by omega⟩ ?_
    refine wp_bp (s_fX6_timeAt M iM l9 l6 ⟨by omega, by omega⟩ ⟨by omega, by omega⟩ ) (fun v5 hv5 => ?_)
    refine wp_ite (fun c_6 => ?_) (fun c_6 => ?_)
    · skip
      have w_7 : (jm_w (l9 + 1)) = (l9 + 1) := jm_wid (by omega) (by omega)
      refine wp_e (by exact (jm_w_in _)) (fun v9 e_8 hv9 => ?_)
      have b_9 : -2147483648 ≤ v9 ∧ v9 ≤ 2147483647 := hv9
      have b_10 : -2147483648 ≤ l5 ∧ l5 ≤ 2147483647 := hl5
      have b_11 : -2147483648 ≤ l7 ∧ l7 ≤ 2147483647 := hl7
      exact hk29 l1 r2 r3 l4 l5 l6 l7 l8 v9 M iM kM ⟨by omega, by omega⟩ ⟨by omega, by omega⟩ ⟨by omega, by omega⟩ ⟨by omega, by omega⟩ hl5 ⟨by omega, by omega⟩ hl7 ⟨by omega, by omega⟩ ⟨by omega, by omega⟩  (by omega)
    · skip
      have b_13 : -2147483648 ≤ v5 ∧ v5 ≤ 2147483647 := hv5
      refine wp_ite (fun c_12 => ?_) (fun c_12 => ?_)
      · skip
        have w_14 : (jm_w (l9 + 1)) = (l9 + 1) := jm_wid (by omega) (by omega)
        refine wp_e (by exact (jm_w_in _)) (fun v12 e_15 hv12 => ?_)
        have b_16 : -2147483648 ≤ v12 ∧ v12 ≤ 2147483647 := hv12
        have b_17 : -2147483648 ≤ l5 ∧ l5 ≤ 2147483647 := hl5
        have b_18 : -2147483648 ≤ l7 ∧ l7 ≤ 2147483647 := hl7
        exact hk29 l1 r2 r3 l4 l5 l6 l7 l8 v12 M iM kM ⟨by omega, by omega⟩ ⟨by omega, by omega⟩ ⟨by omega, by omega⟩ ⟨by omega, by omega⟩ hl5 ⟨by omega, by omega⟩ hl7 ⟨by omega, by omega⟩ ⟨by omega, by omega⟩  (by omega)
      · skip
        have b_20 : -2147483648 ≤ l5 ∧ l5 ≤ 2147483647 := hl5
        refine wp_ite (fun c_19 => ?_) (fun c_19 => ?_)
        · skip
          have w_21 : (jm_w (l9 + 1)) = (l9 + 1) := jm_wid (by omega) (by omega)
          refine wp_e (by exact (jm_w_in _)) (fun v15 e_22 hv15 => ?_)
          have b_23 : -2147483648 ≤ v15 ∧ v15 ≤ 2147483647 := hv15
          have b_24 : -2147483648 ≤ l7 ∧ l7 ≤ 2147483647 := hl7
          exact hk29 l1 r2 r3 l4 l5 l6 l7 l8 v15 M iM kM ⟨by omega, by omega⟩ ⟨by omega, by omega⟩ ⟨by omega, by omega⟩ ⟨by omega, by omega⟩ hl5 ⟨by omega, by omega⟩ hl7 ⟨by omega, by omega⟩ ⟨by omega, by omega⟩  (by omega)
        · skip
          have b_25 : -2147483648 ≤ l7 ∧ l7 ≤ 2147483647 := hl7
          have w_26 : -2147483648 ≤ (jm_w (l7 + 1)) ∧ (jm_w (l7 + 1)) ≤ 2147483647 := jm_w_in _
          refine wp_e (by exact (jm_w_in _)) (fun v17 e_27 hv17 => ?_)
          have f_28 := jm_max_f l8 v5
          refine wp_e (by exact (jm_max_in (jm_inL (by omega) (by omega)) hv5)) (fun v19 e_29 hv19 => ?_)
          have w_30 : (jm_w (l9 + 1)) = (l9 + 1) := jm_wid (by omega) (by omega)
          refine wp_e (by exact (jm_w_in _)) (fun v21 e_31 hv21 => ?_)
          have b_32 : -2147483648 ≤ v19 ∧ v19 ≤ 2147483647 := hv19
          have b_33 : -2147483648 ≤ v21 ∧ v21 ≤ 2147483647 := hv21
          have b_34 : -2147483648 ≤ v17 ∧ v17 ≤ 2147483647 := hv17
          exact hk29 l1 r2 r3 l4 l5 l6 v17 v19 v21 M iM kM ⟨by omega, by omega⟩ ⟨by omega, by omega⟩ ⟨by omega, by omega⟩ ⟨by omega, by omega⟩ hl5 ⟨by omega, by omega⟩ hv17 ⟨by omega, by omega⟩ ⟨by omega, by omega⟩  (by omega)
set_option maxHeartbeats 4000000 in
set_option maxRecDepth 100000 in
theorem s_fX2_setLetters_29 (fu : Nat) (hfu : 4000 ≤ fu) (M0 : jm_M) : ∀ (n : Nat) (l1 r2 r3 l4 l5 l6 l7 l8 l9 : Int) (M : jm_M) (iM : bI bx1 M) (kM : Kp TB M0 M) (hl1 : 0 ≤ l1 ∧ l1 ≤ 5) (hr2 : 0 ≤ r2 ∧ r2 ≤ 5) (hr3 : 0 ≤ r3 ∧ r3 ≤ 5) (hl4 : 0 ≤ l4 ∧ l4 ≤ 361) (hl5 : jm_in l5) (hl6 : 0 ≤ l6 ∧ l6 ≤ 2000) (hl7 : jm_in l7) (hl8 : (-1) ≤ l8 ∧ l8 ≤ 2147483647) (hl9 : 0 ≤ l9 ∧ l9 ≤ 6), 7 - l9 < (n : Int) → wp (fX2_setLetters_29 fu  n M l1 r2 r3 l4 l5 l6 l7 l8 l9) (fun r M1 => bI bx1 M1 ∧ Kp TB M0 M1 ∧ (0 ≤ r ∧ r ≤ 0)) := by
  intro n
  induction n with
  | zero => intro l1 r2 r3 l4 l5 l6 l7 l8 l9 M iM kM hl1 hr2 hr3 hl4 hl5 hl6 hl7 hl8 hl9 hm; exfalso; omega
  | succ n ih =>
    intro l1 r2 r3 l4 l5 l6 l7 l8 l9 M iM kM hl1 hr2 hr3 hl4 hl5 hl6 hl7 hl8 hl9 hm
    exact s_gX2_setLetters_29 fu hfu M0 (fX2_setLetters_29 fu  n) (n : Int) ih l1 r2 r3 l4 l5 l6 l7 l8 l9 M iM kM hl1 hr2 hr3 hl4 hl5 hl6 hl7 hl8 hl9 (by omega)
set_option maxHeartbeats 4000000 in
set_option maxRecDepth 100000 in
theorem s_fX2_setLetters (fu : Nat) (hfu : 4000 ≤ fu) (M : jm_M) (iM : bI bx1 M) (l1 r2 r3 l4 l5 : Int) (hl1 : 0 ≤ l1 ∧ l1 ≤ 5) (hr2 : 0 ≤ r2 ∧ r2 ≤ 5) (hr3 : 0 ≤ r3 ∧ r3 ≤ 5) (hl4 : 0 ≤ l4 ∧ l4 ≤ 361) (hl5 : jm_in l5) : wp (fX2_setLetters fu M l1 r2 r3 l4 l5) (fun r M1 => bI bx1 M1 ∧ Kp TB M M1 ∧ (0 ≤ r ∧ r ≤ 0)) := by
  have kM : Kp TB M M := Kp.rf
  unfold fX2_setLetters
  have b_1 : 2 ≤ (M 1 0 0) ∧ (M 1 0 0) ≤ 5 := iM 1 0 0
  have w_2 : (jm_w ((M 1 0 0) - 1)) = ((M 1 0 0) - 1) := jm_wid (by omega) (by omega)
  refine wp_bp (s_fX9_lineOf M iM l4 (jm_w ((M 1 0 0) - 1)) ⟨by omega, by omega⟩ ⟨by omega, by omega⟩ ) (fun v2 hv2 => ?_)
  have b_3 : -2147483648 ≤ l5 ∧ l5 ≤ 2147483647 := hl5
  exact s_fX2_setLetters_29 fu hfu M    fu l1 r2 r3 l4 l5 v2 0 (-1) 0 M iM kM ⟨by omega, by omega⟩ ⟨by omega, by omega⟩ ⟨by omega, by omega⟩ ⟨by omega, by omega⟩ hl5 ⟨by omega, by omega⟩ (jm_inL (by decide) (by decide)) ⟨by omega, by omega⟩ ⟨by omega, by omega⟩   (by omega)
set_option maxHeartbeats 4000000 in
set_option maxRecDepth 100000 in
theorem s_gX4_firstTrue_2 (fu : Nat) (hfu : 4000 ≤ fu) (M0 : jm_M) (k2 : jm_M → Int → Int → jm_R) (N2 : Int) (hk2 : ∀ (r1 l2 : Int) (M : jm_M) (iM : bI bx1 M) (kM : Kp TLH M0 M) (hr1 : 0 ≤ r1 ∧ r1 ≤ 16) (hl2 : 0 ≤ l2 ∧ l2 ≤ 21), 22 - l2 < N2 → wp (k2 M r1 l2) (fun r M1 => bI bx1 M1 ∧ Kp TLH M0 M1 ∧ ((-1) ≤ r ∧ r ≤ 20))) : ∀ (r1 l2 : Int) (M : jm_M) (iM : bI bx1 M) (kM : Kp TLH M0 M) (hr1 : 0 ≤ r1 ∧ r1 ≤ 16) (hl2 : 0 ≤ l2 ∧ l2 ≤ 21), 22 - l2 < N2 + 1 → wp (gX4_firstTrue_2 fu k2 M r1 l2) (fun r M1 => bI bx1 M1 ∧ Kp TLH M0 M1 ∧ ((-1) ≤ r ∧ r ≤ 20)) := by
  intro r1 l2 M iM kM hr1 hl2 m2
  unfold gX4_firstTrue_2
  have b_2 : 0 ≤ (M 11 r1 6) ∧ (M 11 r1 6) ≤ 21 := iM 11 r1 6
  refine wp_ite (fun c_1 => ?_) (fun c_1 => ?_)
  · skip
    exact wp_ret ⟨iM, kM, by omega⟩
  · skip
    refine wp_bk (s_fX4_holds fu hfu M iM r1 l2 ⟨by omega, by omega⟩ ⟨by omega, by omega⟩ ) (fun v3 M4 iM4 jM4 hv3 => ?_)
    have kM4 := kM.tr jM4 (fun _ _ _ h => h)
    refine wp_ite (fun c_3 => ?_) (fun c_3 => ?_)
    · skip
      have w_4 : (jm_w (l2 + 1)) = (l2 + 1) := jm_wid (by omega) (by omega)
      refine wp_e (by exact (jm_w_in _)) (fun v7 e_5 hv7 => ?_)
      have b_6 : -2147483648 ≤ v7 ∧ v7 ≤ 2147483647 := hv7
      exact hk2 r1 v7 M4 iM4 kM4 ⟨by omega, by omega⟩ ⟨by omega, by omega⟩  (by omega)
    · skip
      exact wp_ret ⟨iM4, kM4, by omega⟩
set_option maxHeartbeats 4000000 in
set_option maxRecDepth 100000 in
theorem s_fX4_firstTrue_2 (fu : Nat) (hfu : 4000 ≤ fu) (M0 : jm_M) : ∀ (n : Nat) (r1 l2 : Int) (M : jm_M) (iM : bI bx1 M) (kM : Kp TLH M0 M) (hr1 : 0 ≤ r1 ∧ r1 ≤ 16) (hl2 : 0 ≤ l2 ∧ l2 ≤ 21), 22 - l2 < (n : Int) → wp (fX4_firstTrue_2 fu  n M r1 l2) (fun r M1 => bI bx1 M1 ∧ Kp TLH M0 M1 ∧ ((-1) ≤ r ∧ r ≤ 20)) := by
  intro n
  induction n with
  | zero => intro r1 l2 M iM kM hr1 hl2 hm; exfalso; omega
  | succ n ih =>
    intro r1 l2 M iM kM hr1 hl2 hm
    exact s_gX4_firstTrue_2 fu hfu M0 (fX4_firstTrue_2 fu  n) (n : Int) ih r1 l2 M iM kM hr1 hl2 (by omega)
set_option maxHeartbeats 4000000 in
set_option maxRecDepth 100000 in
theorem s_fX4_firstTrue (fu : Nat) (hfu : 4000 ≤ fu) (M : jm_M) (iM : bI bx1 M) (r1 : Int) (hr1 : 0 ≤ r1 ∧ r1 ≤ 16) : wp (fX4_firstTrue fu M r1) (fun r M1 => bI bx1 M1 ∧ Kp TLH M M1 ∧ ((-1) ≤ r ∧ r ≤ 20)) := by
  have kM : Kp TLH M M := Kp.rf
  unfold fX4_firstTrue
  exact s_fX4_firstTrue_2 fu hfu M    fu r1 0 M iM kM ⟨by omega, by omega⟩ ⟨by omega, by omega⟩   (by omega)
set_option maxHeartbeats 4000000 in
set_option maxRecDepth 100000 in
theorem s_gX2_follow_48 (fu : Nat) (hfu : 4000 ≤ fu) (M0 : jm_M) : ∀ (r0 l1 r2 : Int) (M : jm_M) (iM : bI bx1 M) (kM : Kp TB M0 M) (hr0 : 0 ≤ r0 ∧ r0 ≤ 16) (hl1 : 0 ≤ l1 ∧ l1 ≤ 20) (hr2 : 0 ≤ r2 ∧ r2 ≤ 5), wp (gX2_follow_48 fu  M r0 l1 r2) (fun r M1 => bI bx1 M1 ∧ Kp TB M0 M1 ∧ (jm_in r)) := by
  intro r0 l1 r2 M iM kM hr0 hl1 hr2
  unfold gX2_follow_48
  refine wp_T ⟨by omega, by omega⟩ ?_
  have b_2 : (-2147483648) ≤ (M 23 r0 l1) ∧ (M 23 r0 l1) ≤ 2147483647 := iM 23 r0 l1
  refine wp_ite (fun c_1 => ?_) (fun c_1 => ?_)
  · skip
    refine wp_T ⟨by omega, by omega⟩ ?_
    have b_3 : (-2147483648) ≤ (M 24 r0 l1) ∧ (M 24 r0 l1) ≤ 2147483647 := iM 24 r0 l1
    exact wp_ret ⟨iM, kM, (iM 24 r0 l1)⟩
  · skip
    refine wp_T ⟨by omega, by omega⟩ ?_
    refine wp_sk iM (iM 23 r0 l1) kM (by unfold TB; omega) (fun M8 u_4 iM8 kM8 => ?_)
    refine wp_T ⟨by omega, by omega⟩ ?_
    have q_5 : (M8 24 r0 l1) = (M 24 r0 l1) := by rw [u_4]; exact jm_une_f (by decide)
    have b_6 : (-2147483648) ≤ (M 24 r0 l1) ∧ (M 24 r0 l1) ≤ 2147483647 := iM 24 r0 l1
    exact wp_ret ⟨iM8, kM8, (bx1_in (iM8 24 r0 l1))⟩
set_option maxHeartbeats 4000000 in
set_option maxRecDepth 100000 in
theorem s_fX2_follow (fu : Nat) (hfu : 4000 ≤ fu) (M : jm_M) (iM : bI bx1 M) (r0 l1 r2 l3 : Int) (hr0 : 0 ≤ r0 ∧ r0 ≤ 16) (hl1 : (-1) ≤ l1 ∧ l1 ≤ 20) (hr2 : 0 ≤ r2 ∧ r2 ≤ 5) (hl3 : 0 ≤ l3 ∧ l3 ≤ 361) : wp (fX2_follow fu M r0 l1 r2 l3) (fun r M1 => bI bx1 M1 ∧ Kp TB M M1 ∧ (jm_in r)) := by
  have kM : Kp TB M M := Kp.rf
  unfold fX2_follow
  refine wp_bp (s_fX11_isIndex M iM l1 21 (jm_inL (by omega) (by omega)) ⟨by omega, by omega⟩ ) (fun v1 hv1 => ?_)
  refine wp_ite (fun c_1 => ?_) (fun c_1 => ?_)
  · skip
    exact wp_ret ⟨iM, kM, (jm_inL (by decide) (by decide))⟩
  · skip
    refine wp_bp (s_fX11_isIndex M iM l3 12 (jm_inL (by omega) (by omega)) ⟨by omega, by omega⟩ ) (fun v5 hv5 => ?_)
    refine wp_ite (fun c_2 => ?_) (fun c_2 => ?_)
    · skip
      exact wp_ret ⟨iM, kM, (jm_inL (by decide) (by decide))⟩
    · skip
      refine wp_T ⟨by omega, by omega⟩ ?_
      refine wp_sk iM (jm_inL (by omega) (by omega)) kM (by unfold TB; omega) (fun M10 u_3 iM10 kM10 => ?_)
      refine wp_T ⟨by omega, by omega⟩ ?_
      have q_4 : (M10 22 r0 l1) = (M 22 r0 l1) := by rw [u_3]; exact jm_une_f (by decide)
      have b_6 : (-2147483648) ≤ (M 22 r0 l1) ∧ (M 22 r0 l1) ≤ 2147483647 := iM 22 r0 l1
      refine wp_ite (fun c_5 => ?_) (fun c_5 => ?_)
      · skip
        exact s_gX2_follow_48 fu hfu M    r0 l1 r2 M10 iM10 kM10 ⟨by omega, by omega⟩ ⟨by omega, by omega⟩ ⟨by omega, by omega⟩  
      · skip
        refine wp_T ⟨by omega, by omega⟩ ?_
        refine wp_sk iM10 (bx1_in (iM10 22 r0 l1)) kM10 (by unfold TB; omega) (fun M16 u_7 iM16 kM16 => ?_)
        exact s_gX2_follow_48 fu hfu M    r0 l1 r2 M16 iM16 kM16 ⟨by omega, by omega⟩ ⟨by omega, by omega⟩ ⟨by omega, by omega⟩  
set_option maxHeartbeats 4000000 in
set_option maxRecDepth 100000 in
theorem s_fX2_endLap (fu : Nat) (hfu : 4000 ≤ fu) (M : jm_M) (iM : bI bx1 M) (l1 r2 r3 l4 l5 : Int) (hl1 : 0 ≤ l1 ∧ l1 ≤ 5) (hr2 : 0 ≤ r2 ∧ r2 ≤ 5) (hr3 : 0 ≤ r3 ∧ r3 ≤ 5) (hl4 : 0 ≤ l4 ∧ l4 ≤ 361) (hl5 : jm_in l5) : wp (fX2_endLap fu M l1 r2 r3 l4 l5) (fun r M1 => bI bx1 M1 ∧ Kp TB M M1 ∧ (0 ≤ r ∧ r ≤ 0)) := by
  have kM : Kp TB M M := Kp.rf
  unfold fX2_endLap
  have b_2 : 1 ≤ (M 1 0 1) ∧ (M 1 0 1) ≤ 12 := iM 1 0 1
  have w_3 : (jm_w ((M 1 0 1) - 1)) = ((M 1 0 1) - 1) := jm_wid (by omega) (by omega)
  refine wp_ite (fun c_1 => ?_) (fun c_1 => ?_)
  · skip
    refine wp_bk (s_fX6_rest M iM r3 1 l5 ⟨by omega, by omega⟩ ⟨by omega, by omega⟩ hl5 ) (fun v3 M4 iM4 jM4 hv3 => ?_)
    have kM4 := kM.tr jM4 (fun _ _ _ h => h)
    exact wp_ret ⟨iM4, kM4, by omega⟩
  · skip
    refine wp_bp (s_fX2_isRaceWon fu hfu M iM l1 l5 ⟨by omega, by omega⟩ hl5 ) (fun v5 hv5 => ?_)
    refine wp_ite (fun c_4 => ?_) (fun c_4 => ?_)
    · skip
      refine wp_bp (s_fX1_isAsked M iM r2 ⟨by omega, by omega⟩ ) (fun v9 hv9 => ?_)
      refine wp_ite (fun c_5 => ?_) (fun c_5 => ?_)
      · skip
        have b_6 : -2147483648 ≤ l5 ∧ l5 ≤ 2147483647 := hl5
        exact s_gX2_endLap_76 fu hfu M    r2 r3 l4 l5 (-1) M iM kM ⟨by omega, by omega⟩ ⟨by omega, by omega⟩ ⟨by omega, by omega⟩ hl5 (jm_inL (by decide) (by decide))  
      · skip
        refine wp_bk (s_fX2_setLetters fu hfu M iM l1 r2 r3 l4 l5 ⟨by omega, by omega⟩ ⟨by omega, by omega⟩ ⟨by omega, by omega⟩ ⟨by omega, by omega⟩ hl5 ) (fun v13 M14 iM14 jM14 hv13 => ?_)
        have kM14 := kM.tr jM14 (fun _ _ _ h => h)
        have q_7 : (M14 8 r2 11) = (M 8 r2 11) := jM14 8 r2 11 (by unfold TB; omega)
        have b_8 : 0 ≤ (M 8 r2 11) ∧ (M 8 r2 11) ≤ 16 := iM 8 r2 11
        refine wp_T ⟨by omega, by omega⟩ ?_
        refine wp_T ⟨by omega, by omega⟩ ?_
        refine wp_bk (s_fX4_firstTrue fu hfu M14 iM14 (M14 8 r2 11) ⟨by omega, by omega⟩ ) (fun v17 M18 iM18 jM18 hv17 => ?_)
        have kM18 := kM14.tr jM18 tt_TB_TLH
        refine wp_bk (s_fX2_follow fu hfu M18 iM18 (M14 8 r2 11) v17 r3 l4 ⟨by omega, by omega⟩ ⟨by omega, by omega⟩ ⟨by omega, by omega⟩ ⟨by omega, by omega⟩ ) (fun v20 M21 iM21 jM21 hv20 => ?_)
        have kM21 := kM18.tr jM21 (fun _ _ _ h => h)
        have b_9 : -2147483648 ≤ l5 ∧ l5 ≤ 2147483647 := hl5
        have b_10 : -2147483648 ≤ v20 ∧ v20 ≤ 2147483647 := hv20
        exact s_gX2_endLap_76 fu hfu M    r2 r3 l4 l5 v20 M21 iM21 kM21 ⟨by omega, by omega⟩ ⟨by omega, by omega⟩ ⟨by omega, by omega⟩ hl5 hv20  
    · skip
      refine wp_bk (s_fX6_rest M iM r3 1 l5 ⟨by omega, by omega⟩ ⟨by omega, by omega⟩ hl5 ) (fun v23 M24 iM24 jM24 hv23 => ?_)
      have kM24 := kM.tr jM24 (fun _ _ _ h => h)
      exact wp_ret ⟨iM24, kM24, by omega⟩
set_option maxHeartbeats 4000000 in
set_option maxRecDepth 100000 in
theorem s_gX2_goOn_150 (fu : Nat) (hfu : 4000 ≤ fu) (M0 : jm_M) : ∀ (l1 r2 r3 l4 l5 l6 l9 : Int) (M : jm_M) (iM : bI bx1 M) (kM : Kp TB M0 M) (hl1 : 0 ≤ l1 ∧ l1 ≤ 5) (hr2 : 0 ≤ r2 ∧ r2 ≤ 5) (hr3 : 0 ≤ r3 ∧ r3 ≤ 5) (hl4 : 0 ≤ l4 ∧ l4 ≤ 361) (hl5 : 0 ≤ l5 ∧ l5 ≤ 4) (hl6 : jm_in l6) (hl9 : jm_in l9), wp (gX2_goOn_150 fu  M l1 r2 r3 l4 l5 l6 l9) (fun r M1 => bI bx1 M1 ∧ Kp TB M0 M1 ∧ (0 ≤ r ∧ r ≤ 0)) := by
  intro l1 r2 r3 l4 l5 l6 l9 M iM kM hl1 hr2 hr3 hl4 hl5 hl6 hl9
  unfold gX2_goOn_150
  refine wp_sk iM (jm_w_in _) kM (by unfold TB; omega) (fun M2 u_1 iM2 kM2 => ?_)
  refine wp_bk (s_fX2_heldEnd fu hfu M2 iM2 l1 l5 l6 (jm_w (l6 + l9)) ⟨by omega, by omega⟩ ⟨by omega, by omega⟩ hl6 (jm_w_in _) ) (fun v3 M4 iM4 jM4 hv3 => ?_)
  have kM4 := kM2.tr jM4 (fun _ _ _ h => h)
  refine wp_bk (s_fX6_endLine M4 iM4 r3 l4 l5 v3 (M4 2 0 6) ⟨by omega, by omega⟩ ⟨by omega, by omega⟩ ⟨by omega, by omega⟩ hv3 (iM4 2 0 6) ) (fun v7 M8 iM8 jM8 hv7 => ?_)
  have kM8 := kM4.tr jM8 (fun _ _ _ h => h)
  have q_2 : (M8 1 0 0) = (M4 1 0 0) := jM8 1 0 0 (by unfold TB; omega)
  have q_3 : (M4 1 0 0) = (M2 1 0 0) := jM4 1 0 0 (by unfold TB; omega)
  have q_4 : (M2 1 0 0) = (M 1 0 0) := by rw [u_1]; exact jm_une_f (by decide)
  have r_5 : (jm_w ((M8 1 0 0) - 1)) = (jm_w ((M 1 0 0) - 1)) := congrArg jm_w (by omega)
  have b_7 : 2 ≤ (M 1 0 0) ∧ (M 1 0 0) ≤ 5 := iM 1 0 0
  have w_8 : (jm_w ((M 1 0 0) - 1)) = ((M 1 0 0) - 1) := jm_wid (by omega) (by omega)
  refine wp_ite (fun c_6 => ?_) (fun c_6 => ?_)
  · skip
    refine wp_bp (s_fX9_lapOf M8 iM8 l4 ⟨by omega, by omega⟩ ) (fun v11 hv11 => ?_)
    refine wp_bk (s_fX2_endLap fu hfu M8 iM8 l1 r2 r3 v11 v3 ⟨by omega, by omega⟩ ⟨by omega, by omega⟩ ⟨by omega, by omega⟩ ⟨by omega, by omega⟩ hv3 ) (fun v14 M15 iM15 jM15 hv14 => ?_)
    have kM15 := kM8.tr jM15 (fun _ _ _ h => h)
    exact wp_ret ⟨iM15, kM15, by omega⟩
  · skip
    exact wp_ret ⟨iM8, kM8, by omega⟩
set_option maxHeartbeats 4000000 in
set_option maxRecDepth 100000 in
theorem s_gX2_slowTime_70 (fu : Nat) (hfu : 4000 ≤ fu) (M : jm_M) (iM : bI bx1 M) : ∀ (l2 l3 : Int) (hl2 : 0 ≤ l2 ∧ l2 ≤ 4) (hl3 : 0 ≤ l3 ∧ l3 ≤ 1), wp (gX2_slowTime_70 fu  M l2 l3) (fun r M1 => M1 = M ∧ (jm_in r)) := by
  intro l2 l3 hl2 hl3
  unfold gX2_slowTime_70
  refine wp_T ⟨by omega, by omega⟩ ?_
  refine wp_ite (fun c_1 => ?_) (fun c_1 => ?_)
  · skip
    have b_2 : (-2147483648) ≤ (M 14 0 l2) ∧ (M 14 0 l2) ≤ 2147483647 := iM 14 0 l2
    have w_3 : -2147483648 ≤ (jm_w ((M 14 0 l2) * 120)) ∧ (jm_w ((M 14 0 l2) * 120)) ≤ 2147483647 := jm_w_in _
    have f_4 : -2147483648 ≤ (jm_div (jm_w ((M 14 0 l2) * 120)) 100) ∧ (jm_div (jm_w ((M 14 0 l2) * 120)) 100) ≤ 2147483647 := jm_div_in _ _
    exact wp_ret ⟨rfl, (jm_div_in _ _)⟩
  · skip
    have b_5 : (-2147483648) ≤ (M 14 0 l2) ∧ (M 14 0 l2) ≤ 2147483647 := iM 14 0 l2
    have w_6 : -2147483648 ≤ (jm_w ((M 14 0 l2) * 150)) ∧ (jm_w ((M 14 0 l2) * 150)) ≤ 2147483647 := jm_w_in _
    have f_7 : -2147483648 ≤ (jm_div (jm_w ((M 14 0 l2) * 150)) 100) ∧ (jm_div (jm_w ((M 14 0 l2) * 150)) 100) ≤ 2147483647 := jm_div_in _ _
    exact wp_ret ⟨rfl, (jm_div_in _ _)⟩
set_option maxHeartbeats 4000000 in
set_option maxRecDepth 100000 in
theorem s_gX2_slowTime_5 (fu : Nat) (hfu : 4000 ≤ fu) (M : jm_M) (iM : bI bx1 M) (k5 : jm_M → Int → Int → Int → Int → jm_R) (N5 : Int) (hk5 : ∀ (l1 l2 l3 l4 : Int) (hl1 : 0 ≤ l1 ∧ l1 ≤ 5) (hl2 : 0 ≤ l2 ∧ l2 ≤ 4) (hl3 : 0 ≤ l3 ∧ l3 ≤ 1) (hl4 : 0 ≤ l4 ∧ l4 ≤ 6), 7 - l4 < N5 → wp (k5 M l1 l2 l3 l4) (fun r M1 => M1 = M ∧ (jm_in r))) : ∀ (l1 l2 l3 l4 : Int) (hl1 : 0 ≤ l1 ∧ l1 ≤ 5) (hl2 : 0 ≤ l2 ∧ l2 ≤ 4) (hl3 : 0 ≤ l3 ∧ l3 ≤ 1) (hl4 : 0 ≤ l4 ∧ l4 ≤ 6), 7 - l4 < N5 + 1 → wp (gX2_slowTime_5 fu k5 M l1 l2 l3 l4) (fun r M1 => M1 = M ∧ (jm_in r)) := by
  intro l1 l2 l3 l4 hl1 hl2 hl3 hl4 m5
  unfold gX2_slowTime_5
  have b_2 : 0 ≤ (M 2 0 5) ∧ (M 2 0 5) ≤ 6 := iM 2 0 5
  refine wp_ite (fun c_1 => ?_) (fun c_1 => ?_)
  · skip
    exact s_gX2_slowTime_70 fu hfu M iM    l2 l3  ⟨by omega, by omega⟩ ⟨by omega, by omega⟩  
  · skip
    refine wp_F (by omega) ?_
    refine wp_ite (fun c_4 => ?_) (fun c_4 => ?_)
    · skip
      have w_5 : (jm_w (l4 + 1)) = (l4 + 1) := jm_wid (by omega) (by omega)
      refine wp_e (by exact (jm_w_in _)) (fun v5 e_6 hv5 => ?_)
      have b_7 : -2147483648 ≤ v5 ∧ v5 ≤ 2147483647 := hv5
      exact hk5 l1 l2 l3 v5  ⟨by omega, by omega⟩ ⟨by omega, by omega⟩ ⟨by omega, by omega⟩ ⟨by omega, by omega⟩  (by omega)
    · skip
      refine wp_T ⟨by omega, by omega⟩ ?_
      have b_9 : (-2147483648) ≤ (M 9 l4 3) ∧ (M 9 l4 3) ≤ 2147483647 := iM 9 l4 3
      refine wp_ite (fun c_8 => ?_) (fun c_8 => ?_)
      · skip
        refine wp_T ⟨by omega, by omega⟩ ?_
        refine wp_T ⟨by omega, by omega⟩ ?_
        have b_11 : 0 ≤ (M 9 l4 1) ∧ (M 9 l4 1) ≤ 361 := iM 9 l4 1
        have b_12 : 0 ≤ (M 9 l1 1) ∧ (M 9 l1 1) ≤ 361 := iM 9 l1 1
        refine wp_ite (fun c_10 => ?_) (fun c_10 => ?_)
        · skip
          have w_13 : (jm_w (l4 + 1)) = (l4 + 1) := jm_wid (by omega) (by omega)
          refine wp_e (by exact (jm_w_in _)) (fun v15 e_14 hv15 => ?_)
          have b_15 : -2147483648 ≤ v15 ∧ v15 ≤ 2147483647 := hv15
          exact hk5 l1 l2 l3 v15  ⟨by omega, by omega⟩ ⟨by omega, by omega⟩ ⟨by omega, by omega⟩ ⟨by omega, by omega⟩  (by omega)
        · skip
          have w_16 : (jm_w (l4 + 1)) = (l4 + 1) := jm_wid (by omega) (by omega)
          refine wp_e (by exact (jm_w_in _)) (fun v17 e_17 hv17 => ?_)
          have b_18 : -2147483648 ≤ v17 ∧ v17 ≤ 2147483647 := hv17
          exact hk5 l1 l2 0 v17  ⟨by omega, by omega⟩ ⟨by omega, by omega⟩ ⟨by omega, by omega⟩ ⟨by omega, by omega⟩  (by omega)
      · skip
        have w_19 : (jm_w (l4 + 1)) = (l4 + 1) := jm_wid (by omega) (by omega)
        refine wp_e (by exact (jm_w_in _)) (fun v19 e_20 hv19 => ?_)
        have b_21 : -2147483648 ≤ v19 ∧ v19 ≤ 2147483647 := hv19
        exact hk5 l1 l2 l3 v19  ⟨by omega, by omega⟩ ⟨by omega, by omega⟩ ⟨by omega, by omega⟩ ⟨by omega, by omega⟩  (by omega)
set_option maxHeartbeats 4000000 in
set_option maxRecDepth 100000 in
theorem s_fX2_slowTime_5 (fu : Nat) (hfu : 4000 ≤ fu) (M : jm_M) (iM : bI bx1 M) : ∀ (n : Nat) (l1 l2 l3 l4 : Int) (hl1 : 0 ≤ l1 ∧ l1 ≤ 5) (hl2 : 0 ≤ l2 ∧ l2 ≤ 4) (hl3 : 0 ≤ l3 ∧ l3 ≤ 1) (hl4 : 0 ≤ l4 ∧ l4 ≤ 6), 7 - l4 < (n : Int) → wp (fX2_slowTime_5 fu  n M l1 l2 l3 l4) (fun r M1 => M1 = M ∧ (jm_in r)) := by
  intro n
  induction n with
  | zero => intro l1 l2 l3 l4 hl1 hl2 hl3 hl4 hm; exfalso; omega
  | succ n ih =>
    intro l1 l2 l3 l4 hl1 hl2 hl3 hl4 hm
    exact s_gX2_slowTime_5 fu hfu M iM (fX2_slowTime_5 fu  n) (n : Int) ih l1 l2 l3 l4 hl1 hl2 hl3 hl4 (by omega)
set_option maxHeartbeats 4000000 in
set_option maxRecDepth 100000 in
theorem s_fX2_slowTime (fu : Nat) (hfu : 4000 ≤ fu) (M : jm_M) (iM : bI bx1 M) (l1 l2 : Int) (hl1 : 0 ≤ l1 ∧ l1 ≤ 5) (hl2 : 0 ≤ l2 ∧ l2 ≤ 4) : wp (fX2_slowTime fu M l1 l2) (fun r M1 => M1 = M ∧ (jm_in r)) := by
  unfold fX2_slowTime
  exact s_fX2_slowTime_5 fu hfu M iM    fu l1 l2 1 0  ⟨by omega, by omega⟩ ⟨by omega, by omega⟩ ⟨by omega, by omega⟩ ⟨by omega, by omega⟩   (by omega)
theorem s_fX2_goOn (fu : Nat) (hfu : 4000 ≤ fu) (M : jm_M) (iM : bI bx1 M) (l1 r2 r3 : Int) (hl1 : 0 ≤ l1 ∧ l1 ≤ 5) (hr2 : 0 ≤ r2 ∧ r2 ≤ 5) (hr3 : 0 ≤ r3 ∧ r3 ≤ 5) (hb : M 9 r3 1 ≤ 360) : wp (fX2_goOn fu M l1 r2 r3) (fun r M1 => bI bx1 M1 ∧ Kp TA M M1 ∧ M1 9 r3 1 ≤ M 9 r3 1 + 1 ∧ (∀ j : Int, j ≠ r3 → M1 9 j 1 = M 9 j 1)) := by
  have bb : 0 ≤ M 9 r3 1 ∧ M 9 r3 1 ≤ 361 := iM 9 r3 1
  unfold fX2_goOn
  refine wp_e (jm_inL (by omega) (by omega)) (fun v2 e2 h2 => ?_)
  refine wp_bp (s_fX9_sectorOf M iM v2 ⟨by omega, by omega⟩) (fun v4 h4 => ?_)
  refine wp_e (show jm_in (M 9 r3 0) from iM 9 r3 0) (fun v8 e8 h8 => ?_)
  refine wp_b (s_fX2_hear fu hfu M iM r2 r3 v2 hr2 hr3 ⟨by omega, by omega⟩) (fun v10 M11 h11 => ?_)
  obtain ⟨i11, k11, -⟩ := h11
  have q11 : M11 9 r3 1 = M 9 r3 1 := k11 9 r3 1 (by unfold TB; omega)
  have w11 : jm_w (M11 9 r3 1 + 1) = M 9 r3 1 + 1 := by rw [q11]; exact jm_wid (by omega) (by omega)
  rw [w11]
  refine wp_si i11 (show 0 ≤ M 9 r3 1 + 1 ∧ M 9 r3 1 + 1 ≤ 361 by omega) (fun M13 u13 i13 => ?_)
  have e13 : M13 9 r3 1 = M 9 r3 1 + 1 := by rw [u13]; exact jm_ueq
  have j13 : ∀ j : Int, j ≠ r3 → M13 9 j 1 = M 9 j 1 := fun j hj => by rw [u13, jm_une_i hj]; exact k11 9 j 1 (by unfold TB; omega)
  have a13 : Kp TA M M13 := fun f i k h => by rw [u13, jm_une (by unfold TA at h; omega)]; exact k11 f i k (tt_TA_TB f i k h)
  have fin : ∀ x : jm_R, wp x (fun r M1 => bI bx1 M1 ∧ Kp TB M13 M1 ∧ (0 ≤ r ∧ r ≤ 0)) → wp x (fun r M1 => bI bx1 M1 ∧ Kp TA M M1 ∧ M1 9 r3 1 ≤ M 9 r3 1 + 1 ∧ (∀ j : Int, j ≠ r3 → M1 9 j 1 = M 9 j 1)) := fun x h => wp_mono h fun r M4 q => ⟨q.1, a13.tr q.2.1 tt_TA_TB, by rw [q.2.1 9 r3 1 (by unfold TB; omega)]; omega, fun j hj => by rw [q.2.1 9 j 1 (by unfold TB; omega)]; exact j13 j hj⟩
  refine fin _ ?_
  refine wp_bp (s_fX7_cell M13 i13 r2 (M13 9 r3 9) 0 ⟨by omega, by omega⟩ (i13 9 r3 9) (jm_inL (by decide) (by decide))) (fun v16 h16 => ?_)
  refine wp_sk (T := TB) i13 (show jm_in _ from jm_or_in _ _) Kp.rf (by unfold TB; omega) (fun M19 u19 i19 k19 => ?_)
  refine wp_e (jm_w_in _) (fun v22 e22 h22 => ?_)
  refine wp_ite (fun c => ?_) (fun c => ?_)
  · refine wp_sk i19 (show jm_in _ from jm_w_in _) k19 (by unfold TB; omega) (fun M27 u27 i27 k27 => ?_)
    refine wp_bp (s_fX9_slowAt fu hfu M27 i27 v8 h8) (fun v28 h28 => ?_)
    refine wp_ite (fun c2 => ?_) (fun c2 => ?_)
    · refine wp_bp (s_fX2_freeTime fu hfu M27 i27 r2 r3 v4 v8 hr2 hr3 ⟨by omega, by omega⟩ h8) (fun v32 h32 => ?_)
      refine wp_T c2 ?_
      refine wp_bk (s_fX6_wear M27 i27 r3 hr3) (fun v36 M37 i37 j37 h36 => ?_)
      exact s_gX2_goOn_150 fu hfu M13 l1 r2 r3 v2 v4 v8 v32 M37 i37 (k27.tr j37 (fun _ _ _ h => h)) hl1 hr2 hr3 ⟨by omega, by omega⟩ ⟨by omega, by omega⟩ h8 (by first | exact h32 | exact jm_inL (by omega) (by omega))
    · refine wp_bp (s_fX2_slowTime fu hfu M27 i27 l1 v4 hl1 ⟨by omega, by omega⟩) (fun v38 h38 => ?_)
      refine wp_F c2 ?_
      exact s_gX2_goOn_150 fu hfu M13 l1 r2 r3 v2 v4 v8 v38 M27 i27 k27 hl1 hr2 hr3 ⟨by omega, by omega⟩ ⟨by omega, by omega⟩ h8 (by first | exact h38 | exact jm_inL (by omega) (by omega))
  · refine wp_bk (s_fX6_rest M19 i19 r3 2 v8 hr3 ⟨by omega, by omega⟩ h8) (fun v44 M45 i45 j45 h44 => ?_)
    exact wp_ret ⟨i45, k19.tr j45 (fun _ _ _ h => h), by omega⟩
set_option maxHeartbeats 4000000 in
set_option maxRecDepth 100000 in
theorem s_gX6_start_113 (fu : Nat) (hfu : 4000 ≤ fu) (M0 : jm_M) (k113 : jm_M → Int → Int → Int → jm_R) (N113 : Int) (hk113 : ∀ (r0 r1 l4 : Int) (M : jm_M) (iM : bI bx1 M) (kM : Kp TB M0 M) (hr0 : 0 ≤ r0 ∧ r0 ≤ 5) (hr1 : 0 ≤ r1 ∧ r1 ≤ 5) (hl4 : 0 ≤ l4 ∧ l4 ≤ 4), 5 - l4 < N113 → wp (k113 M r0 r1 l4) (fun r M1 => bI bx1 M1 ∧ Kp TB M0 M1 ∧ (0 ≤ r ∧ r ≤ 0))) : ∀ (r0 r1 l4 : Int) (M : jm_M) (iM : bI bx1 M) (kM : Kp TB M0 M) (hr0 : 0 ≤ r0 ∧ r0 ≤ 5) (hr1 : 0 ≤ r1 ∧ r1 ≤ 5) (hl4 : 0 ≤ l4 ∧ l4 ≤ 4), 5 - l4 < N113 + 1 → wp (gX6_start_113 fu k113 M r0 r1 l4) (fun r M1 => bI bx1 M1 ∧ Kp TB M0 M1 ∧ (0 ≤ r ∧ r ≤ 0)) := by
  intro r0 r1 l4 M iM kM hr0 hr1 hl4 m113
  unfold gX6_start_113
  refine wp_ite (fun c_1 => ?_) (fun c_1 => ?_)
  · skip
    refine wp_bk (s_fJ7_fill_53178_a31_w1 fu hfu M iM r0 (-1) ⟨by omega, by omega⟩ ⟨by omega, by omega⟩ ) (fun v2 M3 iM3 jM3 hv2 => ?_)
    have kM3 := kM.tr jM3 (fun _ _ _ h => h)
    refine wp_bk (s_fJ7_fill_53178_a32_w1 fu hfu M3 iM3 r0 0 ⟨by omega, by omega⟩ ⟨by omega, by omega⟩ ) (fun v4 M5 iM5 jM5 hv4 => ?_)
    have kM5 := kM3.tr jM5 (fun _ _ _ h => h)
    exact wp_ret ⟨iM5, kM5, by omega⟩
  · skip
    refine wp_bp (s_fX7_cell M iM r1 l4 1 ⟨by omega, by omega⟩ (jm_inL (by omega) (by omega)) (jm_inL (by decide) (by decide)) ) (fun v6 hv6 => ?_)
    refine wp_T ⟨by omega, by omega⟩ ?_
    refine wp_sk iM hv6 kM (by unfold TB; omega) (fun M10 u_2 iM10 kM10 => ?_)
    have w_3 : (jm_w (l4 + 1)) = (l4 + 1) := jm_wid (by omega) (by omega)
    refine wp_e (by exact (jm_w_in _)) (fun v11 e_4 hv11 => ?_)
    have b_5 : -2147483648 ≤ v11 ∧ v11 ≤ 2147483647 := hv11
    exact hk113 r0 r1 v11 M10 iM10 kM10 ⟨by omega, by omega⟩ ⟨by omega, by omega⟩ ⟨by omega, by omega⟩  (by omega)
set_option maxHeartbeats 4000000 in
set_option maxRecDepth 100000 in
theorem s_fX6_start_113 (fu : Nat) (hfu : 4000 ≤ fu) (M0 : jm_M) : ∀ (n : Nat) (r0 r1 l4 : Int) (M : jm_M) (iM : bI bx1 M) (kM : Kp TB M0 M) (hr0 : 0 ≤ r0 ∧ r0 ≤ 5) (hr1 : 0 ≤ r1 ∧ r1 ≤ 5) (hl4 : 0 ≤ l4 ∧ l4 ≤ 4), 5 - l4 < (n : Int) → wp (fX6_start_113 fu  n M r0 r1 l4) (fun r M1 => bI bx1 M1 ∧ Kp TB M0 M1 ∧ (0 ≤ r ∧ r ≤ 0)) := by
  intro n
  induction n with
  | zero => intro r0 r1 l4 M iM kM hr0 hr1 hl4 hm; exfalso; omega
  | succ n ih =>
    intro r0 r1 l4 M iM kM hr0 hr1 hl4 hm
    exact s_gX6_start_113 fu hfu M0 (fX6_start_113 fu  n) (n : Int) ih r0 r1 l4 M iM kM hr0 hr1 hl4 (by omega)
set_option maxHeartbeats 4000000 in
set_option maxRecDepth 100000 in
theorem s_gX6_start_82 (fu : Nat) (hfu : 4000 ≤ fu) (M0 : jm_M) : ∀ (r0 r1 s0 t1 : Int) (M : jm_M) (iM : bI bx1 M) (kM : Kp TB M0 M) (hr0 : 0 ≤ r0 ∧ r0 ≤ 5) (hr1 : 0 ≤ r1 ∧ r1 ≤ 5) (hs0 : (-1) ≤ s0 ∧ s0 ≤ 0) (ht1 : 0 ≤ t1 ∧ t1 ≤ 5), wp (gX6_start_82 fu  M r0 r1 s0 t1) (fun r M1 => bI bx1 M1 ∧ Kp TB M0 M1 ∧ (0 ≤ r ∧ r ≤ 0)) := by
  intro r0 r1 s0 t1 M iM kM hr0 hr1 hs0 ht1
  unfold gX6_start_82
  refine wp_sk iM (jm_inL (by omega) (by omega)) kM (by unfold TB; omega) (fun M1 u_1 iM1 kM1 => ?_)
  refine wp_sk iM1 (jm_inL (by decide) (by decide)) kM1 (by unfold TB; omega) (fun M2 u_2 iM2 kM2 => ?_)
  refine wp_sk iM2 (jm_inL (by decide) (by decide)) kM2 (by unfold TB; omega) (fun M3 u_3 iM3 kM3 => ?_)
  refine wp_sk iM3 (jm_inL (by decide) (by decide)) kM3 (by unfold TB; omega) (fun M4 u_4 iM4 kM4 => ?_)
  refine wp_sk iM4 (jm_inL (by decide) (by decide)) kM4 (by unfold TB; omega) (fun M5 u_5 iM5 kM5 => ?_)
  refine wp_sk iM5 (jm_inL (by decide) (by decide)) kM5 (by unfold TB; omega) (fun M6 u_6 iM6 kM6 => ?_)
  exact s_fX6_start_113 fu hfu M0    fu r0 r1 0 M6 iM6 kM6 ⟨by omega, by omega⟩ ⟨by omega, by omega⟩ ⟨by omega, by omega⟩   (by omega)
set_option maxHeartbeats 4000000 in
set_option maxRecDepth 100000 in
theorem s_gX6_start_41 (fu : Nat) (hfu : 4000 ≤ fu) (M0 : jm_M) : ∀ (r0 r1 l3 s0 t1 : Int) (M : jm_M) (iM : bI bx1 M) (kM : Kp TB M0 M) (hr0 : 0 ≤ r0 ∧ r0 ≤ 5) (hr1 : 0 ≤ r1 ∧ r1 ≤ 5) (hl3 : 0 ≤ l3 ∧ l3 ≤ 1) (hs0 : 0 ≤ s0 ∧ s0 ≤ 2) (ht1 : 0 ≤ t1 ∧ t1 ≤ 5), wp (gX6_start_41 fu  M r0 r1 l3 s0 t1) (fun r M1 => bI bx1 M1 ∧ Kp TB M0 M1 ∧ (0 ≤ r ∧ r ≤ 0)) := by
  intro r0 r1 l3 s0 t1 M iM kM hr0 hr1 hl3 hs0 ht1
  unfold gX6_start_41
  refine wp_sk iM (jm_inL (by omega) (by omega)) kM (by unfold TB; omega) (fun M1 u_1 iM1 kM1 => ?_)
  refine wp_sk iM1 (jm_inL (by decide) (by decide)) kM1 (by unfold TB; omega) (fun M2 u_2 iM2 kM2 => ?_)
  refine wp_sk iM2 (jm_inL (by decide) (by decide)) kM2 (by unfold TB; omega) (fun M3 u_3 iM3 kM3 => ?_)
  refine wp_sk iM3 (jm_inL (by decide) (by decide)) kM3 (by unfold TB; omega) (fun M4 u_4 iM4 kM4 => ?_)
  refine wp_sk iM4 (jm_inL (by decide) (by decide)) kM4 (by unfold TB; omega) (fun M5 u_5 iM5 kM5 => ?_)
  have q_6 : (M5 8 r1 5) = (M4 8 r1 5) := by rw [u_5]; exact jm_une_f (by decide)
  have q_7 : (M4 8 r1 5) = (M3 8 r1 5) := by rw [u_4]; exact jm_une_f (by decide)
  have q_8 : (M3 8 r1 5) = (M2 8 r1 5) := by rw [u_3]; exact jm_une_f (by decide)
  have q_9 : (M2 8 r1 5) = (M1 8 r1 5) := by rw [u_2]; exact jm_une_f (by decide)
  have q_10 : (M1 8 r1 5) = (M 8 r1 5) := by rw [u_1]; exact jm_une_f (by decide)
  refine wp_sk iM5 (bx1_in (iM5 8 r1 5)) kM5 (by unfold TB; omega) (fun M7 u_11 iM7 kM7 => ?_)
  refine wp_ite (fun c_12 => ?_) (fun c_12 => ?_)
  · skip
    exact s_gX6_start_82 fu hfu M0    r0 r1 (-1) r0 M7 iM7 kM7 ⟨by omega, by omega⟩ ⟨by omega, by omega⟩ ⟨by omega, by omega⟩ ⟨by omega, by omega⟩  
  · skip
    exact s_gX6_start_82 fu hfu M0    r0 r1 0 r0 M7 iM7 kM7 ⟨by omega, by omega⟩ ⟨by omega, by omega⟩ ⟨by omega, by omega⟩ ⟨by omega, by omega⟩  
set_option maxHeartbeats 4000000 in
set_option maxRecDepth 100000 in
theorem s_gX6_start_30 (fu : Nat) (hfu : 4000 ≤ fu) (M0 : jm_M) : ∀ (r0 r1 s0 : Int) (M : jm_M) (iM : bI bx1 M) (kM : Kp TB M0 M) (hr0 : 0 ≤ r0 ∧ r0 ≤ 5) (hr1 : 0 ≤ r1 ∧ r1 ≤ 5) (hs0 : 0 ≤ s0 ∧ s0 ≤ 1), wp (gX6_start_30 fu  M r0 r1 s0) (fun r M1 => bI bx1 M1 ∧ Kp TB M0 M1 ∧ (0 ≤ r ∧ r ≤ 0)) := by
  intro r0 r1 s0 M iM kM hr0 hr1 hs0
  unfold gX6_start_30
  refine wp_ite (fun c_1 => ?_) (fun c_1 => ?_)
  · skip
    exact s_gX6_start_41 fu hfu M0    r0 r1 s0 2 r0 M iM kM ⟨by omega, by omega⟩ ⟨by omega, by omega⟩ ⟨by omega, by omega⟩ ⟨by omega, by omega⟩ ⟨by omega, by omega⟩  
  · skip
    exact s_gX6_start_41 fu hfu M0    r0 r1 s0 0 r0 M iM kM ⟨by omega, by omega⟩ ⟨by omega, by omega⟩ ⟨by omega, by omega⟩ ⟨by omega, by omega⟩ ⟨by omega, by omega⟩  
theorem s_fX6_start (fu : Nat) (hfu : 4000 ≤ fu) (M : jm_M) (iM : bI bx1 M) (r0 r1 l2 : Int) (hr0 : 0 ≤ r0 ∧ r0 ≤ 5) (hr1 : 0 ≤ r1 ∧ r1 ≤ 5) (hl2 : jm_in l2) : wp (fX6_start fu M r0 r1 l2) (fun r M1 => bI bx1 M1 ∧ Kp TA M M1 ∧ M1 9 r0 1 = 0 ∧ (∀ j : Int, j ≠ r0 → M1 9 j 1 = M 9 j 1)) := by
  unfold fX6_start
  refine wp_sk (T := TA) iM hl2 Kp.rf (by unfold TA; omega) (fun M1 u1 i1 k1 => ?_)
  refine wp_sk i1 (show (0 : Int) ≤ 0 ∧ (0 : Int) ≤ 361 by omega) k1 (by unfold TA; omega) (fun M2 u2 i2 k2 => ?_)
  refine wp_sk i2 (show (0 : Int) ≤ 0 ∧ (0 : Int) ≤ 60 by omega) k2 (by unfold TA; omega) (fun M3 u3 i3 k3 => ?_)
  have e0 : M3 9 r0 1 = 0 := by rw [u3, jm_une_k (by decide), u2]; exact jm_ueq
  have ej : ∀ j : Int, j ≠ r0 → M3 9 j 1 = M 9 j 1 := fun j hj => by rw [u3, jm_une_i hj, u2, jm_une_i hj, u1, jm_une_i hj]
  have fin : ∀ x : jm_R, wp x (fun r M1 => bI bx1 M1 ∧ Kp TB M3 M1 ∧ (0 ≤ r ∧ r ≤ 0)) → wp x (fun r M1 => bI bx1 M1 ∧ Kp TA M M1 ∧ M1 9 r0 1 = 0 ∧ (∀ j : Int, j ≠ r0 → M1 9 j 1 = M 9 j 1)) := fun x h => wp_mono h fun r M4 q => ⟨q.1, k3.tr q.2.1 tt_TA_TB, by rw [q.2.1 9 r0 1 (by unfold TB; omega)]; exact e0, fun j hj => by rw [q.2.1 9 j 1 (by unfold TB; omega)]; exact ej j hj⟩
  refine wp_ite (fun c => ?_) (fun c => ?_)
  · exact fin _ (s_gX6_start_30 fu hfu M3 r0 r1 0 M3 i3 Kp.rf hr0 hr1 ⟨by omega, by omega⟩)
  · exact fin _ (s_gX6_start_30 fu hfu M3 r0 r1 1 M3 i3 Kp.rf hr0 hr1 ⟨by omega, by omega⟩)
theorem s_fX2_run_69 (fu : Nat) (hfu : 4000 ≤ fu) (M0 : jm_M) : ∀ (n : Nat) (M : jm_M) (iM : bI bx1 M) (kM : Kp TA M0 M) (l1 : Int) (hl1 : 0 ≤ l1 ∧ l1 ≤ 361) (hb : ∀ k : Int, 0 ≤ k → k < 6 → k < M 2 0 5 → M 9 k 1 ≤ l1), 362 - l1 < (n : Int) → wp (fX2_run_69 fu n M l1) (fun r M1 => bI bx1 M1 ∧ Kp TA M0 M1 ∧ (0 ≤ r ∧ r ≤ 0)) := by
  intro n
  induction n with
  | zero => intro M iM kM l1 hl1 hb hm; exfalso; omega
  | succ n ih =>
    intro M iM kM l1 hl1 hb hm
    show wp (gX2_run_69 fu (fX2_run_69 fu n) M l1) _
    unfold gX2_run_69
    refine wp_ite (fun c => wp_ret ⟨iM, kM, by omega⟩) (fun c => ?_)
    refine wp_bp (s_fX2_nextToGo fu hfu M iM) (fun v2 h2 => ?_)
    refine wp_bp (s_fX2_has M iM v2 (jm_inL (by omega) (by omega))) (fun v5 h5 => ?_)
    refine wp_ite (fun c2 => wp_ret ⟨iM, kM, by omega⟩) (fun c2 => ?_)
    have hv : 0 ≤ v2 ∧ v2 < M 2 0 5 ∧ v2 < 6 := by omega
    refine wp_T ⟨by omega, by omega⟩ ?_
    refine wp_T ⟨by omega, by omega⟩ ?_
    have hx := hb v2 hv.1 hv.2.2 hv.2.1
    refine wp_b (s_fX2_goOn fu hfu M iM v2 v2 v2 ⟨by omega, by omega⟩ ⟨by omega, by omega⟩ ⟨by omega, by omega⟩ (by omega)) (fun v11 M12 h12 => ?_)
    obtain ⟨i12, k12, b12, o12⟩ := h12
    have w : jm_w (l1 + 1) = l1 + 1 := jm_wid (by omega) (by omega)
    rw [w]
    refine wp_e (jm_inL (by omega) (by omega)) (fun v13 e13 h13 => ?_)
    refine ih M12 i12 (kM.tr k12 (fun _ _ _ h => h)) v13 ⟨by omega, by omega⟩ (fun k a0 a6 ac => ?_) (by omega)
    have ec : M12 2 0 5 = M 2 0 5 := k12 2 0 5 (by unfold TA; omega)
    rw [ec] at ac
    by_cases q : k = v2
    · rw [q]; omega
    · rw [o12 k q]
      have := hb k a0 a6 ac
      omega
theorem s_fX2_run_20 (fu : Nat) (hfu : 4000 ≤ fu) (M0 : jm_M) : ∀ (n : Nat) (M : jm_M) (iM : bI bx1 M) (kM : Kp TA M0 M) (l1 : Int) (hl1 : 0 ≤ l1 ∧ l1 ≤ 6) (hb : ∀ k : Int, 0 ≤ k → k < l1 → M 9 k 1 = 0), 7 - l1 < (n : Int) → wp (fX2_run_20 fu n M l1) (fun r M1 => bI bx1 M1 ∧ Kp TA M0 M1 ∧ (0 ≤ r ∧ r ≤ 0)) := by
  intro n
  induction n with
  | zero => intro M iM kM l1 hl1 hb hm; exfalso; omega
  | succ n ih =>
    intro M iM kM l1 hl1 hb hm
    show wp (gX2_run_20 fu (fX2_run_20 fu n) M l1) _
    unfold gX2_run_20
    refine wp_ite (fun c => ?_) (fun c => ?_)
    · exact s_fX2_run_69 fu hfu M0 fu M iM kM 0 ⟨by omega, by omega⟩ (fun k a0 a6 ac => by rw [hb k a0 (by omega)]; omega) (by omega)
    refine wp_ite (fun c2 => ?_) (fun c2 => ?_)
    · exact s_fX2_run_69 fu hfu M0 fu M iM kM 0 ⟨by omega, by omega⟩ (fun k a0 a6 ac => by rw [hb k a0 (by omega)]; omega) (by omega)
    refine wp_T ⟨by omega, by omega⟩ ?_
    refine wp_T ⟨by omega, by omega⟩ ?_
    refine wp_T ⟨by omega, by omega⟩ ?_
    refine wp_b (s_fX6_start fu hfu M iM l1 l1 _ ⟨by omega, by omega⟩ ⟨by omega, by omega⟩ (jm_w_in _)) (fun v8 M9 h9 => ?_)
    obtain ⟨i9, k9, e9, o9⟩ := h9
    have w : jm_w (l1 + 1) = l1 + 1 := jm_wid (by omega) (by omega)
    rw [w]
    refine wp_e (jm_inL (by omega) (by omega)) (fun v10 e10 h10 => ?_)
    refine ih M9 i9 (kM.tr k9 (fun _ _ _ h => h)) v10 ⟨by omega, by omega⟩ (fun k a0 ac => ?_) (by omega)
    by_cases q : k = l1
    · rw [q]; exact e9
    · rw [o9 k q]; exact hb k a0 (by omega)
theorem s_fX2_run (fu : Nat) (hfu : 4000 ≤ fu) (M : jm_M) (iM : bI bx1 M) : wp (fX2_run fu M) (fun r M1 => bI bx1 M1 ∧ Kp TA M M1 ∧ (0 ≤ r ∧ r ≤ 0)) := by
  unfold fX2_run
  refine wp_sk (T := TA) iM (show jm_in 0 from jm_inL (by decide) (by decide)) Kp.rf (by unfold TA; omega) (fun M1 u1 i1 k1 => ?_)
  refine wp_sk i1 (show jm_in 0 from jm_inL (by decide) (by decide)) k1 (by unfold TA; omega) (fun M2 u2 i2 k2 => ?_)
  refine wp_bk (s_fJ7_fill_53178_a34_w1 fu hfu M2 i2 0 ⟨by omega, by omega⟩) (fun v3 M4 i4 j4 h3 => ?_)
  exact s_fX2_run_20 fu hfu M fu M4 i4 (k2.tr j4 tt_TA_TB) 0 ⟨by omega, by omega⟩ (fun k a0 ac => by omega) (by omega)
set_option maxHeartbeats 4000000 in
set_option maxRecDepth 100000 in
theorem s_fX2_lapsEnded (M : jm_M) (iM : bI bx1 M) (l1 : Int) (hl1 : 0 ≤ l1 ∧ l1 ≤ 5) : wp (fX2_lapsEnded M l1) (fun r M1 => M1 = M ∧ (0 ≤ r ∧ r ≤ 361)) := by
  unfold fX2_lapsEnded
  refine wp_bp (s_fX2_has M iM l1 (jm_inL (by omega) (by omega)) ) (fun v1 hv1 => ?_)
  have b_1 : 0 ≤ (M 2 0 5) ∧ (M 2 0 5) ≤ 6 := iM 2 0 5
  refine wp_ite (fun c_2 => ?_) (fun c_2 => ?_)
  · skip
    exact wp_ret ⟨rfl, by omega⟩
  · skip
    refine wp_T ⟨by omega, by omega⟩ ?_
    have b_3 : 0 ≤ (M 9 l1 2) ∧ (M 9 l1 2) ≤ 60 := iM 9 l1 2
    refine wp_bp (s_fX9_lapOf M iM (M 9 l1 2) ⟨by omega, by omega⟩ ) (fun v7 hv7 => ?_)
    exact wp_ret ⟨rfl, by omega⟩
set_option maxHeartbeats 4000000 in
set_option maxRecDepth 100000 in
theorem s_gX5_reckonFor_103 (fu : Nat) (hfu : 4000 ≤ fu) (M0 : jm_M) (k2 : jm_M → Int → Int → jm_R) (N2 : Int) (hk2 : ∀ (l1 l2 : Int) (M : jm_M) (iM : bI bx1 M) (kM : Kp TJ M0 M) (hl1 : 0 ≤ l1 ∧ l1 ≤ 99) (hl2 : 0 ≤ l2 ∧ l2 ≤ 6), 7 - l2 < N2 → wp (k2 M l1 l2) (fun r M1 => bI bx1 M1 ∧ Kp TJ M0 M1 ∧ (0 ≤ r ∧ r ≤ 0))) : ∀ (l1 l2 r3 l4 s0 s1 : Int) (M : jm_M) (iM : bI bx1 M) (kM : Kp TJ M0 M) (hl1 : 0 ≤ l1 ∧ l1 ≤ 99) (hl2 : 0 ≤ l2 ∧ l2 ≤ 5) (hr3 : 0 ≤ r3 ∧ r3 ≤ 5) (hl4 : jm_in l4) (hs0 : 0 ≤ s0 ∧ s0 ≤ 1) (hs1 : 0 ≤ s1 ∧ s1 ≤ 5), 7 - l2 < N2 + 1 → wp (gX5_reckonFor_103 fu k2 M l1 l2 r3 l4 s0 s1) (fun r M1 => bI bx1 M1 ∧ Kp TJ M0 M1 ∧ (0 ≤ r ∧ r ≤ 0)) := by
  intro l1 l2 r3 l4 s0 s1 M iM kM hl1 hl2 hr3 hl4 hs0 hs1 m2
  unfold gX5_reckonFor_103
  refine wp_T ⟨by omega, by omega⟩ ?_
  refine wp_T (by omega) ?_
  refine wp_sk iM (jm_inL (by omega) (by omega)) kM (by unfold TJ; omega) (fun M2 u_1 iM2 kM2 => ?_)
  refine wp_bp (s_fX0_timeBy fu hfu M2 iM2 l2 l1 ⟨by omega, by omega⟩ ⟨by omega, by omega⟩ ) (fun v5 hv5 => ?_)
  refine wp_T ⟨by omega, by omega⟩ ?_
  have q_2 : (M2 9 r3 4) = (M 9 r3 4) := by rw [u_1]; exact jm_une_f (by decide)
  have r_3 : (jm_w ((M2 9 r3 4) + (jm_w (1000 * l4)))) = (jm_w ((M 9 r3 4) + (jm_w (1000 * l4)))) := congrArg jm_w (by omega)
  have r_4 : (jm_w ((jm_w ((M2 9 r3 4) + (jm_w (1000 * l4)))) + v5)) = (jm_w ((jm_w ((M 9 r3 4) + (jm_w (1000 * l4)))) + v5)) := congrArg jm_w (by omega)
  refine wp_sk iM2 (jm_w_in _) kM2 (by unfold TJ; omega) (fun M9 u_5 iM9 kM9 => ?_)
  have w_6 : (jm_w (l2 + 1)) = (l2 + 1) := jm_wid (by omega) (by omega)
  refine wp_e (by exact (jm_w_in _)) (fun v10 e_7 hv10 => ?_)
  have b_8 : -2147483648 ≤ v10 ∧ v10 ≤ 2147483647 := hv10
  exact hk2 l1 v10 M9 iM9 kM9 ⟨by omega, by omega⟩ ⟨by omega, by omega⟩  (by omega)
set_option maxHeartbeats 4000000 in
set_option maxRecDepth 100000 in
theorem s_gX5_reckonFor_2 (fu : Nat) (hfu : 4000 ≤ fu) (M0 : jm_M) (k2 : jm_M → Int → Int → jm_R) (N2 : Int) (hk2 : ∀ (l1 l2 : Int) (M : jm_M) (iM : bI bx1 M) (kM : Kp TJ M0 M) (hl1 : 0 ≤ l1 ∧ l1 ≤ 99) (hl2 : 0 ≤ l2 ∧ l2 ≤ 6), 7 - l2 < N2 → wp (k2 M l1 l2) (fun r M1 => bI bx1 M1 ∧ Kp TJ M0 M1 ∧ (0 ≤ r ∧ r ≤ 0))) : ∀ (l1 l2 : Int) (M : jm_M) (iM : bI bx1 M) (kM : Kp TJ M0 M) (hl1 : 0 ≤ l1 ∧ l1 ≤ 99) (hl2 : 0 ≤ l2 ∧ l2 ≤ 6), 7 - l2 < N2 + 1 → wp (gX5_reckonFor_2 fu k2 M l1 l2) (fun r M1 => bI bx1 M1 ∧ Kp TJ M0 M1 ∧ (0 ≤ r ∧ r ≤ 0)) := by
  intro l1 l2 M iM kM hl1 hl2 m2
  unfold gX5_reckonFor_2
  have b_2 : 0 ≤ (M 2 0 5) ∧ (M 2 0 5) ≤ 6 := iM 2 0 5
  refine wp_ite (fun c_1 => ?_) (fun c_1 => ?_)
  · skip
    exact wp_ret ⟨iM, kM, by omega⟩
  · skip
    refine wp_F (by omega) ?_
    refine wp_T ⟨by omega, by omega⟩ ?_
    refine wp_bp (s_fX2_lapsEnded M iM l2 ⟨by omega, by omega⟩ ) (fun v5 hv5 => ?_)
    refine wp_T ⟨by omega, by omega⟩ ?_
    refine wp_sk iM (jm_inL (by omega) (by omega)) kM (by unfold TJ; omega) (fun M9 u_4 iM9 kM9 => ?_)
    refine wp_T ⟨by omega, by omega⟩ ?_
    refine wp_T ⟨by omega, by omega⟩ ?_
    refine wp_bp (s_fX0_weightBy fu hfu M9 iM9 l2 l1 ⟨by omega, by omega⟩ ⟨by omega, by omega⟩ ) (fun v13 hv13 => ?_)
    have q_5 : (M9 37 0 l2) = v5 := by rw [u_4]; exact jm_ueq
    refine wp_bk (s_fX0_secondsBy fu hfu M9 iM9 l2 l2 (M9 37 0 l2) v13 l1 ⟨by omega, by omega⟩ ⟨by omega, by omega⟩ (bx1_in (iM9 37 0 l2)) hv13 ⟨by omega, by omega⟩ ) (fun v16 M17 iM17 jM17 hv16 => ?_)
    have kM17 := kM9.tr jM17 (fun _ _ _ h => h)
    have q_6 : (M17 9 l2 3) = (M9 9 l2 3) := jM17 9 l2 3 (by unfold TJ; omega)
    have q_7 : (M9 9 l2 3) = (M 9 l2 3) := by rw [u_4]; exact jm_une_f (by decide)
    have b_9 : (-2147483648) ≤ (M 9 l2 3) ∧ (M 9 l2 3) ≤ 2147483647 := iM 9 l2 3
    refine wp_ite (fun c_8 => ?_) (fun c_8 => ?_)
    · skip
      have b_10 : -2147483648 ≤ v16 ∧ v16 ≤ 2147483647 := hv16
      exact s_gX5_reckonFor_103 fu hfu M0 k2 N2 hk2 l1 l2 l2 v16 0 l2 M17 iM17 kM17 ⟨by omega, by omega⟩ ⟨by omega, by omega⟩ ⟨by omega, by omega⟩ hv16 ⟨by omega, by omega⟩ ⟨by omega, by omega⟩  (by omega)
    · skip
      have b_12 : -2147483648 ≤ v16 ∧ v16 ≤ 2147483647 := hv16
      refine wp_ite (fun c_11 => ?_) (fun c_11 => ?_)
      · skip
        exact s_gX5_reckonFor_103 fu hfu M0 k2 N2 hk2 l1 l2 l2 v16 0 l2 M17 iM17 kM17 ⟨by omega, by omega⟩ ⟨by omega, by omega⟩ ⟨by omega, by omega⟩ hv16 ⟨by omega, by omega⟩ ⟨by omega, by omega⟩  (by omega)
      · skip
        exact s_gX5_reckonFor_103 fu hfu M0 k2 N2 hk2 l1 l2 l2 v16 1 l2 M17 iM17 kM17 ⟨by omega, by omega⟩ ⟨by omega, by omega⟩ ⟨by omega, by omega⟩ hv16 ⟨by omega, by omega⟩ ⟨by omega, by omega⟩  (by omega)
set_option maxHeartbeats 4000000 in
set_option maxRecDepth 100000 in
theorem s_fX5_reckonFor_2 (fu : Nat) (hfu : 4000 ≤ fu) (M0 : jm_M) : ∀ (n : Nat) (l1 l2 : Int) (M : jm_M) (iM : bI bx1 M) (kM : Kp TJ M0 M) (hl1 : 0 ≤ l1 ∧ l1 ≤ 99) (hl2 : 0 ≤ l2 ∧ l2 ≤ 6), 7 - l2 < (n : Int) → wp (fX5_reckonFor_2 fu  n M l1 l2) (fun r M1 => bI bx1 M1 ∧ Kp TJ M0 M1 ∧ (0 ≤ r ∧ r ≤ 0)) := by
  intro n
  induction n with
  | zero => intro l1 l2 M iM kM hl1 hl2 hm; exfalso; omega
  | succ n ih =>
    intro l1 l2 M iM kM hl1 hl2 hm
    exact s_gX5_reckonFor_2 fu hfu M0 (fX5_reckonFor_2 fu  n) (n : Int) ih l1 l2 M iM kM hl1 hl2 (by omega)
set_option maxHeartbeats 4000000 in
set_option maxRecDepth 100000 in
theorem s_fX5_reckonFor (fu : Nat) (hfu : 4000 ≤ fu) (M : jm_M) (iM : bI bx1 M) (l1 : Int) (hl1 : 0 ≤ l1 ∧ l1 ≤ 99) : wp (fX5_reckonFor fu M l1) (fun r M1 => bI bx1 M1 ∧ Kp TJ M M1 ∧ (0 ≤ r ∧ r ≤ 0)) := by
  have kM : Kp TJ M M := Kp.rf
  unfold fX5_reckonFor
  exact s_fX5_reckonFor_2 fu hfu M    fu l1 0 M iM kM ⟨by omega, by omega⟩ ⟨by omega, by omega⟩   (by omega)
set_option maxHeartbeats 4000000 in
set_option maxRecDepth 100000 in
theorem s_fX5_isAhead (M : jm_M) (iM : bI bx1 M) (l1 l2 : Int) (hl1 : 0 ≤ l1 ∧ l1 ≤ 5) (hl2 : 0 ≤ l2 ∧ l2 ≤ 5) : wp (fX5_isAhead M l1 l2) (fun r M1 => M1 = M ∧ (0 ≤ r ∧ r ≤ 1)) := by
  unfold fX5_isAhead
  refine wp_T ⟨by omega, by omega⟩ ?_
  refine wp_T ⟨by omega, by omega⟩ ?_
  have b_2 : (-2147483648) ≤ (M 37 0 l1) ∧ (M 37 0 l1) ≤ 2147483647 := iM 37 0 l1
  have b_3 : (-2147483648) ≤ (M 37 0 l2) ∧ (M 37 0 l2) ≤ 2147483647 := iM 37 0 l2
  refine wp_ite (fun c_1 => ?_) (fun c_1 => ?_)
  · skip
    refine wp_T ⟨by omega, by omega⟩ ?_
    refine wp_T ⟨by omega, by omega⟩ ?_
    have b_5 : (-2147483648) ≤ (M 38 0 l1) ∧ (M 38 0 l1) ≤ 2147483647 := iM 38 0 l1
    have b_6 : (-2147483648) ≤ (M 38 0 l2) ∧ (M 38 0 l2) ≤ 2147483647 := iM 38 0 l2
    refine wp_ite (fun c_4 => ?_) (fun c_4 => ?_)
    · skip
      exact wp_ret ⟨rfl, by omega⟩
    · skip
      refine wp_T ⟨by omega, by omega⟩ ?_
      refine wp_T ⟨by omega, by omega⟩ ?_
      refine wp_ite (fun c_7 => ?_) (fun c_7 => ?_)
      · skip
        refine wp_ite (fun c_8 => ?_) (fun c_8 => ?_)
        · skip
          exact wp_ret ⟨rfl, by omega⟩
        · skip
          exact wp_ret ⟨rfl, by omega⟩
      · skip
        exact wp_ret ⟨rfl, by omega⟩
  · skip
    refine wp_T ⟨by omega, by omega⟩ ?_
    refine wp_T ⟨by omega, by omega⟩ ?_
    refine wp_ite (fun c_9 => ?_) (fun c_9 => ?_)
    · skip
      exact wp_ret ⟨rfl, by omega⟩
    · skip
      exact wp_ret ⟨rfl, by omega⟩
set_option maxHeartbeats 4000000 in
set_option maxRecDepth 100000 in
theorem s_gX5_placeAmong_83 (fu : Nat) (hfu : 4000 ≤ fu) (M : jm_M) (iM : bI bx1 M) (k27 : jm_M → Int → Int → Int → Int → jm_R) (N27 : Int) (hk27 : ∀ (l1 l2 l3 l4 : Int) (hl1 : 0 ≤ l1 ∧ l1 ≤ 5) (hl2 : jm_in l2) (hl3 : jm_in l3) (hl4 : 0 ≤ l4 ∧ l4 ≤ 6), 7 - l4 < N27 → wp (k27 M l1 l2 l3 l4) (fun r M1 => M1 = M ∧ (jm_in r))) : ∀ (l1 l2 l3 l4 s0 : Int) (hl1 : 0 ≤ l1 ∧ l1 ≤ 5) (hl2 : jm_in l2) (hl3 : jm_in l3) (hl4 : 0 ≤ l4 ∧ l4 ≤ 5) (hs0 : 0 ≤ s0 ∧ s0 ≤ 1), 7 - l4 < N27 + 1 → wp (gX5_placeAmong_83 fu k27 M l1 l2 l3 l4 s0) (fun r M1 => M1 = M ∧ (jm_in r)) := by
  intro l1 l2 l3 l4 s0 hl1 hl2 hl3 hl4 hs0 m27
  unfold gX5_placeAmong_83
  refine wp_ite (fun c_1 => ?_) (fun c_1 => ?_)
  · skip
    have w_2 : (jm_w (l4 + 1)) = (l4 + 1) := jm_wid (by omega) (by omega)
    refine wp_e (by exact (jm_w_in _)) (fun v2 e_3 hv2 => ?_)
    have b_4 : -2147483648 ≤ v2 ∧ v2 ≤ 2147483647 := hv2
    have b_5 : -2147483648 ≤ l2 ∧ l2 ≤ 2147483647 := hl2
    have b_6 : -2147483648 ≤ l3 ∧ l3 ≤ 2147483647 := hl3
    exact hk27 l1 l2 l3 v2  ⟨by omega, by omega⟩ hl2 hl3 ⟨by omega, by omega⟩  (by omega)
  · skip
    refine wp_bp (s_fX5_isAhead M iM l4 l1 ⟨by omega, by omega⟩ ⟨by omega, by omega⟩ ) (fun v4 hv4 => ?_)
    refine wp_ite (fun c_7 => ?_) (fun c_7 => ?_)
    · skip
      have w_8 : (jm_w (l4 + 1)) = (l4 + 1) := jm_wid (by omega) (by omega)
      refine wp_e (by exact (jm_w_in _)) (fun v8 e_9 hv8 => ?_)
      have b_10 : -2147483648 ≤ v8 ∧ v8 ≤ 2147483647 := hv8
      have b_11 : -2147483648 ≤ l2 ∧ l2 ≤ 2147483647 := hl2
      have b_12 : -2147483648 ≤ l3 ∧ l3 ≤ 2147483647 := hl3
      exact hk27 l1 l2 l3 v8  ⟨by omega, by omega⟩ hl2 hl3 ⟨by omega, by omega⟩  (by omega)
    · skip
      have b_13 : -2147483648 ≤ l3 ∧ l3 ≤ 2147483647 := hl3
      have w_14 : -2147483648 ≤ (jm_w (l3 + 1)) ∧ (jm_w (l3 + 1)) ≤ 2147483647 := jm_w_in _
      refine wp_e (by exact (jm_w_in _)) (fun v10 e_15 hv10 => ?_)
      have w_16 : (jm_w (l4 + 1)) = (l4 + 1) := jm_wid (by omega) (by omega)
      refine wp_e (by exact (jm_w_in _)) (fun v12 e_17 hv12 => ?_)
      have b_18 : -2147483648 ≤ v12 ∧ v12 ≤ 2147483647 := hv12
      have b_19 : -2147483648 ≤ l2 ∧ l2 ≤ 2147483647 := hl2
      have b_20 : -2147483648 ≤ v10 ∧ v10 ≤ 2147483647 := hv10
      exact hk27 l1 l2 v10 v12  ⟨by omega, by omega⟩ hl2 hv10 ⟨by omega, by omega⟩  (by omega)
set_option maxHeartbeats 4000000 in
set_option maxRecDepth 100000 in
theorem s_gX5_placeAmong_27 (fu : Nat) (hfu : 4000 ≤ fu) (M : jm_M) (iM : bI bx1 M) (k27 : jm_M → Int → Int → Int → Int → jm_R) (N27 : Int) (hk27 : ∀ (l1 l2 l3 l4 : Int) (hl1 : 0 ≤ l1 ∧ l1 ≤ 5) (hl2 : jm_in l2) (hl3 : jm_in l3) (hl4 : 0 ≤ l4 ∧ l4 ≤ 6), 7 - l4 < N27 → wp (k27 M l1 l2 l3 l4) (fun r M1 => M1 = M ∧ (jm_in r))) : ∀ (l1 l2 l3 l4 : Int) (hl1 : 0 ≤ l1 ∧ l1 ≤ 5) (hl2 : jm_in l2) (hl3 : jm_in l3) (hl4 : 0 ≤ l4 ∧ l4 ≤ 6), 7 - l4 < N27 + 1 → wp (gX5_placeAmong_27 fu k27 M l1 l2 l3 l4) (fun r M1 => M1 = M ∧ (jm_in r)) := by
  intro l1 l2 l3 l4 hl1 hl2 hl3 hl4 m27
  unfold gX5_placeAmong_27
  have b_2 : 0 ≤ (M 2 0 5) ∧ (M 2 0 5) ≤ 6 := iM 2 0 5
  refine wp_ite (fun c_1 => ?_) (fun c_1 => ?_)
  · skip
    have b_3 : -2147483648 ≤ l3 ∧ l3 ≤ 2147483647 := hl3
    exact wp_ret ⟨rfl, hl3⟩
  · skip
    refine wp_F (by omega) ?_
    refine wp_T ⟨by omega, by omega⟩ ?_
    have b_6 : (-2147483648) ≤ (M 36 0 l4) ∧ (M 36 0 l4) ≤ 2147483647 := iM 36 0 l4
    refine wp_ite (fun c_5 => ?_) (fun c_5 => ?_)
    · skip
      have b_7 : -2147483648 ≤ l2 ∧ l2 ≤ 2147483647 := hl2
      have b_8 : -2147483648 ≤ l3 ∧ l3 ≤ 2147483647 := hl3
      exact s_gX5_placeAmong_83 fu hfu M iM k27 N27 hk27 l1 l2 l3 l4 0  ⟨by omega, by omega⟩ hl2 hl3 ⟨by omega, by omega⟩ ⟨by omega, by omega⟩  (by omega)
    · skip
      have b_10 : -2147483648 ≤ l2 ∧ l2 ≤ 2147483647 := hl2
      refine wp_ite (fun c_9 => ?_) (fun c_9 => ?_)
      · skip
        have b_11 : -2147483648 ≤ l3 ∧ l3 ≤ 2147483647 := hl3
        exact s_gX5_placeAmong_83 fu hfu M iM k27 N27 hk27 l1 l2 l3 l4 1  ⟨by omega, by omega⟩ hl2 hl3 ⟨by omega, by omega⟩ ⟨by omega, by omega⟩  (by omega)
      · skip
        refine wp_T ⟨by omega, by omega⟩ ?_
        have b_13 : (-2147483648) ≤ (M 8 l4 4) ∧ (M 8 l4 4) ≤ 2147483647 := iM 8 l4 4
        refine wp_ite (fun c_12 => ?_) (fun c_12 => ?_)
        · skip
          have b_14 : -2147483648 ≤ l3 ∧ l3 ≤ 2147483647 := hl3
          exact s_gX5_placeAmong_83 fu hfu M iM k27 N27 hk27 l1 l2 l3 l4 1  ⟨by omega, by omega⟩ hl2 hl3 ⟨by omega, by omega⟩ ⟨by omega, by omega⟩  (by omega)
        · skip
          have b_15 : -2147483648 ≤ l3 ∧ l3 ≤ 2147483647 := hl3
          exact s_gX5_placeAmong_83 fu hfu M iM k27 N27 hk27 l1 l2 l3 l4 0  ⟨by omega, by omega⟩ hl2 hl3 ⟨by omega, by omega⟩ ⟨by omega, by omega⟩  (by omega)
set_option maxHeartbeats 4000000 in
set_option maxRecDepth 100000 in
theorem s_fX5_placeAmong_27 (fu : Nat) (hfu : 4000 ≤ fu) (M : jm_M) (iM : bI bx1 M) : ∀ (n : Nat) (l1 l2 l3 l4 : Int) (hl1 : 0 ≤ l1 ∧ l1 ≤ 5) (hl2 : jm_in l2) (hl3 : jm_in l3) (hl4 : 0 ≤ l4 ∧ l4 ≤ 6), 7 - l4 < (n : Int) → wp (fX5_placeAmong_27 fu  n M l1 l2 l3 l4) (fun r M1 => M1 = M ∧ (jm_in r)) := by
  intro n
  induction n with
  | zero => intro l1 l2 l3 l4 hl1 hl2 hl3 hl4 hm; exfalso; omega
  | succ n ih =>
    intro l1 l2 l3 l4 hl1 hl2 hl3 hl4 hm
    exact s_gX5_placeAmong_27 fu hfu M iM (fX5_placeAmong_27 fu  n) (n : Int) ih l1 l2 l3 l4 hl1 hl2 hl3 hl4 (by omega)
set_option maxHeartbeats 4000000 in
set_option maxRecDepth 100000 in
theorem s_fX5_placeAmong (fu : Nat) (hfu : 4000 ≤ fu) (M : jm_M) (iM : bI bx1 M) (l1 l2 : Int) (hl1 : 0 ≤ l1 ∧ l1 ≤ 5) (hl2 : jm_in l2) : wp (fX5_placeAmong fu M l1 l2) (fun r M1 => M1 = M ∧ (jm_in r)) := by
  unfold fX5_placeAmong
  refine wp_bp (s_fX2_has M iM l1 (jm_inL (by omega) (by omega)) ) (fun v1 hv1 => ?_)
  have b_1 : 0 ≤ (M 2 0 5) ∧ (M 2 0 5) ≤ 6 := iM 2 0 5
  refine wp_ite (fun c_2 => ?_) (fun c_2 => ?_)
  · skip
    exact wp_ret ⟨rfl, (jm_inL (by decide) (by decide))⟩
  · skip
    refine wp_T ⟨by omega, by omega⟩ ?_
    have b_4 : (-2147483648) ≤ (M 36 0 l1) ∧ (M 36 0 l1) ≤ 2147483647 := iM 36 0 l1
    refine wp_ite (fun c_3 => ?_) (fun c_3 => ?_)
    · skip
      exact wp_ret ⟨rfl, (jm_inL (by decide) (by decide))⟩
    · skip
      have b_5 : -2147483648 ≤ l2 ∧ l2 ≤ 2147483647 := hl2
      exact s_fX5_placeAmong_27 fu hfu M iM    fu l1 l2 0 0  ⟨by omega, by omega⟩ hl2 (jm_inL (by decide) (by decide)) ⟨by omega, by omega⟩   (by omega)
