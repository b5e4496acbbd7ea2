set_option maxHeartbeats 4000000 in
set_option maxRecDepth 100000 in
theorem s_fJ6_bitCount_0f7a4_w2 (M : jm_M) (iM : bI bx2 M) (l0 : Int) (hl0 : jm_in l0) : wp (fJ6_bitCount_0f7a4_w2 M l0) (fun r M1 => M1 = M ∧ (jm_in r)) := by
  unfold fJ6_bitCount_0f7a4_w2
  have b_1 : -2147483648 ≤ l0 ∧ l0 ≤ 2147483647 := hl0
  have f_2 : -2147483648 ≤ (jm_ushr l0 1) ∧ (jm_ushr l0 1) ≤ 2147483647 := jm_ushr_in _ _
  have f_3 : -2147483648 ≤ (jm_and (jm_ushr l0 1) 1431655765) ∧ (jm_and (jm_ushr l0 1) 1431655765) ≤ 2147483647 := jm_and_in _ _
  have w_4 : -2147483648 ≤ (jm_w (l0 - (jm_and (jm_ushr l0 1) 1431655765))) ∧ (jm_w (l0 - (jm_and (jm_ushr l0 1) 1431655765))) ≤ 2147483647 := jm_w_in _
  refine wp_e (by exact (jm_w_in _)) (fun v1 e_5 hv1 => ?_)
  have b_6 : -2147483648 ≤ v1 ∧ v1 ≤ 2147483647 := hv1
  have f_7 : -2147483648 ≤ (jm_and v1 858993459) ∧ (jm_and v1 858993459) ≤ 2147483647 := jm_and_in _ _
  have f_8 : -2147483648 ≤ (jm_ushr v1 2) ∧ (jm_ushr v1 2) ≤ 2147483647 := jm_ushr_in _ _
  have f_9 : -2147483648 ≤ (jm_and (jm_ushr v1 2) 858993459) ∧ (jm_and (jm_ushr v1 2) 858993459) ≤ 2147483647 := jm_and_in _ _
  have w_10 : -2147483648 ≤ (jm_w ((jm_and v1 858993459) + (jm_and (jm_ushr v1 2) 858993459))) ∧ (jm_w ((jm_and v1 858993459) + (jm_and (jm_ushr v1 2) 858993459))) ≤ 2147483647 := jm_w_in _
  refine wp_e (by exact (jm_w_in _)) (fun v3 e_11 hv3 => ?_)
  have b_12 : -2147483648 ≤ v3 ∧ v3 ≤ 2147483647 := hv3
  have f_13 : -2147483648 ≤ (jm_ushr v3 4) ∧ (jm_ushr v3 4) ≤ 2147483647 := jm_ushr_in _ _
  have w_14 : -2147483648 ≤ (jm_w (v3 + (jm_ushr v3 4))) ∧ (jm_w (v3 + (jm_ushr v3 4))) ≤ 2147483647 := jm_w_in _
  have f_15 : -2147483648 ≤ (jm_and (jm_w (v3 + (jm_ushr v3 4))) 252645135) ∧ (jm_and (jm_w (v3 + (jm_ushr v3 4))) 252645135) ≤ 2147483647 := jm_and_in _ _
  refine wp_e (by exact (jm_and_in _ _)) (fun v5 e_16 hv5 => ?_)
  have b_17 : -2147483648 ≤ v5 ∧ v5 ≤ 2147483647 := hv5
  have f_18 : -2147483648 ≤ (jm_ushr v5 8) ∧ (jm_ushr v5 8) ≤ 2147483647 := jm_ushr_in _ _
  have w_19 : -2147483648 ≤ (jm_w (v5 + (jm_ushr v5 8))) ∧ (jm_w (v5 + (jm_ushr v5 8))) ≤ 2147483647 := jm_w_in _
  refine wp_e (by exact (jm_w_in _)) (fun v7 e_20 hv7 => ?_)
  have b_21 : -2147483648 ≤ v7 ∧ v7 ≤ 2147483647 := hv7
  have f_22 : -2147483648 ≤ (jm_ushr v7 16) ∧ (jm_ushr v7 16) ≤ 2147483647 := jm_ushr_in _ _
  have w_23 : -2147483648 ≤ (jm_w (v7 + (jm_ushr v7 16))) ∧ (jm_w (v7 + (jm_ushr v7 16))) ≤ 2147483647 := jm_w_in _
  refine wp_e (by exact (jm_w_in _)) (fun v9 e_24 hv9 => ?_)
  have b_25 : -2147483648 ≤ v9 ∧ v9 ≤ 2147483647 := hv9
  have f_26 : -2147483648 ≤ (jm_and v9 63) ∧ (jm_and v9 63) ≤ 2147483647 := jm_and_in _ _
  exact wp_ret ⟨rfl, (jm_and_in _ _)⟩
set_option maxHeartbeats 4000000 in
set_option maxRecDepth 100000 in
theorem s_fX12_act (M : jm_M) (iM : bI bx2 M) (l0 : Int) (hl0 : 0 ≤ l0 ∧ l0 ≤ 255) : wp (fX12_act M l0) (fun r M1 => M1 = M ∧ ((-200) ≤ r ∧ r ≤ 55)) := by
  unfold fX12_act
  have w_1 : (jm_w (l0 - 200)) = (l0 - 200) := jm_wid (by omega) (by omega)
  exact wp_ret ⟨rfl, by omega⟩
set_option maxHeartbeats 4000000 in
set_option maxRecDepth 100000 in
theorem s_fX12_truth (M : jm_M) (iM : bI bx2 M) (l0 : Int) (hl0 : jm_in l0) : wp (fX12_truth M l0) (fun r M1 => M1 = M ∧ (0 ≤ r ∧ r ≤ 1)) := by
  unfold fX12_truth
  have b_2 : -2147483648 ≤ l0 ∧ l0 ≤ 2147483647 := hl0
  refine wp_ite (fun c_1 => ?_) (fun c_1 => ?_)
  · skip
    exact wp_ret ⟨rfl, by omega⟩
  · skip
    exact wp_ret ⟨rfl, by omega⟩
set_option maxHeartbeats 4000000 in
set_option maxRecDepth 100000 in
theorem s_fX12_acted (M : jm_M) (iM : bI bx2 M) (l0 l1 l2 : Int) (hl0 : jm_in l0) (hl1 : jm_in l1) (hl2 : jm_in l2) : wp (fX12_acted M l0 l1 l2) (fun r M1 => M1 = M ∧ (jm_in r)) := by
  unfold fX12_acted
  have b_2 : -2147483648 ≤ l0 ∧ l0 ≤ 2147483647 := hl0
  refine wp_ite (fun c_1 => ?_) (fun c_1 => ?_)
  · skip
    have b_4 : -2147483648 ≤ l1 ∧ l1 ≤ 2147483647 := hl1
    refine wp_ite (fun c_3 => ?_) (fun c_3 => ?_)
    · skip
      refine wp_bp (s_fX12_truth M iM 0 (jm_inL (by decide) (by decide)) ) (fun v3 hv3 => ?_)
      exact wp_ret ⟨rfl, (jm_inL (by omega) (by omega))⟩
    · skip
      have b_6 : -2147483648 ≤ l2 ∧ l2 ≤ 2147483647 := hl2
      refine wp_ite (fun c_5 => ?_) (fun c_5 => ?_)
      · skip
        refine wp_bp (s_fX12_truth M iM 0 (jm_inL (by decide) (by decide)) ) (fun v7 hv7 => ?_)
        exact wp_ret ⟨rfl, (jm_inL (by omega) (by omega))⟩
      · skip
        refine wp_bp (s_fX12_truth M iM 1 (jm_inL (by decide) (by decide)) ) (fun v10 hv10 => ?_)
        exact wp_ret ⟨rfl, (jm_inL (by omega) (by omega))⟩
  · skip
    refine wp_ite (fun c_7 => ?_) (fun c_7 => ?_)
    · skip
      have b_8 : -2147483648 ≤ l1 ∧ l1 ≤ 2147483647 := hl1
      have b_9 : -2147483648 ≤ l2 ∧ l2 ≤ 2147483647 := hl2
      have w_10 : -2147483648 ≤ (jm_w (l1 * l2)) ∧ (jm_w (l1 * l2)) ≤ 2147483647 := jm_w_in _
      exact wp_ret ⟨rfl, (jm_w_in _)⟩
    · skip
      refine wp_ite (fun c_11 => ?_) (fun c_11 => ?_)
      · skip
        have b_12 : -2147483648 ≤ l1 ∧ l1 ≤ 2147483647 := hl1
        have b_13 : -2147483648 ≤ l2 ∧ l2 ≤ 2147483647 := hl2
        have w_14 : -2147483648 ≤ (jm_w (l1 + l2)) ∧ (jm_w (l1 + l2)) ≤ 2147483647 := jm_w_in _
        exact wp_ret ⟨rfl, (jm_w_in _)⟩
      · skip
        refine wp_ite (fun c_15 => ?_) (fun c_15 => ?_)
        · skip
          have b_16 : -2147483648 ≤ l1 ∧ l1 ≤ 2147483647 := hl1
          have b_17 : -2147483648 ≤ l2 ∧ l2 ≤ 2147483647 := hl2
          have w_18 : -2147483648 ≤ (jm_w (l1 - l2)) ∧ (jm_w (l1 - l2)) ≤ 2147483647 := jm_w_in _
          exact wp_ret ⟨rfl, (jm_w_in _)⟩
        · skip
          refine wp_ite (fun c_19 => ?_) (fun c_19 => ?_)
          · skip
            have b_21 : -2147483648 ≤ l2 ∧ l2 ≤ 2147483647 := hl2
            have b_22 : -2147483648 ≤ l1 ∧ l1 ≤ 2147483647 := hl1
            refine wp_ite (fun c_20 => ?_) (fun c_20 => ?_)
            · skip
              refine wp_bp (s_fX12_truth M iM 0 (jm_inL (by decide) (by decide)) ) (fun v18 hv18 => ?_)
              exact wp_ret ⟨rfl, (jm_inL (by omega) (by omega))⟩
            · skip
              refine wp_bp (s_fX12_truth M iM 1 (jm_inL (by decide) (by decide)) ) (fun v21 hv21 => ?_)
              exact wp_ret ⟨rfl, (jm_inL (by omega) (by omega))⟩
          · skip
            refine wp_ite (fun c_23 => ?_) (fun c_23 => ?_)
            · skip
              have b_25 : -2147483648 ≤ l1 ∧ l1 ≤ 2147483647 := hl1
              have b_26 : -2147483648 ≤ l2 ∧ l2 ≤ 2147483647 := hl2
              refine wp_ite (fun c_24 => ?_) (fun c_24 => ?_)
              · skip
                refine wp_bp (s_fX12_truth M iM 1 (jm_inL (by decide) (by decide)) ) (fun v26 hv26 => ?_)
                exact wp_ret ⟨rfl, (jm_inL (by omega) (by omega))⟩
              · skip
                refine wp_bp (s_fX12_truth M iM 0 (jm_inL (by decide) (by decide)) ) (fun v29 hv29 => ?_)
                exact wp_ret ⟨rfl, (jm_inL (by omega) (by omega))⟩
            · skip
              refine wp_ite (fun c_27 => ?_) (fun c_27 => ?_)
              · skip
                have b_29 : -2147483648 ≤ l1 ∧ l1 ≤ 2147483647 := hl1
                have b_30 : -2147483648 ≤ l2 ∧ l2 ≤ 2147483647 := hl2
                refine wp_ite (fun c_28 => ?_) (fun c_28 => ?_)
                · skip
                  refine wp_bp (s_fX12_truth M iM 0 (jm_inL (by decide) (by decide)) ) (fun v34 hv34 => ?_)
                  exact wp_ret ⟨rfl, (jm_inL (by omega) (by omega))⟩
                · skip
                  refine wp_bp (s_fX12_truth M iM 1 (jm_inL (by decide) (by decide)) ) (fun v37 hv37 => ?_)
                  exact wp_ret ⟨rfl, (jm_inL (by omega) (by omega))⟩
              · skip
                have b_32 : -2147483648 ≤ l1 ∧ l1 ≤ 2147483647 := hl1
                refine wp_ite (fun c_31 => ?_) (fun c_31 => ?_)
                · skip
                  have b_34 : -2147483648 ≤ l2 ∧ l2 ≤ 2147483647 := hl2
                  refine wp_ite (fun c_33 => ?_) (fun c_33 => ?_)
                  · skip
                    refine wp_bp (s_fX12_truth M iM 0 (jm_inL (by decide) (by decide)) ) (fun v43 hv43 => ?_)
                    exact wp_ret ⟨rfl, (jm_inL (by omega) (by omega))⟩
                  · skip
                    refine wp_bp (s_fX12_truth M iM 1 (jm_inL (by decide) (by decide)) ) (fun v46 hv46 => ?_)
                    exact wp_ret ⟨rfl, (jm_inL (by omega) (by omega))⟩
                · skip
                  refine wp_bp (s_fX12_truth M iM 1 (jm_inL (by decide) (by decide)) ) (fun v49 hv49 => ?_)
                  exact wp_ret ⟨rfl, (jm_inL (by omega) (by omega))⟩
set_option maxHeartbeats 4000000 in
set_option maxRecDepth 100000 in
theorem s_fX12_in (M : jm_M) (iM : bI bx2 M) (l0 l2 l4 : Int) (hl0 : jm_in l0) (hl2 : (-60000) ≤ l2 ∧ l2 ≤ 5000) (hl4 : (-1) ≤ l4 ∧ l4 ≤ 60000) : wp (fX12_in M l0 l2 l4) (fun r M1 => M1 = M ∧ ((r = 1 ∧ l2 ≤ l0 ∧ l0 ≤ l4) ∨ (r = 0 ∧ ¬ (l2 ≤ l0 ∧ l0 ≤ l4)))) := by
  unfold fX12_in
  have b_2 : -2147483648 ≤ l0 ∧ l0 ≤ 2147483647 := hl0
  refine wp_ite (fun c_1 => ?_) (fun c_1 => ?_)
  · skip
    exact wp_ret ⟨rfl, by omega⟩
  · skip
    refine wp_ite (fun c_3 => ?_) (fun c_3 => ?_)
    · skip
      exact wp_ret ⟨rfl, by omega⟩
    · skip
      exact wp_ret ⟨rfl, by omega⟩
set_option maxHeartbeats 4000000 in
set_option maxRecDepth 100000 in
theorem s_fX12_isCar (M : jm_M) (iM : bI bx2 M) (l1 : Int) (hl1 : jm_in l1) : wp (fX12_isCar M l1) (fun r M1 => M1 = M ∧ ((r = 1 ∧ 0 ≤ l1 ∧ l1 < (M 0 0 17)) ∨ (r = 0 ∧ ¬ (0 ≤ l1 ∧ l1 < (M 0 0 17))))) := by
  unfold fX12_isCar
  have b_1 : 0 ≤ (M 0 0 17) ∧ (M 0 0 17) ≤ 6 := iM 0 0 17
  have w_2 : (jm_w ((M 0 0 17) - 1)) = ((M 0 0 17) - 1) := jm_wid (by omega) (by omega)
  refine wp_bp (s_fX12_in M iM l1 0 (jm_w ((M 0 0 17) - 1)) hl1 ⟨by omega, by omega⟩ ⟨by omega, by omega⟩ ) (fun v2 hv2 => ?_)
  have b_3 : -2147483648 ≤ l1 ∧ l1 ≤ 2147483647 := hl1
  refine wp_T (by omega) ?_
  exact wp_ret ⟨rfl, by omega⟩
set_option maxHeartbeats 4000000 in
set_option maxRecDepth 100000 in
theorem s_fX12_isLap (M : jm_M) (iM : bI bx2 M) (l1 : Int) (hl1 : jm_in l1) : wp (fX12_isLap M l1) (fun r M1 => M1 = M ∧ ((r = 1 ∧ 0 ≤ l1 ∧ l1 < (M 0 0 2)) ∨ (r = 0 ∧ ¬ (0 ≤ l1 ∧ l1 < (M 0 0 2))))) := by
  unfold fX12_isLap
  have b_1 : 1 ≤ (M 0 0 2) ∧ (M 0 0 2) ≤ 12 := iM 0 0 2
  have w_2 : (jm_w ((M 0 0 2) - 1)) = ((M 0 0 2) - 1) := jm_wid (by omega) (by omega)
  refine wp_bp (s_fX12_in M iM l1 0 (jm_w ((M 0 0 2) - 1)) hl1 ⟨by omega, by omega⟩ ⟨by omega, by omega⟩ ) (fun v2 hv2 => ?_)
  have b_3 : -2147483648 ≤ l1 ∧ l1 ≤ 2147483647 := hl1
  refine wp_T (by omega) ?_
  exact wp_ret ⟨rfl, by omega⟩
set_option maxHeartbeats 4000000 in
set_option maxRecDepth 100000 in
theorem s_fX12_isSector (M : jm_M) (iM : bI bx2 M) (l1 : Int) (hl1 : jm_in l1) : wp (fX12_isSector M l1) (fun r M1 => M1 = M ∧ ((r = 1 ∧ 0 ≤ l1 ∧ l1 < (M 0 0 1)) ∨ (r = 0 ∧ ¬ (0 ≤ l1 ∧ l1 < (M 0 0 1))))) := by
  unfold fX12_isSector
  have b_1 : 2 ≤ (M 0 0 1) ∧ (M 0 0 1) ≤ 5 := iM 0 0 1
  have w_2 : (jm_w ((M 0 0 1) - 1)) = ((M 0 0 1) - 1) := jm_wid (by omega) (by omega)
  refine wp_bp (s_fX12_in M iM l1 0 (jm_w ((M 0 0 1) - 1)) hl1 ⟨by omega, by omega⟩ ⟨by omega, by omega⟩ ) (fun v2 hv2 => ?_)
  have b_3 : -2147483648 ≤ l1 ∧ l1 ≤ 2147483647 := hl1
  refine wp_T (by omega) ?_
  exact wp_ret ⟨rfl, by omega⟩
/-! the start of a run -/
def TL2 (f : Nat) (i k : Int) : Prop := f < 46 ∨ 59 < f
def T131 (z : Int) (f : Nat) (i k : Int) : Prop := (f < 45 ∨ 59 < f) ∨ (f = 45 ∧ k ≠ z)
def T58 (z : Int) (f : Nat) (i k : Int) : Prop := (f < 39 ∨ 59 < f) ∨ ((f = 39 ∨ f = 42 ∨ f = 45) ∧ k ≠ z)
theorem s_starts_273 (fu : Nat) (hfu : 4000 ≤ fu) (k31 : jm_M → Int → jm_R) (Q : Int → jm_M → Prop) (l1 : Int) (hl1 : 0 ≤ l1 ∧ l1 ≤ 5) : ∀ (n : Nat) (M : jm_M) (l2 : Int), bI bx2 M → 0 ≤ l2 → l2 ≤ 12 → 12 - l2 < (n : Int) → (∀ M' : jm_M, bI bx2 M' → Kp TL2 M M' → wp (k31 M' (l1 + 1)) Q) → wp (fX12_starts_273 fu k31 n M l1 l2) Q := by
  intro n
  induction n with
  | zero => intro M l2 _ _ _ hm; exfalso; omega
  | succ n ih =>
    intro M l2 iM h0 h1 hm hk
    show wp (gX12_starts_273 fu k31 (fX12_starts_273 fu k31 n) M l1 l2) Q
    unfold gX12_starts_273
    have w0 : jm_w (l1 + 1) = l1 + 1 := jm_wid (by omega) (by omega)
    have w1 : jm_w (l2 + 1) = l2 + 1 := jm_wid (by omega) (by omega)
    have w2 : jm_w (12 * l1) = 12 * l1 := jm_wid (by omega) (by omega)
    have w3 : jm_w (jm_w (12 * l1) + l2) = jm_w (12 * l1) + l2 := jm_wid (by omega) (by omega)
    refine wp_ite (fun c => ?_) (fun c => ?_)
    · refine wp_e (jm_w_in _) (fun v e _ => ?_)
      rw [e, w0]
      exact hk M iM Kp.rf
    · refine wp_T ⟨by omega, by omega⟩ ?_
      refine wp_si iM (jm_inL (by decide) (by decide)) (fun M5 u i5 => ?_)
      refine wp_e (jm_w_in _) (fun v e _ => ?_)
      rw [e, w1]
      have k5 : Kp TL2 M M5 := fun f i k h => by
        rw [u]
        exact jm_une_f (by unfold TL2 at h; omega)
      exact ih M5 (l2 + 1) i5 (by omega) (by omega) (by omega) (fun M' i' k' => hk M' i' (k5.tr k' (fun _ _ _ h => h)))
theorem s_starts_249 (fu : Nat) (hfu : 4000 ≤ fu) (k31 : jm_M → Int → jm_R) (Q : Int → jm_M → Prop) (l1 : Int) (hl1 : 0 ≤ l1 ∧ l1 ≤ 5) : ∀ (n : Nat) (M : jm_M) (l2 : Int), bI bx2 M → 0 ≤ l2 → l2 ≤ 5 → 5 - l2 < (n : Int) → (∀ M' : jm_M, bI bx2 M' → Kp TL2 M M' → wp (k31 M' (l1 + 1)) Q) → wp (fX12_starts_249 fu k31 n M l1 l2) Q := by
  intro n
  induction n with
  | zero => intro M l2 _ _ _ hm; exfalso; omega
  | succ n ih =>
    intro M l2 iM h0 h1 hm hk
    show wp (gX12_starts_249 fu k31 (fX12_starts_249 fu k31 n) M l1 l2) Q
    unfold gX12_starts_249
    have w0 : jm_w (l1 + 1) = l1 + 1 := jm_wid (by omega) (by omega)
    have w1 : jm_w (l2 + 1) = l2 + 1 := jm_wid (by omega) (by omega)
    have w2 : jm_w (5 * l1) = 5 * l1 := jm_wid (by omega) (by omega)
    have w3 : jm_w (jm_w (5 * l1) + l2) = jm_w (5 * l1) + l2 := jm_wid (by omega) (by omega)
    refine wp_ite (fun c => ?_) (fun c => ?_)
    · exact s_starts_273 fu hfu k31 Q l1 hl1 fu M 0 iM (by omega) (by omega) (by omega) hk
    · refine wp_T ⟨by omega, by omega⟩ ?_
      refine wp_si iM (jm_inL (by decide) (by decide)) (fun M5 u i5 => ?_)
      refine wp_e (jm_w_in _) (fun v e _ => ?_)
      rw [e, w1]
      have k5 : Kp TL2 M M5 := fun f i k h => by
        rw [u]
        exact jm_une_f (by unfold TL2 at h; omega)
      exact ih M5 (l2 + 1) i5 (by omega) (by omega) (by omega) (fun M' i' k' => hk M' i' (k5.tr k' (fun _ _ _ h => h)))
theorem s_starts_223 (fu : Nat) (hfu : 4000 ≤ fu) (k31 : jm_M → Int → jm_R) (Q : Int → jm_M → Prop) (l1 : Int) (hl1 : 0 ≤ l1 ∧ l1 ≤ 5) : ∀ (n : Nat) (M : jm_M) (l2 : Int), bI bx2 M → 0 ≤ l2 → l2 ≤ 60 → 60 - l2 < (n : Int) → (∀ M' : jm_M, bI bx2 M' → Kp TL2 M M' → wp (k31 M' (l1 + 1)) Q) → wp (fX12_starts_223 fu k31 n M l1 l2) Q := by
  intro n
  induction n with
  | zero => intro M l2 _ _ _ hm; exfalso; omega
  | succ n ih =>
    intro M l2 iM h0 h1 hm hk
    show wp (gX12_starts_223 fu k31 (fX12_starts_223 fu k31 n) M l1 l2) Q
    unfold gX12_starts_223
    have w0 : jm_w (l1 + 1) = l1 + 1 := jm_wid (by omega) (by omega)
    have w1 : jm_w (l2 + 1) = l2 + 1 := jm_wid (by omega) (by omega)
    have w2 : jm_w (60 * l1) = 60 * l1 := jm_wid (by omega) (by omega)
    have w3 : jm_w (jm_w (60 * l1) + l2) = jm_w (60 * l1) + l2 := jm_wid (by omega) (by omega)
    refine wp_ite (fun c => ?_) (fun c => ?_)
    · exact s_starts_249 fu hfu k31 Q l1 hl1 fu M 0 iM (by omega) (by omega) (by omega) hk
    · refine wp_T ⟨by omega, by omega⟩ ?_
      refine wp_si iM (jm_inL (by decide) (by decide)) (fun M5 u i5 => ?_)
      refine wp_e (jm_w_in _) (fun v e _ => ?_)
      rw [e, w1]
      have k5 : Kp TL2 M M5 := fun f i k h => by
        rw [u]
        exact jm_une_f (by unfold TL2 at h; omega)
      exact ih M5 (l2 + 1) i5 (by omega) (by omega) (by omega) (fun M' i' k' => hk M' i' (k5.tr k' (fun _ _ _ h => h)))
theorem s_starts_190 (fu : Nat) (hfu : 4000 ≤ fu) (k31 : jm_M → Int → jm_R) (Q : Int → jm_M → Prop) (l1 : Int) (hl1 : 0 ≤ l1 ∧ l1 ≤ 5) : ∀ (n : Nat) (M : jm_M) (l2 : Int), bI bx2 M → 0 ≤ l2 → l2 ≤ 4 → 4 - l2 < (n : Int) → (∀ M' : jm_M, bI bx2 M' → Kp TL2 M M' → wp (k31 M' (l1 + 1)) Q) → wp (fX12_starts_190 fu k31 n M l1 l2) Q := by
  intro n
  induction n with
  | zero => intro M l2 _ _ _ hm; exfalso; omega
  | succ n ih =>
    intro M l2 iM h0 h1 hm hk
    show wp (gX12_starts_190 fu k31 (fX12_starts_190 fu k31 n) M l1 l2) Q
    unfold gX12_starts_190
    have w0 : jm_w (l1 + 1) = l1 + 1 := jm_wid (by omega) (by omega)
    have w1 : jm_w (l2 + 1) = l2 + 1 := jm_wid (by omega) (by omega)
    have w2 : jm_w (4 * l1) = 4 * l1 := jm_wid (by omega) (by omega)
    have w3 : jm_w (jm_w (4 * l1) + l2) = jm_w (4 * l1) + l2 := jm_wid (by omega) (by omega)
    refine wp_ite (fun c => ?_) (fun c => ?_)
    · exact s_starts_223 fu hfu k31 Q l1 hl1 fu M 0 iM (by omega) (by omega) (by omega) hk
    · refine wp_T ⟨by omega, by omega⟩ ?_
      refine wp_T ⟨by omega, by omega⟩ ?_
      refine wp_si iM (bx2_in (iM 21 0 _)) (fun M5 u i5 => ?_)
      refine wp_e (jm_w_in _) (fun v e _ => ?_)
      rw [e, w1]
      have k5 : Kp TL2 M M5 := fun f i k h => by
        rw [u]
        exact jm_une_f (by unfold TL2 at h; omega)
      exact ih M5 (l2 + 1) i5 (by omega) (by omega) (by omega) (fun M' i' k' => hk M' i' (k5.tr k' (fun _ _ _ h => h)))
theorem s_starts_131 (fu : Nat) (hfu : 4000 ≤ fu) (k31 : jm_M → Int → jm_R) (Q : Int → jm_M → Prop) (l1 s0 : Int) (hl1 : 0 ≤ l1 ∧ l1 ≤ 5) (hs0 : -1 ≤ s0 ∧ s0 ≤ 0) (M : jm_M) (iM : bI bx2 M) (hk : ∀ M' : jm_M, bI bx2 M' → Kp (T131 l1) M M' → M' 45 0 l1 = s0 → wp (k31 M' (l1 + 1)) Q) : wp (gX12_starts_131 fu k31 M l1 s0 l1) Q := by
  unfold gX12_starts_131
  have kM : Kp (T131 l1) M M := Kp.rf
  refine wp_T ⟨by omega, by omega⟩ ?_
  refine wp_sk iM (show -1 ≤ s0 ∧ s0 ≤ 3 by omega) kM (by unfold T131; omega) (fun M2 u2 i2 k2 => ?_)
  refine wp_T ⟨by omega, by omega⟩ ?_
  refine wp_sk i2 (jm_inL (by decide) (by decide)) k2 (by unfold T131; omega) (fun M4 u4 i4 k4 => ?_)
  refine wp_T ⟨by omega, by omega⟩ ?_
  refine wp_sk i4 (jm_inL (by decide) (by decide)) k4 (by unfold T131; omega) (fun M6 u6 i6 k6 => ?_)
  refine wp_T ⟨by omega, by omega⟩ ?_
  refine wp_sk i6 (jm_inL (by decide) (by decide)) k6 (by unfold T131; omega) (fun M8 u8 i8 k8 => ?_)
  refine wp_T ⟨by omega, by omega⟩ ?_
  refine wp_sk i8 (jm_inL (by decide) (by decide)) k8 (by unfold T131; omega) (fun M10 u10 i10 k10 => ?_)
  refine wp_T ⟨by omega, by omega⟩ ?_
  refine wp_sk i10 (jm_inL (by decide) (by decide)) k10 (by unfold T131; omega) (fun M12 u12 i12 k12 => ?_)
  refine wp_T ⟨by omega, by omega⟩ ?_
  refine wp_sk i12 (jm_inL (by decide) (by decide)) k12 (by unfold T131; omega) (fun M14 u14 i14 k14 => ?_)
  refine wp_T ⟨by omega, by omega⟩ ?_
  refine wp_sk i14 (jm_inL (by decide) (by decide)) k14 (by unfold T131; omega) (fun M16 u16 i16 k16 => ?_)
  refine wp_T ⟨by omega, by omega⟩ ?_
  refine wp_sk i16 (jm_inL (by decide) (by decide)) k16 (by unfold T131; omega) (fun M18 u18 i18 k18 => ?_)
  have e18 : M18 45 0 l1 = s0 := by rw [u18, jm_une_f (by decide), u16, jm_une_f (by decide), u14, jm_une_f (by decide), u12, jm_une_f (by decide), u10, jm_une_f (by decide), u8, jm_une_f (by decide), u6, jm_une_f (by decide), u4, jm_une_f (by decide), u2]; exact jm_ueq
  exact s_starts_190 fu hfu k31 Q l1 hl1 fu M18 0 i18 (by omega) (by omega) (by omega) (fun M' i' k' => hk M' i' (k18.tr k' (fun f i k h => by unfold T131 at h; unfold TL2; omega)) ((k' 45 0 l1 (by unfold TL2; omega)).trans e18))
theorem s_starts_58 (fu : Nat) (hfu : 4000 ≤ fu) (k31 : jm_M → Int → jm_R) (Q : Int → jm_M → Prop) (l1 s0 : Int) (hl1 : 0 ≤ l1 ∧ l1 ≤ 5) (hs0 : 0 ≤ s0 ∧ s0 ≤ 2) (M : jm_M) (iM : bI bx2 M) (hk : ∀ M' : jm_M, bI bx2 M' → Kp (T58 l1) M M' → M' 39 0 l1 = s0 → M' 42 0 l1 = 0 → (M' 45 0 l1 = 0 ∨ M 19 0 l1 = 0) → wp (k31 M' (l1 + 1)) Q) : wp (gX12_starts_58 fu k31 M l1 s0 l1) Q := by
  unfold gX12_starts_58
  have kM : Kp (T58 l1) M M := Kp.rf
  refine wp_T ⟨by omega, by omega⟩ ?_
  refine wp_sk iM (jm_inL (by omega) (by omega)) kM (by unfold T58; omega) (fun M2 u2 i2 k2 => ?_)
  refine wp_T ⟨by omega, by omega⟩ ?_
  refine wp_T ⟨by omega, by omega⟩ ?_
  refine wp_sk i2 (jm_w_in _) k2 (by unfold T58; omega) (fun M6 u6 i6 k6 => ?_)
  refine wp_T ⟨by omega, by omega⟩ ?_
  refine wp_T ⟨by omega, by omega⟩ ?_
  refine wp_sk i6 (bx2_in (i6 41 0 _)) k6 (by unfold T58; omega) (fun M10 u10 i10 k10 => ?_)
  refine wp_T ⟨by omega, by omega⟩ ?_
  refine wp_sk i10 (show (0 : Int) ≤ 0 ∧ (0 : Int) ≤ 60 by omega) k10 (by unfold T58; omega) (fun M12 u12 i12 k12 => ?_)
  refine wp_T ⟨by omega, by omega⟩ ?_
  refine wp_sk i12 (jm_inL (by decide) (by decide)) k12 (by unfold T58; omega) (fun M14 u14 i14 k14 => ?_)
  refine wp_T ⟨by omega, by omega⟩ ?_
  refine wp_T ⟨by omega, by omega⟩ ?_
  refine wp_sk i14 (bx2_in (i14 18 0 _)) k14 (by unfold T58; omega) (fun M18 u18 i18 k18 => ?_)
  refine wp_T ⟨by omega, by omega⟩ ?_
  have e42 : M18 42 0 l1 = 0 := by rw [u18, jm_une_f (by decide), u14, jm_une_f (by decide), u12]; exact jm_ueq
  have e39 : M18 39 0 l1 = s0 := by rw [u18, jm_une_f (by decide), u14, jm_une_f (by decide), u12, jm_une_f (by decide), u10, jm_une_f (by decide), u6, jm_une_f (by decide), u2]; exact jm_ueq
  have e19 : M18 19 0 l1 = M 19 0 l1 := k18 19 0 l1 (by unfold T58; omega)
  have tt : ∀ (f : Nat) (i k : Int), T58 l1 f i k → T131 l1 f i k := by intro f i k h; unfold T58 at h; unfold T131; omega
  refine wp_ite (fun c => ?_) (fun c => ?_)
  · exact s_starts_131 fu hfu k31 Q l1 (-1) hl1 (by omega) M18 i18 (fun M' i' k' e' => hk M' i' (k18.tr k' tt) ((k' 39 0 l1 (by unfold T131; omega)).trans e39) ((k' 42 0 l1 (by unfold T131; omega)).trans e42) (Or.inr (e19.symm.trans c)))
  · exact s_starts_131 fu hfu k31 Q l1 0 hl1 (by omega) M18 i18 (fun M' i' k' e' => hk M' i' (k18.tr k' tt) ((k' 39 0 l1 (by unfold T131; omega)).trans e39) ((k' 42 0 l1 (by unfold T131; omega)).trans e42) (Or.inl e'))
def SQ (Mb : jm_M) (r : Int) (M1 : jm_M) : Prop := bI bx2 M1 ∧ Kp TA2 Mb M1 ∧ M1 0 0 70 = 0 ∧ ∀ c : Int, 0 ≤ c → c < M1 0 0 17 → M1 39 0 c = 0 → M1 45 0 c = 0 ∧ M1 42 0 c = 0
theorem s_starts_31 (fu : Nat) (hfu : 4000 ≤ fu) (Mb : jm_M) : ∀ (n : Nat) (M : jm_M) (l1 : Int), bI bx2 M → Kp TA2 Mb M → M 0 0 70 = 0 → 0 ≤ l1 → l1 ≤ 6 → (∀ c : Int, 0 ≤ c → c < l1 → M 39 0 c = 0 → M 45 0 c = 0 ∧ M 42 0 c = 0) → 6 - l1 < (n : Int) → wp (fX12_starts_31 fu n M l1) (SQ Mb) := by
  intro n
  induction n with
  | zero => intro M l1 _ _ _ _ _ _ hm; exfalso; omega
  | succ n ih =>
    intro M l1 iM kM h70 h0 h1 hi hm
    show wp (gX12_starts_31 fu (fX12_starts_31 fu n) M l1) _
    unfold gX12_starts_31
    have b17 : 0 ≤ M 0 0 17 ∧ M 0 0 17 ≤ 6 := iM 0 0 17
    refine wp_ite (fun c => ?_) (fun c => ?_)
    · exact wp_ret ⟨iM, kM, h70, fun c q1 q2 q3 => hi c q1 (by omega) q3⟩
    · refine wp_T ⟨by omega, by omega⟩ ?_
      have hs : ∀ s0 : Int, 0 ≤ s0 ∧ s0 ≤ 2 → (M 19 0 l1 = 0 → s0 = 2) → wp (gX12_starts_58 fu (fX12_starts_31 fu n) M l1 s0 l1) (SQ Mb) := by
        intro s0 hs0 hs1
        refine s_starts_58 fu hfu (fX12_starts_31 fu n) (SQ Mb) l1 s0 ⟨by omega, by omega⟩ hs0 M iM (fun M' i' k' e1 e2 e3 => ?_)
        refine ih M' (l1 + 1) i' (kM.tr k' (fun f i k h => by unfold TA2 at h; unfold T58; omega)) ((k' 0 0 70 (by unfold T58; omega)).trans h70) (by omega) (by omega) (fun c q1 q2 q3 => ?_) (by omega)
        by_cases q : c = l1
        · subst q
          rcases e3 with e3 | e3
          · exact ⟨e3, e2⟩
          · have := hs1 e3
            exfalso; omega
        · have z1 : M' 39 0 c = M 39 0 c := k' 39 0 c (by unfold T58; omega)
          have z2 : M' 45 0 c = M 45 0 c := k' 45 0 c (by unfold T58; omega)
          have z3 : M' 42 0 c = M 42 0 c := k' 42 0 c (by unfold T58; omega)
          rw [z1] at q3
          rw [z2, z3]
          exact hi c q1 (by omega) q3
      exact wp_ite (fun c2 => hs 2 ⟨by omega, by omega⟩ (fun _ => rfl)) (fun c2 => hs 0 ⟨by omega, by omega⟩ (fun q => absurd q c2))
theorem s_starts_7 (fu : Nat) (hfu : 4000 ≤ fu) (Mb : jm_M) : ∀ (n : Nat) (M : jm_M) (l1 : Int), bI bx2 M → Kp TA2 Mb M → M 0 0 70 = 0 → 0 ≤ l1 → l1 ≤ 4 → 4 - l1 < (n : Int) → wp (fX12_starts_7 fu n M l1) (SQ Mb) := by
  intro n
  induction n with
  | zero => intro M l1 _ _ _ _ _ hm; exfalso; omega
  | succ n ih =>
    intro M l1 iM kM h70 h0 h1 hm
    show wp (gX12_starts_7 fu (fX12_starts_7 fu n) M l1) _
    unfold gX12_starts_7
    have w1 : jm_w (l1 + 1) = l1 + 1 := jm_wid (by omega) (by omega)
    refine wp_ite (fun c => ?_) (fun c => ?_)
    · exact s_starts_31 fu hfu Mb fu M 0 iM kM h70 (by omega) (by omega) (fun c q1 q2 _ => by exfalso; omega) (by omega)
    · refine wp_T ⟨by omega, by omega⟩ ?_
      refine wp_sk iM (jm_inL (by decide) (by decide)) kM (by unfold TA2; omega) (fun M3 u3 i3 k3 => ?_)
      refine wp_e (jm_w_in _) (fun v e _ => ?_)
      rw [e, w1]
      exact ih M3 (l1 + 1) i3 k3 (by rw [u3, jm_une_f (by decide)]; exact h70) (by omega) (by omega) (by omega)
theorem s_fX12_starts (fu : Nat) (hfu : 4000 ≤ fu) (M : jm_M) (iM : bI bx2 M) : wp (fX12_starts fu M) (SQ M) := by
  unfold fX12_starts
  refine wp_sk (T := TA2) iM (show (0 : Int) ≤ 0 ∧ (0 : Int) ≤ 361 by omega) Kp.rf (by unfold TA2; omega) (fun M1 u1 i1 k1 => ?_)
  exact s_starts_7 fu hfu M fu M1 0 i1 k1 (by rw [u1]; exact jm_ueq) (by omega) (by omega) (by omega)
set_option maxHeartbeats 4000000 in
set_option maxRecDepth 100000 in
theorem s_fX12_goesOn (M : jm_M) (iM : bI bx2 M) (l1 : Int) (hl1 : 0 ≤ l1 ∧ l1 ≤ 5) : wp (fX12_goesOn M l1) (fun r M1 => M1 = M ∧ ((r = 1 ∧ (M 39 0 l1) = 0) ∨ (r = 0 ∧ ¬ ((M 39 0 l1) = 0)))) := by
  unfold fX12_goesOn
  refine wp_T ⟨by omega, by omega⟩ ?_
  have b_2 : (-2147483648) ≤ (M 39 0 l1) ∧ (M 39 0 l1) ≤ 2147483647 := iM 39 0 l1
  refine wp_ite (fun c_1 => ?_) (fun c_1 => ?_)
  · skip
    exact wp_ret ⟨rfl, by omega⟩
  · skip
    exact wp_ret ⟨rfl, by omega⟩
set_option maxHeartbeats 4000000 in
set_option maxRecDepth 100000 in
theorem s_gX12_next_4 (fu : Nat) (hfu : 4000 ≤ fu) (M : jm_M) (iM : bI bx2 M) (k4 : jm_M → Int → Int → jm_R) (N4 : Int) (hk4 : ∀ (l1 l2 : Int) (hl1 : (-1) ≤ l1 ∧ l1 ≤ 5) (hl2 : 0 ≤ l2 ∧ l2 ≤ 6) (y0 : (l1 = (-1) ∨ (0 ≤ l1 ∧ l1 < (M 0 0 17) ∧ (M 39 0 l1) = 0))), 7 - l2 < N4 → wp (k4 M l1 l2) (fun r M1 => M1 = M ∧ (r = -1 ∨ (0 ≤ r ∧ r ≤ 5 ∧ r < M 0 0 17 ∧ M 39 0 r = 0)))) : ∀ (l1 l2 : Int) (hl1 : (-1) ≤ l1 ∧ l1 ≤ 5) (hl2 : 0 ≤ l2 ∧ l2 ≤ 6) (y0 : (l1 = (-1) ∨ (0 ≤ l1 ∧ l1 < (M 0 0 17) ∧ (M 39 0 l1) = 0))), 7 - l2 < N4 + 1 → wp (gX12_next_4 fu k4 M l1 l2) (fun r M1 => M1 = M ∧ (r = -1 ∨ (0 ≤ r ∧ r ≤ 5 ∧ r < M 0 0 17 ∧ M 39 0 r = 0))) := by
  intro l1 l2 hl1 hl2 y0 m4
  unfold gX12_next_4
  have b_2 : 0 ≤ (M 0 0 17) ∧ (M 0 0 17) ≤ 6 := iM 0 0 17
  refine wp_ite (fun c_1 => ?_) (fun c_1 => ?_)
  · skip
    exact wp_ret ⟨rfl, by omega⟩
  · skip
    refine wp_bp (s_fX12_goesOn M iM l2 ⟨by omega, by omega⟩ ) (fun v3 hv3 => ?_)
    have b_3 : (-2147483648) ≤ (M 39 0 l2) ∧ (M 39 0 l2) ≤ 2147483647 := iM 39 0 l2
    refine wp_ite (fun c_4 => ?_) (fun c_4 => ?_)
    · skip
      have w_5 : (jm_w (l2 + 1)) = (l2 + 1) := jm_wid (by omega) (by omega)
      refine wp_e (by exact (jm_w_in _)) (fun v7 e_6 hv7 => ?_)
      have b_7 : -2147483648 ≤ v7 ∧ v7 ≤ 2147483647 := hv7
      have b_8 : (-2147483648) ≤ (M 39 0 l1) ∧ (M 39 0 l1) ≤ 2147483647 := iM 39 0 l1
      exact hk4 l1 v7  ⟨by omega, by omega⟩ ⟨by omega, by omega⟩ (by omega) (by omega)
    · skip
      refine wp_ite (fun c_9 => ?_) (fun c_9 => ?_)
      · skip
        have w_10 : (jm_w (l2 + 1)) = (l2 + 1) := jm_wid (by omega) (by omega)
        refine wp_e (by exact (jm_w_in _)) (fun v10 e_11 hv10 => ?_)
        have b_12 : -2147483648 ≤ v10 ∧ v10 ≤ 2147483647 := hv10
        exact hk4 l2 v10  ⟨by omega, by omega⟩ ⟨by omega, by omega⟩ (by omega) (by omega)
      · skip
        refine wp_T ⟨by omega, by omega⟩ ?_
        refine wp_T ⟨by omega, by omega⟩ ?_
        have b_14 : (-2147483648) ≤ (M 41 0 l2) ∧ (M 41 0 l2) ≤ 2147483647 := iM 41 0 l2
        have b_15 : (-2147483648) ≤ (M 41 0 l1) ∧ (M 41 0 l1) ≤ 2147483647 := iM 41 0 l1
        refine wp_ite (fun c_13 => ?_) (fun c_13 => ?_)
        · skip
          have w_16 : (jm_w (l2 + 1)) = (l2 + 1) := jm_wid (by omega) (by omega)
          refine wp_e (by exact (jm_w_in _)) (fun v17 e_17 hv17 => ?_)
          have b_18 : -2147483648 ≤ v17 ∧ v17 ≤ 2147483647 := hv17
          exact hk4 l2 v17  ⟨by omega, by omega⟩ ⟨by omega, by omega⟩ (by omega) (by omega)
        · skip
          refine wp_T ⟨by omega, by omega⟩ ?_
          refine wp_T ⟨by omega, by omega⟩ ?_
          refine wp_ite (fun c_19 => ?_) (fun c_19 => ?_)
          · skip
            refine wp_T ⟨by omega, by omega⟩ ?_
            refine wp_T ⟨by omega, by omega⟩ ?_
            have b_21 : 0 ≤ (M 42 0 l2) ∧ (M 42 0 l2) ≤ 60 := iM 42 0 l2
            have b_22 : 0 ≤ (M 42 0 l1) ∧ (M 42 0 l1) ≤ 60 := iM 42 0 l1
            refine wp_ite (fun c_20 => ?_) (fun c_20 => ?_)
            · skip
              have w_23 : (jm_w (l2 + 1)) = (l2 + 1) := jm_wid (by omega) (by omega)
              refine wp_e (by exact (jm_w_in _)) (fun v29 e_24 hv29 => ?_)
              have b_25 : -2147483648 ≤ v29 ∧ v29 ≤ 2147483647 := hv29
              have b_26 : (-2147483648) ≤ (M 39 0 l1) ∧ (M 39 0 l1) ≤ 2147483647 := iM 39 0 l1
              exact hk4 l1 v29  ⟨by omega, by omega⟩ ⟨by omega, by omega⟩ (by omega) (by omega)
            · skip
              have w_27 : (jm_w (l2 + 1)) = (l2 + 1) := jm_wid (by omega) (by omega)
              refine wp_e (by exact (jm_w_in _)) (fun v31 e_28 hv31 => ?_)
              have b_29 : -2147483648 ≤ v31 ∧ v31 ≤ 2147483647 := hv31
              exact hk4 l2 v31  ⟨by omega, by omega⟩ ⟨by omega, by omega⟩ (by omega) (by omega)
          · skip
            have w_30 : (jm_w (l2 + 1)) = (l2 + 1) := jm_wid (by omega) (by omega)
            refine wp_e (by exact (jm_w_in _)) (fun v33 e_31 hv33 => ?_)
            have b_32 : -2147483648 ≤ v33 ∧ v33 ≤ 2147483647 := hv33
            have b_33 : (-2147483648) ≤ (M 39 0 l1) ∧ (M 39 0 l1) ≤ 2147483647 := iM 39 0 l1
            exact hk4 l1 v33  ⟨by omega, by omega⟩ ⟨by omega, by omega⟩ (by omega) (by omega)
set_option maxHeartbeats 4000000 in
set_option maxRecDepth 100000 in
theorem s_fX12_next_4 (fu : Nat) (hfu : 4000 ≤ fu) (M : jm_M) (iM : bI bx2 M) : ∀ (n : Nat) (l1 l2 : Int) (hl1 : (-1) ≤ l1 ∧ l1 ≤ 5) (hl2 : 0 ≤ l2 ∧ l2 ≤ 6) (y0 : (l1 = (-1) ∨ (0 ≤ l1 ∧ l1 < (M 0 0 17) ∧ (M 39 0 l1) = 0))), 7 - l2 < (n : Int) → wp (fX12_next_4 fu  n M l1 l2) (fun r M1 => M1 = M ∧ (r = -1 ∨ (0 ≤ r ∧ r ≤ 5 ∧ r < M 0 0 17 ∧ M 39 0 r = 0))) := by
  intro n
  induction n with
  | zero => intro l1 l2 hl1 hl2 y0 hm; exfalso; omega
  | succ n ih =>
    intro l1 l2 hl1 hl2 y0 hm
    exact s_gX12_next_4 fu hfu M iM (fX12_next_4 fu  n) (n : Int) ih l1 l2 hl1 hl2 y0 (by omega)
set_option maxHeartbeats 4000000 in
set_option maxRecDepth 100000 in
theorem s_fX12_next (fu : Nat) (hfu : 4000 ≤ fu) (M : jm_M) (iM : bI bx2 M) : wp (fX12_next fu M ) (fun r M1 => M1 = M ∧ (r = -1 ∨ (0 ≤ r ∧ r ≤ 5 ∧ r < M 0 0 17 ∧ M 39 0 r = 0))) := by
  unfold fX12_next
  have b_1 : 0 ≤ (M 0 0 17) ∧ (M 0 0 17) ≤ 6 := iM 0 0 17
  have b_2 : (-2147483648) ≤ (M 39 0 (-1)) ∧ (M 39 0 (-1)) ≤ 2147483647 := iM 39 0 (-1)
  exact s_fX12_next_4 fu hfu M iM    fu (-1) 0  ⟨by omega, by omega⟩ ⟨by omega, by omega⟩ (by omega)  (by omega)
set_option maxHeartbeats 4000000 in
set_option maxRecDepth 100000 in
theorem s_gX12_hears_72 (fu : Nat) (hfu : 4000 ≤ fu) (M0 : jm_M) (k5 : jm_M → Int → Int → Int → jm_R) (N5 : Int) (hk5 : ∀ (l1 l2 l3 : Int) (M : jm_M) (iM : bI bx2 M) (kM : Kp TH2 M0 M) (hl1 : 0 ≤ l1 ∧ l1 ≤ 5) (hl2 : 0 ≤ l2 ∧ l2 ≤ 59) (hl3 : 0 ≤ l3 ∧ l3 ≤ 72), 73 - l3 < N5 → wp (k5 M l1 l2 l3) (fun r M1 => bI bx2 M1 ∧ Kp TH2 M0 M1 ∧ (0 ≤ r ∧ r ≤ 0))) : ∀ (l1 l2 l3 s0 s1 : Int) (M : jm_M) (iM : bI bx2 M) (kM : Kp TH2 M0 M) (hl1 : 0 ≤ l1 ∧ l1 ≤ 5) (hl2 : 0 ≤ l2 ∧ l2 ≤ 59) (hl3 : 0 ≤ l3 ∧ l3 ≤ 71) (hs0 : jm_in s0) (hs1 : 0 ≤ s1 ∧ s1 ≤ 5), 73 - l3 < N5 + 1 → wp (gX12_hears_72 fu k5 M l1 l2 l3 s0 s1) (fun r M1 => bI bx2 M1 ∧ Kp TH2 M0 M1 ∧ (0 ≤ r ∧ r ≤ 0)) := by
  intro l1 l2 l3 s0 s1 M iM kM hl1 hl2 hl3 hs0 hs1 m5
  unfold gX12_hears_72
  refine wp_T ⟨by omega, by omega⟩ ?_
  refine wp_sk iM hs0 kM (by unfold TH2; omega) (fun M2 u_1 iM2 kM2 => ?_)
  refine wp_T ⟨by omega, by omega⟩ ?_
  have q_2 : (M2 24 0 l3) = (M 24 0 l3) := by rw [u_1]; exact jm_une_f (by decide)
  have b_4 : (-2147483648) ≤ (M 24 0 l3) ∧ (M 24 0 l3) ≤ 2147483647 := iM 24 0 l3
  refine wp_ite (fun c_3 => ?_) (fun c_3 => ?_)
  · skip
    refine wp_T ⟨by omega, by omega⟩ ?_
    refine wp_T ⟨by omega, by omega⟩ ?_
    have q_5 : (M2 25 0 l3) = (M 25 0 l3) := by rw [u_1]; exact jm_une_f (by decide)
    refine wp_sk iM2 (bx2_in (iM2 25 0 l3)) kM2 (by unfold TH2; omega) (fun M9 u_6 iM9 kM9 => ?_)
    have w_7 : (jm_w (l3 + 1)) = (l3 + 1) := jm_wid (by omega) (by omega)
    refine wp_e (by exact (jm_w_in _)) (fun v10 e_8 hv10 => ?_)
    have b_9 : -2147483648 ≤ v10 ∧ v10 ≤ 2147483647 := hv10
    exact hk5 l1 l2 v10 M9 iM9 kM9 ⟨by omega, by omega⟩ ⟨by omega, by omega⟩ ⟨by omega, by omega⟩  (by omega)
  · skip
    refine wp_T ⟨by omega, by omega⟩ ?_
    refine wp_T ⟨by omega, by omega⟩ ?_
    have q_10 : (M2 48 0 l1) = (M 48 0 l1) := by rw [u_1]; exact jm_une_f (by decide)
    refine wp_sk iM2 (bx2_in (iM2 48 0 l1)) kM2 (by unfold TH2; omega) (fun M15 u_11 iM15 kM15 => ?_)
    have w_12 : (jm_w (l3 + 1)) = (l3 + 1) := jm_wid (by omega) (by omega)
    refine wp_e (by exact (jm_w_in _)) (fun v16 e_13 hv16 => ?_)
    have b_14 : -2147483648 ≤ v16 ∧ v16 ≤ 2147483647 := hv16
    exact hk5 l1 l2 v16 M15 iM15 kM15 ⟨by omega, by omega⟩ ⟨by omega, by omega⟩ ⟨by omega, by omega⟩  (by omega)
set_option maxHeartbeats 4000000 in
set_option maxRecDepth 100000 in
theorem s_gX12_hears_5 (fu : Nat) (hfu : 4000 ≤ fu) (M0 : jm_M) (k5 : jm_M → Int → Int → Int → jm_R) (N5 : Int) (hk5 : ∀ (l1 l2 l3 : Int) (M : jm_M) (iM : bI bx2 M) (kM : Kp TH2 M0 M) (hl1 : 0 ≤ l1 ∧ l1 ≤ 5) (hl2 : 0 ≤ l2 ∧ l2 ≤ 59) (hl3 : 0 ≤ l3 ∧ l3 ≤ 72), 73 - l3 < N5 → wp (k5 M l1 l2 l3) (fun r M1 => bI bx2 M1 ∧ Kp TH2 M0 M1 ∧ (0 ≤ r ∧ r ≤ 0))) : ∀ (l1 l2 l3 : Int) (M : jm_M) (iM : bI bx2 M) (kM : Kp TH2 M0 M) (hl1 : 0 ≤ l1 ∧ l1 ≤ 5) (hl2 : 0 ≤ l2 ∧ l2 ≤ 59) (hl3 : 0 ≤ l3 ∧ l3 ≤ 72), 73 - l3 < N5 + 1 → wp (gX12_hears_5 fu k5 M l1 l2 l3) (fun r M1 => bI bx2 M1 ∧ Kp TH2 M0 M1 ∧ (0 ≤ r ∧ r ≤ 0)) := by
  intro l1 l2 l3 M iM kM hl1 hl2 hl3 m5
  unfold gX12_hears_5
  refine wp_T ⟨by omega, by omega⟩ ?_
  have w_2 : (jm_w (12 * l1)) = (12 * l1) := jm_wid (by omega) (by omega)
  have b_3 : 0 ≤ (M 22 0 l1) ∧ (M 22 0 l1) ≤ 12 := iM 22 0 l1
  have w_4 : (jm_w ((jm_w (12 * l1)) + (M 22 0 l1))) = ((jm_w (12 * l1)) + (M 22 0 l1)) := jm_wid (by omega) (by omega)
  refine wp_ite (fun c_1 => ?_) (fun c_1 => ?_)
  · skip
    exact wp_ret ⟨iM, kM, by omega⟩
  · skip
    refine wp_T ⟨by omega, by omega⟩ ?_
    refine wp_T ⟨by omega, by omega⟩ ?_
    have b_6 : (-2147483648) ≤ (M 23 0 l3) ∧ (M 23 0 l3) ≤ 2147483647 := iM 23 0 l3
    have b_7 : 2 ≤ (M 0 0 1) ∧ (M 0 0 1) ≤ 5 := iM 0 0 1
    have w_8 : -2147483648 ≤ (jm_w ((M 23 0 l3) * (M 0 0 1))) ∧ (jm_w ((M 23 0 l3) * (M 0 0 1))) ≤ 2147483647 := jm_w_in _
    have b_9 : (-2147483648) ≤ (M 5 0 7) ∧ (M 5 0 7) ≤ 2147483647 := iM 5 0 7
    have w_10 : -2147483648 ≤ (jm_w ((jm_w ((M 23 0 l3) * (M 0 0 1))) + (M 5 0 7))) ∧ (jm_w ((jm_w ((M 23 0 l3) * (M 0 0 1))) + (M 5 0 7))) ≤ 2147483647 := jm_w_in _
    refine wp_ite (fun c_5 => ?_) (fun c_5 => ?_)
    · skip
      refine wp_T ⟨by omega, by omega⟩ ?_
      have b_12 : (-2147483648) ≤ (M 24 0 l3) ∧ (M 24 0 l3) ≤ 2147483647 := iM 24 0 l3
      refine wp_ite (fun c_11 => ?_) (fun c_11 => ?_)
      · skip
        refine wp_T ⟨by omega, by omega⟩ ?_
        have b_13 : (-2147483648) ≤ (M 25 0 l3) ∧ (M 25 0 l3) ≤ 2147483647 := iM 25 0 l3
        exact s_gX12_hears_72 fu hfu M0 k5 N5 hk5 l1 l2 l3 (M 25 0 l3) l1 M iM kM ⟨by omega, by omega⟩ ⟨by omega, by omega⟩ ⟨by omega, by omega⟩ (iM 25 0 l3) ⟨by omega, by omega⟩  (by omega)
      · skip
        refine wp_T ⟨by omega, by omega⟩ ?_
        have b_14 : (-2147483648) ≤ (M 47 0 l1) ∧ (M 47 0 l1) ≤ 2147483647 := iM 47 0 l1
        exact s_gX12_hears_72 fu hfu M0 k5 N5 hk5 l1 l2 l3 (M 47 0 l1) l1 M iM kM ⟨by omega, by omega⟩ ⟨by omega, by omega⟩ ⟨by omega, by omega⟩ (iM 47 0 l1) ⟨by omega, by omega⟩  (by omega)
    · skip
      have w_15 : (jm_w (l3 + 1)) = (l3 + 1) := jm_wid (by omega) (by omega)
      refine wp_e (by exact (jm_w_in _)) (fun v17 e_16 hv17 => ?_)
      have b_17 : -2147483648 ≤ v17 ∧ v17 ≤ 2147483647 := hv17
      exact hk5 l1 l2 v17 M iM kM ⟨by omega, by omega⟩ ⟨by omega, by omega⟩ ⟨by omega, by omega⟩  (by omega)
set_option maxHeartbeats 4000000 in
set_option maxRecDepth 100000 in
theorem s_fX12_hears_5 (fu : Nat) (hfu : 4000 ≤ fu) (M0 : jm_M) : ∀ (n : Nat) (l1 l2 l3 : Int) (M : jm_M) (iM : bI bx2 M) (kM : Kp TH2 M0 M) (hl1 : 0 ≤ l1 ∧ l1 ≤ 5) (hl2 : 0 ≤ l2 ∧ l2 ≤ 59) (hl3 : 0 ≤ l3 ∧ l3 ≤ 72), 73 - l3 < (n : Int) → wp (fX12_hears_5 fu  n M l1 l2 l3) (fun r M1 => bI bx2 M1 ∧ Kp TH2 M0 M1 ∧ (0 ≤ r ∧ r ≤ 0)) := by
  intro n
  induction n with
  | zero => intro l1 l2 l3 M iM kM hl1 hl2 hl3 hm; exfalso; omega
  | succ n ih =>
    intro l1 l2 l3 M iM kM hl1 hl2 hl3 hm
    exact s_gX12_hears_5 fu hfu M0 (fX12_hears_5 fu  n) (n : Int) ih l1 l2 l3 M iM kM hl1 hl2 hl3 (by omega)
set_option maxHeartbeats 4000000 in
set_option maxRecDepth 100000 in
theorem s_fX12_hears (fu : Nat) (hfu : 4000 ≤ fu) (M : jm_M) (iM : bI bx2 M) (l1 l2 : Int) (hl1 : 0 ≤ l1 ∧ l1 ≤ 5) (hl2 : 0 ≤ l2 ∧ l2 ≤ 59) : wp (fX12_hears fu M l1 l2) (fun r M1 => bI bx2 M1 ∧ Kp TH2 M M1 ∧ (0 ≤ r ∧ r ≤ 0)) := by
  have kM : Kp TH2 M M := Kp.rf
  unfold fX12_hears
  have w_1 : (jm_w (12 * l1)) = (12 * l1) := jm_wid (by omega) (by omega)
  refine wp_e (by exact (jm_w_in _)) (fun v1 e_2 hv1 => ?_)
  have b_3 : -2147483648 ≤ v1 ∧ v1 ≤ 2147483647 := hv1
  exact s_fX12_hears_5 fu hfu M    fu l1 l2 v1 M iM kM ⟨by omega, by omega⟩ ⟨by omega, by omega⟩ ⟨by omega, by omega⟩   (by omega)
set_option maxHeartbeats 4000000 in
set_option maxRecDepth 100000 in
theorem s_gX12_isSlow_4 (fu : Nat) (hfu : 4000 ≤ fu) (M : jm_M) (iM : bI bx2 M) (k4 : jm_M → Int → Int → Int → jm_R) (N4 : Int) (hk4 : ∀ (l1 l2 l3 : Int) (hl1 : jm_in l1) (hl2 : 0 ≤ l2 ∧ l2 ≤ 1) (hl3 : 0 ≤ l3 ∧ l3 ≤ 20), 21 - l3 < N4 → wp (k4 M l1 l2 l3) (fun r M1 => M1 = M ∧ (0 ≤ r ∧ r ≤ 1))) : ∀ (l1 l2 l3 : Int) (hl1 : jm_in l1) (hl2 : 0 ≤ l2 ∧ l2 ≤ 1) (hl3 : 0 ≤ l3 ∧ l3 ≤ 20), 21 - l3 < N4 + 1 → wp (gX12_isSlow_4 fu k4 M l1 l2 l3) (fun r M1 => M1 = M ∧ (0 ≤ r ∧ r ≤ 1)) := by
  intro l1 l2 l3 hl1 hl2 hl3 m4
  unfold gX12_isSlow_4
  have b_2 : 0 ≤ (M 0 0 12) ∧ (M 0 0 12) ≤ 20 := iM 0 0 12
  refine wp_ite (fun c_1 => ?_) (fun c_1 => ?_)
  · skip
    refine wp_T (by omega) ?_
    exact wp_ret ⟨rfl, by omega⟩
  · skip
    refine wp_ite (fun c_3 => ?_) (fun c_3 => ?_)
    · skip
      refine wp_T ⟨by omega, by omega⟩ ?_
      have b_5 : (-2147483648) ≤ (M 12 0 l3) ∧ (M 12 0 l3) ≤ 2147483647 := iM 12 0 l3
      refine wp_ite (fun c_4 => ?_) (fun c_4 => ?_)
      · skip
        refine wp_T ⟨by omega, by omega⟩ ?_
        have b_7 : -2147483648 ≤ l1 ∧ l1 ≤ 2147483647 := hl1
        have b_8 : (-2147483648) ≤ (M 10 0 l3) ∧ (M 10 0 l3) ≤ 2147483647 := iM 10 0 l3
        refine wp_ite (fun c_6 => ?_) (fun c_6 => ?_)
        · skip
          have w_9 : (jm_w (l3 + 1)) = (l3 + 1) := jm_wid (by omega) (by omega)
          refine wp_e (by exact (jm_w_in _)) (fun v10 e_10 hv10 => ?_)
          have b_11 : -2147483648 ≤ v10 ∧ v10 ≤ 2147483647 := hv10
          exact hk4 l1 0 v10  hl1 ⟨by omega, by omega⟩ ⟨by omega, by omega⟩  (by omega)
        · skip
          refine wp_T ⟨by omega, by omega⟩ ?_
          have b_13 : (-2147483648) ≤ (M 11 0 l3) ∧ (M 11 0 l3) ≤ 2147483647 := iM 11 0 l3
          refine wp_ite (fun c_12 => ?_) (fun c_12 => ?_)
          · skip
            have w_14 : (jm_w (l3 + 1)) = (l3 + 1) := jm_wid (by omega) (by omega)
            refine wp_e (by exact (jm_w_in _)) (fun v15 e_15 hv15 => ?_)
            have b_16 : -2147483648 ≤ v15 ∧ v15 ≤ 2147483647 := hv15
            exact hk4 l1 0 v15  hl1 ⟨by omega, by omega⟩ ⟨by omega, by omega⟩  (by omega)
          · skip
            have w_17 : (jm_w (l3 + 1)) = (l3 + 1) := jm_wid (by omega) (by omega)
            refine wp_e (by exact (jm_w_in _)) (fun v17 e_18 hv17 => ?_)
            have b_19 : -2147483648 ≤ v17 ∧ v17 ≤ 2147483647 := hv17
            exact hk4 l1 1 v17  hl1 ⟨by omega, by omega⟩ ⟨by omega, by omega⟩  (by omega)
      · skip
        have w_20 : (jm_w (l3 + 1)) = (l3 + 1) := jm_wid (by omega) (by omega)
        refine wp_e (by exact (jm_w_in _)) (fun v19 e_21 hv19 => ?_)
        have b_22 : -2147483648 ≤ v19 ∧ v19 ≤ 2147483647 := hv19
        have b_23 : -2147483648 ≤ l1 ∧ l1 ≤ 2147483647 := hl1
        exact hk4 l1 0 v19  hl1 ⟨by omega, by omega⟩ ⟨by omega, by omega⟩  (by omega)
    · skip
      have w_24 : (jm_w (l3 + 1)) = (l3 + 1) := jm_wid (by omega) (by omega)
      refine wp_e (by exact (jm_w_in _)) (fun v21 e_25 hv21 => ?_)
      have b_26 : -2147483648 ≤ v21 ∧ v21 ≤ 2147483647 := hv21
      have b_27 : -2147483648 ≤ l1 ∧ l1 ≤ 2147483647 := hl1
      exact hk4 l1 1 v21  hl1 ⟨by omega, by omega⟩ ⟨by omega, by omega⟩  (by omega)
set_option maxHeartbeats 4000000 in
set_option maxRecDepth 100000 in
theorem s_fX12_isSlow_4 (fu : Nat) (hfu : 4000 ≤ fu) (M : jm_M) (iM : bI bx2 M) : ∀ (n : Nat) (l1 l2 l3 : Int) (hl1 : jm_in l1) (hl2 : 0 ≤ l2 ∧ l2 ≤ 1) (hl3 : 0 ≤ l3 ∧ l3 ≤ 20), 21 - l3 < (n : Int) → wp (fX12_isSlow_4 fu  n M l1 l2 l3) (fun r M1 => M1 = M ∧ (0 ≤ r ∧ r ≤ 1)) := by
  intro n
  induction n with
  | zero => intro l1 l2 l3 hl1 hl2 hl3 hm; exfalso; omega
  | succ n ih =>
    intro l1 l2 l3 hl1 hl2 hl3 hm
    exact s_gX12_isSlow_4 fu hfu M iM (fX12_isSlow_4 fu  n) (n : Int) ih l1 l2 l3 hl1 hl2 hl3 (by omega)
set_option maxHeartbeats 4000000 in
set_option maxRecDepth 100000 in
theorem s_fX12_isSlow (fu : Nat) (hfu : 4000 ≤ fu) (M : jm_M) (iM : bI bx2 M) (l1 : Int) (hl1 : jm_in l1) : wp (fX12_isSlow fu M l1) (fun r M1 => M1 = M ∧ (0 ≤ r ∧ r ≤ 1)) := by
  unfold fX12_isSlow
  have b_1 : -2147483648 ≤ l1 ∧ l1 ≤ 2147483647 := hl1
  exact s_fX12_isSlow_4 fu hfu M iM    fu l1 0 0  hl1 ⟨by omega, by omega⟩ ⟨by omega, by omega⟩   (by omega)
set_option maxHeartbeats 4000000 in
set_option maxRecDepth 100000 in
theorem s_gX12_wet_5 (fu : Nat) (hfu : 4000 ≤ fu) (M : jm_M) (iM : bI bx2 M) (k5 : jm_M → Int → Int → Int → Int → jm_R) (N5 : Int) (hk5 : ∀ (l1 l2 l3 l4 : Int) (hl1 : 0 ≤ l1 ∧ l1 ≤ 4) (hl2 : jm_in l2) (hl3 : (-1) ≤ l3 ∧ l3 ≤ 29) (hl4 : 0 ≤ l4 ∧ l4 ≤ 30), 31 - l4 < N5 → wp (k5 M l1 l2 l3 l4) (fun r M1 => M1 = M ∧ (jm_in r))) : ∀ (l1 l2 l3 l4 : Int) (hl1 : 0 ≤ l1 ∧ l1 ≤ 4) (hl2 : jm_in l2) (hl3 : (-1) ≤ l3 ∧ l3 ≤ 29) (hl4 : 0 ≤ l4 ∧ l4 ≤ 30), 31 - l4 < N5 + 1 → wp (gX12_wet_5 fu k5 M l1 l2 l3 l4) (fun r M1 => M1 = M ∧ (jm_in r)) := by
  intro l1 l2 l3 l4 hl1 hl2 hl3 hl4 m5
  unfold gX12_wet_5
  have b_2 : 0 ≤ (M 0 0 8) ∧ (M 0 0 8) ≤ 30 := iM 0 0 8
  refine wp_ite (fun c_1 => ?_) (fun c_1 => ?_)
  · skip
    refine wp_ite (fun c_3 => ?_) (fun c_3 => ?_)
    · skip
      refine wp_T ⟨by omega, by omega⟩ ?_
      have b_4 : (-2147483648) ≤ (M 8 0 l3) ∧ (M 8 0 l3) ≤ 2147483647 := iM 8 0 l3
      exact wp_ret ⟨rfl, (iM 8 0 l3)⟩
    · skip
      exact wp_ret ⟨rfl, (jm_inL (by decide) (by decide))⟩
  · skip
    refine wp_T ⟨by omega, by omega⟩ ?_
    have b_6 : (-2147483648) ≤ (M 6 0 l4) ∧ (M 6 0 l4) ≤ 2147483647 := iM 6 0 l4
    refine wp_ite (fun c_5 => ?_) (fun c_5 => ?_)
    · skip
      refine wp_T ⟨by omega, by omega⟩ ?_
      have b_8 : -2147483648 ≤ l2 ∧ l2 ≤ 2147483647 := hl2
      have b_9 : (-2147483648) ≤ (M 7 0 l4) ∧ (M 7 0 l4) ≤ 2147483647 := iM 7 0 l4
      refine wp_ite (fun c_7 => ?_) (fun c_7 => ?_)
      · skip
        have w_10 : (jm_w (l4 + 1)) = (l4 + 1) := jm_wid (by omega) (by omega)
        refine wp_e (by exact (jm_w_in _)) (fun v12 e_11 hv12 => ?_)
        have b_12 : -2147483648 ≤ v12 ∧ v12 ≤ 2147483647 := hv12
        exact hk5 l1 l2 l3 v12  ⟨by omega, by omega⟩ hl2 ⟨by omega, by omega⟩ ⟨by omega, by omega⟩  (by omega)
      · skip
        refine wp_ite (fun c_13 => ?_) (fun c_13 => ?_)
        · skip
          have w_14 : (jm_w (l4 + 1)) = (l4 + 1) := jm_wid (by omega) (by omega)
          refine wp_e (by exact (jm_w_in _)) (fun v15 e_15 hv15 => ?_)
          have b_16 : -2147483648 ≤ v15 ∧ v15 ≤ 2147483647 := hv15
          exact hk5 l1 l2 l4 v15  ⟨by omega, by omega⟩ hl2 ⟨by omega, by omega⟩ ⟨by omega, by omega⟩  (by omega)
        · skip
          refine wp_T ⟨by omega, by omega⟩ ?_
          refine wp_T ⟨by omega, by omega⟩ ?_
          have b_18 : (-2147483648) ≤ (M 7 0 l3) ∧ (M 7 0 l3) ≤ 2147483647 := iM 7 0 l3
          refine wp_ite (fun c_17 => ?_) (fun c_17 => ?_)
          · skip
            have w_19 : (jm_w (l4 + 1)) = (l4 + 1) := jm_wid (by omega) (by omega)
            refine wp_e (by exact (jm_w_in _)) (fun v22 e_20 hv22 => ?_)
            have b_21 : -2147483648 ≤ v22 ∧ v22 ≤ 2147483647 := hv22
            exact hk5 l1 l2 l3 v22  ⟨by omega, by omega⟩ hl2 ⟨by omega, by omega⟩ ⟨by omega, by omega⟩  (by omega)
          · skip
            have w_22 : (jm_w (l4 + 1)) = (l4 + 1) := jm_wid (by omega) (by omega)
            refine wp_e (by exact (jm_w_in _)) (fun v24 e_23 hv24 => ?_)
            have b_24 : -2147483648 ≤ v24 ∧ v24 ≤ 2147483647 := hv24
            exact hk5 l1 l2 l4 v24  ⟨by omega, by omega⟩ hl2 ⟨by omega, by omega⟩ ⟨by omega, by omega⟩  (by omega)
    · skip
      have w_25 : (jm_w (l4 + 1)) = (l4 + 1) := jm_wid (by omega) (by omega)
      refine wp_e (by exact (jm_w_in _)) (fun v26 e_26 hv26 => ?_)
      have b_27 : -2147483648 ≤ v26 ∧ v26 ≤ 2147483647 := hv26
      have b_28 : -2147483648 ≤ l2 ∧ l2 ≤ 2147483647 := hl2
      exact hk5 l1 l2 l3 v26  ⟨by omega, by omega⟩ hl2 ⟨by omega, by omega⟩ ⟨by omega, by omega⟩  (by omega)
set_option maxHeartbeats 4000000 in
set_option maxRecDepth 100000 in
theorem s_fX12_wet_5 (fu : Nat) (hfu : 4000 ≤ fu) (M : jm_M) (iM : bI bx2 M) : ∀ (n : Nat) (l1 l2 l3 l4 : Int) (hl1 : 0 ≤ l1 ∧ l1 ≤ 4) (hl2 : jm_in l2) (hl3 : (-1) ≤ l3 ∧ l3 ≤ 29) (hl4 : 0 ≤ l4 ∧ l4 ≤ 30), 31 - l4 < (n : Int) → wp (fX12_wet_5 fu  n M l1 l2 l3 l4) (fun r M1 => M1 = M ∧ (jm_in r)) := by
  intro n
  induction n with
  | zero => intro l1 l2 l3 l4 hl1 hl2 hl3 hl4 hm; exfalso; omega
  | succ n ih =>
    intro l1 l2 l3 l4 hl1 hl2 hl3 hl4 hm
    exact s_gX12_wet_5 fu hfu M iM (fX12_wet_5 fu  n) (n : Int) ih l1 l2 l3 l4 hl1 hl2 hl3 hl4 (by omega)
set_option maxHeartbeats 4000000 in
set_option maxRecDepth 100000 in
theorem s_fX12_wet (fu : Nat) (hfu : 4000 ≤ fu) (M : jm_M) (iM : bI bx2 M) (l1 l2 : Int) (hl1 : 0 ≤ l1 ∧ l1 ≤ 4) (hl2 : jm_in l2) : wp (fX12_wet fu M l1 l2) (fun r M1 => M1 = M ∧ (jm_in r)) := by
  unfold fX12_wet
  have b_1 : -2147483648 ≤ l2 ∧ l2 ≤ 2147483647 := hl2
  exact s_fX12_wet_5 fu hfu M iM    fu l1 l2 (-1) 0  ⟨by omega, by omega⟩ hl2 ⟨by omega, by omega⟩ ⟨by omega, by omega⟩   (by omega)
set_option maxHeartbeats 4000000 in
set_option maxRecDepth 100000 in
theorem s_gX12_takes_145 (fu : Nat) (hfu : 4000 ≤ fu) (M : jm_M) (iM : bI bx2 M) : ∀ (l1 l2 l3 l6 s0 s1 : Int) (hl1 : 0 ≤ l1 ∧ l1 ≤ 5) (hl2 : 0 ≤ l2 ∧ l2 ≤ 4) (hl3 : jm_in l3) (hl6 : 0 ≤ l6 ∧ l6 ≤ 18) (hs0 : jm_in s0) (hs1 : jm_in s1), wp (gX12_takes_145 fu  M l1 l2 l3 l6 s0 s1) (fun r M1 => M1 = M ∧ (jm_in r)) := by
  intro l1 l2 l3 l6 s0 s1 hl1 hl2 hl3 hl6 hs0 hs1
  unfold gX12_takes_145
  have b_1 : -2147483648 ≤ s1 ∧ s1 ≤ 2147483647 := hs1
  have b_2 : -2147483648 ≤ s0 ∧ s0 ≤ 2147483647 := hs0
  have w_3 : -2147483648 ≤ (jm_w (s1 + s0)) ∧ (jm_w (s1 + s0)) ≤ 2147483647 := jm_w_in _
  refine wp_e (by exact (jm_w_in _)) (fun v1 e_4 hv1 => ?_)
  have w_5 : (jm_w (l6 + 5)) = (l6 + 5) := jm_wid (by omega) (by omega)
  refine wp_T ⟨by omega, by omega⟩ ?_
  refine wp_bp (s_fX12_wet fu hfu M iM l2 l3 ⟨by omega, by omega⟩ hl3 ) (fun v5 hv5 => ?_)
  have w_6 : (jm_w (l6 + 4)) = (l6 + 4) := jm_wid (by omega) (by omega)
  refine wp_T ⟨by omega, by omega⟩ ?_
  refine wp_T ⟨by omega, by omega⟩ ?_
  refine wp_T ⟨by omega, by omega⟩ ?_
  have b_7 : -2147483648 ≤ v1 ∧ v1 ≤ 2147483647 := hv1
  have b_8 : (-2147483648) ≤ (M 4 0 (jm_w (l6 + 5))) ∧ (M 4 0 (jm_w (l6 + 5))) ≤ 2147483647 := iM 4 0 (jm_w (l6 + 5))
  have b_9 : -2147483648 ≤ v5 ∧ v5 ≤ 2147483647 := hv5
  have b_10 : (-2147483648) ≤ (M 4 0 (jm_w (l6 + 4))) ∧ (M 4 0 (jm_w (l6 + 4))) ≤ 2147483647 := iM 4 0 (jm_w (l6 + 4))
  have w_11 : -2147483648 ≤ (jm_w (v5 - (M 4 0 (jm_w (l6 + 4))))) ∧ (jm_w (v5 - (M 4 0 (jm_w (l6 + 4))))) ≤ 2147483647 := jm_w_in _
  have w_13 : -2147483648 ≤ (jm_w ((M 4 0 (jm_w (l6 + 5))) * (jm_abs (jm_w (v5 - (M 4 0 (jm_w (l6 + 4)))))))) ∧ (jm_w ((M 4 0 (jm_w (l6 + 5))) * (jm_abs (jm_w (v5 - (M 4 0 (jm_w (l6 + 4)))))))) ≤ 2147483647 := jm_w_in _
  have b_14 : (-2147483648) ≤ (M 5 0 2) ∧ (M 5 0 2) ≤ 2147483647 := iM 5 0 2
  have b_15 : (-2147483648) ≤ (M 47 0 l1) ∧ (M 47 0 l1) ≤ 2147483647 := iM 47 0 l1
  have w_16 : -2147483648 ≤ (jm_w ((M 5 0 2) * (M 47 0 l1))) ∧ (jm_w ((M 5 0 2) * (M 47 0 l1))) ≤ 2147483647 := jm_w_in _
  have w_17 : -2147483648 ≤ (jm_w ((jm_w ((M 4 0 (jm_w (l6 + 5))) * (jm_abs (jm_w (v5 - (M 4 0 (jm_w (l6 + 4)))))))) + (jm_w ((M 5 0 2) * (M 47 0 l1))))) ∧ (jm_w ((jm_w ((M 4 0 (jm_w (l6 + 5))) * (jm_abs (jm_w (v5 - (M 4 0 (jm_w (l6 + 4)))))))) + (jm_w ((M 5 0 2) * (M 47 0 l1))))) ≤ 2147483647 := jm_w_in _
  have w_18 : -2147483648 ≤ (jm_w (v1 + (jm_w ((jm_w ((M 4 0 (jm_w (l6 + 5))) * (jm_abs (jm_w (v5 - (M 4 0 (jm_w (l6 + 4)))))))) + (jm_w ((M 5 0 2) * (M 47 0 l1))))))) ∧ (jm_w (v1 + (jm_w ((jm_w ((M 4 0 (jm_w (l6 + 5))) * (jm_abs (jm_w (v5 - (M 4 0 (jm_w (l6 + 4)))))))) + (jm_w ((M 5 0 2) * (M 47 0 l1))))))) ≤ 2147483647 := jm_w_in _
  refine wp_e (by exact (jm_w_in _)) (fun v14 e_19 hv14 => ?_)
  have b_20 : -2147483648 ≤ v14 ∧ v14 ≤ 2147483647 := hv14
  have f_21 := jm_max_f 1000 v14
  exact wp_ret ⟨rfl, (jm_max_in (jm_inL (by decide) (by decide)) hv14)⟩
set_option maxHeartbeats 4000000 in
set_option maxRecDepth 100000 in
theorem s_gX12_isFront_4 (fu : Nat) (hfu : 4000 ≤ fu) (M : jm_M) (iM : bI bx2 M) (k4 : jm_M → Int → Int → Int → jm_R) (N4 : Int) (hk4 : ∀ (l1 l2 l3 : Int) (hl1 : 0 ≤ l1 ∧ l1 ≤ 5) (hl2 : 0 ≤ l2 ∧ l2 ≤ 1) (hl3 : 0 ≤ l3 ∧ l3 ≤ 6), 7 - l3 < N4 → wp (k4 M l1 l2 l3) (fun r M1 => M1 = M ∧ (0 ≤ r ∧ r ≤ 1))) : ∀ (l1 l2 l3 : Int) (hl1 : 0 ≤ l1 ∧ l1 ≤ 5) (hl2 : 0 ≤ l2 ∧ l2 ≤ 1) (hl3 : 0 ≤ l3 ∧ l3 ≤ 6), 7 - l3 < N4 + 1 → wp (gX12_isFront_4 fu k4 M l1 l2 l3) (fun r M1 => M1 = M ∧ (0 ≤ r ∧ r ≤ 1)) := by
  intro l1 l2 l3 hl1 hl2 hl3 m4
  unfold gX12_isFront_4
  have b_2 : 0 ≤ (M 0 0 17) ∧ (M 0 0 17) ≤ 6 := iM 0 0 17
  refine wp_ite (fun c_1 => ?_) (fun c_1 => ?_)
  · skip
    refine wp_T (by omega) ?_
    exact wp_ret ⟨rfl, by omega⟩
  · skip
    refine wp_ite (fun c_3 => ?_) (fun c_3 => ?_)
    · skip
      have w_4 : (jm_w (l3 + 1)) = (l3 + 1) := jm_wid (by omega) (by omega)
      refine wp_e (by exact (jm_w_in _)) (fun v4 e_5 hv4 => ?_)
      have b_6 : -2147483648 ≤ v4 ∧ v4 ≤ 2147483647 := hv4
      exact hk4 l1 0 v4  ⟨by omega, by omega⟩ ⟨by omega, by omega⟩ ⟨by omega, by omega⟩  (by omega)
    · skip
      refine wp_ite (fun c_7 => ?_) (fun c_7 => ?_)
      · skip
        have w_8 : (jm_w (l3 + 1)) = (l3 + 1) := jm_wid (by omega) (by omega)
        refine wp_e (by exact (jm_w_in _)) (fun v7 e_9 hv7 => ?_)
        have b_10 : -2147483648 ≤ v7 ∧ v7 ≤ 2147483647 := hv7
        exact hk4 l1 1 v7  ⟨by omega, by omega⟩ ⟨by omega, by omega⟩ ⟨by omega, by omega⟩  (by omega)
      · skip
        refine wp_bp (s_fX12_goesOn M iM l3 ⟨by omega, by omega⟩ ) (fun v9 hv9 => ?_)
        have b_11 : (-2147483648) ≤ (M 39 0 l3) ∧ (M 39 0 l3) ≤ 2147483647 := iM 39 0 l3
        refine wp_ite (fun c_12 => ?_) (fun c_12 => ?_)
        · skip
          have w_13 : (jm_w (l3 + 1)) = (l3 + 1) := jm_wid (by omega) (by omega)
          refine wp_e (by exact (jm_w_in _)) (fun v13 e_14 hv13 => ?_)
          have b_15 : -2147483648 ≤ v13 ∧ v13 ≤ 2147483647 := hv13
          exact hk4 l1 1 v13  ⟨by omega, by omega⟩ ⟨by omega, by omega⟩ ⟨by omega, by omega⟩  (by omega)
        · skip
          refine wp_T ⟨by omega, by omega⟩ ?_
          refine wp_T ⟨by omega, by omega⟩ ?_
          have b_17 : 0 ≤ (M 42 0 l1) ∧ (M 42 0 l1) ≤ 60 := iM 42 0 l1
          have b_18 : 0 ≤ (M 42 0 l3) ∧ (M 42 0 l3) ≤ 60 := iM 42 0 l3
          refine wp_ite (fun c_16 => ?_) (fun c_16 => ?_)
          · skip
            have w_19 : (jm_w (l3 + 1)) = (l3 + 1) := jm_wid (by omega) (by omega)
            refine wp_e (by exact (jm_w_in _)) (fun v20 e_20 hv20 => ?_)
            have b_21 : -2147483648 ≤ v20 ∧ v20 ≤ 2147483647 := hv20
            exact hk4 l1 0 v20  ⟨by omega, by omega⟩ ⟨by omega, by omega⟩ ⟨by omega, by omega⟩  (by omega)
          · skip
            have w_22 : (jm_w (l3 + 1)) = (l3 + 1) := jm_wid (by omega) (by omega)
            refine wp_e (by exact (jm_w_in _)) (fun v22 e_23 hv22 => ?_)
            have b_24 : -2147483648 ≤ v22 ∧ v22 ≤ 2147483647 := hv22
            exact hk4 l1 1 v22  ⟨by omega, by omega⟩ ⟨by omega, by omega⟩ ⟨by omega, by omega⟩  (by omega)
set_option maxHeartbeats 4000000 in
set_option maxRecDepth 100000 in
theorem s_fX12_isFront_4 (fu : Nat) (hfu : 4000 ≤ fu) (M : jm_M) (iM : bI bx2 M) : ∀ (n : Nat) (l1 l2 l3 : Int) (hl1 : 0 ≤ l1 ∧ l1 ≤ 5) (hl2 : 0 ≤ l2 ∧ l2 ≤ 1) (hl3 : 0 ≤ l3 ∧ l3 ≤ 6), 7 - l3 < (n : Int) → wp (fX12_isFront_4 fu  n M l1 l2 l3) (fun r M1 => M1 = M ∧ (0 ≤ r ∧ r ≤ 1)) := by
  intro n
  induction n with
  | zero => intro l1 l2 l3 hl1 hl2 hl3 hm; exfalso; omega
  | succ n ih =>
    intro l1 l2 l3 hl1 hl2 hl3 hm
    exact s_gX12_isFront_4 fu hfu M iM (fX12_isFront_4 fu  n) (n : Int) ih l1 l2 l3 hl1 hl2 hl3 (by omega)
set_option maxHeartbeats 4000000 in
set_option maxRecDepth 100000 in
theorem s_fX12_isFront (fu : Nat) (hfu : 4000 ≤ fu) (M : jm_M) (iM : bI bx2 M) (l1 : Int) (hl1 : 0 ≤ l1 ∧ l1 ≤ 5) : wp (fX12_isFront fu M l1) (fun r M1 => M1 = M ∧ (0 ≤ r ∧ r ≤ 1)) := by
  unfold fX12_isFront
  exact s_fX12_isFront_4 fu hfu M iM    fu l1 1 0  ⟨by omega, by omega⟩ ⟨by omega, by omega⟩ ⟨by omega, by omega⟩   (by omega)
set_option maxHeartbeats 4000000 in
set_option maxRecDepth 100000 in
theorem s_fX12_takes (fu : Nat) (hfu : 4000 ≤ fu) (M : jm_M) (iM : bI bx2 M) (l1 l2 l3 l4 : Int) (hl1 : 0 ≤ l1 ∧ l1 ≤ 5) (hl2 : 0 ≤ l2 ∧ l2 ≤ 4) (hl3 : jm_in l3) (hl4 : 0 ≤ l4 ∧ l4 ≤ 1) (x0 : 0 ≤ (M 45 0 l1)) : wp (fX12_takes fu M l1 l2 l3 l4) (fun r M1 => M1 = M ∧ (jm_in r)) := by
  unfold fX12_takes
  refine wp_ite (fun c_1 => ?_) (fun c_1 => ?_)
  · skip
    refine wp_T ⟨by omega, by omega⟩ ?_
    have w_2 : (jm_w (4 * l1)) = (4 * l1) := jm_wid (by omega) (by omega)
    have b_3 : (-1) ≤ (M 45 0 l1) ∧ (M 45 0 l1) ≤ 3 := iM 45 0 l1
    have w_4 : (jm_w ((jm_w (4 * l1)) + (M 45 0 l1))) = ((jm_w (4 * l1)) + (M 45 0 l1)) := jm_wid (by omega) (by omega)
    refine wp_e (by exact (jm_w_in _)) (fun v4 e_5 hv4 => ?_)
    have b_6 : -2147483648 ≤ v4 ∧ v4 ≤ 2147483647 := hv4
    refine wp_T ⟨by omega, by omega⟩ ?_
    have b_7 : 0 ≤ (M 20 0 v4) ∧ (M 20 0 v4) ≤ 3 := iM 20 0 v4
    have w_8 : (jm_w (6 * (M 20 0 v4))) = (6 * (M 20 0 v4)) := jm_wid (by omega) (by omega)
    refine wp_e (by exact (jm_w_in _)) (fun v8 e_9 hv8 => ?_)
    refine wp_T ⟨by omega, by omega⟩ ?_
    refine wp_T ⟨by omega, by omega⟩ ?_
    refine wp_T ⟨by omega, by omega⟩ ?_
    refine wp_T ⟨by omega, by omega⟩ ?_
    have b_10 : -2147483648 ≤ v8 ∧ v8 ≤ 2147483647 := hv8
    refine wp_T ⟨by omega, by omega⟩ ?_
    have w_11 : (jm_w (v8 + 1)) = (v8 + 1) := jm_wid (by omega) (by omega)
    refine wp_T ⟨by omega, by omega⟩ ?_
    refine wp_T ⟨by omega, by omega⟩ ?_
    have b_12 : (-2147483648) ≤ (M 1 0 l2) ∧ (M 1 0 l2) ≤ 2147483647 := iM 1 0 l2
    have b_13 : (-2147483648) ≤ (M 13 0 l1) ∧ (M 13 0 l1) ≤ 2147483647 := iM 13 0 l1
    have w_14 : -2147483648 ≤ (jm_w ((M 1 0 l2) + (M 13 0 l1))) ∧ (jm_w ((M 1 0 l2) + (M 13 0 l1))) ≤ 2147483647 := jm_w_in _
    have b_15 : (-2147483648) ≤ (M 5 0 1) ∧ (M 5 0 1) ≤ 2147483647 := iM 5 0 1
    have b_16 : (-2147483648) ≤ (M 44 0 l1) ∧ (M 44 0 l1) ≤ 2147483647 := iM 44 0 l1
    have w_17 : -2147483648 ≤ (jm_w ((M 5 0 1) * (M 44 0 l1))) ∧ (jm_w ((M 5 0 1) * (M 44 0 l1))) ≤ 2147483647 := jm_w_in _
    have w_18 : -2147483648 ≤ (jm_w ((jm_w ((M 1 0 l2) + (M 13 0 l1))) + (jm_w ((M 5 0 1) * (M 44 0 l1))))) ∧ (jm_w ((jm_w ((M 1 0 l2) + (M 13 0 l1))) + (jm_w ((M 5 0 1) * (M 44 0 l1))))) ≤ 2147483647 := jm_w_in _
    have b_19 : (-2147483648) ≤ (M 4 0 v8) ∧ (M 4 0 v8) ≤ 2147483647 := iM 4 0 v8
    have w_20 : -2147483648 ≤ (jm_w ((jm_w ((jm_w ((M 1 0 l2) + (M 13 0 l1))) + (jm_w ((M 5 0 1) * (M 44 0 l1))))) + (M 4 0 v8))) ∧ (jm_w ((jm_w ((jm_w ((M 1 0 l2) + (M 13 0 l1))) + (jm_w ((M 5 0 1) * (M 44 0 l1))))) + (M 4 0 v8))) ≤ 2147483647 := jm_w_in _
    have b_21 : (-2147483648) ≤ (M 4 0 (jm_w (v8 + 1))) ∧ (M 4 0 (jm_w (v8 + 1))) ≤ 2147483647 := iM 4 0 (jm_w (v8 + 1))
    have b_22 : (-2147483648) ≤ (M 46 0 v4) ∧ (M 46 0 v4) ≤ 2147483647 := iM 46 0 v4
    have w_23 : -2147483648 ≤ (jm_w ((M 4 0 (jm_w (v8 + 1))) * (M 46 0 v4))) ∧ (jm_w ((M 4 0 (jm_w (v8 + 1))) * (M 46 0 v4))) ≤ 2147483647 := jm_w_in _
    have w_24 : -2147483648 ≤ (jm_w ((jm_w ((jm_w ((jm_w ((M 1 0 l2) + (M 13 0 l1))) + (jm_w ((M 5 0 1) * (M 44 0 l1))))) + (M 4 0 v8))) + (jm_w ((M 4 0 (jm_w (v8 + 1))) * (M 46 0 v4))))) ∧ (jm_w ((jm_w ((jm_w ((jm_w ((M 1 0 l2) + (M 13 0 l1))) + (jm_w ((M 5 0 1) * (M 44 0 l1))))) + (M 4 0 v8))) + (jm_w ((M 4 0 (jm_w (v8 + 1))) * (M 46 0 v4))))) ≤ 2147483647 := jm_w_in _
    refine wp_e (by exact (jm_w_in _)) (fun v24 e_25 hv24 => ?_)
    refine wp_T ⟨by omega, by omega⟩ ?_
    have w_26 : (jm_w (v8 + 2)) = (v8 + 2) := jm_wid (by omega) (by omega)
    refine wp_T ⟨by omega, by omega⟩ ?_
    have b_28 : (-2147483648) ≤ (M 4 0 (jm_w (v8 + 2))) ∧ (M 4 0 (jm_w (v8 + 2))) ≤ 2147483647 := iM 4 0 (jm_w (v8 + 2))
    refine wp_ite (fun c_27 => ?_) (fun c_27 => ?_)
    · skip
      have b_29 : -2147483648 ≤ l3 ∧ l3 ≤ 2147483647 := hl3
      have b_30 : -2147483648 ≤ v24 ∧ v24 ≤ 2147483647 := hv24
      exact s_gX12_takes_145 fu hfu M iM    l1 l2 l3 v8 0 v24  ⟨by omega, by omega⟩ ⟨by omega, by omega⟩ hl3 ⟨by omega, by omega⟩ (jm_inL (by decide) (by decide)) hv24  
    · skip
      have w_31 : (jm_w (v8 + 3)) = (v8 + 3) := jm_wid (by omega) (by omega)
      refine wp_T ⟨by omega, by omega⟩ ?_
      have b_32 : -2147483648 ≤ l3 ∧ l3 ≤ 2147483647 := hl3
      have b_33 : (-2147483648) ≤ (M 4 0 (jm_w (v8 + 3))) ∧ (M 4 0 (jm_w (v8 + 3))) ≤ 2147483647 := iM 4 0 (jm_w (v8 + 3))
      have b_34 : -2147483648 ≤ v24 ∧ v24 ≤ 2147483647 := hv24
      exact s_gX12_takes_145 fu hfu M iM    l1 l2 l3 v8 (M 4 0 (jm_w (v8 + 3))) v24  ⟨by omega, by omega⟩ ⟨by omega, by omega⟩ hl3 ⟨by omega, by omega⟩ (iM 4 0 (jm_w (v8 + 3))) hv24  
  · skip
    refine wp_T ⟨by omega, by omega⟩ ?_
    refine wp_bp (s_fX12_isFront fu hfu M iM l1 ⟨by omega, by omega⟩ ) (fun v35 hv35 => ?_)
    refine wp_ite (fun c_35 => ?_) (fun c_35 => ?_)
    · skip
      have b_36 : (-2147483648) ≤ (M 1 0 l2) ∧ (M 1 0 l2) ≤ 2147483647 := iM 1 0 l2
      have w_37 : -2147483648 ≤ (jm_w ((M 1 0 l2) * 120)) ∧ (jm_w ((M 1 0 l2) * 120)) ≤ 2147483647 := jm_w_in _
      have f_38 : -2147483648 ≤ (jm_div (jm_w ((M 1 0 l2) * 120)) 100) ∧ (jm_div (jm_w ((M 1 0 l2) * 120)) 100) ≤ 2147483647 := jm_div_in _ _
      exact wp_ret ⟨rfl, (jm_div_in _ _)⟩
    · skip
      have b_39 : (-2147483648) ≤ (M 1 0 l2) ∧ (M 1 0 l2) ≤ 2147483647 := iM 1 0 l2
      have w_40 : -2147483648 ≤ (jm_w ((M 1 0 l2) * 150)) ∧ (jm_w ((M 1 0 l2) * 150)) ≤ 2147483647 := jm_w_in _
      have f_41 : -2147483648 ≤ (jm_div (jm_w ((M 1 0 l2) * 150)) 100) ∧ (jm_div (jm_w ((M 1 0 l2) * 150)) 100) ≤ 2147483647 := jm_div_in _ _
      exact wp_ret ⟨rfl, (jm_div_in _ _)⟩
set_option maxHeartbeats 4000000 in
set_option maxRecDepth 100000 in
theorem s_gX12_isYellow_46 (fu : Nat) (hfu : 4000 ≤ fu) (M : jm_M) (iM : bI bx2 M) (k5 : jm_M → Int → Int → Int → Int → jm_R) (N5 : Int) (hk5 : ∀ (l1 l2 l3 l4 : Int) (hl1 : (-1) ≤ l1 ∧ l1 ≤ 4) (hl2 : jm_in l2) (hl3 : 0 ≤ l3 ∧ l3 ≤ 1) (hl4 : 0 ≤ l4 ∧ l4 ≤ 20), 21 - l4 < N5 → wp (k5 M l1 l2 l3 l4) (fun r M1 => M1 = M ∧ (0 ≤ r ∧ r ≤ 1))) : ∀ (l1 l2 l3 l4 s0 : Int) (hl1 : (-1) ≤ l1 ∧ l1 ≤ 4) (hl2 : jm_in l2) (hl3 : 0 ≤ l3 ∧ l3 ≤ 1) (hl4 : 0 ≤ l4 ∧ l4 ≤ 19) (hs0 : 0 ≤ s0 ∧ s0 ≤ 1), 21 - l4 < N5 + 1 → wp (gX12_isYellow_46 fu k5 M l1 l2 l3 l4 s0) (fun r M1 => M1 = M ∧ (0 ≤ r ∧ r ≤ 1)) := by
  intro l1 l2 l3 l4 s0 hl1 hl2 hl3 hl4 hs0 m5
  unfold gX12_isYellow_46
  refine wp_ite (fun c_1 => ?_) (fun c_1 => ?_)
  · skip
    refine wp_T ⟨by omega, by omega⟩ ?_
    have b_3 : (-2147483648) ≤ (M 12 0 l4) ∧ (M 12 0 l4) ≤ 2147483647 := iM 12 0 l4
    refine wp_ite (fun c_2 => ?_) (fun c_2 => ?_)
    · skip
      refine wp_ite (fun c_4 => ?_) (fun c_4 => ?_)
      · skip
        have w_5 : (jm_w (l4 + 1)) = (l4 + 1) := jm_wid (by omega) (by omega)
        refine wp_e (by exact (jm_w_in _)) (fun v6 e_6 hv6 => ?_)
        have b_7 : -2147483648 ≤ v6 ∧ v6 ≤ 2147483647 := hv6
        have b_8 : -2147483648 ≤ l2 ∧ l2 ≤ 2147483647 := hl2
        exact hk5 l1 l2 0 v6  ⟨by omega, by omega⟩ hl2 ⟨by omega, by omega⟩ ⟨by omega, by omega⟩  (by omega)
      · skip
        refine wp_T ⟨by omega, by omega⟩ ?_
        have b_10 : -2147483648 ≤ l2 ∧ l2 ≤ 2147483647 := hl2
        have b_11 : (-2147483648) ≤ (M 10 0 l4) ∧ (M 10 0 l4) ≤ 2147483647 := iM 10 0 l4
        refine wp_ite (fun c_9 => ?_) (fun c_9 => ?_)
        · skip
          have w_12 : (jm_w (l4 + 1)) = (l4 + 1) := jm_wid (by omega) (by omega)
          refine wp_e (by exact (jm_w_in _)) (fun v11 e_13 hv11 => ?_)
          have b_14 : -2147483648 ≤ v11 ∧ v11 ≤ 2147483647 := hv11
          exact hk5 l1 l2 0 v11  ⟨by omega, by omega⟩ hl2 ⟨by omega, by omega⟩ ⟨by omega, by omega⟩  (by omega)
        · skip
          refine wp_T ⟨by omega, by omega⟩ ?_
          have b_16 : (-2147483648) ≤ (M 11 0 l4) ∧ (M 11 0 l4) ≤ 2147483647 := iM 11 0 l4
          refine wp_ite (fun c_15 => ?_) (fun c_15 => ?_)
          · skip
            have w_17 : (jm_w (l4 + 1)) = (l4 + 1) := jm_wid (by omega) (by omega)
            refine wp_e (by exact (jm_w_in _)) (fun v16 e_18 hv16 => ?_)
            have b_19 : -2147483648 ≤ v16 ∧ v16 ≤ 2147483647 := hv16
            exact hk5 l1 l2 0 v16  ⟨by omega, by omega⟩ hl2 ⟨by omega, by omega⟩ ⟨by omega, by omega⟩  (by omega)
          · skip
            have w_20 : (jm_w (l4 + 1)) = (l4 + 1) := jm_wid (by omega) (by omega)
            refine wp_e (by exact (jm_w_in _)) (fun v18 e_21 hv18 => ?_)
            have b_22 : -2147483648 ≤ v18 ∧ v18 ≤ 2147483647 := hv18
            exact hk5 l1 l2 1 v18  ⟨by omega, by omega⟩ hl2 ⟨by omega, by omega⟩ ⟨by omega, by omega⟩  (by omega)
    · skip
      have w_23 : (jm_w (l4 + 1)) = (l4 + 1) := jm_wid (by omega) (by omega)
      refine wp_e (by exact (jm_w_in _)) (fun v20 e_24 hv20 => ?_)
      have b_25 : -2147483648 ≤ v20 ∧ v20 ≤ 2147483647 := hv20
      have b_26 : -2147483648 ≤ l2 ∧ l2 ≤ 2147483647 := hl2
      exact hk5 l1 l2 0 v20  ⟨by omega, by omega⟩ hl2 ⟨by omega, by omega⟩ ⟨by omega, by omega⟩  (by omega)
  · skip
    have w_27 : (jm_w (l4 + 1)) = (l4 + 1) := jm_wid (by omega) (by omega)
    refine wp_e (by exact (jm_w_in _)) (fun v22 e_28 hv22 => ?_)
    have b_29 : -2147483648 ≤ v22 ∧ v22 ≤ 2147483647 := hv22
    have b_30 : -2147483648 ≤ l2 ∧ l2 ≤ 2147483647 := hl2
    exact hk5 l1 l2 1 v22  ⟨by omega, by omega⟩ hl2 ⟨by omega, by omega⟩ ⟨by omega, by omega⟩  (by omega)
set_option maxHeartbeats 4000000 in
set_option maxRecDepth 100000 in
theorem s_gX12_isYellow_5 (fu : Nat) (hfu : 4000 ≤ fu) (M : jm_M) (iM : bI bx2 M) (k5 : jm_M → Int → Int → Int → Int → jm_R) (N5 : Int) (hk5 : ∀ (l1 l2 l3 l4 : Int) (hl1 : (-1) ≤ l1 ∧ l1 ≤ 4) (hl2 : jm_in l2) (hl3 : 0 ≤ l3 ∧ l3 ≤ 1) (hl4 : 0 ≤ l4 ∧ l4 ≤ 20), 21 - l4 < N5 → wp (k5 M l1 l2 l3 l4) (fun r M1 => M1 = M ∧ (0 ≤ r ∧ r ≤ 1))) : ∀ (l1 l2 l3 l4 : Int) (hl1 : (-1) ≤ l1 ∧ l1 ≤ 4) (hl2 : jm_in l2) (hl3 : 0 ≤ l3 ∧ l3 ≤ 1) (hl4 : 0 ≤ l4 ∧ l4 ≤ 20), 21 - l4 < N5 + 1 → wp (gX12_isYellow_5 fu k5 M l1 l2 l3 l4) (fun r M1 => M1 = M ∧ (0 ≤ r ∧ r ≤ 1)) := by
  intro l1 l2 l3 l4 hl1 hl2 hl3 hl4 m5
  unfold gX12_isYellow_5
  have b_2 : 0 ≤ (M 0 0 12) ∧ (M 0 0 12) ≤ 20 := iM 0 0 12
  refine wp_ite (fun c_1 => ?_) (fun c_1 => ?_)
  · skip
    refine wp_T (by omega) ?_
    exact wp_ret ⟨rfl, by omega⟩
  · skip
    refine wp_ite (fun c_3 => ?_) (fun c_3 => ?_)
    · skip
      have b_4 : -2147483648 ≤ l2 ∧ l2 ≤ 2147483647 := hl2
      exact s_gX12_isYellow_46 fu hfu M iM k5 N5 hk5 l1 l2 l3 l4 1  ⟨by omega, by omega⟩ hl2 ⟨by omega, by omega⟩ ⟨by omega, by omega⟩ ⟨by omega, by omega⟩  (by omega)
    · skip
      refine wp_T ⟨by omega, by omega⟩ ?_
      have b_6 : (-2147483648) ≤ (M 9 0 l4) ∧ (M 9 0 l4) ≤ 2147483647 := iM 9 0 l4
      refine wp_ite (fun c_5 => ?_) (fun c_5 => ?_)
      · skip
        have b_7 : -2147483648 ≤ l2 ∧ l2 ≤ 2147483647 := hl2
        exact s_gX12_isYellow_46 fu hfu M iM k5 N5 hk5 l1 l2 l3 l4 1  ⟨by omega, by omega⟩ hl2 ⟨by omega, by omega⟩ ⟨by omega, by omega⟩ ⟨by omega, by omega⟩  (by omega)
      · skip
        refine wp_T ⟨by omega, by omega⟩ ?_
        refine wp_ite (fun c_8 => ?_) (fun c_8 => ?_)
        · skip
          have b_9 : -2147483648 ≤ l2 ∧ l2 ≤ 2147483647 := hl2
          exact s_gX12_isYellow_46 fu hfu M iM k5 N5 hk5 l1 l2 l3 l4 1  ⟨by omega, by omega⟩ hl2 ⟨by omega, by omega⟩ ⟨by omega, by omega⟩ ⟨by omega, by omega⟩  (by omega)
        · skip
          have b_10 : -2147483648 ≤ l2 ∧ l2 ≤ 2147483647 := hl2
          exact s_gX12_isYellow_46 fu hfu M iM k5 N5 hk5 l1 l2 l3 l4 0  ⟨by omega, by omega⟩ hl2 ⟨by omega, by omega⟩ ⟨by omega, by omega⟩ ⟨by omega, by omega⟩  (by omega)
set_option maxHeartbeats 4000000 in
set_option maxRecDepth 100000 in
theorem s_fX12_isYellow_5 (fu : Nat) (hfu : 4000 ≤ fu) (M : jm_M) (iM : bI bx2 M) : ∀ (n : Nat) (l1 l2 l3 l4 : Int) (hl1 : (-1) ≤ l1 ∧ l1 ≤ 4) (hl2 : jm_in l2) (hl3 : 0 ≤ l3 ∧ l3 ≤ 1) (hl4 : 0 ≤ l4 ∧ l4 ≤ 20), 21 - l4 < (n : Int) → wp (fX12_isYellow_5 fu  n M l1 l2 l3 l4) (fun r M1 => M1 = M ∧ (0 ≤ r ∧ r ≤ 1)) := by
  intro n
  induction n with
  | zero => intro l1 l2 l3 l4 hl1 hl2 hl3 hl4 hm; exfalso; omega
  | succ n ih =>
    intro l1 l2 l3 l4 hl1 hl2 hl3 hl4 hm
    exact s_gX12_isYellow_5 fu hfu M iM (fX12_isYellow_5 fu  n) (n : Int) ih l1 l2 l3 l4 hl1 hl2 hl3 hl4 (by omega)
set_option maxHeartbeats 4000000 in
set_option maxRecDepth 100000 in
theorem s_fX12_isYellow (fu : Nat) (hfu : 4000 ≤ fu) (M : jm_M) (iM : bI bx2 M) (l1 l2 : Int) (hl1 : (-1) ≤ l1 ∧ l1 ≤ 4) (hl2 : jm_in l2) : wp (fX12_isYellow fu M l1 l2) (fun r M1 => M1 = M ∧ (0 ≤ r ∧ r ≤ 1)) := by
  unfold fX12_isYellow
  have b_1 : -2147483648 ≤ l2 ∧ l2 ≤ 2147483647 := hl2
  exact s_fX12_isYellow_5 fu hfu M iM    fu l1 l2 0 0  ⟨by omega, by omega⟩ hl2 ⟨by omega, by omega⟩ ⟨by omega, by omega⟩   (by omega)
set_option maxHeartbeats 4000000 in
set_option maxRecDepth 100000 in
theorem s_gX12_latest_6 (fu : Nat) (hfu : 4000 ≤ fu) (M : jm_M) (iM : bI bx2 M) (k6 : jm_M → Int → Int → Int → Int → Int → jm_R) (N6 : Int) (hk6 : ∀ (l1 l2 l3 l4 l5 : Int) (hl1 : 0 ≤ l1 ∧ l1 ≤ 5) (hl2 : 0 ≤ l2 ∧ l2 ≤ 4) (hl3 : jm_in l3) (hl4 : (-1) ≤ l4 ∧ l4 ≤ 5) (hl5 : 0 ≤ l5 ∧ l5 ≤ 6) (y0 : (l4 = (-1) ∨ (0 ≤ l4 ∧ l4 ≤ 5 ∧ 0 ≤ (M 56 0 (jm_w ((jm_w (5 * l4)) + l2))) ∧ (M 56 0 (jm_w ((jm_w (5 * l4)) + l2))) < l3))), 7 - l5 < N6 → wp (k6 M l1 l2 l3 l4 l5) (fun r M1 => M1 = M ∧ (r = -1 ∨ (0 ≤ r ∧ r ≤ 5 ∧ 0 ≤ M 56 0 (jm_w ((jm_w (5 * r)) + l2)) ∧ M 56 0 (jm_w ((jm_w (5 * r)) + l2)) < l3)))) : ∀ (l1 l2 l3 l4 l5 : Int) (hl1 : 0 ≤ l1 ∧ l1 ≤ 5) (hl2 : 0 ≤ l2 ∧ l2 ≤ 4) (hl3 : jm_in l3) (hl4 : (-1) ≤ l4 ∧ l4 ≤ 5) (hl5 : 0 ≤ l5 ∧ l5 ≤ 6) (y0 : (l4 = (-1) ∨ (0 ≤ l4 ∧ l4 ≤ 5 ∧ 0 ≤ (M 56 0 (jm_w ((jm_w (5 * l4)) + l2))) ∧ (M 56 0 (jm_w ((jm_w (5 * l4)) + l2))) < l3))), 7 - l5 < N6 + 1 → wp (gX12_latest_6 fu k6 M l1 l2 l3 l4 l5) (fun r M1 => M1 = M ∧ (r = -1 ∨ (0 ≤ r ∧ r ≤ 5 ∧ 0 ≤ M 56 0 (jm_w ((jm_w (5 * r)) + l2)) ∧ M 56 0 (jm_w ((jm_w (5 * r)) + l2)) < l3))) := by
  intro l1 l2 l3 l4 l5 hl1 hl2 hl3 hl4 hl5 y0 m6
  unfold gX12_latest_6
  have b_2 : 0 ≤ (M 0 0 17) ∧ (M 0 0 17) ≤ 6 := iM 0 0 17
  refine wp_ite (fun c_1 => ?_) (fun c_1 => ?_)
  · skip
    exact wp_ret ⟨rfl, by omega⟩
  · skip
    have w_3 : (jm_w (5 * l5)) = (5 * l5) := jm_wid (by omega) (by omega)
    have w_4 : (jm_w ((jm_w (5 * l5)) + l2)) = ((jm_w (5 * l5)) + l2) := jm_wid (by omega) (by omega)
    refine wp_T ⟨by omega, by omega⟩ ?_
    have b_5 : (-2147483648) ≤ (M 56 0 (jm_w ((jm_w (5 * l5)) + l2))) ∧ (M 56 0 (jm_w ((jm_w (5 * l5)) + l2))) ≤ 2147483647 := iM 56 0 (jm_w ((jm_w (5 * l5)) + l2))
    refine wp_e (by exact (iM 56 0 (jm_w ((jm_w (5 * l5)) + l2)))) (fun v5 e_6 hv5 => ?_)
    refine wp_ite (fun c_7 => ?_) (fun c_7 => ?_)
    · skip
      have w_8 : (jm_w (l5 + 1)) = (l5 + 1) := jm_wid (by omega) (by omega)
      refine wp_e (by exact (jm_w_in _)) (fun v8 e_9 hv8 => ?_)
      have b_10 : -2147483648 ≤ v8 ∧ v8 ≤ 2147483647 := hv8
      have b_11 : -2147483648 ≤ l3 ∧ l3 ≤ 2147483647 := hl3
      have w_12 : (jm_w (5 * l4)) = (5 * l4) := jm_wid (by omega) (by omega)
      have w_13 : (jm_w ((jm_w (5 * l4)) + l2)) = ((jm_w (5 * l4)) + l2) := jm_wid (by omega) (by omega)
      have b_14 : (-2147483648) ≤ (M 56 0 (jm_w ((jm_w (5 * l4)) + l2))) ∧ (M 56 0 (jm_w ((jm_w (5 * l4)) + l2))) ≤ 2147483647 := iM 56 0 (jm_w ((jm_w (5 * l4)) + l2))
      exact hk6 l1 l2 l3 l4 v8  ⟨by omega, by omega⟩ ⟨by omega, by omega⟩ hl3 ⟨by omega, by omega⟩ ⟨by omega, by omega⟩ (by omega) (by omega)
    · skip
      have b_16 : -2147483648 ≤ v5 ∧ v5 ≤ 2147483647 := hv5
      refine wp_ite (fun c_15 => ?_) (fun c_15 => ?_)
      · skip
        have w_17 : (jm_w (l5 + 1)) = (l5 + 1) := jm_wid (by omega) (by omega)
        refine wp_e (by exact (jm_w_in _)) (fun v11 e_18 hv11 => ?_)
        have b_19 : -2147483648 ≤ v11 ∧ v11 ≤ 2147483647 := hv11
        have b_20 : -2147483648 ≤ l3 ∧ l3 ≤ 2147483647 := hl3
        have w_21 : (jm_w (5 * l4)) = (5 * l4) := jm_wid (by omega) (by omega)
        have w_22 : (jm_w ((jm_w (5 * l4)) + l2)) = ((jm_w (5 * l4)) + l2) := jm_wid (by omega) (by omega)
        have b_23 : (-2147483648) ≤ (M 56 0 (jm_w ((jm_w (5 * l4)) + l2))) ∧ (M 56 0 (jm_w ((jm_w (5 * l4)) + l2))) ≤ 2147483647 := iM 56 0 (jm_w ((jm_w (5 * l4)) + l2))
        exact hk6 l1 l2 l3 l4 v11  ⟨by omega, by omega⟩ ⟨by omega, by omega⟩ hl3 ⟨by omega, by omega⟩ ⟨by omega, by omega⟩ (by omega) (by omega)
      · skip
        have b_25 : -2147483648 ≤ l3 ∧ l3 ≤ 2147483647 := hl3
        refine wp_ite (fun c_24 => ?_) (fun c_24 => ?_)
        · skip
          have w_26 : (jm_w (l5 + 1)) = (l5 + 1) := jm_wid (by omega) (by omega)
          refine wp_e (by exact (jm_w_in _)) (fun v14 e_27 hv14 => ?_)
          have b_28 : -2147483648 ≤ v14 ∧ v14 ≤ 2147483647 := hv14
          have w_29 : (jm_w (5 * l4)) = (5 * l4) := jm_wid (by omega) (by omega)
          have w_30 : (jm_w ((jm_w (5 * l4)) + l2)) = ((jm_w (5 * l4)) + l2) := jm_wid (by omega) (by omega)
          have b_31 : (-2147483648) ≤ (M 56 0 (jm_w ((jm_w (5 * l4)) + l2))) ∧ (M 56 0 (jm_w ((jm_w (5 * l4)) + l2))) ≤ 2147483647 := iM 56 0 (jm_w ((jm_w (5 * l4)) + l2))
          exact hk6 l1 l2 l3 l4 v14  ⟨by omega, by omega⟩ ⟨by omega, by omega⟩ hl3 ⟨by omega, by omega⟩ ⟨by omega, by omega⟩ (by omega) (by omega)
        · skip
          refine wp_ite (fun c_32 => ?_) (fun c_32 => ?_)
          · skip
            have w_33 : (jm_w (l5 + 1)) = (l5 + 1) := jm_wid (by omega) (by omega)
            refine wp_e (by exact (jm_w_in _)) (fun v17 e_34 hv17 => ?_)
            have b_35 : -2147483648 ≤ v17 ∧ v17 ≤ 2147483647 := hv17
            exact hk6 l1 l2 l3 l5 v17  ⟨by omega, by omega⟩ ⟨by omega, by omega⟩ hl3 ⟨by omega, by omega⟩ ⟨by omega, by omega⟩ (by omega) (by omega)
          · skip
            have w_36 : (jm_w (5 * l4)) = (5 * l4) := jm_wid (by omega) (by omega)
            have w_37 : (jm_w ((jm_w (5 * l4)) + l2)) = ((jm_w (5 * l4)) + l2) := jm_wid (by omega) (by omega)
            refine wp_T ⟨by omega, by omega⟩ ?_
            have b_39 : (-2147483648) ≤ (M 56 0 (jm_w ((jm_w (5 * l4)) + l2))) ∧ (M 56 0 (jm_w ((jm_w (5 * l4)) + l2))) ≤ 2147483647 := iM 56 0 (jm_w ((jm_w (5 * l4)) + l2))
            refine wp_ite (fun c_38 => ?_) (fun c_38 => ?_)
            · skip
              have w_40 : (jm_w (l5 + 1)) = (l5 + 1) := jm_wid (by omega) (by omega)
              refine wp_e (by exact (jm_w_in _)) (fun v22 e_41 hv22 => ?_)
              have b_42 : -2147483648 ≤ v22 ∧ v22 ≤ 2147483647 := hv22
              exact hk6 l1 l2 l3 l4 v22  ⟨by omega, by omega⟩ ⟨by omega, by omega⟩ hl3 ⟨by omega, by omega⟩ ⟨by omega, by omega⟩ (by omega) (by omega)
            · skip
              have w_43 : (jm_w (l5 + 1)) = (l5 + 1) := jm_wid (by omega) (by omega)
              refine wp_e (by exact (jm_w_in _)) (fun v24 e_44 hv24 => ?_)
              have b_45 : -2147483648 ≤ v24 ∧ v24 ≤ 2147483647 := hv24
              exact hk6 l1 l2 l3 l5 v24  ⟨by omega, by omega⟩ ⟨by omega, by omega⟩ hl3 ⟨by omega, by omega⟩ ⟨by omega, by omega⟩ (by omega) (by omega)
set_option maxHeartbeats 4000000 in
set_option maxRecDepth 100000 in
theorem s_fX12_latest_6 (fu : Nat) (hfu : 4000 ≤ fu) (M : jm_M) (iM : bI bx2 M) : ∀ (n : Nat) (l1 l2 l3 l4 l5 : Int) (hl1 : 0 ≤ l1 ∧ l1 ≤ 5) (hl2 : 0 ≤ l2 ∧ l2 ≤ 4) (hl3 : jm_in l3) (hl4 : (-1) ≤ l4 ∧ l4 ≤ 5) (hl5 : 0 ≤ l5 ∧ l5 ≤ 6) (y0 : (l4 = (-1) ∨ (0 ≤ l4 ∧ l4 ≤ 5 ∧ 0 ≤ (M 56 0 (jm_w ((jm_w (5 * l4)) + l2))) ∧ (M 56 0 (jm_w ((jm_w (5 * l4)) + l2))) < l3))), 7 - l5 < (n : Int) → wp (fX12_latest_6 fu  n M l1 l2 l3 l4 l5) (fun r M1 => M1 = M ∧ (r = -1 ∨ (0 ≤ r ∧ r ≤ 5 ∧ 0 ≤ M 56 0 (jm_w ((jm_w (5 * r)) + l2)) ∧ M 56 0 (jm_w ((jm_w (5 * r)) + l2)) < l3))) := by
  intro n
  induction n with
  | zero => intro l1 l2 l3 l4 l5 hl1 hl2 hl3 hl4 hl5 y0 hm; exfalso; omega
  | succ n ih =>
    intro l1 l2 l3 l4 l5 hl1 hl2 hl3 hl4 hl5 y0 hm
    exact s_gX12_latest_6 fu hfu M iM (fX12_latest_6 fu  n) (n : Int) ih l1 l2 l3 l4 l5 hl1 hl2 hl3 hl4 hl5 y0 (by omega)
set_option maxHeartbeats 4000000 in
set_option maxRecDepth 100000 in
theorem s_fX12_latest (fu : Nat) (hfu : 4000 ≤ fu) (M : jm_M) (iM : bI bx2 M) (l1 l2 l3 : Int) (hl1 : 0 ≤ l1 ∧ l1 ≤ 5) (hl2 : 0 ≤ l2 ∧ l2 ≤ 4) (hl3 : jm_in l3) : wp (fX12_latest fu M l1 l2 l3) (fun r M1 => M1 = M ∧ (r = -1 ∨ (0 ≤ r ∧ r ≤ 5 ∧ 0 ≤ M 56 0 (jm_w ((jm_w (5 * r)) + l2)) ∧ M 56 0 (jm_w ((jm_w (5 * r)) + l2)) < l3))) := by
  unfold fX12_latest
  have b_1 : -2147483648 ≤ l3 ∧ l3 ≤ 2147483647 := hl3
  have w_2 : (jm_w (5 * (-1))) = (5 * (-1)) := jm_wid (by omega) (by omega)
  have w_3 : (jm_w ((jm_w (5 * (-1))) + l2)) = ((jm_w (5 * (-1))) + l2) := jm_wid (by omega) (by omega)
  have b_4 : (-2147483648) ≤ (M 56 0 (jm_w ((jm_w (5 * (-1))) + l2))) ∧ (M 56 0 (jm_w ((jm_w (5 * (-1))) + l2))) ≤ 2147483647 := iM 56 0 (jm_w ((jm_w (5 * (-1))) + l2))
  exact s_fX12_latest_6 fu hfu M iM    fu l1 l2 l3 (-1) 0  ⟨by omega, by omega⟩ ⟨by omega, by omega⟩ hl3 ⟨by omega, by omega⟩ ⟨by omega, by omega⟩ (by omega)  (by omega)
set_option maxHeartbeats 4000000 in
set_option maxRecDepth 100000 in
theorem s_gX12_held_134 (fu : Nat) (hfu : 4000 ≤ fu) (M0 : jm_M) : ∀ (l1 l9 : Int) (M : jm_M) (iM : bI bx2 M) (kM : Kp TH2 M0 M) (hl1 : 0 ≤ l1 ∧ l1 ≤ 5) (hl9 : jm_in l9), wp (gX12_held_134 fu  M l1 l9) (fun r M1 => bI bx2 M1 ∧ Kp TH2 M0 M1 ∧ (jm_in r)) := by
  intro l1 l9 M iM kM hl1 hl9
  unfold gX12_held_134
  refine wp_T ⟨by omega, by omega⟩ ?_
  refine wp_T ⟨by omega, by omega⟩ ?_
  refine wp_sk iM (jm_w_in _) kM (by unfold TH2; omega) (fun M4 u_1 iM4 kM4 => ?_)
  refine wp_T ⟨by omega, by omega⟩ ?_
  have q_2 : (M4 5 0 0) = (M 5 0 0) := by rw [u_1]; exact jm_une_f (by decide)
  have r_3 : (jm_w (l9 + (M4 5 0 0))) = (jm_w (l9 + (M 5 0 0))) := congrArg jm_w (by omega)
  have b_4 : -2147483648 ≤ l9 ∧ l9 ≤ 2147483647 := hl9
  have b_5 : (-2147483648) ≤ (M 5 0 0) ∧ (M 5 0 0) ≤ 2147483647 := iM 5 0 0
  have w_6 : -2147483648 ≤ (jm_w (l9 + (M 5 0 0))) ∧ (jm_w (l9 + (M 5 0 0))) ≤ 2147483647 := jm_w_in _
  exact wp_ret ⟨iM4, kM4, (jm_w_in _)⟩
set_option maxHeartbeats 4000000 in
set_option maxRecDepth 100000 in
theorem s_gX12_held_181 (fu : Nat) (hfu : 4000 ≤ fu) (M0 : jm_M) (k37 : jm_M → Int → Int → Int → Int → Int → jm_R) (N37 : Int) (hk37 : ∀ (l1 l2 l6 l7 l8 : Int) (M : jm_M) (iM : bI bx2 M) (kM : Kp TH2 M0 M) (hl1 : 0 ≤ l1 ∧ l1 ≤ 5) (hl2 : 0 ≤ l2 ∧ l2 ≤ 4) (hl6 : jm_in l6) (hl7 : 0 ≤ l7 ∧ l7 ≤ 1) (hl8 : (-1) ≤ l8 ∧ l8 ≤ 5) (y0 : (l8 = (-1) ∨ (0 ≤ l8 ∧ l8 ≤ 5 ∧ 0 ≤ (M 56 0 (jm_w ((jm_w (5 * l8)) + l2)))))), (hdm M l2 l8) < N37 → wp (k37 M l1 l2 l6 l7 l8) (fun r M1 => bI bx2 M1 ∧ Kp TH2 M0 M1 ∧ (jm_in r))) : ∀ (l1 l2 l6 l7 l8 s0 s1 s2 : Int) (M : jm_M) (iM : bI bx2 M) (kM : Kp TH2 M0 M) (hl1 : 0 ≤ l1 ∧ l1 ≤ 5) (hl2 : 0 ≤ l2 ∧ l2 ≤ 4) (hl6 : (-2147483648) ≤ l6 ∧ l6 ≤ 2147483646) (hl7 : 0 ≤ l7 ∧ l7 ≤ 1) (hl8 : 0 ≤ l8 ∧ l8 ≤ 5) (hs0 : 0 ≤ s0 ∧ s0 ≤ 1) (hs1 : jm_in s1) (hs2 : 0 ≤ s2 ∧ s2 ≤ 5) (y0 : 0 ≤ (M 56 0 (jm_w ((jm_w (5 * l8)) + l2)))), (hdm M l2 l8) < N37 + 1 → wp (gX12_held_181 fu k37 M l1 l2 l6 l7 l8 s0 s1 s2) (fun r M1 => bI bx2 M1 ∧ Kp TH2 M0 M1 ∧ (jm_in r)) := by
  intro l1 l2 l6 l7 l8 s0 s1 s2 M iM kM hl1 hl2 hl6 hl7 hl8 hs0 hs1 hs2 y0 m37
  unfold gX12_held_181
  refine wp_T ⟨by omega, by omega⟩ ?_
  refine wp_sk iM (jm_w_in _) kM (by unfold TH2; omega) (fun M2 u_1 iM2 kM2 => ?_)
  have w_2 : (jm_w (5 * l8)) = (5 * l8) := jm_wid (by omega) (by omega)
  have w_3 : (jm_w ((jm_w (5 * l8)) + l2)) = ((jm_w (5 * l8)) + l2) := jm_wid (by omega) (by omega)
  refine wp_T ⟨by omega, by omega⟩ ?_
  have q_4 : (M2 56 0 (jm_w ((jm_w (5 * l8)) + l2))) = (M 56 0 (jm_w ((jm_w (5 * l8)) + l2))) := by rw [u_1]; exact jm_une_f (by decide)
  refine wp_bp (s_fX12_latest fu hfu M2 iM2 l1 l2 (M2 56 0 (jm_w ((jm_w (5 * l8)) + l2))) ⟨by omega, by omega⟩ ⟨by omega, by omega⟩ (bx2_in (iM2 56 0 (jm_w ((jm_w (5 * l8)) + l2)))) ) (fun v5 hv5 => ?_)
  have q_5 : (M2 56 0 (jm_w ((jm_w (5 * v5)) + l2))) = (M 56 0 (jm_w ((jm_w (5 * v5)) + l2))) := by rw [u_1]; exact jm_une_f (by decide)
  have w_6 : (jm_w (5 * v5)) = (5 * v5) := jm_wid (by omega) (by omega)
  have w_7 : (jm_w ((jm_w (5 * v5)) + l2)) = ((jm_w (5 * v5)) + l2) := jm_wid (by omega) (by omega)
  have b_8 : (-2147483648) ≤ (M 56 0 (jm_w ((jm_w (5 * v5)) + l2))) ∧ (M 56 0 (jm_w ((jm_w (5 * v5)) + l2))) ≤ 2147483647 := iM 56 0 (jm_w ((jm_w (5 * v5)) + l2))
  have e1 := hdm_eq (M := M) (M1 := M2) (fun x => by rw [u_1]; exact jm_une_f (by decide)) l2 l8
  have e2 := hdm_pos (M := M2) (l2 := l2) (l8 := l8) (by omega)
  have e3 : v5 < 0 → hdm M2 l2 v5 = 0 := hdm_neg
  have e4 : 0 ≤ v5 → hdm M2 l2 v5 = M2 56 0 (jm_w ((jm_w (5 * v5)) + l2)) + 1 := hdm_pos
  exact hk37 l1 l2 l6 l7 v5 M2 iM2 kM2 ⟨by omega, by omega⟩ ⟨by omega, by omega⟩ (jm_inL (by omega) (by omega)) ⟨by omega, by omega⟩ ⟨by omega, by omega⟩ (by omega) (by omega)
set_option maxHeartbeats 4000000 in
set_option maxRecDepth 100000 in
theorem s_gX12_held_154 (fu : Nat) (hfu : 4000 ≤ fu) (M0 : jm_M) (k37 : jm_M → Int → Int → Int → Int → Int → jm_R) (N37 : Int) (hk37 : ∀ (l1 l2 l6 l7 l8 : Int) (M : jm_M) (iM : bI bx2 M) (kM : Kp TH2 M0 M) (hl1 : 0 ≤ l1 ∧ l1 ≤ 5) (hl2 : 0 ≤ l2 ∧ l2 ≤ 4) (hl6 : jm_in l6) (hl7 : 0 ≤ l7 ∧ l7 ≤ 1) (hl8 : (-1) ≤ l8 ∧ l8 ≤ 5) (y0 : (l8 = (-1) ∨ (0 ≤ l8 ∧ l8 ≤ 5 ∧ 0 ≤ (M 56 0 (jm_w ((jm_w (5 * l8)) + l2)))))), (hdm M l2 l8) < N37 → wp (k37 M l1 l2 l6 l7 l8) (fun r M1 => bI bx2 M1 ∧ Kp TH2 M0 M1 ∧ (jm_in r))) : ∀ (l1 l2 l6 l7 l8 : Int) (M : jm_M) (iM : bI bx2 M) (kM : Kp TH2 M0 M) (hl1 : 0 ≤ l1 ∧ l1 ≤ 5) (hl2 : 0 ≤ l2 ∧ l2 ≤ 4) (hl6 : (-2147483648) ≤ l6 ∧ l6 ≤ 2147483646) (hl7 : 0 ≤ l7 ∧ l7 ≤ 1) (hl8 : 0 ≤ l8 ∧ l8 ≤ 5) (y0 : 0 ≤ (M 56 0 (jm_w ((jm_w (5 * l8)) + l2)))), (hdm M l2 l8) < N37 + 1 → wp (gX12_held_154 fu k37 M l1 l2 l6 l7 l8) (fun r M1 => bI bx2 M1 ∧ Kp TH2 M0 M1 ∧ (jm_in r)) := by
  intro l1 l2 l6 l7 l8 M iM kM hl1 hl2 hl6 hl7 hl8 y0 m37
  unfold gX12_held_154
  refine wp_T ⟨by omega, by omega⟩ ?_
  refine wp_T ⟨by omega, by omega⟩ ?_
  refine wp_sk iM (jm_w_in _) kM (by unfold TH2; omega) (fun M4 u_1 iM4 kM4 => ?_)
  refine wp_T ⟨by omega, by omega⟩ ?_
  refine wp_ite (fun c_2 => ?_) (fun c_2 => ?_)
  · skip
    have q_3 : (M4 51 0 l1) = (M 51 0 l1) := by rw [u_1]; exact jm_une_f (by decide)
    have b_4 : (-2147483648) ≤ (M 51 0 l1) ∧ (M 51 0 l1) ≤ 2147483647 := iM 51 0 l1
    have q_5 : (M4 56 0 (jm_w ((jm_w (5 * l8)) + l2))) = (M 56 0 (jm_w ((jm_w (5 * l8)) + l2))) := by rw [u_1]; exact jm_une_f (by decide)
    have w_6 : (jm_w (5 * l8)) = (5 * l8) := jm_wid (by omega) (by omega)
    have w_7 : (jm_w ((jm_w (5 * l8)) + l2)) = ((jm_w (5 * l8)) + l2) := jm_wid (by omega) (by omega)
    have b_8 : (-2147483648) ≤ (M 56 0 (jm_w ((jm_w (5 * l8)) + l2))) ∧ (M 56 0 (jm_w ((jm_w (5 * l8)) + l2))) ≤ 2147483647 := iM 56 0 (jm_w ((jm_w (5 * l8)) + l2))
    have e1 := hdm_eq (M := M) (M1 := M4) (fun x => by rw [u_1]; exact jm_une_f (by decide)) l2 l8
    exact s_gX12_held_181 fu hfu M0 k37 N37 hk37 l1 l2 l6 l7 l8 0 (M4 51 0 l1) l1 M4 iM4 kM4 ⟨by omega, by omega⟩ ⟨by omega, by omega⟩ ⟨by omega, by omega⟩ ⟨by omega, by omega⟩ ⟨by omega, by omega⟩ ⟨by omega, by omega⟩ (bx2_in (iM4 51 0 l1)) ⟨by omega, by omega⟩ (by omega) (by omega)
  · skip
    have q_9 : (M4 51 0 l1) = (M 51 0 l1) := by rw [u_1]; exact jm_une_f (by decide)
    have b_10 : (-2147483648) ≤ (M 51 0 l1) ∧ (M 51 0 l1) ≤ 2147483647 := iM 51 0 l1
    have q_11 : (M4 56 0 (jm_w ((jm_w (5 * l8)) + l2))) = (M 56 0 (jm_w ((jm_w (5 * l8)) + l2))) := by rw [u_1]; exact jm_une_f (by decide)
    have w_12 : (jm_w (5 * l8)) = (5 * l8) := jm_wid (by omega) (by omega)
    have w_13 : (jm_w ((jm_w (5 * l8)) + l2)) = ((jm_w (5 * l8)) + l2) := jm_wid (by omega) (by omega)
    have b_14 : (-2147483648) ≤ (M 56 0 (jm_w ((jm_w (5 * l8)) + l2))) ∧ (M 56 0 (jm_w ((jm_w (5 * l8)) + l2))) ≤ 2147483647 := iM 56 0 (jm_w ((jm_w (5 * l8)) + l2))
    have e1 := hdm_eq (M := M) (M1 := M4) (fun x => by rw [u_1]; exact jm_une_f (by decide)) l2 l8
    exact s_gX12_held_181 fu hfu M0 k37 N37 hk37 l1 l2 l6 l7 l8 1 (M4 51 0 l1) l1 M4 iM4 kM4 ⟨by omega, by omega⟩ ⟨by omega, by omega⟩ ⟨by omega, by omega⟩ ⟨by omega, by omega⟩ ⟨by omega, by omega⟩ ⟨by omega, by omega⟩ (bx2_in (iM4 51 0 l1)) ⟨by omega, by omega⟩ (by omega) (by omega)
set_option maxHeartbeats 4000000 in
set_option maxRecDepth 100000 in
theorem s_gX12_held_103 (fu : Nat) (hfu : 4000 ≤ fu) (M0 : jm_M) (k37 : jm_M → Int → Int → Int → Int → Int → jm_R) (N37 : Int) (hk37 : ∀ (l1 l2 l6 l7 l8 : Int) (M : jm_M) (iM : bI bx2 M) (kM : Kp TH2 M0 M) (hl1 : 0 ≤ l1 ∧ l1 ≤ 5) (hl2 : 0 ≤ l2 ∧ l2 ≤ 4) (hl6 : jm_in l6) (hl7 : 0 ≤ l7 ∧ l7 ≤ 1) (hl8 : (-1) ≤ l8 ∧ l8 ≤ 5) (y0 : (l8 = (-1) ∨ (0 ≤ l8 ∧ l8 ≤ 5 ∧ 0 ≤ (M 56 0 (jm_w ((jm_w (5 * l8)) + l2)))))), (hdm M l2 l8) < N37 → wp (k37 M l1 l2 l6 l7 l8) (fun r M1 => bI bx2 M1 ∧ Kp TH2 M0 M1 ∧ (jm_in r))) : ∀ (l1 l2 l6 l7 l8 l9 s0 : Int) (M : jm_M) (iM : bI bx2 M) (kM : Kp TH2 M0 M) (hl1 : 0 ≤ l1 ∧ l1 ≤ 5) (hl2 : 0 ≤ l2 ∧ l2 ≤ 4) (hl6 : (-2147483648) ≤ l6 ∧ l6 ≤ 2147483646) (hl7 : 0 ≤ l7 ∧ l7 ≤ 1) (hl8 : 0 ≤ l8 ∧ l8 ≤ 5) (hl9 : jm_in l9) (hs0 : jm_in s0) (y0 : 0 ≤ (M 56 0 (jm_w ((jm_w (5 * l8)) + l2)))), (hdm M l2 l8) < N37 + 1 → wp (gX12_held_103 fu k37 M l1 l2 l6 l7 l8 l9 s0) (fun r M1 => bI bx2 M1 ∧ Kp TH2 M0 M1 ∧ (jm_in r)) := by
  intro l1 l2 l6 l7 l8 l9 s0 M iM kM hl1 hl2 hl6 hl7 hl8 hl9 hs0 y0 m37
  unfold gX12_held_103
  have b_2 : -2147483648 ≤ s0 ∧ s0 ≤ 2147483647 := hs0
  refine wp_ite (fun c_1 => ?_) (fun c_1 => ?_)
  · skip
    have b_3 : -2147483648 ≤ l9 ∧ l9 ≤ 2147483647 := hl9
    exact s_gX12_held_134 fu hfu M0    l1 l9 M iM kM ⟨by omega, by omega⟩ hl9  
  · skip
    have b_5 : -2147483648 ≤ l9 ∧ l9 ≤ 2147483647 := hl9
    have w_6 : -2147483648 ≤ (jm_w (l6 + s0)) ∧ (jm_w (l6 + s0)) ≤ 2147483647 := jm_w_in _
    refine wp_ite (fun c_4 => ?_) (fun c_4 => ?_)
    · skip
      exact s_gX12_held_134 fu hfu M0    l1 l9 M iM kM ⟨by omega, by omega⟩ hl9  
    · skip
      refine wp_ite (fun c_7 => ?_) (fun c_7 => ?_)
      · skip
        have w_8 : (jm_w (5 * l8)) = (5 * l8) := jm_wid (by omega) (by omega)
        have w_9 : (jm_w ((jm_w (5 * l8)) + l2)) = ((jm_w (5 * l8)) + l2) := jm_wid (by omega) (by omega)
        have b_10 : (-2147483648) ≤ (M 56 0 (jm_w ((jm_w (5 * l8)) + l2))) ∧ (M 56 0 (jm_w ((jm_w (5 * l8)) + l2))) ≤ 2147483647 := iM 56 0 (jm_w ((jm_w (5 * l8)) + l2))
        exact s_gX12_held_154 fu hfu M0 k37 N37 hk37 l1 l2 l6 l7 l8 M iM kM ⟨by omega, by omega⟩ ⟨by omega, by omega⟩ ⟨by omega, by omega⟩ ⟨by omega, by omega⟩ ⟨by omega, by omega⟩ (by omega) (by omega)
      · skip
        refine wp_T ⟨by omega, by omega⟩ ?_
        have b_12 : (-2147483648) ≤ (M 48 0 l1) ∧ (M 48 0 l1) ≤ 2147483647 := iM 48 0 l1
        refine wp_ite (fun c_11 => ?_) (fun c_11 => ?_)
        · skip
          exact s_gX12_held_134 fu hfu M0    l1 l9 M iM kM ⟨by omega, by omega⟩ hl9  
        · skip
          have w_13 : (jm_w (5 * l8)) = (5 * l8) := jm_wid (by omega) (by omega)
          have w_14 : (jm_w ((jm_w (5 * l8)) + l2)) = ((jm_w (5 * l8)) + l2) := jm_wid (by omega) (by omega)
          have b_15 : (-2147483648) ≤ (M 56 0 (jm_w ((jm_w (5 * l8)) + l2))) ∧ (M 56 0 (jm_w ((jm_w (5 * l8)) + l2))) ≤ 2147483647 := iM 56 0 (jm_w ((jm_w (5 * l8)) + l2))
          exact s_gX12_held_154 fu hfu M0 k37 N37 hk37 l1 l2 l6 l7 l8 M iM kM ⟨by omega, by omega⟩ ⟨by omega, by omega⟩ ⟨by omega, by omega⟩ ⟨by omega, by omega⟩ ⟨by omega, by omega⟩ (by omega) (by omega)
set_option maxHeartbeats 4000000 in
set_option maxRecDepth 100000 in
theorem s_gX12_held_37 (fu : Nat) (hfu : 4000 ≤ fu) (M0 : jm_M) (k37 : jm_M → Int → Int → Int → Int → Int → jm_R) (N37 : Int) (hk37 : ∀ (l1 l2 l6 l7 l8 : Int) (M : jm_M) (iM : bI bx2 M) (kM : Kp TH2 M0 M) (hl1 : 0 ≤ l1 ∧ l1 ≤ 5) (hl2 : 0 ≤ l2 ∧ l2 ≤ 4) (hl6 : jm_in l6) (hl7 : 0 ≤ l7 ∧ l7 ≤ 1) (hl8 : (-1) ≤ l8 ∧ l8 ≤ 5) (y0 : (l8 = (-1) ∨ (0 ≤ l8 ∧ l8 ≤ 5 ∧ 0 ≤ (M 56 0 (jm_w ((jm_w (5 * l8)) + l2)))))), (hdm M l2 l8) < N37 → wp (k37 M l1 l2 l6 l7 l8) (fun r M1 => bI bx2 M1 ∧ Kp TH2 M0 M1 ∧ (jm_in r))) : ∀ (l1 l2 l6 l7 l8 : Int) (M : jm_M) (iM : bI bx2 M) (kM : Kp TH2 M0 M) (hl1 : 0 ≤ l1 ∧ l1 ≤ 5) (hl2 : 0 ≤ l2 ∧ l2 ≤ 4) (hl6 : jm_in l6) (hl7 : 0 ≤ l7 ∧ l7 ≤ 1) (hl8 : (-1) ≤ l8 ∧ l8 ≤ 5) (y0 : (l8 = (-1) ∨ (0 ≤ l8 ∧ l8 ≤ 5 ∧ 0 ≤ (M 56 0 (jm_w ((jm_w (5 * l8)) + l2)))))), (hdm M l2 l8) < N37 + 1 → wp (gX12_held_37 fu k37 M l1 l2 l6 l7 l8) (fun r M1 => bI bx2 M1 ∧ Kp TH2 M0 M1 ∧ (jm_in r)) := by
  intro l1 l2 l6 l7 l8 M iM kM hl1 hl2 hl6 hl7 hl8 y0 m37
  unfold gX12_held_37
  refine wp_ite (fun c_1 => ?_) (fun c_1 => ?_)
  · skip
    have b_2 : -2147483648 ≤ l6 ∧ l6 ≤ 2147483647 := hl6
    exact wp_ret ⟨iM, kM, hl6⟩
  · skip
    have w_3 : (jm_w (5 * l8)) = (5 * l8) := jm_wid (by omega) (by omega)
    have w_4 : (jm_w ((jm_w (5 * l8)) + l2)) = ((jm_w (5 * l8)) + l2) := jm_wid (by omega) (by omega)
    refine wp_T ⟨by omega, by omega⟩ ?_
    have b_5 : (-2147483648) ≤ (M 57 0 (jm_w ((jm_w (5 * l8)) + l2))) ∧ (M 57 0 (jm_w ((jm_w (5 * l8)) + l2))) ≤ 2147483647 := iM 57 0 (jm_w ((jm_w (5 * l8)) + l2))
    refine wp_e (by exact (iM 57 0 (jm_w ((jm_w (5 * l8)) + l2)))) (fun v4 e_6 hv4 => ?_)
    refine wp_T ⟨by omega, by omega⟩ ?_
    have b_8 : -2147483648 ≤ l6 ∧ l6 ≤ 2147483647 := hl6
    have b_9 : -2147483648 ≤ v4 ∧ v4 ≤ 2147483647 := hv4
    have b_10 : (-2147483648) ≤ (M 5 0 0) ∧ (M 5 0 0) ≤ 2147483647 := iM 5 0 0
    have w_11 : -2147483648 ≤ (jm_w (v4 + (M 5 0 0))) ∧ (jm_w (v4 + (M 5 0 0))) ≤ 2147483647 := jm_w_in _
    refine wp_ite (fun c_7 => ?_) (fun c_7 => ?_)
    · skip
      refine wp_T ⟨by omega, by omega⟩ ?_
      refine wp_T ⟨by omega, by omega⟩ ?_
      have b_13 : 0 ≤ (M 42 0 l1) ∧ (M 42 0 l1) ≤ 60 := iM 42 0 l1
      have b_14 : 0 ≤ (M 42 0 l8) ∧ (M 42 0 l8) ≤ 60 := iM 42 0 l8
      have w_15 : (jm_w ((M 42 0 l1) - (M 42 0 l8))) = ((M 42 0 l1) - (M 42 0 l8)) := jm_wid (by omega) (by omega)
      have b_16 : 2 ≤ (M 0 0 1) ∧ (M 0 0 1) ≤ 5 := iM 0 0 1
      refine wp_ite (fun c_12 => ?_) (fun c_12 => ?_)
      · skip
        refine wp_T ⟨by omega, by omega⟩ ?_
        have b_17 : (-2147483648) ≤ (M 2 0 l2) ∧ (M 2 0 l2) ≤ 2147483647 := iM 2 0 l2
        have b_18 : (-2147483648) ≤ (M 56 0 (jm_w ((jm_w (5 * l8)) + l2))) ∧ (M 56 0 (jm_w ((jm_w (5 * l8)) + l2))) ≤ 2147483647 := iM 56 0 (jm_w ((jm_w (5 * l8)) + l2))
        exact s_gX12_held_103 fu hfu M0 k37 N37 hk37 l1 l2 l6 l7 l8 v4 (M 2 0 l2) M iM kM ⟨by omega, by omega⟩ ⟨by omega, by omega⟩ ⟨by omega, by omega⟩ ⟨by omega, by omega⟩ ⟨by omega, by omega⟩ hv4 (iM 2 0 l2) (by omega) (by omega)
      · skip
        have b_19 : (-2147483648) ≤ (M 56 0 (jm_w ((jm_w (5 * l8)) + l2))) ∧ (M 56 0 (jm_w ((jm_w (5 * l8)) + l2))) ≤ 2147483647 := iM 56 0 (jm_w ((jm_w (5 * l8)) + l2))
        exact s_gX12_held_103 fu hfu M0 k37 N37 hk37 l1 l2 l6 l7 l8 v4 0 M iM kM ⟨by omega, by omega⟩ ⟨by omega, by omega⟩ ⟨by omega, by omega⟩ ⟨by omega, by omega⟩ ⟨by omega, by omega⟩ hv4 (jm_inL (by decide) (by decide)) (by omega) (by omega)
    · skip
      exact wp_ret ⟨iM, kM, hl6⟩
set_option maxHeartbeats 4000000 in
set_option maxRecDepth 100000 in
theorem s_fX12_held_37 (fu : Nat) (hfu : 4000 ≤ fu) (M0 : jm_M) : ∀ (n : Nat) (l1 l2 l6 l7 l8 : Int) (M : jm_M) (iM : bI bx2 M) (kM : Kp TH2 M0 M) (hl1 : 0 ≤ l1 ∧ l1 ≤ 5) (hl2 : 0 ≤ l2 ∧ l2 ≤ 4) (hl6 : jm_in l6) (hl7 : 0 ≤ l7 ∧ l7 ≤ 1) (hl8 : (-1) ≤ l8 ∧ l8 ≤ 5) (y0 : (l8 = (-1) ∨ (0 ≤ l8 ∧ l8 ≤ 5 ∧ 0 ≤ (M 56 0 (jm_w ((jm_w (5 * l8)) + l2)))))), (hdm M l2 l8) < (n : Int) → wp (fX12_held_37 fu  n M l1 l2 l6 l7 l8) (fun r M1 => bI bx2 M1 ∧ Kp TH2 M0 M1 ∧ (jm_in r)) := by
  intro n
  induction n with
  | zero => intro l1 l2 l6 l7 l8 M iM kM hl1 hl2 hl6 hl7 hl8 y0 hm; exfalso; (have e3 : l8 < 0 → hdm M l2 l8 = 0 := hdm_neg); (have e4 : 0 ≤ l8 → hdm M l2 l8 = M 56 0 (jm_w ((jm_w (5 * l8)) + l2)) + 1 := hdm_pos); omega
  | succ n ih =>
    intro l1 l2 l6 l7 l8 M iM kM hl1 hl2 hl6 hl7 hl8 y0 hm
    exact s_gX12_held_37 fu hfu M0 (fX12_held_37 fu  n) (n : Int) ih l1 l2 l6 l7 l8 M iM kM hl1 hl2 hl6 hl7 hl8 y0 (by omega)
set_option maxHeartbeats 4000000 in
set_option maxRecDepth 100000 in
theorem s_gX12_held_23 (fu : Nat) (hfu : 4000 ≤ fu) (M0 : jm_M) : ∀ (l1 l2 l6 s0 : Int) (M : jm_M) (iM : bI bx2 M) (kM : Kp TH2 M0 M) (hl1 : 0 ≤ l1 ∧ l1 ≤ 5) (hl2 : 0 ≤ l2 ∧ l2 ≤ 4) (hl6 : jm_in l6) (hs0 : 0 ≤ s0 ∧ s0 ≤ 1), wp (gX12_held_23 fu  M l1 l2 l6 s0) (fun r M1 => bI bx2 M1 ∧ Kp TH2 M0 M1 ∧ (jm_in r)) := by
  intro l1 l2 l6 s0 M iM kM hl1 hl2 hl6 hs0
  unfold gX12_held_23
  have b_1 : 0 ≤ (M 0 0 70) ∧ (M 0 0 70) ≤ 361 := iM 0 0 70
  refine wp_bp (s_fX12_latest fu hfu M iM l1 l2 (M 0 0 70) ⟨by omega, by omega⟩ ⟨by omega, by omega⟩ (jm_inL (by omega) (by omega)) ) (fun v2 hv2 => ?_)
  have b_2 : -2147483648 ≤ l6 ∧ l6 ≤ 2147483647 := hl6
  have w_3 : (jm_w (5 * v2)) = (5 * v2) := jm_wid (by omega) (by omega)
  have w_4 : (jm_w ((jm_w (5 * v2)) + l2)) = ((jm_w (5 * v2)) + l2) := jm_wid (by omega) (by omega)
  have b_5 : (-2147483648) ≤ (M 56 0 (jm_w ((jm_w (5 * v2)) + l2))) ∧ (M 56 0 (jm_w ((jm_w (5 * v2)) + l2))) ≤ 2147483647 := iM 56 0 (jm_w ((jm_w (5 * v2)) + l2))
  have e3 : v2 < 0 → hdm M l2 v2 = 0 := hdm_neg
  have e4 : 0 ≤ v2 → hdm M l2 v2 = M 56 0 (jm_w ((jm_w (5 * v2)) + l2)) + 1 := hdm_pos
  exact s_fX12_held_37 fu hfu M0    fu l1 l2 l6 s0 v2 M iM kM ⟨by omega, by omega⟩ ⟨by omega, by omega⟩ hl6 ⟨by omega, by omega⟩ ⟨by omega, by omega⟩ (by omega)  (by omega)
set_option maxHeartbeats 4000000 in
set_option maxRecDepth 100000 in
theorem s_fX12_held (fu : Nat) (hfu : 4000 ≤ fu) (M : jm_M) (iM : bI bx2 M) (l1 l2 l3 l4 l5 : Int) (hl1 : 0 ≤ l1 ∧ l1 ≤ 5) (hl2 : 0 ≤ l2 ∧ l2 ≤ 4) (hl3 : jm_in l3) (hl4 : jm_in l4) (hl5 : 0 ≤ l5 ∧ l5 ≤ 1) : wp (fX12_held fu M l1 l2 l3 l4 l5) (fun r M1 => bI bx2 M1 ∧ Kp TH2 M M1 ∧ (jm_in r)) := by
  have kM : Kp TH2 M M := Kp.rf
  unfold fX12_held
  refine wp_ite (fun c_1 => ?_) (fun c_1 => ?_)
  · skip
    refine wp_bp (s_fX12_isYellow fu hfu M iM l2 l3 ⟨by omega, by omega⟩ hl3 ) (fun v2 hv2 => ?_)
    refine wp_ite (fun c_2 => ?_) (fun c_2 => ?_)
    · skip
      have b_3 : -2147483648 ≤ l4 ∧ l4 ≤ 2147483647 := hl4
      exact s_gX12_held_23 fu hfu M    l1 l2 l4 0 M iM kM ⟨by omega, by omega⟩ ⟨by omega, by omega⟩ hl4 ⟨by omega, by omega⟩  
    · skip
      have b_4 : -2147483648 ≤ l4 ∧ l4 ≤ 2147483647 := hl4
      exact s_gX12_held_23 fu hfu M    l1 l2 l4 1 M iM kM ⟨by omega, by omega⟩ ⟨by omega, by omega⟩ hl4 ⟨by omega, by omega⟩  
  · skip
    have b_5 : -2147483648 ≤ l4 ∧ l4 ≤ 2147483647 := hl4
    exact s_gX12_held_23 fu hfu M    l1 l2 l4 1 M iM kM ⟨by omega, by omega⟩ ⟨by omega, by omega⟩ hl4 ⟨by omega, by omega⟩  
set_option maxHeartbeats 4000000 in
set_option maxRecDepth 100000 in
theorem s_gX12_endsLap_19 (fu : Nat) (hfu : 4000 ≤ fu) (M0 : jm_M) (w0 : WF M0) : ∀ (l1 l3 : Int) (M : jm_M) (iM : bI bx2 M) (kM : Kp (TE2 l1) M0 M) (hl1 : 0 ≤ l1 ∧ l1 ≤ 5) (hl3 : jm_in l3) (z0 : 0 ≤ M 45 0 l1), wp (gX12_endsLap_19 fu  M l1 l3) (fun r M1 => bI bx2 M1 ∧ Kp (TE2 l1) M0 M1 ∧ (0 ≤ r ∧ r ≤ 0 ∧ (0 ≤ M1 45 0 l1 ∧ M1 39 0 l1 = 1))) := by
  intro l1 l3 M iM kM hl1 hl3 z0
  unfold gX12_endsLap_19
  refine wp_T ⟨by omega, by omega⟩ ?_
  refine wp_sk iM (jm_inL (by decide) (by decide)) kM (by unfold TE2; omega) (fun M2 u_1 iM2 kM2 => ?_)
  refine wp_T ⟨by omega, by omega⟩ ?_
  refine wp_sk iM2 hl3 kM2 (by unfold TE2; omega) (fun M4 u_2 iM4 kM4 => ?_)
  have q_3 : (M4 45 0 l1) = (M2 45 0 l1) := by rw [u_2]; exact jm_une_f (by decide)
  have q_4 : (M2 45 0 l1) = (M 45 0 l1) := by rw [u_1]; exact jm_une_f (by decide)
  have b_5 : (-1) ≤ (M 45 0 l1) ∧ (M 45 0 l1) ≤ 3 := iM 45 0 l1
  have q_6 : (M4 39 0 l1) = (M2 39 0 l1) := by rw [u_2]; exact jm_une_f (by decide)
  have q_7 : (M2 39 0 l1) = 1 := by rw [u_1]; exact jm_ueq
  have q_8 : (M4 0 0 2) = (M2 0 0 2) := by rw [u_2]; exact jm_une_f (by decide)
  have q_9 : (M2 0 0 2) = (M 0 0 2) := by rw [u_1]; exact jm_une_f (by decide)
  have b_10 : 1 ≤ (M 0 0 2) ∧ (M 0 0 2) ≤ 12 := iM 0 0 2
  exact wp_ret ⟨iM4, kM4, by omega, by omega, by omega⟩
set_option maxHeartbeats 4000000 in
set_option maxRecDepth 100000 in
theorem s_gX12_isOver_5 (fu : Nat) (hfu : 4000 ≤ fu) (M : jm_M) (iM : bI bx2 M) (k5 : jm_M → Int → Int → Int → Int → jm_R) (N5 : Int) (hk5 : ∀ (l1 l2 l3 l4 : Int) (hl1 : 0 ≤ l1 ∧ l1 ≤ 5) (hl2 : jm_in l2) (hl3 : 0 ≤ l3 ∧ l3 ≤ 1) (hl4 : 0 ≤ l4 ∧ l4 ≤ 6), 7 - l4 < N5 → wp (k5 M l1 l2 l3 l4) (fun r M1 => M1 = M ∧ (0 ≤ r ∧ r ≤ 1))) : ∀ (l1 l2 l3 l4 : Int) (hl1 : 0 ≤ l1 ∧ l1 ≤ 5) (hl2 : jm_in l2) (hl3 : 0 ≤ l3 ∧ l3 ≤ 1) (hl4 : 0 ≤ l4 ∧ l4 ≤ 6), 7 - l4 < N5 + 1 → wp (gX12_isOver_5 fu k5 M l1 l2 l3 l4) (fun r M1 => M1 = M ∧ (0 ≤ r ∧ r ≤ 1)) := by
  intro l1 l2 l3 l4 hl1 hl2 hl3 hl4 m5
  unfold gX12_isOver_5
  have b_2 : 0 ≤ (M 0 0 17) ∧ (M 0 0 17) ≤ 6 := iM 0 0 17
  refine wp_ite (fun c_1 => ?_) (fun c_1 => ?_)
  · skip
    refine wp_T (by omega) ?_
    exact wp_ret ⟨rfl, by omega⟩
  · skip
    have w_3 : (jm_w (60 * l4)) = (60 * l4) := jm_wid (by omega) (by omega)
    have b_4 : 2 ≤ (M 0 0 1) ∧ (M 0 0 1) ≤ 5 := iM 0 0 1
    have b_5 : 1 ≤ (M 0 0 2) ∧ (M 0 0 2) ≤ 12 := iM 0 0 2
    have p_6 : 0 ≤ ((M 0 0 1) * (M 0 0 2)) ∧ ((M 0 0 1) * (M 0 0 2)) ≤ 60 := jm_mulb (A := 5) (B := 12) (by omega) (by omega) (by omega) (by omega) (by decide)
    have p_7 : 2 ≤ ((M 0 0 1) * (M 0 0 2)) := jm_mull (A := 2) (B := 1) (by omega) (by omega) (by omega) (by omega) (by decide)
    have w_8 : (jm_w ((M 0 0 1) * (M 0 0 2))) = ((M 0 0 1) * (M 0 0 2)) := jm_wid (by omega) (by omega)
    have w_9 : (jm_w ((jm_w (60 * l4)) + (jm_w ((M 0 0 1) * (M 0 0 2))))) = ((jm_w (60 * l4)) + (jm_w ((M 0 0 1) * (M 0 0 2)))) := jm_wid (by omega) (by omega)
    have w_10 : (jm_w ((jm_w ((jm_w (60 * l4)) + (jm_w ((M 0 0 1) * (M 0 0 2))))) - 1)) = ((jm_w ((jm_w (60 * l4)) + (jm_w ((M 0 0 1) * (M 0 0 2))))) - 1) := jm_wid (by omega) (by omega)
    refine wp_T ⟨by omega, by omega⟩ ?_
    have b_11 : (-2147483648) ≤ (M 55 0 (jm_w ((jm_w ((jm_w (60 * l4)) + (jm_w ((M 0 0 1) * (M 0 0 2))))) - 1))) ∧ (M 55 0 (jm_w ((jm_w ((jm_w (60 * l4)) + (jm_w ((M 0 0 1) * (M 0 0 2))))) - 1))) ≤ 2147483647 := iM 55 0 (jm_w ((jm_w ((jm_w (60 * l4)) + (jm_w ((M 0 0 1) * (M 0 0 2))))) - 1))
    refine wp_e (by exact (iM 55 0 (jm_w ((jm_w ((jm_w (60 * l4)) + (jm_w ((M 0 0 1) * (M 0 0 2))))) - 1)))) (fun v7 e_12 hv7 => ?_)
    refine wp_ite (fun c_13 => ?_) (fun c_13 => ?_)
    · skip
      refine wp_ite (fun c_14 => ?_) (fun c_14 => ?_)
      · skip
        have w_15 : (jm_w (l4 + 1)) = (l4 + 1) := jm_wid (by omega) (by omega)
        refine wp_e (by exact (jm_w_in _)) (fun v11 e_16 hv11 => ?_)
        have b_17 : -2147483648 ≤ v11 ∧ v11 ≤ 2147483647 := hv11
        have b_18 : -2147483648 ≤ l2 ∧ l2 ≤ 2147483647 := hl2
        exact hk5 l1 l2 0 v11  ⟨by omega, by omega⟩ hl2 ⟨by omega, by omega⟩ ⟨by omega, by omega⟩  (by omega)
      · skip
        have b_20 : -2147483648 ≤ v7 ∧ v7 ≤ 2147483647 := hv7
        refine wp_ite (fun c_19 => ?_) (fun c_19 => ?_)
        · skip
          have w_21 : (jm_w (l4 + 1)) = (l4 + 1) := jm_wid (by omega) (by omega)
          refine wp_e (by exact (jm_w_in _)) (fun v14 e_22 hv14 => ?_)
          have b_23 : -2147483648 ≤ v14 ∧ v14 ≤ 2147483647 := hv14
          have b_24 : -2147483648 ≤ l2 ∧ l2 ≤ 2147483647 := hl2
          exact hk5 l1 l2 0 v14  ⟨by omega, by omega⟩ hl2 ⟨by omega, by omega⟩ ⟨by omega, by omega⟩  (by omega)
        · skip
          have b_26 : -2147483648 ≤ l2 ∧ l2 ≤ 2147483647 := hl2
          refine wp_ite (fun c_25 => ?_) (fun c_25 => ?_)
          · skip
            have w_27 : (jm_w (l4 + 1)) = (l4 + 1) := jm_wid (by omega) (by omega)
            refine wp_e (by exact (jm_w_in _)) (fun v17 e_28 hv17 => ?_)
            have b_29 : -2147483648 ≤ v17 ∧ v17 ≤ 2147483647 := hv17
            exact hk5 l1 l2 0 v17  ⟨by omega, by omega⟩ hl2 ⟨by omega, by omega⟩ ⟨by omega, by omega⟩  (by omega)
          · skip
            have w_30 : (jm_w (l4 + 1)) = (l4 + 1) := jm_wid (by omega) (by omega)
            refine wp_e (by exact (jm_w_in _)) (fun v19 e_31 hv19 => ?_)
            have b_32 : -2147483648 ≤ v19 ∧ v19 ≤ 2147483647 := hv19
            exact hk5 l1 l2 1 v19  ⟨by omega, by omega⟩ hl2 ⟨by omega, by omega⟩ ⟨by omega, by omega⟩  (by omega)
    · skip
      have w_33 : (jm_w (l4 + 1)) = (l4 + 1) := jm_wid (by omega) (by omega)
      refine wp_e (by exact (jm_w_in _)) (fun v21 e_34 hv21 => ?_)
      have b_35 : -2147483648 ≤ v21 ∧ v21 ≤ 2147483647 := hv21
      have b_36 : -2147483648 ≤ l2 ∧ l2 ≤ 2147483647 := hl2
      exact hk5 l1 l2 1 v21  ⟨by omega, by omega⟩ hl2 ⟨by omega, by omega⟩ ⟨by omega, by omega⟩  (by omega)
set_option maxHeartbeats 4000000 in
set_option maxRecDepth 100000 in
theorem s_fX12_isOver_5 (fu : Nat) (hfu : 4000 ≤ fu) (M : jm_M) (iM : bI bx2 M) : ∀ (n : Nat) (l1 l2 l3 l4 : Int) (hl1 : 0 ≤ l1 ∧ l1 ≤ 5) (hl2 : jm_in l2) (hl3 : 0 ≤ l3 ∧ l3 ≤ 1) (hl4 : 0 ≤ l4 ∧ l4 ≤ 6), 7 - l4 < (n : Int) → wp (fX12_isOver_5 fu  n M l1 l2 l3 l4) (fun r M1 => M1 = M ∧ (0 ≤ r ∧ r ≤ 1)) := by
  intro n
  induction n with
  | zero => intro l1 l2 l3 l4 hl1 hl2 hl3 hl4 hm; exfalso; omega
  | succ n ih =>
    intro l1 l2 l3 l4 hl1 hl2 hl3 hl4 hm
    exact s_gX12_isOver_5 fu hfu M iM (fX12_isOver_5 fu  n) (n : Int) ih l1 l2 l3 l4 hl1 hl2 hl3 hl4 (by omega)
set_option maxHeartbeats 4000000 in
set_option maxRecDepth 100000 in
theorem s_fX12_isOver (fu : Nat) (hfu : 4000 ≤ fu) (M : jm_M) (iM : bI bx2 M) (l1 l2 : Int) (hl1 : 0 ≤ l1 ∧ l1 ≤ 5) (hl2 : jm_in l2) : wp (fX12_isOver fu M l1 l2) (fun r M1 => M1 = M ∧ (0 ≤ r ∧ r ≤ 1)) := by
  unfold fX12_isOver
  have b_1 : -2147483648 ≤ l2 ∧ l2 ≤ 2147483647 := hl2
  exact s_fX12_isOver_5 fu hfu M iM    fu l1 l2 0 0  ⟨by omega, by omega⟩ hl2 ⟨by omega, by omega⟩ ⟨by omega, by omega⟩   (by omega)
set_option maxHeartbeats 4000000 in
set_option maxRecDepth 100000 in
theorem s_gX12_boxes_132 (fu : Nat) (hfu : 4000 ≤ fu) (M0 : jm_M) : ∀ (l1 l7 l8 s0 s1 : Int) (M : jm_M) (iM : bI bx2 M) (kM : Kp (TE2 l1) M0 M) (hl1 : 0 ≤ l1 ∧ l1 ≤ 5) (hl7 : jm_in l7) (hl8 : jm_in l8) (hs0 : (-1) ≤ s0 ∧ s0 ≤ 3) (hs1 : 0 ≤ s1 ∧ s1 ≤ 5) (y0 : 0 ≤ s0) (y1 : s1 = l1) (z0 : 0 ≤ M 45 0 l1), wp (gX12_boxes_132 fu  M l1 l7 l8 s0 s1) (fun r M1 => bI bx2 M1 ∧ Kp (TE2 l1) M0 M1 ∧ (0 ≤ r ∧ r ≤ 0 ∧ (0 ≤ M1 45 0 l1))) := by
  intro l1 l7 l8 s0 s1 M iM kM hl1 hl7 hl8 hs0 hs1 y0 y1 z0
  unfold gX12_boxes_132
  refine wp_T ⟨by omega, by omega⟩ ?_
  refine wp_sk iM (show (-1) ≤ s0 ∧ s0 ≤ 3 by omega) kM (by unfold TE2; omega) (fun M2 u_1 iM2 kM2 => ?_)
  refine wp_T ⟨by omega, by omega⟩ ?_
  refine wp_T ⟨by omega, by omega⟩ ?_
  have q_2 : (M2 44 0 l1) = (M 44 0 l1) := by rw [u_1]; exact jm_une_f (by decide)
  have r_3 : (jm_w ((M2 44 0 l1) + l7)) = (jm_w ((M 44 0 l1) + l7)) := congrArg jm_w (by omega)
  refine wp_sk iM2 (jm_w_in _) kM2 (by unfold TE2; omega) (fun M6 u_4 iM6 kM6 => ?_)
  refine wp_T ⟨by omega, by omega⟩ ?_
  have q_5 : (M6 16 0 l1) = (M2 16 0 l1) := by rw [u_4]; exact jm_une_f (by decide)
  have q_6 : (M2 16 0 l1) = (M 16 0 l1) := by rw [u_1]; exact jm_une_f (by decide)
  have b_7 : 0 ≤ (M 16 0 l1) ∧ (M 16 0 l1) ≤ 3 := iM 16 0 l1
  refine wp_T ⟨by omega, by omega⟩ ?_
  refine wp_sk iM6 hl8 kM6 (by unfold TE2; omega) (fun M10 u_8 iM10 kM10 => ?_)
  refine wp_T ⟨by omega, by omega⟩ ?_
  refine wp_sk iM10 hl8 kM10 (by unfold TE2; omega) (fun M12 u_9 iM12 kM12 => ?_)
  refine wp_T ⟨by omega, by omega⟩ ?_
  refine wp_T ⟨by omega, by omega⟩ ?_
  have q_10 : (M12 49 0 l1) = (M10 49 0 l1) := by rw [u_9]; exact jm_une_f (by decide)
  have q_11 : (M10 49 0 l1) = (M6 49 0 l1) := by rw [u_8]; exact jm_une_f (by decide)
  have q_12 : (M6 49 0 l1) = (M2 49 0 l1) := by rw [u_4]; exact jm_une_f (by decide)
  have q_13 : (M2 49 0 l1) = (M 49 0 l1) := by rw [u_1]; exact jm_une_f (by decide)
  have r_14 : (jm_w ((M12 49 0 l1) + 1)) = (jm_w ((M 49 0 l1) + 1)) := congrArg jm_w (by omega)
  refine wp_sk iM12 (jm_w_in _) kM12 (by unfold TE2; omega) (fun M16 u_15 iM16 kM16 => ?_)
  have q_16 : (M16 45 0 l1) = (M12 45 0 l1) := by rw [u_15]; exact jm_une_f (by decide)
  have q_17 : (M12 45 0 l1) = (M10 45 0 l1) := by rw [u_9]; exact jm_une_f (by decide)
  have q_18 : (M10 45 0 l1) = (M6 45 0 l1) := by rw [u_8]; exact jm_une_f (by decide)
  have q_19 : (M6 45 0 l1) = (M2 45 0 l1) := by rw [u_4]; exact jm_une_f (by decide)
  have b_20 : (-1) ≤ (M2 45 0 l1) ∧ (M2 45 0 l1) ≤ 3 := iM2 45 0 l1
  have fx : (M2 45 0 l1) = s0 := by rw [u_1, y1]; exact jm_ueq
  exact wp_ret ⟨iM16, kM16, by omega, by omega, by omega⟩
set_option maxHeartbeats 4000000 in
set_option maxRecDepth 100000 in
theorem s_gX12_boxes_99 (fu : Nat) (hfu : 4000 ≤ fu) (M0 : jm_M) : ∀ (l1 l2 l6 l7 s0 s1 : Int) (M : jm_M) (iM : bI bx2 M) (kM : Kp (TE2 l1) M0 M) (hl1 : 0 ≤ l1 ∧ l1 ≤ 5) (hl2 : jm_in l2) (hl6 : 0 ≤ l6 ∧ l6 ≤ 1) (hl7 : jm_in l7) (hs0 : jm_in s0) (hs1 : jm_in s1) (y0 : (l6 = 0 ∨ (0 ≤ l2 ∧ l2 ≤ 3))) (z0 : 0 ≤ M 45 0 l1), wp (gX12_boxes_99 fu  M l1 l2 l6 l7 s0 s1) (fun r M1 => bI bx2 M1 ∧ Kp (TE2 l1) M0 M1 ∧ (0 ≤ r ∧ r ≤ 0 ∧ (0 ≤ M1 45 0 l1))) := by
  intro l1 l2 l6 l7 s0 s1 M iM kM hl1 hl2 hl6 hl7 hs0 hs1 y0 z0
  unfold gX12_boxes_99
  refine wp_T ⟨by omega, by omega⟩ ?_
  have b_1 : -2147483648 ≤ s1 ∧ s1 ≤ 2147483647 := hs1
  have b_2 : -2147483648 ≤ s0 ∧ s0 ≤ 2147483647 := hs0
  have w_3 : -2147483648 ≤ (jm_w (s1 + s0)) ∧ (jm_w (s1 + s0)) ≤ 2147483647 := jm_w_in _
  have b_4 : (-2147483648) ≤ (M 5 0 5) ∧ (M 5 0 5) ≤ 2147483647 := iM 5 0 5
  have b_5 : -2147483648 ≤ l7 ∧ l7 ≤ 2147483647 := hl7
  have w_6 : -2147483648 ≤ (jm_w ((M 5 0 5) * l7)) ∧ (jm_w ((M 5 0 5) * l7)) ≤ 2147483647 := jm_w_in _
  have w_7 : -2147483648 ≤ (jm_w ((jm_w (s1 + s0)) + (jm_w ((M 5 0 5) * l7)))) ∧ (jm_w ((jm_w (s1 + s0)) + (jm_w ((M 5 0 5) * l7)))) ≤ 2147483647 := jm_w_in _
  refine wp_e (by exact (jm_w_in _)) (fun v3 e_8 hv3 => ?_)
  refine wp_ite (fun c_9 => ?_) (fun c_9 => ?_)
  · skip
    refine wp_T ⟨by omega, by omega⟩ ?_
    have b_10 : (-1) ≤ (M 45 0 l1) ∧ (M 45 0 l1) ≤ 3 := iM 45 0 l1
    have b_11 : -2147483648 ≤ v3 ∧ v3 ≤ 2147483647 := hv3
    exact s_gX12_boxes_132 fu hfu M0    l1 l7 v3 (M 45 0 l1) l1 M iM kM ⟨by omega, by omega⟩ hl7 hv3 ⟨by omega, by omega⟩ ⟨by omega, by omega⟩ (by omega) (by omega) (by omega) 
  · skip
    have b_12 : -2147483648 ≤ l2 ∧ l2 ≤ 2147483647 := hl2
    have b_13 : -2147483648 ≤ v3 ∧ v3 ≤ 2147483647 := hv3
    have b_14 : (-1) ≤ (M 45 0 l1) ∧ (M 45 0 l1) ≤ 3 := iM 45 0 l1
    exact s_gX12_boxes_132 fu hfu M0    l1 l7 v3 l2 l1 M iM kM ⟨by omega, by omega⟩ hl7 hv3 ⟨by omega, by omega⟩ ⟨by omega, by omega⟩ (by omega) (by omega) (by omega) 
set_option maxHeartbeats 4000000 in
set_option maxRecDepth 100000 in
theorem s_gX12_boxes_61 (fu : Nat) (hfu : 4000 ≤ fu) (M0 : jm_M) : ∀ (l1 l2 l3 l5 s0 : Int) (M : jm_M) (iM : bI bx2 M) (kM : Kp (TE2 l1) M0 M) (hl1 : 0 ≤ l1 ∧ l1 ≤ 5) (hl2 : jm_in l2) (hl3 : jm_in l3) (hl5 : jm_in l5) (hs0 : 0 ≤ s0 ∧ s0 ≤ 1) (y0 : (s0 = 0 ∨ (0 ≤ l2 ∧ l2 ≤ 3))) (z0 : 0 ≤ M 45 0 l1), wp (gX12_boxes_61 fu  M l1 l2 l3 l5 s0) (fun r M1 => bI bx2 M1 ∧ Kp (TE2 l1) M0 M1 ∧ (0 ≤ r ∧ r ≤ 0 ∧ (0 ≤ M1 45 0 l1))) := by
  intro l1 l2 l3 l5 s0 M iM kM hl1 hl2 hl3 hl5 hs0 y0 z0
  unfold gX12_boxes_61
  refine wp_T ⟨by omega, by omega⟩ ?_
  refine wp_T ⟨by omega, by omega⟩ ?_
  have b_1 : -2147483648 ≤ l3 ∧ l3 ≤ 2147483647 := hl3
  have b_2 : (-2147483648) ≤ (M 14 0 l1) ∧ (M 14 0 l1) ≤ 2147483647 := iM 14 0 l1
  have b_3 : (-2147483648) ≤ (M 44 0 l1) ∧ (M 44 0 l1) ≤ 2147483647 := iM 44 0 l1
  have w_4 : -2147483648 ≤ (jm_w ((M 14 0 l1) - (M 44 0 l1))) ∧ (jm_w ((M 14 0 l1) - (M 44 0 l1))) ≤ 2147483647 := jm_w_in _
  have f_5 := jm_min_f l3 (jm_w ((M 14 0 l1) - (M 44 0 l1)))
  refine wp_e (by exact (jm_min_in hl3 (jm_w_in _))) (fun v5 e_6 hv5 => ?_)
  refine wp_ite (fun c_7 => ?_) (fun c_7 => ?_)
  · skip
    have b_8 : -2147483648 ≤ l2 ∧ l2 ≤ 2147483647 := hl2
    have b_9 : -2147483648 ≤ v5 ∧ v5 ≤ 2147483647 := hv5
    have b_10 : -2147483648 ≤ l5 ∧ l5 ≤ 2147483647 := hl5
    have b_11 : (-1) ≤ (M 45 0 l1) ∧ (M 45 0 l1) ≤ 3 := iM 45 0 l1
    exact s_gX12_boxes_99 fu hfu M0    l1 l2 s0 v5 0 l5 M iM kM ⟨by omega, by omega⟩ hl2 ⟨by omega, by omega⟩ hv5 (jm_inL (by decide) (by decide)) hl5 (by omega) (by omega) 
  · skip
    refine wp_T ⟨by omega, by omega⟩ ?_
    have b_12 : -2147483648 ≤ l2 ∧ l2 ≤ 2147483647 := hl2
    have b_13 : -2147483648 ≤ v5 ∧ v5 ≤ 2147483647 := hv5
    have b_14 : (-2147483648) ≤ (M 5 0 4) ∧ (M 5 0 4) ≤ 2147483647 := iM 5 0 4
    have b_15 : -2147483648 ≤ l5 ∧ l5 ≤ 2147483647 := hl5
    have b_16 : (-1) ≤ (M 45 0 l1) ∧ (M 45 0 l1) ≤ 3 := iM 45 0 l1
    exact s_gX12_boxes_99 fu hfu M0    l1 l2 s0 v5 (M 5 0 4) l5 M iM kM ⟨by omega, by omega⟩ hl2 ⟨by omega, by omega⟩ hv5 (iM 5 0 4) hl5 (by omega) (by omega) 
set_option maxHeartbeats 4000000 in
set_option maxRecDepth 100000 in
theorem s_fX12_boxes (fu : Nat) (hfu : 4000 ≤ fu) (M : jm_M) (iM : bI bx2 M) (l1 l2 l3 l4 : Int) (hl1 : 0 ≤ l1 ∧ l1 ≤ 5) (hl2 : jm_in l2) (hl3 : jm_in l3) (hl4 : jm_in l4) (x0 : 0 ≤ (M 45 0 l1)) : wp (fX12_boxes fu M l1 l2 l3 l4) (fun r M1 => bI bx2 M1 ∧ Kp (TE2 l1) M M1 ∧ (0 ≤ r ∧ r ≤ 0 ∧ (0 ≤ M1 45 0 l1))) := by
  have kM : Kp (TE2 l1) M M := Kp.rf
  unfold fX12_boxes
  refine wp_T ⟨by omega, by omega⟩ ?_
  have b_1 : 0 ≤ (M 16 0 l1) ∧ (M 16 0 l1) ≤ 3 := iM 16 0 l1
  refine wp_T ⟨by omega, by omega⟩ ?_
  have b_2 : -2147483648 ≤ l4 ∧ l4 ≤ 2147483647 := hl4
  have b_3 : (-2147483648) ≤ (M 58 0 (M 16 0 l1)) ∧ (M 58 0 (M 16 0 l1)) ≤ 2147483647 := iM 58 0 (M 16 0 l1)
  have f_4 := jm_max_f l4 (M 58 0 (M 16 0 l1))
  refine wp_e (by exact (jm_max_in hl4 (iM 58 0 (M 16 0 l1)))) (fun v5 e_5 hv5 => ?_)
  refine wp_T ⟨by omega, by omega⟩ ?_
  refine wp_T ⟨by omega, by omega⟩ ?_
  refine wp_sk iM (jm_w_in _) kM (by unfold TE2; omega) (fun M10 u_6 iM10 kM10 => ?_)
  have b_8 : -2147483648 ≤ l2 ∧ l2 ≤ 2147483647 := hl2
  refine wp_ite (fun c_7 => ?_) (fun c_7 => ?_)
  · skip
    have b_9 : -2147483648 ≤ l3 ∧ l3 ≤ 2147483647 := hl3
    have b_10 : -2147483648 ≤ v5 ∧ v5 ≤ 2147483647 := hv5
    have q_11 : (M10 45 0 l1) = (M 45 0 l1) := by rw [u_6]; exact jm_une_f (by decide)
    have b_12 : (-1) ≤ (M 45 0 l1) ∧ (M 45 0 l1) ≤ 3 := iM 45 0 l1
    exact s_gX12_boxes_61 fu hfu M    l1 l2 l3 v5 0 M10 iM10 kM10 ⟨by omega, by omega⟩ hl2 hl3 hv5 ⟨by omega, by omega⟩ (by omega) (by omega) 
  · skip
    refine wp_T ⟨by omega, by omega⟩ ?_
    have q_13 : (M10 19 0 l1) = (M 19 0 l1) := by rw [u_6]; exact jm_une_f (by decide)
    have b_15 : 0 ≤ (M 19 0 l1) ∧ (M 19 0 l1) ≤ 4 := iM 19 0 l1
    refine wp_ite (fun c_14 => ?_) (fun c_14 => ?_)
    · skip
      have b_16 : -2147483648 ≤ l3 ∧ l3 ≤ 2147483647 := hl3
      have b_17 : -2147483648 ≤ v5 ∧ v5 ≤ 2147483647 := hv5
      have q_18 : (M10 45 0 l1) = (M 45 0 l1) := by rw [u_6]; exact jm_une_f (by decide)
      have b_19 : (-1) ≤ (M 45 0 l1) ∧ (M 45 0 l1) ≤ 3 := iM 45 0 l1
      exact s_gX12_boxes_61 fu hfu M    l1 l2 l3 v5 0 M10 iM10 kM10 ⟨by omega, by omega⟩ hl2 hl3 hv5 ⟨by omega, by omega⟩ (by omega) (by omega) 
    · skip
      refine wp_T ⟨by omega, by omega⟩ ?_
      have q_20 : (M10 45 0 l1) = (M 45 0 l1) := by rw [u_6]; exact jm_une_f (by decide)
      have b_22 : (-1) ≤ (M 45 0 l1) ∧ (M 45 0 l1) ≤ 3 := iM 45 0 l1
      refine wp_ite (fun c_21 => ?_) (fun c_21 => ?_)
      · skip
        have b_23 : -2147483648 ≤ l3 ∧ l3 ≤ 2147483647 := hl3
        have b_24 : -2147483648 ≤ v5 ∧ v5 ≤ 2147483647 := hv5
        exact s_gX12_boxes_61 fu hfu M    l1 l2 l3 v5 0 M10 iM10 kM10 ⟨by omega, by omega⟩ hl2 hl3 hv5 ⟨by omega, by omega⟩ (by omega) (by omega) 
      · skip
        have b_25 : -2147483648 ≤ l3 ∧ l3 ≤ 2147483647 := hl3
        have b_26 : -2147483648 ≤ v5 ∧ v5 ≤ 2147483647 := hv5
        exact s_gX12_boxes_61 fu hfu M    l1 l2 l3 v5 1 M10 iM10 kM10 ⟨by omega, by omega⟩ hl2 hl3 hv5 ⟨by omega, by omega⟩ (by omega) (by omega) 
set_option maxHeartbeats 4000000 in
set_option maxRecDepth 100000 in
theorem s_gX12_endsLap_92 (fu : Nat) (hfu : 4000 ≤ fu) (M0 : jm_M) (w0 : WF M0) (k92 : jm_M → Int → Int → Int → Int → Int → Int → jm_R) (N92 : Int) (hk92 : ∀ (l1 l2 l3 l4 l5 l6 : Int) (M : jm_M) (iM : bI bx2 M) (kM : Kp (TE2 l1) M0 M) (hl1 : 0 ≤ l1 ∧ l1 ≤ 5) (hl2 : 0 ≤ l2 ∧ l2 ≤ 11) (hl3 : jm_in l3) (hl4 : jm_in l4) (hl5 : jm_in l5) (hl6 : 0 ≤ l6 ∧ l6 ≤ 30) (y0 : (l2 + 1) < (M 0 0 2)) (z0 : 0 ≤ M 45 0 l1), 31 - l6 < N92 → wp (k92 M l1 l2 l3 l4 l5 l6) (fun r M1 => bI bx2 M1 ∧ Kp (TE2 l1) M0 M1 ∧ (0 ≤ r ∧ r ≤ 0 ∧ (0 ≤ M1 45 0 l1 ∧ (l2 + 1 = M0 0 0 2 → M1 39 0 l1 = 1))))) : ∀ (l1 l2 l3 l4 l5 l6 : Int) (M : jm_M) (iM : bI bx2 M) (kM : Kp (TE2 l1) M0 M) (hl1 : 0 ≤ l1 ∧ l1 ≤ 5) (hl2 : 0 ≤ l2 ∧ l2 ≤ 11) (hl3 : jm_in l3) (hl4 : jm_in l4) (hl5 : jm_in l5) (hl6 : 0 ≤ l6 ∧ l6 ≤ 30) (y0 : (l2 + 1) < (M 0 0 2)) (z0 : 0 ≤ M 45 0 l1), 31 - l6 < N92 + 1 → wp (gX12_endsLap_92 fu k92 M l1 l2 l3 l4 l5 l6) (fun r M1 => bI bx2 M1 ∧ Kp (TE2 l1) M0 M1 ∧ (0 ≤ r ∧ r ≤ 0 ∧ (0 ≤ M1 45 0 l1 ∧ (l2 + 1 = M0 0 0 2 → M1 39 0 l1 = 1)))) := by
  intro l1 l2 l3 l4 l5 l6 M iM kM hl1 hl2 hl3 hl4 hl5 hl6 y0 z0 m92
  have eL : M 0 0 2 = M0 0 0 2 := kM 0 0 2 (by unfold TE2; omega)
  unfold gX12_endsLap_92
  refine wp_T ⟨by omega, by omega⟩ ?_
  have w_2 : (jm_w (5 * l1)) = (5 * l1) := jm_wid (by omega) (by omega)
  have b_3 : 0 ≤ (M 26 0 l1) ∧ (M 26 0 l1) ≤ 5 := iM 26 0 l1
  have w_4 : (jm_w ((jm_w (5 * l1)) + (M 26 0 l1))) = ((jm_w (5 * l1)) + (M 26 0 l1)) := jm_wid (by omega) (by omega)
  refine wp_ite (fun c_1 => ?_) (fun c_1 => ?_)
  · skip
    have b_6 : -2147483648 ≤ l4 ∧ l4 ≤ 2147483647 := hl4
    refine wp_ite (fun c_5 => ?_) (fun c_5 => ?_)
    · skip
      have b_7 : (-1) ≤ (M 45 0 l1) ∧ (M 45 0 l1) ≤ 3 := iM 45 0 l1
      have b_8 : (-2147483648) ≤ (M 39 0 l1) ∧ (M 39 0 l1) ≤ 2147483647 := iM 39 0 l1
      have b_9 : 1 ≤ (M 0 0 2) ∧ (M 0 0 2) ≤ 12 := iM 0 0 2
      exact wp_ret ⟨iM, kM, by omega, by omega, by omega⟩
    · skip
      refine wp_T ⟨by omega, by omega⟩ ?_
      have b_10 : (-1) ≤ (M 45 0 l1) ∧ (M 45 0 l1) ≤ 3 := iM 45 0 l1
      refine wp_bk (s_fX12_boxes fu hfu M iM l1 l4 l5 (jm_w (l3 + (M 5 0 3))) ⟨by omega, by omega⟩ hl4 hl5 (jm_w_in _) (by omega)) (fun v7 M8 iM8 jM8 hv7 => ?_)
      have kM8 := kM.tr jM8 (fun _ _ _ h => h)
      have b_11 : (-1) ≤ (M8 45 0 l1) ∧ (M8 45 0 l1) ≤ 3 := iM8 45 0 l1
      have b_12 : (-2147483648) ≤ (M8 39 0 l1) ∧ (M8 39 0 l1) ≤ 2147483647 := iM8 39 0 l1
      have q_13 : (M8 0 0 2) = (M 0 0 2) := jM8 0 0 2 (by unfold TE2; omega)
      have b_14 : 1 ≤ (M 0 0 2) ∧ (M 0 0 2) ≤ 12 := iM 0 0 2
      exact wp_ret ⟨iM8, kM8, by omega, by omega, by omega⟩
  · skip
    refine wp_T ⟨by omega, by omega⟩ ?_
    have b_16 : (-2147483648) ≤ (M 27 0 l6) ∧ (M 27 0 l6) ≤ 2147483647 := iM 27 0 l6
    refine wp_ite (fun c_15 => ?_) (fun c_15 => ?_)
    · skip
      refine wp_T ⟨by omega, by omega⟩ ?_
      have b_17 : (-2147483648) ≤ (M 28 0 l6) ∧ (M 28 0 l6) ≤ 2147483647 := iM 28 0 l6
      refine wp_e (by exact (iM 28 0 l6)) (fun v14 e_18 hv14 => ?_)
      refine wp_T ⟨by omega, by omega⟩ ?_
      have b_19 : (-2147483648) ≤ (M 29 0 l6) ∧ (M 29 0 l6) ≤ 2147483647 := iM 29 0 l6
      refine wp_e (by exact (iM 29 0 l6)) (fun v18 e_20 hv18 => ?_)
      have w_21 : (jm_w (l6 + 1)) = (l6 + 1) := jm_wid (by omega) (by omega)
      refine wp_e (by exact (jm_w_in _)) (fun v20 e_22 hv20 => ?_)
      have b_23 : -2147483648 ≤ v20 ∧ v20 ≤ 2147483647 := hv20
      have b_24 : -2147483648 ≤ l3 ∧ l3 ≤ 2147483647 := hl3
      have b_25 : -2147483648 ≤ v14 ∧ v14 ≤ 2147483647 := hv14
      have b_26 : -2147483648 ≤ v18 ∧ v18 ≤ 2147483647 := hv18
      have b_27 : 1 ≤ (M 0 0 2) ∧ (M 0 0 2) ≤ 12 := iM 0 0 2
      have b_28 : (-1) ≤ (M 45 0 l1) ∧ (M 45 0 l1) ≤ 3 := iM 45 0 l1
      have b_29 : (-2147483648) ≤ (M 39 0 l1) ∧ (M 39 0 l1) ≤ 2147483647 := iM 39 0 l1
      exact hk92 l1 l2 l3 v14 v18 v20 M iM kM ⟨by omega, by omega⟩ ⟨by omega, by omega⟩ hl3 hv14 hv18 ⟨by omega, by omega⟩ (by omega) (by omega) (by omega)
    · skip
      have w_30 : (jm_w (l6 + 1)) = (l6 + 1) := jm_wid (by omega) (by omega)
      refine wp_e (by exact (jm_w_in _)) (fun v22 e_31 hv22 => ?_)
      have b_32 : -2147483648 ≤ v22 ∧ v22 ≤ 2147483647 := hv22
      have b_33 : -2147483648 ≤ l3 ∧ l3 ≤ 2147483647 := hl3
      have b_34 : -2147483648 ≤ l4 ∧ l4 ≤ 2147483647 := hl4
      have b_35 : -2147483648 ≤ l5 ∧ l5 ≤ 2147483647 := hl5
      have b_36 : 1 ≤ (M 0 0 2) ∧ (M 0 0 2) ≤ 12 := iM 0 0 2
      have b_37 : (-1) ≤ (M 45 0 l1) ∧ (M 45 0 l1) ≤ 3 := iM 45 0 l1
      have b_38 : (-2147483648) ≤ (M 39 0 l1) ∧ (M 39 0 l1) ≤ 2147483647 := iM 39 0 l1
      exact hk92 l1 l2 l3 l4 l5 v22 M iM kM ⟨by omega, by omega⟩ ⟨by omega, by omega⟩ hl3 hl4 hl5 ⟨by omega, by omega⟩ (by omega) (by omega) (by omega)
set_option maxHeartbeats 4000000 in
set_option maxRecDepth 100000 in
theorem s_fX12_endsLap_92 (fu : Nat) (hfu : 4000 ≤ fu) (M0 : jm_M) (w0 : WF M0) : ∀ (n : Nat) (l1 l2 l3 l4 l5 l6 : Int) (M : jm_M) (iM : bI bx2 M) (kM : Kp (TE2 l1) M0 M) (hl1 : 0 ≤ l1 ∧ l1 ≤ 5) (hl2 : 0 ≤ l2 ∧ l2 ≤ 11) (hl3 : jm_in l3) (hl4 : jm_in l4) (hl5 : jm_in l5) (hl6 : 0 ≤ l6 ∧ l6 ≤ 30) (y0 : (l2 + 1) < (M 0 0 2)) (z0 : 0 ≤ M 45 0 l1), 31 - l6 < (n : Int) → wp (fX12_endsLap_92 fu  n M l1 l2 l3 l4 l5 l6) (fun r M1 => bI bx2 M1 ∧ Kp (TE2 l1) M0 M1 ∧ (0 ≤ r ∧ r ≤ 0 ∧ (0 ≤ M1 45 0 l1 ∧ (l2 + 1 = M0 0 0 2 → M1 39 0 l1 = 1)))) := by
  intro n
  induction n with
  | zero => intro l1 l2 l3 l4 l5 l6 M iM kM hl1 hl2 hl3 hl4 hl5 hl6 y0 z0 hm; exfalso; omega
  | succ n ih =>
    intro l1 l2 l3 l4 l5 l6 M iM kM hl1 hl2 hl3 hl4 hl5 hl6 y0 z0 hm
    exact s_gX12_endsLap_92 fu hfu M0 w0 (fX12_endsLap_92 fu  n) (n : Int) ih l1 l2 l3 l4 l5 l6 M iM kM hl1 hl2 hl3 hl4 hl5 hl6 y0 z0 (by omega)
set_option maxHeartbeats 4000000 in
set_option maxRecDepth 100000 in
theorem s_gX12_speaks_146 (fu : Nat) (hfu : 4000 ≤ fu) (M0 : jm_M) : ∀ (l1 l3 l4 l7 s0 s1 : Int) (M : jm_M) (iM : bI bx2 M) (kM : Kp TH2 M0 M) (hl1 : 0 ≤ l1 ∧ l1 ≤ 5) (hl3 : jm_in l3) (hl4 : 0 ≤ l4 ∧ l4 ≤ 59) (hl7 : 0 ≤ l7 ∧ l7 ≤ 23) (hs0 : jm_in s0) (hs1 : 3 ≤ s1 ∧ s1 ≤ 3), wp (gX12_speaks_146 fu  M l1 l3 l4 l7 s0 s1) (fun r M1 => bI bx2 M1 ∧ Kp TH2 M0 M1 ∧ (0 ≤ r ∧ r ≤ 0)) := by
  intro l1 l3 l4 l7 s0 s1 M iM kM hl1 hl3 hl4 hl7 hs0 hs1
  unfold gX12_speaks_146
  refine wp_T ⟨by omega, by omega⟩ ?_
  refine wp_sk iM hs0 kM (by unfold TH2; omega) (fun M2 u_1 iM2 kM2 => ?_)
  refine wp_T ⟨by omega, by omega⟩ ?_
  refine wp_T ⟨by omega, by omega⟩ ?_
  have q_2 : (M2 44 0 l1) = (M 44 0 l1) := by rw [u_1]; exact jm_une_f (by decide)
  refine wp_sk iM2 (bx2_in (iM2 44 0 l1)) kM2 (by unfold TH2; omega) (fun M6 u_3 iM6 kM6 => ?_)
  refine wp_T ⟨by omega, by omega⟩ ?_
  refine wp_T ⟨by omega, by omega⟩ ?_
  have q_4 : (M6 15 0 l1) = (M2 15 0 l1) := by rw [u_3]; exact jm_une_f (by decide)
  have q_5 : (M2 15 0 l1) = (M 15 0 l1) := by rw [u_1]; exact jm_une_f (by decide)
  have q_6 : (M6 0 0 1) = (M2 0 0 1) := by rw [u_3]; exact jm_une_f (by decide)
  have q_7 : (M2 0 0 1) = (M 0 0 1) := by rw [u_1]; exact jm_une_f (by decide)
  have q_8 : (M6 0 0 2) = (M2 0 0 2) := by rw [u_3]; exact jm_une_f (by decide)
  have q_9 : (M2 0 0 2) = (M 0 0 2) := by rw [u_1]; exact jm_une_f (by decide)
  have r_10 : ((M6 0 0 1) * (M6 0 0 2)) = ((M 0 0 1) * (M 0 0 2)) := by rw [show (M6 0 0 1) = (M 0 0 1) by omega, show (M6 0 0 2) = (M 0 0 2) by omega]
  have r_11 : (jm_w ((M6 0 0 1) * (M6 0 0 2))) = (jm_w ((M 0 0 1) * (M 0 0 2))) := congrArg jm_w (by omega)
  have r_12 : (jm_w ((jm_w ((M6 0 0 1) * (M6 0 0 2))) - l4)) = (jm_w ((jm_w ((M 0 0 1) * (M 0 0 2))) - l4)) := congrArg jm_w (by omega)
  have r_13 : (jm_w ((jm_w ((jm_w ((M6 0 0 1) * (M6 0 0 2))) - l4)) - 1)) = (jm_w ((jm_w ((jm_w ((M 0 0 1) * (M 0 0 2))) - l4)) - 1)) := congrArg jm_w (by omega)
  have r_14 : ((M6 15 0 l1) * (jm_w ((jm_w ((jm_w ((M6 0 0 1) * (M6 0 0 2))) - l4)) - 1))) = ((M 15 0 l1) * (jm_w ((jm_w ((jm_w ((M 0 0 1) * (M 0 0 2))) - l4)) - 1))) := by rw [show (M6 15 0 l1) = (M 15 0 l1) by omega, show (jm_w ((jm_w ((jm_w ((M6 0 0 1) * (M6 0 0 2))) - l4)) - 1)) = (jm_w ((jm_w ((jm_w ((M 0 0 1) * (M 0 0 2))) - l4)) - 1)) by omega]
  have r_15 : (jm_w ((M6 15 0 l1) * (jm_w ((jm_w ((jm_w ((M6 0 0 1) * (M6 0 0 2))) - l4)) - 1)))) = (jm_w ((M 15 0 l1) * (jm_w ((jm_w ((jm_w ((M 0 0 1) * (M 0 0 2))) - l4)) - 1)))) := congrArg jm_w (by omega)
  refine wp_sk iM6 (jm_w_in _) kM6 (by unfold TH2; omega) (fun M12 u_16 iM12 kM12 => ?_)
  refine wp_T ⟨by omega, by omega⟩ ?_
  refine wp_T ⟨by omega, by omega⟩ ?_
  have q_17 : (M12 46 0 l7) = (M6 46 0 l7) := by rw [u_16]; exact jm_une_f (by decide)
  have q_18 : (M6 46 0 l7) = (M2 46 0 l7) := by rw [u_3]; exact jm_une_f (by decide)
  have q_19 : (M2 46 0 l7) = (M 46 0 l7) := by rw [u_1]; exact jm_une_f (by decide)
  refine wp_sk iM12 (bx2_in (iM12 46 0 l7)) kM12 (by unfold TH2; omega) (fun M16 u_20 iM16 kM16 => ?_)
  refine wp_T ⟨by omega, by omega⟩ ?_
  refine wp_T ⟨by omega, by omega⟩ ?_
  have q_21 : (M16 20 0 l7) = (M12 20 0 l7) := by rw [u_20]; exact jm_une_f (by decide)
  have q_22 : (M12 20 0 l7) = (M6 20 0 l7) := by rw [u_16]; exact jm_une_f (by decide)
  have q_23 : (M6 20 0 l7) = (M2 20 0 l7) := by rw [u_3]; exact jm_une_f (by decide)
  have q_24 : (M2 20 0 l7) = (M 20 0 l7) := by rw [u_1]; exact jm_une_f (by decide)
  have b_25 : 0 ≤ (M 20 0 l7) ∧ (M 20 0 l7) ≤ 3 := iM 20 0 l7
  refine wp_sk iM16 (bx2_in (iM16 20 0 l7)) kM16 (by unfold TH2; omega) (fun M20 u_26 iM20 kM20 => ?_)
  refine wp_bp (s_fX12_wet fu hfu M20 iM20 0 l3 ⟨by omega, by omega⟩ hl3 ) (fun v21 hv21 => ?_)
  refine wp_T ⟨by omega, by omega⟩ ?_
  refine wp_sk iM20 hv21 kM20 (by unfold TH2; omega) (fun M25 u_27 iM25 kM25 => ?_)
  refine wp_bp (s_fX12_isSlow fu hfu M25 iM25 l3 hl3 ) (fun v26 hv26 => ?_)
  refine wp_bp (s_fX12_truth M25 iM25 v26 (jm_inL (by omega) (by omega)) ) (fun v29 hv29 => ?_)
  refine wp_T ⟨by omega, by omega⟩ ?_
  refine wp_sk iM25 (jm_inL (by omega) (by omega)) kM25 (by unfold TH2; omega) (fun M33 u_28 iM33 kM33 => ?_)
  refine wp_bp (s_fX12_isYellow fu hfu M33 iM33 (-1) l3 ⟨by omega, by omega⟩ hl3 ) (fun v34 hv34 => ?_)
  refine wp_bp (s_fX12_truth M33 iM33 v34 (jm_inL (by omega) (by omega)) ) (fun v37 hv37 => ?_)
  refine wp_T ⟨by omega, by omega⟩ ?_
  refine wp_sk iM33 (jm_inL (by omega) (by omega)) kM33 (by unfold TH2; omega) (fun M41 u_29 iM41 kM41 => ?_)
  refine wp_T ⟨by omega, by omega⟩ ?_
  refine wp_T ⟨by omega, by omega⟩ ?_
  have q_30 : (M41 49 0 l1) = (M33 49 0 l1) := by rw [u_29]; exact jm_une_f (by decide)
  have q_31 : (M33 49 0 l1) = (M25 49 0 l1) := by rw [u_28]; exact jm_une_f (by decide)
  have q_32 : (M25 49 0 l1) = (M20 49 0 l1) := by rw [u_27]; exact jm_une_f (by decide)
  have q_33 : (M20 49 0 l1) = (M16 49 0 l1) := by rw [u_26]; exact jm_une_f (by decide)
  have q_34 : (M16 49 0 l1) = (M12 49 0 l1) := by rw [u_20]; exact jm_une_f (by decide)
  have q_35 : (M12 49 0 l1) = (M6 49 0 l1) := by rw [u_16]; exact jm_une_f (by decide)
  have q_36 : (M6 49 0 l1) = (M2 49 0 l1) := by rw [u_3]; exact jm_une_f (by decide)
  have q_37 : (M2 49 0 l1) = (M 49 0 l1) := by rw [u_1]; exact jm_une_f (by decide)
  refine wp_sk iM41 (bx2_in (iM41 49 0 l1)) kM41 (by unfold TH2; omega) (fun M45 u_38 iM45 kM45 => ?_)
  refine wp_T ⟨by omega, by omega⟩ ?_
  have q_39 : (M45 16 0 l1) = (M41 16 0 l1) := by rw [u_38]; exact jm_une_f (by decide)
  have q_40 : (M41 16 0 l1) = (M33 16 0 l1) := by rw [u_29]; exact jm_une_f (by decide)
  have q_41 : (M33 16 0 l1) = (M25 16 0 l1) := by rw [u_28]; exact jm_une_f (by decide)
  have q_42 : (M25 16 0 l1) = (M20 16 0 l1) := by rw [u_27]; exact jm_une_f (by decide)
  have q_43 : (M20 16 0 l1) = (M16 16 0 l1) := by rw [u_26]; exact jm_une_f (by decide)
  have q_44 : (M16 16 0 l1) = (M12 16 0 l1) := by rw [u_20]; exact jm_une_f (by decide)
  have q_45 : (M12 16 0 l1) = (M6 16 0 l1) := by rw [u_16]; exact jm_une_f (by decide)
  have q_46 : (M6 16 0 l1) = (M2 16 0 l1) := by rw [u_3]; exact jm_une_f (by decide)
  have q_47 : (M2 16 0 l1) = (M 16 0 l1) := by rw [u_1]; exact jm_une_f (by decide)
  have b_48 : 0 ≤ (M 16 0 l1) ∧ (M 16 0 l1) ≤ 3 := iM 16 0 l1
  refine wp_T ⟨by omega, by omega⟩ ?_
  refine wp_T ⟨by omega, by omega⟩ ?_
  have q_49 : (M45 5 0 3) = (M41 5 0 3) := by rw [u_38]; exact jm_une_f (by decide)
  have q_50 : (M41 5 0 3) = (M33 5 0 3) := by rw [u_29]; exact jm_une_f (by decide)
  have q_51 : (M33 5 0 3) = (M25 5 0 3) := by rw [u_28]; exact jm_une_f (by decide)
  have q_52 : (M25 5 0 3) = (M20 5 0 3) := by rw [u_27]; exact jm_une_f (by decide)
  have q_53 : (M20 5 0 3) = (M16 5 0 3) := by rw [u_26]; exact jm_une_f (by decide)
  have q_54 : (M16 5 0 3) = (M12 5 0 3) := by rw [u_20]; exact jm_une_f (by decide)
  have q_55 : (M12 5 0 3) = (M6 5 0 3) := by rw [u_16]; exact jm_une_f (by decide)
  have q_56 : (M6 5 0 3) = (M2 5 0 3) := by rw [u_3]; exact jm_une_f (by decide)
  have q_57 : (M2 5 0 3) = (M 5 0 3) := by rw [u_1]; exact jm_une_f (by decide)
  have r_58 : (jm_w (l3 + (M45 5 0 3))) = (jm_w (l3 + (M 5 0 3))) := congrArg jm_w (by omega)
  have r_59 : (M45 58 0 (M45 16 0 l1)) = (M45 58 0 (M 16 0 l1)) := by rw [show (M45 16 0 l1) = (M 16 0 l1) by omega]
  have q_60 : (M45 58 0 (M 16 0 l1)) = (M41 58 0 (M 16 0 l1)) := by rw [u_38]; exact jm_une_f (by decide)
  have q_61 : (M41 58 0 (M 16 0 l1)) = (M33 58 0 (M 16 0 l1)) := by rw [u_29]; exact jm_une_f (by decide)
  have q_62 : (M33 58 0 (M 16 0 l1)) = (M25 58 0 (M 16 0 l1)) := by rw [u_28]; exact jm_une_f (by decide)
  have q_63 : (M25 58 0 (M 16 0 l1)) = (M20 58 0 (M 16 0 l1)) := by rw [u_27]; exact jm_une_f (by decide)
  have q_64 : (M20 58 0 (M 16 0 l1)) = (M16 58 0 (M 16 0 l1)) := by rw [u_26]; exact jm_une_f (by decide)
  have q_65 : (M16 58 0 (M 16 0 l1)) = (M12 58 0 (M 16 0 l1)) := by rw [u_20]; exact jm_une_f (by decide)
  have q_66 : (M12 58 0 (M 16 0 l1)) = (M6 58 0 (M 16 0 l1)) := by rw [u_16]; exact jm_une_f (by decide)
  have q_67 : (M6 58 0 (M 16 0 l1)) = (M2 58 0 (M 16 0 l1)) := by rw [u_3]; exact jm_une_f (by decide)
  have q_68 : (M2 58 0 (M 16 0 l1)) = (M 58 0 (M 16 0 l1)) := by rw [u_1]; exact jm_une_f (by decide)
  have b_70 : -2147483648 ≤ l3 ∧ l3 ≤ 2147483647 := hl3
  have b_71 : (-2147483648) ≤ (M 5 0 3) ∧ (M 5 0 3) ≤ 2147483647 := iM 5 0 3
  have w_72 : -2147483648 ≤ (jm_w (l3 + (M 5 0 3))) ∧ (jm_w (l3 + (M 5 0 3))) ≤ 2147483647 := jm_w_in _
  have b_73 : (-2147483648) ≤ (M 58 0 (M 16 0 l1)) ∧ (M 58 0 (M 16 0 l1)) ≤ 2147483647 := iM 58 0 (M 16 0 l1)
  refine wp_ite (fun c_69 => ?_) (fun c_69 => ?_)
  · skip
    refine wp_bp (s_fX12_truth M45 iM45 0 (jm_inL (by decide) (by decide)) ) (fun v53 hv53 => ?_)
    refine wp_T ⟨by omega, by omega⟩ ?_
    refine wp_sk iM45 (jm_inL (by omega) (by omega)) kM45 (by unfold TH2; omega) (fun M57 u_74 iM57 kM57 => ?_)
    exact wp_ret ⟨iM57, kM57, by omega⟩
  · skip
    refine wp_bp (s_fX12_truth M45 iM45 1 (jm_inL (by decide) (by decide)) ) (fun v58 hv58 => ?_)
    refine wp_T ⟨by omega, by omega⟩ ?_
    refine wp_sk iM45 (jm_inL (by omega) (by omega)) kM45 (by unfold TH2; omega) (fun M62 u_75 iM62 kM62 => ?_)
    exact wp_ret ⟨iM62, kM62, by omega⟩
set_option maxHeartbeats 4000000 in
set_option maxRecDepth 100000 in
theorem s_gX12_speaks_21 (fu : Nat) (hfu : 4000 ≤ fu) (M0 : jm_M) (k21 : jm_M → Int → Int → Int → Int → Int → Int → Int → jm_R) (N21 : Int) (hk21 : ∀ (l1 l2 l3 l4 l5 l6 l7 : Int) (M : jm_M) (iM : bI bx2 M) (kM : Kp TH2 M0 M) (hl1 : 0 ≤ l1 ∧ l1 ≤ 5) (hl2 : 0 ≤ l2 ∧ l2 ≤ 11) (hl3 : jm_in l3) (hl4 : 1 ≤ l4 ∧ l4 ≤ 59) (hl5 : jm_in l5) (hl6 : (-1) ≤ l6 ∧ l6 ≤ 2147483647) (hl7 : 0 ≤ l7 ∧ l7 ≤ 6) (y0 : 0 ≤ (M 45 0 l1)), 7 - l7 < N21 → wp (k21 M l1 l2 l3 l4 l5 l6 l7) (fun r M1 => bI bx2 M1 ∧ Kp TH2 M0 M1 ∧ (0 ≤ r ∧ r ≤ 0))) : ∀ (l1 l2 l3 l4 l5 l6 l7 : Int) (M : jm_M) (iM : bI bx2 M) (kM : Kp TH2 M0 M) (hl1 : 0 ≤ l1 ∧ l1 ≤ 5) (hl2 : 0 ≤ l2 ∧ l2 ≤ 11) (hl3 : jm_in l3) (hl4 : 1 ≤ l4 ∧ l4 ≤ 59) (hl5 : jm_in l5) (hl6 : (-1) ≤ l6 ∧ l6 ≤ 2147483647) (hl7 : 0 ≤ l7 ∧ l7 ≤ 6) (y0 : 0 ≤ (M 45 0 l1)), 7 - l7 < N21 + 1 → wp (gX12_speaks_21 fu k21 M l1 l2 l3 l4 l5 l6 l7) (fun r M1 => bI bx2 M1 ∧ Kp TH2 M0 M1 ∧ (0 ≤ r ∧ r ≤ 0)) := by
  intro l1 l2 l3 l4 l5 l6 l7 M iM kM hl1 hl2 hl3 hl4 hl5 hl6 hl7 y0 m21
  unfold gX12_speaks_21
  have b_2 : 0 ≤ (M 0 0 17) ∧ (M 0 0 17) ≤ 6 := iM 0 0 17
  refine wp_ite (fun c_1 => ?_) (fun c_1 => ?_)
  · skip
    refine wp_T ⟨by omega, by omega⟩ ?_
    have w_3 : (jm_w (4 * l1)) = (4 * l1) := jm_wid (by omega) (by omega)
    have b_4 : (-1) ≤ (M 45 0 l1) ∧ (M 45 0 l1) ≤ 3 := iM 45 0 l1
    have w_5 : (jm_w ((jm_w (4 * l1)) + (M 45 0 l1))) = ((jm_w (4 * l1)) + (M 45 0 l1)) := jm_wid (by omega) (by omega)
    refine wp_e (by exact (jm_w_in _)) (fun v5 e_6 hv5 => ?_)
    refine wp_T ⟨by omega, by omega⟩ ?_
    refine wp_sk iM (jm_w_in _) kM (by unfold TH2; omega) (fun M8 u_7 iM8 kM8 => ?_)
    refine wp_T ⟨by omega, by omega⟩ ?_
    have q_8 : (M8 0 0 2) = (M 0 0 2) := by rw [u_7]; exact jm_une_f (by decide)
    have r_9 : (jm_w ((M8 0 0 2) - l2)) = (jm_w ((M 0 0 2) - l2)) := congrArg jm_w (by omega)
    have r_10 : (jm_w ((jm_w ((M8 0 0 2) - l2)) - 1)) = (jm_w ((jm_w ((M 0 0 2) - l2)) - 1)) := congrArg jm_w (by omega)
    refine wp_sk iM8 (jm_w_in _) kM8 (by unfold TH2; omega) (fun M11 u_11 iM11 kM11 => ?_)
    refine wp_T ⟨by omega, by omega⟩ ?_
    refine wp_sk iM11 hl5 kM11 (by unfold TH2; omega) (fun M13 u_12 iM13 kM13 => ?_)
    refine wp_ite (fun c_13 => ?_) (fun c_13 => ?_)
    · skip
      have b_14 : -2147483648 ≤ v5 ∧ v5 ≤ 2147483647 := hv5
      have b_15 : -2147483648 ≤ l3 ∧ l3 ≤ 2147483647 := hl3
      have w_16 : -2147483648 ≤ (jm_w (l3 - l6)) ∧ (jm_w (l3 - l6)) ≤ 2147483647 := jm_w_in _
      have f_17 : -2147483648 ≤ (jm_div (jm_w (l3 - l6)) 100) ∧ (jm_div (jm_w (l3 - l6)) 100) ≤ 2147483647 := jm_div_in _ _
      exact s_gX12_speaks_146 fu hfu M0    l1 l3 l4 v5 (jm_div (jm_w (l3 - l6)) 100) 3 M13 iM13 kM13 ⟨by omega, by omega⟩ hl3 ⟨by omega, by omega⟩ ⟨by omega, by omega⟩ (jm_div_in _ _) ⟨by omega, by omega⟩  
    · skip
      have b_18 : -2147483648 ≤ v5 ∧ v5 ≤ 2147483647 := hv5
      have b_19 : -2147483648 ≤ l3 ∧ l3 ≤ 2147483647 := hl3
      exact s_gX12_speaks_146 fu hfu M0    l1 l3 l4 v5 999 3 M13 iM13 kM13 ⟨by omega, by omega⟩ hl3 ⟨by omega, by omega⟩ ⟨by omega, by omega⟩ (jm_inL (by decide) (by decide)) ⟨by omega, by omega⟩  
  · skip
    have w_20 : (jm_w (60 * l7)) = (60 * l7) := jm_wid (by omega) (by omega)
    have w_21 : (jm_w ((jm_w (60 * l7)) + l4)) = ((jm_w (60 * l7)) + l4) := jm_wid (by omega) (by omega)
    refine wp_T ⟨by omega, by omega⟩ ?_
    have b_22 : (-2147483648) ≤ (M 55 0 (jm_w ((jm_w (60 * l7)) + l4))) ∧ (M 55 0 (jm_w ((jm_w (60 * l7)) + l4))) ≤ 2147483647 := iM 55 0 (jm_w ((jm_w (60 * l7)) + l4))
    refine wp_e (by exact (iM 55 0 (jm_w ((jm_w (60 * l7)) + l4)))) (fun v17 e_23 hv17 => ?_)
    refine wp_ite (fun c_24 => ?_) (fun c_24 => ?_)
    · skip
      have w_25 : (jm_w (l7 + 1)) = (l7 + 1) := jm_wid (by omega) (by omega)
      refine wp_e (by exact (jm_w_in _)) (fun v20 e_26 hv20 => ?_)
      have b_27 : -2147483648 ≤ v20 ∧ v20 ≤ 2147483647 := hv20
      have b_28 : -2147483648 ≤ l3 ∧ l3 ≤ 2147483647 := hl3
      have b_29 : -2147483648 ≤ l5 ∧ l5 ≤ 2147483647 := hl5
      have b_30 : (-1) ≤ (M 45 0 l1) ∧ (M 45 0 l1) ≤ 3 := iM 45 0 l1
      exact hk21 l1 l2 l3 l4 l5 l6 v20 M iM kM ⟨by omega, by omega⟩ ⟨by omega, by omega⟩ hl3 ⟨by omega, by omega⟩ hl5 ⟨by omega, by omega⟩ ⟨by omega, by omega⟩ (by omega) (by omega)
    · skip
      have b_32 : -2147483648 ≤ v17 ∧ v17 ≤ 2147483647 := hv17
      refine wp_ite (fun c_31 => ?_) (fun c_31 => ?_)
      · skip
        have w_33 : (jm_w (l7 + 1)) = (l7 + 1) := jm_wid (by omega) (by omega)
        refine wp_e (by exact (jm_w_in _)) (fun v23 e_34 hv23 => ?_)
        have b_35 : -2147483648 ≤ v23 ∧ v23 ≤ 2147483647 := hv23
        have b_36 : -2147483648 ≤ l3 ∧ l3 ≤ 2147483647 := hl3
        have b_37 : -2147483648 ≤ l5 ∧ l5 ≤ 2147483647 := hl5
        have b_38 : (-1) ≤ (M 45 0 l1) ∧ (M 45 0 l1) ≤ 3 := iM 45 0 l1
        exact hk21 l1 l2 l3 l4 l5 l6 v23 M iM kM ⟨by omega, by omega⟩ ⟨by omega, by omega⟩ hl3 ⟨by omega, by omega⟩ hl5 ⟨by omega, by omega⟩ ⟨by omega, by omega⟩ (by omega) (by omega)
      · skip
        have b_40 : -2147483648 ≤ l3 ∧ l3 ≤ 2147483647 := hl3
        refine wp_ite (fun c_39 => ?_) (fun c_39 => ?_)
        · skip
          have w_41 : (jm_w (l7 + 1)) = (l7 + 1) := jm_wid (by omega) (by omega)
          refine wp_e (by exact (jm_w_in _)) (fun v26 e_42 hv26 => ?_)
          have b_43 : -2147483648 ≤ v26 ∧ v26 ≤ 2147483647 := hv26
          have b_44 : -2147483648 ≤ l5 ∧ l5 ≤ 2147483647 := hl5
          have b_45 : (-1) ≤ (M 45 0 l1) ∧ (M 45 0 l1) ≤ 3 := iM 45 0 l1
          exact hk21 l1 l2 l3 l4 l5 l6 v26 M iM kM ⟨by omega, by omega⟩ ⟨by omega, by omega⟩ hl3 ⟨by omega, by omega⟩ hl5 ⟨by omega, by omega⟩ ⟨by omega, by omega⟩ (by omega) (by omega)
        · skip
          have b_46 : -2147483648 ≤ l5 ∧ l5 ≤ 2147483647 := hl5
          have w_47 : -2147483648 ≤ (jm_w (l5 + 1)) ∧ (jm_w (l5 + 1)) ≤ 2147483647 := jm_w_in _
          refine wp_e (by exact (jm_w_in _)) (fun v28 e_48 hv28 => ?_)
          have f_49 := jm_max_f l6 v17
          refine wp_e (by exact (jm_max_in (jm_inL (by omega) (by omega)) hv17)) (fun v30 e_50 hv30 => ?_)
          have w_51 : (jm_w (l7 + 1)) = (l7 + 1) := jm_wid (by omega) (by omega)
          refine wp_e (by exact (jm_w_in _)) (fun v32 e_52 hv32 => ?_)
          have b_53 : -2147483648 ≤ v30 ∧ v30 ≤ 2147483647 := hv30
          have b_54 : -2147483648 ≤ v32 ∧ v32 ≤ 2147483647 := hv32
          have b_55 : -2147483648 ≤ v28 ∧ v28 ≤ 2147483647 := hv28
          have b_56 : (-1) ≤ (M 45 0 l1) ∧ (M 45 0 l1) ≤ 3 := iM 45 0 l1
          exact hk21 l1 l2 l3 l4 v28 v30 v32 M iM kM ⟨by omega, by omega⟩ ⟨by omega, by omega⟩ hl3 ⟨by omega, by omega⟩ hv28 ⟨by omega, by omega⟩ ⟨by omega, by omega⟩ (by omega) (by omega)
set_option maxHeartbeats 4000000 in
set_option maxRecDepth 100000 in
theorem s_fX12_speaks_21 (fu : Nat) (hfu : 4000 ≤ fu) (M0 : jm_M) : ∀ (n : Nat) (l1 l2 l3 l4 l5 l6 l7 : Int) (M : jm_M) (iM : bI bx2 M) (kM : Kp TH2 M0 M) (hl1 : 0 ≤ l1 ∧ l1 ≤ 5) (hl2 : 0 ≤ l2 ∧ l2 ≤ 11) (hl3 : jm_in l3) (hl4 : 1 ≤ l4 ∧ l4 ≤ 59) (hl5 : jm_in l5) (hl6 : (-1) ≤ l6 ∧ l6 ≤ 2147483647) (hl7 : 0 ≤ l7 ∧ l7 ≤ 6) (y0 : 0 ≤ (M 45 0 l1)), 7 - l7 < (n : Int) → wp (fX12_speaks_21 fu  n M l1 l2 l3 l4 l5 l6 l7) (fun r M1 => bI bx2 M1 ∧ Kp TH2 M0 M1 ∧ (0 ≤ r ∧ r ≤ 0)) := by
  intro n
  induction n with
  | zero => intro l1 l2 l3 l4 l5 l6 l7 M iM kM hl1 hl2 hl3 hl4 hl5 hl6 hl7 y0 hm; exfalso; omega
  | succ n ih =>
    intro l1 l2 l3 l4 l5 l6 l7 M iM kM hl1 hl2 hl3 hl4 hl5 hl6 hl7 y0 hm
    exact s_gX12_speaks_21 fu hfu M0 (fX12_speaks_21 fu  n) (n : Int) ih l1 l2 l3 l4 l5 l6 l7 M iM kM hl1 hl2 hl3 hl4 hl5 hl6 hl7 y0 (by omega)
set_option maxHeartbeats 4000000 in
set_option maxRecDepth 100000 in
theorem s_fX12_speaks (fu : Nat) (hfu : 4000 ≤ fu) (M : jm_M) (iM : bI bx2 M) (l1 l2 l3 : Int) (hl1 : 0 ≤ l1 ∧ l1 ≤ 5) (hl2 : 0 ≤ l2 ∧ l2 ≤ 11) (hl3 : jm_in l3) (x0 : 0 ≤ (M 45 0 l1)) : wp (fX12_speaks fu M l1 l2 l3) (fun r M1 => bI bx2 M1 ∧ Kp TH2 M M1 ∧ (0 ≤ r ∧ r ≤ 0)) := by
  have kM : Kp TH2 M M := Kp.rf
  unfold fX12_speaks
  have b_1 : 2 ≤ (M 0 0 1) ∧ (M 0 0 1) ≤ 5 := iM 0 0 1
  have w_2 : (jm_w (l2 + 1)) = (l2 + 1) := jm_wid (by omega) (by omega)
  have p_3 : 0 ≤ ((M 0 0 1) * (jm_w (l2 + 1))) ∧ ((M 0 0 1) * (jm_w (l2 + 1))) ≤ 60 := jm_mulb (A := 5) (B := 12) (by omega) (by omega) (by omega) (by omega) (by decide)
  have p_4 : 2 ≤ ((M 0 0 1) * (jm_w (l2 + 1))) := jm_mull (A := 2) (B := 1) (by omega) (by omega) (by omega) (by omega) (by decide)
  have w_5 : (jm_w ((M 0 0 1) * (jm_w (l2 + 1)))) = ((M 0 0 1) * (jm_w (l2 + 1))) := jm_wid (by omega) (by omega)
  have w_6 : (jm_w ((jm_w ((M 0 0 1) * (jm_w (l2 + 1)))) - 1)) = ((jm_w ((M 0 0 1) * (jm_w (l2 + 1)))) - 1) := jm_wid (by omega) (by omega)
  refine wp_e (by exact (jm_w_in _)) (fun v2 e_7 hv2 => ?_)
  have b_8 : -2147483648 ≤ v2 ∧ v2 ≤ 2147483647 := hv2
  have b_9 : -2147483648 ≤ l3 ∧ l3 ≤ 2147483647 := hl3
  have b_10 : (-1) ≤ (M 45 0 l1) ∧ (M 45 0 l1) ≤ 3 := iM 45 0 l1
  exact s_fX12_speaks_21 fu hfu M    fu l1 l2 l3 v2 1 (-1) 0 M iM kM ⟨by omega, by omega⟩ ⟨by omega, by omega⟩ hl3 ⟨by omega, by omega⟩ (jm_inL (by decide) (by decide)) ⟨by omega, by omega⟩ ⟨by omega, by omega⟩ (by omega)  (by omega)
theorem s_gives_5 (fu : Nat) (hfu : 4000 ≤ fu) (M0 : jm_M) (e l2 : Int) (he : e ≤ l2 ∧ l2 ≤ 1700) (hz : e = l2 ∨ M0 35 0 e = -300) : ∀ (n : Nat) (M : jm_M) (h : Nat) (l3 l4 : Int), l3 = (h : Int) → bI bx2 M → Kp TH2 M0 M → 0 ≤ l4 → l4 ≤ e → (h : Int) + (e - l4) ≤ 100 → hg (M0 35 0) (e - l4).toNat l4 h = some 1 → e - l4 < (n : Int) → wp (fX12_gives_5 fu n M l2 l3 l4) (fun r M1 => bI bx2 M1 ∧ Kp TH2 M0 M1 ∧ (jm_in r ∧ M1 0 0 47 = e)) := by
  intro n
  induction n with
  | zero => intro M h l3 l4 _ _ _ h0 h1 _ _ hm; exfalso; omega
  | succ n ih =>
    intro M h l3 l4 hl iM kM h0 h1 hr hh hm
    show wp (gX12_gives_5 fu (fX12_gives_5 fu n) M l2 l3 l4) _
    unfold gX12_gives_5
    have hc : M 35 0 l4 = M0 35 0 l4 := kM 35 0 l4 (by unfold TH2; omega)
    by_cases hq : l4 = e
    · have z2 : wp (jm_s (jm_u M 0 0 47 l4) fun M2 => if (0 : Int) ≤ 0 ∧ (0 : Int) < 100 then (some ((M2 37 0 0), M2)) else none) (fun r M1 => bI bx2 M1 ∧ Kp TH2 M0 M1 ∧ (jm_in r ∧ M1 0 0 47 = e)) := by
        refine wp_sk iM (jm_inL (by omega) (by omega)) kM (by unfold TH2; omega) (fun M2 u iM2 kM2 => ?_)
        refine wp_T ⟨by omega, by omega⟩ ?_
        exact wp_ret ⟨iM2, kM2, iM2 37 0 0, by rw [u, ← hq]; exact jm_ueq⟩
      refine wp_ite (fun c => z2) (fun c => ?_)
      refine wp_T ⟨by omega, by omega⟩ ?_
      refine wp_T ?_ z2
      rw [hc, hq]
      rcases hz with q | q
      · exfalso; omega
      · exact q
    · have hx : (e - l4).toNat = (e - (l4 + 1)).toNat + 1 := by omega
      rw [hx] at hh
      have hh : (match tk (M0 35 0 l4) h with | none => none | some m => hg (M0 35 0) (e - (l4 + 1)).toNat (l4 + 1) m) = some 1 := hh
      cases ht : tk (M0 35 0 l4) h with
      | none => rw [ht] at hh; cases hh
      | some m =>
        rw [ht] at hh
        have hh : hg (M0 35 0) (e - (l4 + 1)).toNat (l4 + 1) m = some 1 := hh
        have bc : jm_in (M 35 0 l4) := iM 35 0 l4
        have w4 : jm_w (l4 + 1) = l4 + 1 := jm_wid (by omega) (by omega)
        have k5 : ∀ (M' : jm_M) (m' : Int), m' = (m : Int) → (m : Int) ≤ h + 1 → bI bx2 M' → Kp TH2 M0 M' → wp (fX12_gives_5 fu n M' l2 m' (jm_w (l4 + 1))) (fun r M1 => bI bx2 M1 ∧ Kp TH2 M0 M1 ∧ (jm_in r ∧ M1 0 0 47 = e)) := by
          intro M' m' e1 e2 i' k'
          rw [w4]
          exact ih M' m m' (l4 + 1) e1 i' k' (by omega) (by omega) (by omega) hh (by omega)
        rw [← hc] at ht
        unfold tk at ht
        have ne : M 35 0 l4 ≠ -300 := by intro q; rw [if_pos q] at ht; cases ht
        rw [if_neg ne] at ht
        refine wp_F (by omega) ?_
        refine wp_T ⟨by omega, by omega⟩ ?_
        refine wp_F ne ?_
        refine wp_T ⟨by omega, by omega⟩ ?_
        refine wp_e bc (fun v13 e13 h13 => ?_)
        rw [← e13] at ht
        have wm : jm_w (l3 - 1) = l3 - 1 := jm_wid (by omega) (by omega)
        refine wp_ite (fun c1 => ?_) (fun c1 => ?_)
        · refine wp_ite (fun c2 => ?_) (fun c2 => ?_)
          · rw [if_neg (show ¬ (-13 ≤ v13) by omega)] at ht
            refine wp_b (P := fun r M1 => M1 = M ∧ r = -167) ⟨_, _, rfl, rfl, by decide⟩ (fun v17 M18 q17 => ?_)
            obtain ⟨q18, q17⟩ := q17
            subst q18
            refine wp_ite (fun c3 => ?_) (fun c3 => ?_)
            · rw [if_pos (show v13 = -167 ∨ v13 = -74 by omega)] at ht
              have h1' : 1 ≤ h := by
                by_cases q : 1 ≤ h
                · exact q
                · rw [if_neg q] at ht; cases ht
              rw [if_pos h1'] at ht
              have hm' : h = m := by injection ht
              refine wp_T ⟨by omega, by omega⟩ ?_
              refine wp_ite (fun c4 => ?_) (fun c4 => ?_)
              · refine wp_bp (s_fX12_truth M18 iM 1 (jm_inL (by decide) (by decide))) (fun v24 h24 => ?_)
                refine wp_T ⟨by omega, by omega⟩ ?_
                refine wp_sk iM (jm_inL (by omega) (by omega)) kM (by unfold TH2; omega) (fun M28 u28 i28 k28 => ?_)
                refine wp_e (jm_w_in _) (fun v29 e29 _ => ?_)
                rw [e29]
                exact k5 M28 l3 (by omega) (by omega) i28 k28
              · refine wp_bp (s_fX12_truth M18 iM 0 (jm_inL (by decide) (by decide))) (fun v24 h24 => ?_)
                refine wp_T ⟨by omega, by omega⟩ ?_
                refine wp_sk iM (jm_inL (by omega) (by omega)) kM (by unfold TH2; omega) (fun M28 u28 i28 k28 => ?_)
                refine wp_e (jm_w_in _) (fun v29 e29 _ => ?_)
                rw [e29]
                exact k5 M28 l3 (by omega) (by omega) i28 k28
            · refine wp_b (P := fun r M1 => M1 = M18 ∧ r = -74) ⟨_, _, rfl, rfl, by decide⟩ (fun v38 M39 q39 => ?_)
              obtain ⟨q40, q38⟩ := q39
              subst q40
              refine wp_ite (fun c4 => ?_) (fun c4 => ?_)
              · rw [if_pos (show v13 = -167 ∨ v13 = -74 by omega)] at ht
                have h1' : 1 ≤ h := by
                  by_cases q : 1 ≤ h
                  · exact q
                  · rw [if_neg q] at ht; cases ht
                rw [if_pos h1'] at ht
                have hm' : h = m := by injection ht
                refine wp_T ⟨by omega, by omega⟩ ?_
                refine wp_T ⟨by omega, by omega⟩ ?_
                refine wp_sk iM (jm_w_in _) kM (by unfold TH2; omega) (fun M28 u28 i28 k28 => ?_)
                refine wp_e (jm_w_in _) (fun v29 e29 _ => ?_)
                rw [e29]
                exact k5 M28 l3 (by omega) (by omega) i28 k28
              · rw [if_neg (show ¬ (v13 = -167 ∨ v13 = -74) by omega)] at ht
                have h1' : 2 ≤ h := by
                  by_cases q : 2 ≤ h
                  · exact q
                  · rw [if_neg q] at ht; cases ht
                rw [if_pos h1'] at ht
                have hm' : h - 1 = m := by injection ht
                have wn : jm_w (l3 + (-1)) = l3 + (-1) := jm_wid (by omega) (by omega)
                refine wp_e (jm_w_in _) (fun v48 e48 _ => ?_)
                have wo : jm_w (v48 - 1) = v48 - 1 := jm_wid (by omega) (by omega)
                refine wp_T ⟨by omega, by omega⟩ ?_
                refine wp_T ⟨by omega, by omega⟩ ?_
                refine wp_bp (s_fX12_acted M39 iM _ _ _ (jm_w_in _) (iM 37 0 _) (iM 37 0 _)) (fun v54 h54 => ?_)
                refine wp_T ⟨by omega, by omega⟩ ?_
                refine wp_sk iM h54 kM (by unfold TH2; omega) (fun M28 u28 i28 k28 => ?_)
                refine wp_e (jm_w_in _) (fun v29 e29 _ => ?_)
                rw [e29]
                exact k5 M28 v48 (by omega) (by omega) i28 k28
          · rw [if_pos (show -13 ≤ v13 by omega)] at ht
            have hm' : h + 1 = m := by injection ht
            have wa : jm_w ((-1) - v13) = (-1) - v13 := jm_wid (by omega) (by omega)
            have wb : jm_w (l3 + 1) = l3 + 1 := jm_wid (by omega) (by omega)
            refine wp_T ⟨by omega, by omega⟩ ?_
            refine wp_T ⟨by omega, by omega⟩ ?_
            refine wp_sk iM (iM 38 0 _) kM (by unfold TH2; omega) (fun M28 u28 i28 k28 => ?_)
            refine wp_e (jm_w_in _) (fun v65 e65 _ => ?_)
            refine wp_e (jm_w_in _) (fun v29 e29 _ => ?_)
            rw [e29]
            exact k5 M28 v65 (by omega) (by omega) i28 k28
        · rw [if_pos (show -13 ≤ v13 by omega)] at ht
          have hm' : h + 1 = m := by injection ht
          have wb : jm_w (l3 + 1) = l3 + 1 := jm_wid (by omega) (by omega)
          refine wp_T ⟨by omega, by omega⟩ ?_
          refine wp_sk iM h13 kM (by unfold TH2; omega) (fun M28 u28 i28 k28 => ?_)
          refine wp_e (jm_w_in _) (fun v65 e65 _ => ?_)
          refine wp_e (jm_w_in _) (fun v29 e29 _ => ?_)
          rw [e29]
          exact k5 M28 v65 (by omega) (by omega) i28 k28
theorem s_fX12_gives (fu : Nat) (hfu : 4000 ≤ fu) (M : jm_M) (iM : bI bx2 M) (l1 l2 e : Int) (h0 : 0 ≤ l1 ∧ l1 ≤ e) (he : e - l1 ≤ 100 ∧ e ≤ l2 ∧ l2 ≤ 1700) (hh : hg (M 35 0) (e - l1).toNat l1 0 = some 1) (hz : e = l2 ∨ M 35 0 e = -300) : wp (fX12_gives fu M l1 l2) (fun r M1 => bI bx2 M1 ∧ Kp TH2 M M1 ∧ (jm_in r ∧ M1 0 0 47 = e)) := by
  unfold fX12_gives
  exact s_gives_5 fu hfu M e l2 ⟨by omega, by omega⟩ hz fu M 0 0 l1 rfl iM Kp.rf (by omega) (by omega) (by omega) hh (by omega)
/-! the lines of a plan -/
theorem WFt_le {c : Int → Int} : ∀ (n : Nat) (a b : Int), WFt c n a b → a ≤ b := by
  intro n
  induction n with
  | zero => intro a b h; have h : a = b := h; omega
  | succ n ih =>
    intro a b h
    obtain ⟨y, h1, h2⟩ := h
    have := ih y b h2
    obtain ⟨e, x, q1, -, -, q2, -, -, q3⟩ := h1
    omega
theorem s_asks_64 (fu : Nat) (M0 : jm_M) (Q : Int → jm_M → Prop) (hQ : ∀ (r : Int) (M : jm_M), jm_in r → bI bx2 M → Kp TH2 M0 M → Q r M) (l1 l2 l5 l6 x : Int) (hl1 : 0 ≤ l1 ∧ l1 ≤ 5) (hl2 : 0 ≤ l2 ∧ l2 ≤ 11) (hl6 : jm_in l6) (hx : 0 ≤ x ∧ x < 1700) (hcx : M0 35 0 x = -302) (k27 : jm_M → Int → Int → Int → Int → Int → jm_R)
    (hk : ∀ (M : jm_M) (v : Int), bI bx2 M → Kp TH2 M0 M → jm_in v → wp (k27 M l1 l2 (x + 1) l5 v) Q) : ∀ (n : Nat) (M : jm_M) (l4 l7 l8 : Int), bI bx2 M → Kp TH2 M0 M → 0 ≤ l4 → l4 ≤ x → (∀ j : Int, l4 ≤ j → j < x → M0 35 0 j ≠ -302) → jm_in l8 → x - l4 < (n : Int) → wp (fX12_asks_64 fu k27 n M l1 l2 l4 l5 l6 l7 l8) Q := by
  intro n
  induction n with
  | zero => intro M l4 l7 l8 _ _ _ _ _ _ hm; exfalso; omega
  | succ n ih =>
    intro M l4 l7 l8 iM kM h0 h1 hj h8 hm
    show wp (gX12_asks_64 fu k27 (fX12_asks_64 fu k27 n) M l1 l2 l4 l5 l6 l7 l8) _
    unfold gX12_asks_64
    have hc : M 35 0 l4 = M0 35 0 l4 := kM 35 0 l4 (by unfold TH2; omega)
    have w4 : jm_w (l4 + 1) = l4 + 1 := jm_wid (by omega) (by omega)
    refine wp_T ⟨by omega, by omega⟩ ?_
    refine wp_ite (fun c => ?_) (fun c => ?_)
    · have hq : l4 = x := by
        by_cases q : l4 = x
        · exact q
        · exact absurd (hc.symm.trans c) (hj l4 (Int.le_refl _) (by omega))
      refine wp_e (jm_w_in _) (fun v4 e4 _ => ?_)
      refine wp_ite (fun c2 => ?_) (fun c2 => ?_)
      · refine wp_e (jm_w_in _) (fun v7 e7 b7 => ?_)
        rw [e4, w4, hq]
        exact hk M v7 iM kM b7
      · have wa : jm_w (12 * l1) = 12 * l1 := jm_wid (by omega) (by omega)
        have wb : jm_w (jm_w (12 * l1) + l2) = jm_w (12 * l1) + l2 := jm_wid (by omega) (by omega)
        refine wp_T ⟨by omega, by omega⟩ ?_
        refine wp_sk iM hl6 kM (by unfold TH2; omega) (fun M10 u10 i10 k10 => ?_)
        exact wp_ret (hQ _ _ h8 i10 k10)
    · have hq : l4 < x := by
        by_cases q : l4 = x
        · rw [q] at hc; exact absurd (by rw [q, hc]; exact hcx) c
        · omega
      have k64 : ∀ (M' : jm_M) (l8' : Int), bI bx2 M' → Kp TH2 M0 M' → jm_in l8' → wp (fX12_asks_64 fu k27 n M' l1 l2 (jm_w (l4 + 1)) l5 l6 l7 l8') Q := by
        intro M' l8' i' k' b'
        rw [w4]
        exact ih M' (l4 + 1) l7 l8' i' k' (by omega) (by omega) (fun j q1 q2 => hj j (by omega) q2) b' (by omega)
      refine wp_ite (fun c2 => ?_) (fun c2 => ?_)
      · refine wp_e (jm_w_in _) (fun v4 e4 _ => ?_)
        rw [e4]
        exact k64 M l8 iM kM h8
      · refine wp_T ⟨by omega, by omega⟩ ?_
        have k156 : ∀ (l8' l9 s0 : Int), jm_in l8' → jm_in s0 → wp (gX12_asks_156 fu k27 (fX12_asks_64 fu k27 n) M l1 l2 l4 l5 l6 l7 l8' l9 s0 l1) Q := by
          intro l8' l9 s0 b8 b0
          unfold gX12_asks_156
          refine wp_T ⟨by omega, by omega⟩ ?_
          refine wp_sk iM b0 kM (by unfold TH2; omega) (fun M2 u2 i2 k2 => ?_)
          refine wp_ite (fun c3 => ?_) (fun c3 => ?_)
          · refine wp_T ⟨by omega, by omega⟩ ?_
            refine wp_sk i2 (jm_inL (by decide) (by decide)) k2 (by unfold TH2; omega) (fun M5 u5 i5 k5 => ?_)
            refine wp_e (jm_w_in _) (fun v6 e6 _ => ?_)
            rw [e6]
            exact k64 M5 l8' i5 k5 b8
          · refine wp_ite (fun c4 => ?_) (fun c4 => ?_)
            · refine wp_T ⟨by omega, by omega⟩ ?_
              refine wp_sk i2 (jm_inL (by decide) (by decide)) k2 (by unfold TH2; omega) (fun M5 u5 i5 k5 => ?_)
              refine wp_e (jm_w_in _) (fun v6 e6 _ => ?_)
              rw [e6]
              exact k64 M5 l8' i5 k5 b8
            · refine wp_T ⟨by omega, by omega⟩ ?_
              refine wp_T ⟨by omega, by omega⟩ ?_
              refine wp_sk i2 (i2 48 0 l1) k2 (by unfold TH2; omega) (fun M5 u5 i5 k5 => ?_)
              refine wp_e (jm_w_in _) (fun v6 e6 _ => ?_)
              rw [e6]
              exact k64 M5 l8' i5 k5 b8
        have k110 : ∀ (l9 s0 : Int), jm_in s0 → wp (gX12_asks_110 fu k27 (fX12_asks_64 fu k27 n) M l1 l2 l4 l5 l6 l7 l9 s0) Q := by
          intro l9 s0 b0
          unfold gX12_asks_110
          refine wp_ite (fun c3 => k156 _ _ _ b0 (jm_inL (by decide) (by decide))) (fun c3 => ?_)
          refine wp_ite (fun c4 => k156 _ _ _ b0 (jm_inL (by decide) (by decide))) (fun c4 => ?_)
          refine wp_ite (fun c5 => k156 _ _ _ b0 (jm_inL (by decide) (by decide))) (fun c5 => ?_)
          refine wp_T ⟨by omega, by omega⟩ ?_
          exact k156 _ _ _ b0 (iM 47 0 l1)
        refine wp_e (iM 35 0 l4) (fun v16 e16 _ => ?_)
        refine wp_ite (fun c3 => ?_) (fun c3 => ?_)
        · exact k110 v16 l8 h8
        · exact k110 v16 _ (jm_w_in _)
theorem s_asks_27 (fu : Nat) (hfu : 4000 ≤ fu) (M0 : jm_M) (l1 l2 b : Int) (hl1 : 0 ≤ l1 ∧ l1 ≤ 5) (hl2 : 0 ≤ l2 ∧ l2 ≤ 11) (hb : b ≤ 1700) : ∀ (n : Nat) (M : jm_M) (a l6 : Int) (k : Nat), bI bx2 M → Kp TH2 M0 M → 0 ≤ a → b - a ≤ 100 → WFt (M0 35 0) k a b → jm_in l6 → b - a < (n : Int) → wp (fX12_asks_27 fu n M l1 l2 a b l6) (fun r M1 => bI bx2 M1 ∧ Kp TH2 M0 M1 ∧ jm_in r) := by
  intro n
  induction n with
  | zero =>
    intro M a l6 k _ _ h0 _ hw _ hm
    have := WFt_le k a b hw
    exfalso; omega
  | succ n ih =>
    intro M a l6 k iM kM h0 hr hw h6 hm
    show wp (gX12_asks_27 fu (fX12_asks_27 fu n) M l1 l2 a b l6) _
    unfold gX12_asks_27
    refine wp_ite (fun c => ?_) (fun c => ?_)
    · exact wp_ret ⟨iM, kM, jm_inL (by decide) (by decide)⟩
    · cases k with
      | zero => exact absurd (show b ≤ a by have h : a = b := hw; omega) c
      | succ k =>
        obtain ⟨y, ⟨e, x, q1, q2, q3, q4, q5, q6, q7⟩, hw2⟩ := hw
        have hle := WFt_le k y b hw2
        have e35 : M 35 0 = M0 35 0 := funext fun j => kM 35 0 j (by unfold TH2; omega)
        refine wp_bk (s_fX12_gives fu hfu M iM a b e ⟨h0, q1⟩ ⟨by omega, by omega, hb⟩ (by rw [e35]; exact q2) (Or.inr (by rw [e35]; exact q3))) (fun v2 M3 i3 j3 h3 => ?_)
        have k3 := kM.tr j3 (fun _ _ _ h => h)
        have k50 : ∀ s0 : Int, wp (gX12_asks_50 fu (fX12_asks_27 fu n) M3 l1 l2 b l6 s0) (fun r M1 => bI bx2 M1 ∧ Kp TH2 M0 M1 ∧ jm_in r) := by
          intro s0
          unfold gX12_asks_50
          refine wp_e (jm_w_in _) (fun v4 e4 _ => ?_)
          rw [e4, h3.2, jm_wid (by omega) (by omega)]
          exact s_asks_64 fu M0 _ (fun r M b i k => ⟨i, k, b⟩) l1 l2 b l6 x hl1 hl2 h6 ⟨by omega, by omega⟩ q6 (fX12_asks_27 fu n) (fun M' v i' k' b' => ih M' (x + 1) v k i' k' (by omega) (by omega) (by rw [← q7]; exact hw2) b' (by omega)) fu M3 (e + 1) s0 (-2) i3 k3 (by omega) (by omega) (fun j z1 z2 => q5 j (by omega) z2) (jm_inL (by decide) (by decide)) (by omega)
        exact wp_ite (fun _ => k50 0) (fun _ => k50 1)
theorem s_fX12_asks (fu : Nat) (hfu : 4000 ≤ fu) (M : jm_M) (iM : bI bx2 M) (l1 l2 l3 : Int) (hl1 : 0 ≤ l1 ∧ l1 ≤ 5) (hl2 : 0 ≤ l2 ∧ l2 ≤ 11) (hl3 : jm_in l3) (wM : WF M) (x0 : 0 ≤ (M 45 0 l1)) (x1 : M 30 0 l1 = 1) : wp (fX12_asks fu M l1 l2 l3) (fun r M1 => bI bx2 M1 ∧ Kp TH2 M M1 ∧ (jm_in r)) := by
  unfold fX12_asks
  refine wp_bk (s_fX12_speaks fu hfu M iM l1 l2 l3 hl1 hl2 hl3 x0) (fun v1 M2 i2 j2 h1 => ?_)
  refine wp_e (jm_w_in _) (fun v3 e3 _ => ?_)
  have w3 : jm_w (100 * l1) = 100 * l1 := jm_wid (by omega) (by omega)
  have e36 : M2 36 0 l1 = M 36 0 l1 := j2 36 0 l1 (by unfold TH2; omega)
  have b36 : 0 ≤ M 36 0 l1 ∧ M 36 0 l1 ≤ 100 := iM 36 0 l1
  refine wp_T ⟨by omega, by omega⟩ ?_
  refine wp_e (jm_w_in _) (fun v7 e7 _ => ?_)
  have w7 : jm_w (v3 + (M2 36 0 l1)) = v3 + M2 36 0 l1 := jm_wid (by omega) (by omega)
  obtain ⟨n, hn⟩ := wM.2 l1 hl1.1 (by omega) x1
  have ev3 : v3 = 100 * l1 := by omega
  have ev7 : v7 = 100 * l1 + M 36 0 l1 := by omega
  rw [ev3, ev7]
  exact s_asks_27 fu hfu M l1 l2 (100 * l1 + M 36 0 l1) hl1 hl2 (by omega) fu M2 (100 * l1) 0 n i2 j2 (by omega) (by omega) hn (jm_inL (by decide) (by decide)) (by omega)
set_option maxHeartbeats 4000000 in
set_option maxRecDepth 100000 in
theorem s_fX12_endsLap (fu : Nat) (hfu : 4000 ≤ fu) (M : jm_M) (iM : bI bx2 M) (l1 l2 l3 : Int) (hl1 : 0 ≤ l1 ∧ l1 ≤ 5) (hl2 : 0 ≤ l2 ∧ l2 ≤ 11) (hl3 : jm_in l3) (wM : WF M) (x0 : 0 ≤ (M 45 0 l1)) (x1 : l2 < (M 0 0 2)) : wp (fX12_endsLap fu M l1 l2 l3) (fun r M1 => bI bx2 M1 ∧ Kp (TE2 l1) M M1 ∧ (0 ≤ r ∧ r ≤ 0 ∧ (0 ≤ M1 45 0 l1 ∧ (l2 + 1 = M 0 0 2 → M1 39 0 l1 = 1)))) := by
  have kM : Kp (TE2 l1) M M := Kp.rf
  unfold fX12_endsLap
  have b_2 : 1 ≤ (M 0 0 2) ∧ (M 0 0 2) ≤ 12 := iM 0 0 2
  have w_3 : (jm_w ((M 0 0 2) - 1)) = ((M 0 0 2) - 1) := jm_wid (by omega) (by omega)
  refine wp_ite (fun c_1 => ?_) (fun c_1 => ?_)
  · skip
    have b_4 : -2147483648 ≤ l3 ∧ l3 ≤ 2147483647 := hl3
    have b_5 : (-1) ≤ (M 45 0 l1) ∧ (M 45 0 l1) ≤ 3 := iM 45 0 l1
    have b_6 : (-2147483648) ≤ (M 39 0 l1) ∧ (M 39 0 l1) ≤ 2147483647 := iM 39 0 l1
    exact wp_mono (s_gX12_endsLap_19 fu hfu M wM    l1 l3 M iM kM ⟨by omega, by omega⟩ hl3 (by omega) ) (fun r M1 q => ⟨q.1, q.2.1, by have := q.2.2; omega⟩)
  · skip
    refine wp_bp (s_fX12_isOver fu hfu M iM l1 l3 ⟨by omega, by omega⟩ hl3 ) (fun v3 hv3 => ?_)
    refine wp_ite (fun c_7 => ?_) (fun c_7 => ?_)
    · skip
      refine wp_T ⟨by omega, by omega⟩ ?_
      have b_9 : 0 ≤ (M 30 0 l1) ∧ (M 30 0 l1) ≤ 1 := iM 30 0 l1
      refine wp_ite (fun c_8 => ?_) (fun c_8 => ?_)
      · skip
        have w_10 : (jm_w (5 * l1)) = (5 * l1) := jm_wid (by omega) (by omega)
        refine wp_e (by exact (jm_w_in _)) (fun v10 e_11 hv10 => ?_)
        have b_12 : -2147483648 ≤ v10 ∧ v10 ≤ 2147483647 := hv10
        have b_13 : -2147483648 ≤ l3 ∧ l3 ≤ 2147483647 := hl3
        have b_14 : (-1) ≤ (M 45 0 l1) ∧ (M 45 0 l1) ≤ 3 := iM 45 0 l1
        have b_15 : (-2147483648) ≤ (M 39 0 l1) ∧ (M 39 0 l1) ≤ 2147483647 := iM 39 0 l1
        exact s_fX12_endsLap_92 fu hfu M wM    fu l1 l2 l3 (-2) 0 v10 M iM kM ⟨by omega, by omega⟩ ⟨by omega, by omega⟩ hl3 (jm_inL (by decide) (by decide)) (jm_inL (by decide) (by decide)) ⟨by omega, by omega⟩ (by omega) (by omega)  (by omega)
      · skip
        refine wp_T ⟨by omega, by omega⟩ ?_
        have b_17 : 0 ≤ (M 60 0 l1) ∧ (M 60 0 l1) ≤ 1 := iM 60 0 l1
        refine wp_ite (fun c_16 => ?_) (fun c_16 => ?_)
        · skip
          have b_18 : (-1) ≤ (M 45 0 l1) ∧ (M 45 0 l1) ≤ 3 := iM 45 0 l1
          refine wp_bk (s_fX12_asks fu hfu M iM l1 l2 l3 ⟨by omega, by omega⟩ ⟨by omega, by omega⟩ hl3 (WF.kp kM wM wf_TE2) (by omega) (by omega)) (fun v15 M16 iM16 jM16 hv15 => ?_)
          have kM16 := kM.tr jM16 tt_TE2_TH2
          have b_20 : -2147483648 ≤ v15 ∧ v15 ≤ 2147483647 := hv15
          refine wp_ite (fun c_19 => ?_) (fun c_19 => ?_)
          · skip
            have w_21 : (jm_w (5 * l1)) = (5 * l1) := jm_wid (by omega) (by omega)
            refine wp_e (by exact (jm_w_in _)) (fun v19 e_22 hv19 => ?_)
            have b_23 : -2147483648 ≤ v19 ∧ v19 ≤ 2147483647 := hv19
            have b_24 : -2147483648 ≤ l3 ∧ l3 ≤ 2147483647 := hl3
            have q_25 : (M16 0 0 2) = (M 0 0 2) := jM16 0 0 2 (by unfold TH2; omega)
            have q_26 : (M16 45 0 l1) = (M 45 0 l1) := jM16 45 0 l1 (by unfold TH2; omega)
            have q_27 : (M16 39 0 l1) = (M 39 0 l1) := jM16 39 0 l1 (by unfold TH2; omega)
            have b_28 : (-2147483648) ≤ (M 39 0 l1) ∧ (M 39 0 l1) ≤ 2147483647 := iM 39 0 l1
            exact s_fX12_endsLap_92 fu hfu M wM    fu l1 l2 l3 v15 0 v19 M16 iM16 kM16 ⟨by omega, by omega⟩ ⟨by omega, by omega⟩ hl3 hv15 (jm_inL (by decide) (by decide)) ⟨by omega, by omega⟩ (by omega) (by omega)  (by omega)
          · skip
            refine wp_T ⟨by omega, by omega⟩ ?_
            have q_29 : (M16 14 0 l1) = (M 14 0 l1) := jM16 14 0 l1 (by unfold TH2; omega)
            have b_30 : (-2147483648) ≤ (M 14 0 l1) ∧ (M 14 0 l1) ≤ 2147483647 := iM 14 0 l1
            refine wp_e (by exact (bx2_in (iM16 14 0 l1))) (fun v23 e_31 hv23 => ?_)
            have w_32 : (jm_w (5 * l1)) = (5 * l1) := jm_wid (by omega) (by omega)
            refine wp_e (by exact (jm_w_in _)) (fun v25 e_33 hv25 => ?_)
            have b_34 : -2147483648 ≤ v25 ∧ v25 ≤ 2147483647 := hv25
            have b_35 : -2147483648 ≤ l3 ∧ l3 ≤ 2147483647 := hl3
            have b_36 : -2147483648 ≤ v23 ∧ v23 ≤ 2147483647 := hv23
            have q_37 : (M16 0 0 2) = (M 0 0 2) := jM16 0 0 2 (by unfold TH2; omega)
            have q_38 : (M16 45 0 l1) = (M 45 0 l1) := jM16 45 0 l1 (by unfold TH2; omega)
            have q_39 : (M16 39 0 l1) = (M 39 0 l1) := jM16 39 0 l1 (by unfold TH2; omega)
            have b_40 : (-2147483648) ≤ (M 39 0 l1) ∧ (M 39 0 l1) ≤ 2147483647 := iM 39 0 l1
            exact s_fX12_endsLap_92 fu hfu M wM    fu l1 l2 l3 v15 v23 v25 M16 iM16 kM16 ⟨by omega, by omega⟩ ⟨by omega, by omega⟩ hl3 hv15 hv23 ⟨by omega, by omega⟩ (by omega) (by omega)  (by omega)
        · skip
          have w_41 : (jm_w (5 * l1)) = (5 * l1) := jm_wid (by omega) (by omega)
          refine wp_e (by exact (jm_w_in _)) (fun v27 e_42 hv27 => ?_)
          have b_43 : -2147483648 ≤ v27 ∧ v27 ≤ 2147483647 := hv27
          have b_44 : -2147483648 ≤ l3 ∧ l3 ≤ 2147483647 := hl3
          have b_45 : (-1) ≤ (M 45 0 l1) ∧ (M 45 0 l1) ≤ 3 := iM 45 0 l1
          have b_46 : (-2147483648) ≤ (M 39 0 l1) ∧ (M 39 0 l1) ≤ 2147483647 := iM 39 0 l1
          exact s_fX12_endsLap_92 fu hfu M wM    fu l1 l2 l3 (-2) 0 v27 M iM kM ⟨by omega, by omega⟩ ⟨by omega, by omega⟩ hl3 (jm_inL (by decide) (by decide)) (jm_inL (by decide) (by decide)) ⟨by omega, by omega⟩ (by omega) (by omega)  (by omega)
    · skip
      have b_47 : -2147483648 ≤ l3 ∧ l3 ≤ 2147483647 := hl3
      have b_48 : (-1) ≤ (M 45 0 l1) ∧ (M 45 0 l1) ≤ 3 := iM 45 0 l1
      have b_49 : (-2147483648) ≤ (M 39 0 l1) ∧ (M 39 0 l1) ≤ 2147483647 := iM 39 0 l1
      exact wp_mono (s_gX12_endsLap_19 fu hfu M wM    l1 l3 M iM kM ⟨by omega, by omega⟩ hl3 (by omega) ) (fun r M1 q => ⟨q.1, q.2.1, by have := q.2.2; omega⟩)
set_option maxHeartbeats 4000000 in
set_option maxRecDepth 100000 in
theorem s_gX12_goes_180 (fu : Nat) (hfu : 4000 ≤ fu) (M0 : jm_M) (w0 : WF M0) : ∀ (l1 l3 l4 l7 s0 s1 s2 : Int) (M : jm_M) (iM : bI bx2 M) (kM : Kp (TG2 l1) M0 M) (hl1 : 0 ≤ l1 ∧ l1 ≤ 5) (hl3 : 0 ≤ l3 ∧ l3 ≤ 59) (hl4 : 0 ≤ l4 ∧ l4 ≤ 4) (hl7 : jm_in l7) (hs0 : 0 ≤ s0 ∧ s0 ≤ 2) (hs1 : jm_in s1) (hs2 : 0 ≤ s2 ∧ s2 ≤ 23) (y0 : (M 42 0 l1) = (l3 + 1)) (y1 : l3 < ((M 0 0 1) * (M 0 0 2))) (y2 : (M 0 0 70) ≤ 360) (y3 : l4 = (jm_mod l3 (M 0 0 1))) (z0 : 0 ≤ M 45 0 l1 ∧ M 42 0 l1 = M0 42 0 l1 + 1 ∧ M 0 0 70 = M0 0 0 70), wp (gX12_goes_180 fu  M l1 l3 l4 l7 s0 s1 s2) (fun r M1 => bI bx2 M1 ∧ Kp (TG2 l1) M0 M1 ∧ (0 ≤ r ∧ r ≤ 0 ∧ (0 ≤ M1 45 0 l1 ∧ M1 42 0 l1 = M0 42 0 l1 + 1 ∧ M1 0 0 70 ≤ M0 0 0 70 + 1 ∧ (M1 39 0 l1 = 0 → M1 42 0 l1 < M0 0 0 1 * M0 0 0 2)))) := by
  intro l1 l3 l4 l7 s0 s1 s2 M iM kM hl1 hl3 hl4 hl7 hs0 hs1 hs2 y0 y1 y2 y3 z0
  have bS : 2 ≤ M 0 0 1 ∧ M 0 0 1 ≤ 5 := iM 0 0 1
  have bL : 1 ≤ M 0 0 2 ∧ M 0 0 2 ≤ 12 := iM 0 0 2
  have jl := jm_last (v := l3) bS bL (by omega) (by omega)
  have eS : M0 0 0 1 * M0 0 0 2 = M 0 0 1 * M 0 0 2 := by rw [kM 0 0 1 (by unfold TG2; omega), kM 0 0 2 (by unfold TG2; omega)]
  unfold gX12_goes_180
  refine wp_T ⟨by omega, by omega⟩ ?_
  refine wp_sk iM (jm_w_in _) kM (by unfold TG2; omega) (fun M2 u_1 iM2 kM2 => ?_)
  have w_2 : (jm_w (5 * l1)) = (5 * l1) := jm_wid (by omega) (by omega)
  have w_3 : (jm_w ((jm_w (5 * l1)) + l4)) = ((jm_w (5 * l1)) + l4) := jm_wid (by omega) (by omega)
  refine wp_T ⟨by omega, by omega⟩ ?_
  have q_4 : (M2 0 0 70) = (M 0 0 70) := by rw [u_1]; exact jm_une_f (by decide)
  have b_5 : 0 ≤ (M 0 0 70) ∧ (M 0 0 70) ≤ 361 := iM 0 0 70
  refine wp_sk iM2 (bx2_in (iM2 0 0 70)) kM2 (by unfold TG2; omega) (fun M5 u_6 iM5 kM5 => ?_)
  refine wp_T ⟨by omega, by omega⟩ ?_
  refine wp_sk iM5 hl7 kM5 (by unfold TG2; omega) (fun M7 u_7 iM7 kM7 => ?_)
  have q_8 : (M7 0 0 70) = (M5 0 0 70) := by rw [u_7]; exact jm_une_f (by decide)
  have q_9 : (M5 0 0 70) = (M2 0 0 70) := by rw [u_6]; exact jm_une_f (by decide)
  have r_10 : (jm_w ((M7 0 0 70) + 1)) = (jm_w ((M 0 0 70) + 1)) := congrArg jm_w (by omega)
  have w_11 : (jm_w ((M 0 0 70) + 1)) = ((M 0 0 70) + 1) := jm_wid (by omega) (by omega)
  refine wp_sk iM7 (show 0 ≤ (jm_w ((M7 0 0 70) + 1)) ∧ (jm_w ((M7 0 0 70) + 1)) ≤ 361 by omega) kM7 (by unfold TG2; omega) (fun M9 u_12 iM9 kM9 => ?_)
  have w_13 : (jm_w (60 * l1)) = (60 * l1) := jm_wid (by omega) (by omega)
  have w_14 : (jm_w ((jm_w (60 * l1)) + l3)) = ((jm_w (60 * l1)) + l3) := jm_wid (by omega) (by omega)
  refine wp_T ⟨by omega, by omega⟩ ?_
  refine wp_sk iM9 hl7 kM9 (by unfold TG2; omega) (fun M11 u_15 iM11 kM11 => ?_)
  refine wp_T ⟨by omega, by omega⟩ ?_
  refine wp_T ⟨by omega, by omega⟩ ?_
  have q_16 : (M11 43 0 l1) = (M9 43 0 l1) := by rw [u_15]; exact jm_une_f (by decide)
  have q_17 : (M9 43 0 l1) = (M7 43 0 l1) := by rw [u_12]; exact jm_une_f (by decide)
  have q_18 : (M7 43 0 l1) = (M5 43 0 l1) := by rw [u_7]; exact jm_une_f (by decide)
  have q_19 : (M5 43 0 l1) = (M2 43 0 l1) := by rw [u_6]; exact jm_une_f (by decide)
  have q_20 : (M2 43 0 l1) = (M 43 0 l1) := by rw [u_1]; exact jm_une_f (by decide)
  have r_21 : (jm_w ((M11 43 0 l1) + 1)) = (jm_w ((M 43 0 l1) + 1)) := congrArg jm_w (by omega)
  refine wp_sk iM11 (jm_w_in _) kM11 (by unfold TG2; omega) (fun M15 u_22 iM15 kM15 => ?_)
  refine wp_T ⟨by omega, by omega⟩ ?_
  refine wp_sk iM15 hl7 kM15 (by unfold TG2; omega) (fun M17 u_23 iM17 kM17 => ?_)
  have q_24 : (M17 0 0 1) = (M15 0 0 1) := by rw [u_23]; exact jm_une_f (by decide)
  have q_25 : (M15 0 0 1) = (M11 0 0 1) := by rw [u_22]; exact jm_une_f (by decide)
  have q_26 : (M11 0 0 1) = (M9 0 0 1) := by rw [u_15]; exact jm_une_f (by decide)
  have q_27 : (M9 0 0 1) = (M7 0 0 1) := by rw [u_12]; exact jm_une_k (by decide)
  have q_28 : (M7 0 0 1) = (M5 0 0 1) := by rw [u_7]; exact jm_une_f (by decide)
  have q_29 : (M5 0 0 1) = (M2 0 0 1) := by rw [u_6]; exact jm_une_f (by decide)
  have q_30 : (M2 0 0 1) = (M 0 0 1) := by rw [u_1]; exact jm_une_f (by decide)
  have r_31 : (jm_w ((M17 0 0 1) - 1)) = (jm_w ((M 0 0 1) - 1)) := congrArg jm_w (by omega)
  have b_33 : 2 ≤ (M 0 0 1) ∧ (M 0 0 1) ≤ 5 := iM 0 0 1
  have w_34 : (jm_w ((M 0 0 1) - 1)) = ((M 0 0 1) - 1) := jm_wid (by omega) (by omega)
  refine wp_ite (fun c_32 => ?_) (fun c_32 => ?_)
  · skip
    refine wp_T (by omega) ?_
    have r_35 : (jm_div l3 (M17 0 0 1)) = (jm_div l3 (M 0 0 1)) := by rw [show (M17 0 0 1) = (M 0 0 1) by omega]
    have f_36 : 0 ≤ (jm_div l3 (M 0 0 1)) ∧ (jm_div l3 (M 0 0 1)) ≤ l3 := jm_div_f (by omega) (by omega) (by omega)
    have q_37 : (M17 45 0 l1) = (M15 45 0 l1) := by rw [u_23]; exact jm_une_f (by decide)
    have q_38 : (M15 45 0 l1) = (M11 45 0 l1) := by rw [u_22]; exact jm_une_f (by decide)
    have q_39 : (M11 45 0 l1) = (M9 45 0 l1) := by rw [u_15]; exact jm_une_f (by decide)
    have q_40 : (M9 45 0 l1) = (M7 45 0 l1) := by rw [u_12]; exact jm_une_f (by decide)
    have q_41 : (M7 45 0 l1) = (M5 45 0 l1) := by rw [u_7]; exact jm_une_f (by decide)
    have q_42 : (M5 45 0 l1) = (M2 45 0 l1) := by rw [u_6]; exact jm_une_f (by decide)
    have q_43 : (M2 45 0 l1) = (M 45 0 l1) := by rw [u_1]; exact jm_une_f (by decide)
    have b_44 : (-1) ≤ (M 45 0 l1) ∧ (M 45 0 l1) ≤ 3 := iM 45 0 l1
    have q_45 : (M17 0 0 2) = (M15 0 0 2) := by rw [u_23]; exact jm_une_f (by decide)
    have q_46 : (M15 0 0 2) = (M11 0 0 2) := by rw [u_22]; exact jm_une_f (by decide)
    have q_47 : (M11 0 0 2) = (M9 0 0 2) := by rw [u_15]; exact jm_une_f (by decide)
    have q_48 : (M9 0 0 2) = (M7 0 0 2) := by rw [u_12]; exact jm_une_k (by decide)
    have q_49 : (M7 0 0 2) = (M5 0 0 2) := by rw [u_7]; exact jm_une_f (by decide)
    have q_50 : (M5 0 0 2) = (M2 0 0 2) := by rw [u_6]; exact jm_une_f (by decide)
    have q_51 : (M2 0 0 2) = (M 0 0 2) := by rw [u_1]; exact jm_une_f (by decide)
    have b_52 : 1 ≤ (M 0 0 2) ∧ (M 0 0 2) ≤ 12 := iM 0 0 2
    have q_53 : (M17 39 0 l1) = (M15 39 0 l1) := by rw [u_23]; exact jm_une_f (by decide)
    have q_54 : (M15 39 0 l1) = (M11 39 0 l1) := by rw [u_22]; exact jm_une_f (by decide)
    have q_55 : (M11 39 0 l1) = (M9 39 0 l1) := by rw [u_15]; exact jm_une_f (by decide)
    have q_56 : (M9 39 0 l1) = (M7 39 0 l1) := by rw [u_12]; exact jm_une_f (by decide)
    have q_57 : (M7 39 0 l1) = (M5 39 0 l1) := by rw [u_7]; exact jm_une_f (by decide)
    have q_58 : (M5 39 0 l1) = (M2 39 0 l1) := by rw [u_6]; exact jm_une_f (by decide)
    have q_59 : (M2 39 0 l1) = (M 39 0 l1) := by rw [u_1]; exact jm_une_f (by decide)
    have b_60 : (-2147483648) ≤ (M 39 0 l1) ∧ (M 39 0 l1) ≤ 2147483647 := iM 39 0 l1
    refine wp_bk (s_fX12_endsLap fu hfu M17 iM17 l1 (jm_div l3 (M17 0 0 1)) l7 ⟨by omega, by omega⟩ ⟨by omega, by omega⟩ hl7 (WF.kp kM17 w0 wf_TG2) (by omega) (by omega)) (fun v22 M23 iM23 jM23 hv22 => ?_)
    have kM23 := kM17.tr jM23 tt_TG2_TE2
    have b_61 : (-1) ≤ (M23 45 0 l1) ∧ (M23 45 0 l1) ≤ 3 := iM23 45 0 l1
    have q_62 : (M23 42 0 l1) = (M17 42 0 l1) := jM23 42 0 l1 (by unfold TE2; omega)
    have q_63 : (M17 42 0 l1) = (M15 42 0 l1) := by rw [u_23]; exact jm_une_f (by decide)
    have q_64 : (M15 42 0 l1) = (M11 42 0 l1) := by rw [u_22]; exact jm_une_f (by decide)
    have q_65 : (M11 42 0 l1) = (M9 42 0 l1) := by rw [u_15]; exact jm_une_f (by decide)
    have q_66 : (M9 42 0 l1) = (M7 42 0 l1) := by rw [u_12]; exact jm_une_f (by decide)
    have q_67 : (M7 42 0 l1) = (M5 42 0 l1) := by rw [u_7]; exact jm_une_f (by decide)
    have q_68 : (M5 42 0 l1) = (M2 42 0 l1) := by rw [u_6]; exact jm_une_f (by decide)
    have q_69 : (M2 42 0 l1) = (M 42 0 l1) := by rw [u_1]; exact jm_une_f (by decide)
    have b_70 : 0 ≤ (M 42 0 l1) ∧ (M 42 0 l1) ≤ 60 := iM 42 0 l1
    have b_71 : (-2147483648) ≤ (M23 39 0 l1) ∧ (M23 39 0 l1) ≤ 2147483647 := iM23 39 0 l1
    have q_72 : (M23 0 0 70) = (M17 0 0 70) := jM23 0 0 70 (by unfold TE2; omega)
    have q_73 : (M17 0 0 70) = (M15 0 0 70) := by rw [u_23]; exact jm_une_f (by decide)
    have q_74 : (M15 0 0 70) = (M11 0 0 70) := by rw [u_22]; exact jm_une_f (by decide)
    have q_75 : (M11 0 0 70) = (M9 0 0 70) := by rw [u_15]; exact jm_une_f (by decide)
    have q_76 : (M9 0 0 70) = (jm_w ((M7 0 0 70) + 1)) := by rw [u_12]; exact jm_ueq
    exact wp_ret ⟨iM23, kM23, by omega, by omega, by omega⟩
  · skip
    have q_77 : (M17 45 0 l1) = (M15 45 0 l1) := by rw [u_23]; exact jm_une_f (by decide)
    have q_78 : (M15 45 0 l1) = (M11 45 0 l1) := by rw [u_22]; exact jm_une_f (by decide)
    have q_79 : (M11 45 0 l1) = (M9 45 0 l1) := by rw [u_15]; exact jm_une_f (by decide)
    have q_80 : (M9 45 0 l1) = (M7 45 0 l1) := by rw [u_12]; exact jm_une_f (by decide)
    have q_81 : (M7 45 0 l1) = (M5 45 0 l1) := by rw [u_7]; exact jm_une_f (by decide)
    have q_82 : (M5 45 0 l1) = (M2 45 0 l1) := by rw [u_6]; exact jm_une_f (by decide)
    have q_83 : (M2 45 0 l1) = (M 45 0 l1) := by rw [u_1]; exact jm_une_f (by decide)
    have b_84 : (-1) ≤ (M 45 0 l1) ∧ (M 45 0 l1) ≤ 3 := iM 45 0 l1
    have q_85 : (M17 42 0 l1) = (M15 42 0 l1) := by rw [u_23]; exact jm_une_f (by decide)
    have q_86 : (M15 42 0 l1) = (M11 42 0 l1) := by rw [u_22]; exact jm_une_f (by decide)
    have q_87 : (M11 42 0 l1) = (M9 42 0 l1) := by rw [u_15]; exact jm_une_f (by decide)
    have q_88 : (M9 42 0 l1) = (M7 42 0 l1) := by rw [u_12]; exact jm_une_f (by decide)
    have q_89 : (M7 42 0 l1) = (M5 42 0 l1) := by rw [u_7]; exact jm_une_f (by decide)
    have q_90 : (M5 42 0 l1) = (M2 42 0 l1) := by rw [u_6]; exact jm_une_f (by decide)
    have q_91 : (M2 42 0 l1) = (M 42 0 l1) := by rw [u_1]; exact jm_une_f (by decide)
    have b_92 : 0 ≤ (M 42 0 l1) ∧ (M 42 0 l1) ≤ 60 := iM 42 0 l1
    have q_93 : (M17 39 0 l1) = (M15 39 0 l1) := by rw [u_23]; exact jm_une_f (by decide)
    have q_94 : (M15 39 0 l1) = (M11 39 0 l1) := by rw [u_22]; exact jm_une_f (by decide)
    have q_95 : (M11 39 0 l1) = (M9 39 0 l1) := by rw [u_15]; exact jm_une_f (by decide)
    have q_96 : (M9 39 0 l1) = (M7 39 0 l1) := by rw [u_12]; exact jm_une_f (by decide)
    have q_97 : (M7 39 0 l1) = (M5 39 0 l1) := by rw [u_7]; exact jm_une_f (by decide)
    have q_98 : (M5 39 0 l1) = (M2 39 0 l1) := by rw [u_6]; exact jm_une_f (by decide)
    have q_99 : (M2 39 0 l1) = (M 39 0 l1) := by rw [u_1]; exact jm_une_f (by decide)
    have b_100 : (-2147483648) ≤ (M 39 0 l1) ∧ (M 39 0 l1) ≤ 2147483647 := iM 39 0 l1
    have q_101 : (M17 0 0 70) = (M15 0 0 70) := by rw [u_23]; exact jm_une_f (by decide)
    have q_102 : (M15 0 0 70) = (M11 0 0 70) := by rw [u_22]; exact jm_une_f (by decide)
    have q_103 : (M11 0 0 70) = (M9 0 0 70) := by rw [u_15]; exact jm_une_f (by decide)
    have q_104 : (M9 0 0 70) = (jm_w ((M7 0 0 70) + 1)) := by rw [u_12]; exact jm_ueq
    exact wp_ret ⟨iM17, kM17, by omega, by omega, by omega⟩
set_option maxHeartbeats 4000000 in
set_option maxRecDepth 100000 in
theorem s_fX12_goes (fu : Nat) (hfu : 4000 ≤ fu) (M : jm_M) (iM : bI bx2 M) (l1 l2 : Int) (hl1 : 0 ≤ l1 ∧ l1 ≤ 5) (hl2 : jm_in l2) (wM : WF M) (x0 : 0 ≤ (M 45 0 l1)) (x1 : (M 42 0 l1) < ((M 0 0 1) * (M 0 0 2))) (x2 : (M 0 0 70) ≤ 360) (x3 : (M 39 0 l1) = 0) : wp (fX12_goes fu M l1 l2) (fun r M1 => bI bx2 M1 ∧ Kp (TG2 l1) M M1 ∧ (0 ≤ r ∧ r ≤ 0 ∧ (0 ≤ M1 45 0 l1 ∧ M1 42 0 l1 = M 42 0 l1 + 1 ∧ M1 0 0 70 ≤ M 0 0 70 + 1 ∧ (M1 39 0 l1 = 0 → M1 42 0 l1 < M 0 0 1 * M 0 0 2)))) := by
  have kM : Kp (TG2 l1) M M := Kp.rf
  have bS : 2 ≤ M 0 0 1 ∧ M 0 0 1 ≤ 5 := iM 0 0 1
  have bL : 1 ≤ M 0 0 2 ∧ M 0 0 2 ≤ 12 := iM 0 0 2
  have bP : 0 ≤ (M 0 0 1) * (M 0 0 2) ∧ (M 0 0 1) * (M 0 0 2) ≤ 60 := jm_mulb (A := 5) (B := 12) (by omega) (by omega) (by omega) (by omega) (by decide)
  unfold fX12_goes
  refine wp_T ⟨by omega, by omega⟩ ?_
  have b_1 : 0 ≤ (M 42 0 l1) ∧ (M 42 0 l1) ≤ 60 := iM 42 0 l1
  refine wp_e (by exact (jm_inL (by omega) (by omega))) (fun v3 e_2 hv3 => ?_)
  have b_3 : 2 ≤ (M 0 0 1) ∧ (M 0 0 1) ≤ 5 := iM 0 0 1
  refine wp_T (by omega) ?_
  have b_4 : -2147483648 ≤ v3 ∧ v3 ≤ 2147483647 := hv3
  have f_5 : 0 ≤ (jm_mod v3 (M 0 0 1)) ∧ (jm_mod v3 (M 0 0 1)) < (M 0 0 1) := jm_mod_f (by omega) (by omega)
  refine wp_e (by exact (jm_inL (by omega) (by omega))) (fun v7 e_6 hv7 => ?_)
  refine wp_T ⟨by omega, by omega⟩ ?_
  refine wp_T ⟨by omega, by omega⟩ ?_
  have w_7 : (jm_w ((M 42 0 l1) + 1)) = ((M 42 0 l1) + 1) := jm_wid (by omega) (by omega)
  refine wp_sk iM (show 0 ≤ (jm_w ((M 42 0 l1) + 1)) ∧ (jm_w ((M 42 0 l1) + 1)) ≤ 60 by omega) kM (by unfold TG2; omega) (fun M12 u_8 iM12 kM12 => ?_)
  refine wp_bk (s_fX12_hears fu hfu M12 iM12 l1 v3 ⟨by omega, by omega⟩ ⟨by omega, by omega⟩ ) (fun v13 M14 iM14 jM14 hv13 => ?_)
  have kM14 := kM12.tr jM14 tt_TG2_TH2
  refine wp_T ⟨by omega, by omega⟩ ?_
  refine wp_T ⟨by omega, by omega⟩ ?_
  have q_9 : (M14 45 0 l1) = (M12 45 0 l1) := jM14 45 0 l1 (by unfold TH2; omega)
  have q_10 : (M12 45 0 l1) = (M 45 0 l1) := by rw [u_8]; exact jm_une_f (by decide)
  have r_11 : (jm_w ((jm_w (4 * l1)) + (M14 45 0 l1))) = (jm_w ((jm_w (4 * l1)) + (M 45 0 l1))) := congrArg jm_w (by omega)
  have w_12 : (jm_w (4 * l1)) = (4 * l1) := jm_wid (by omega) (by omega)
  have b_13 : (-1) ≤ (M 45 0 l1) ∧ (M 45 0 l1) ≤ 3 := iM 45 0 l1
  have w_14 : (jm_w ((jm_w (4 * l1)) + (M 45 0 l1))) = ((jm_w (4 * l1)) + (M 45 0 l1)) := jm_wid (by omega) (by omega)
  refine wp_T ⟨by omega, by omega⟩ ?_
  refine wp_T ⟨by omega, by omega⟩ ?_
  have r_15 : (M14 20 0 (jm_w ((jm_w (4 * l1)) + (M14 45 0 l1)))) = (M14 20 0 (jm_w ((jm_w (4 * l1)) + (M 45 0 l1)))) := by rw [show (jm_w ((jm_w (4 * l1)) + (M14 45 0 l1))) = (jm_w ((jm_w (4 * l1)) + (M 45 0 l1))) by omega]
  have q_16 : (M14 20 0 (jm_w ((jm_w (4 * l1)) + (M 45 0 l1)))) = (M12 20 0 (jm_w ((jm_w (4 * l1)) + (M 45 0 l1)))) := jM14 20 0 (jm_w ((jm_w (4 * l1)) + (M 45 0 l1))) (by unfold TH2; omega)
  have q_17 : (M12 20 0 (jm_w ((jm_w (4 * l1)) + (M 45 0 l1)))) = (M 20 0 (jm_w ((jm_w (4 * l1)) + (M 45 0 l1)))) := by rw [u_8]; exact jm_une_f (by decide)
  have r_18 : (jm_shl 1 (M14 20 0 (jm_w ((jm_w (4 * l1)) + (M14 45 0 l1))))) = (jm_shl 1 (M 20 0 (jm_w ((jm_w (4 * l1)) + (M 45 0 l1))))) := by rw [show (M14 20 0 (jm_w ((jm_w (4 * l1)) + (M14 45 0 l1)))) = (M 20 0 (jm_w ((jm_w (4 * l1)) + (M 45 0 l1)))) by omega]
  have r_19 : (jm_or (M14 50 0 l1) (jm_shl 1 (M14 20 0 (jm_w ((jm_w (4 * l1)) + (M14 45 0 l1)))))) = (jm_or (M14 50 0 l1) (jm_shl 1 (M 20 0 (jm_w ((jm_w (4 * l1)) + (M 45 0 l1)))))) := by rw [show (jm_shl 1 (M14 20 0 (jm_w ((jm_w (4 * l1)) + (M14 45 0 l1))))) = (jm_shl 1 (M 20 0 (jm_w ((jm_w (4 * l1)) + (M 45 0 l1))))) by omega]
  refine wp_sk iM14 (jm_or_in _ _) kM14 (by unfold TG2; omega) (fun M22 u_20 iM22 kM22 => ?_)
  refine wp_T ⟨by omega, by omega⟩ ?_
  refine wp_T ⟨by omega, by omega⟩ ?_
  have q_21 : (M22 15 0 l1) = (M14 15 0 l1) := by rw [u_20]; exact jm_une_f (by decide)
  have q_22 : (M14 15 0 l1) = (M12 15 0 l1) := jM14 15 0 l1 (by unfold TH2; omega)
  have q_23 : (M12 15 0 l1) = (M 15 0 l1) := by rw [u_8]; exact jm_une_f (by decide)
  have q_24 : (M22 47 0 l1) = (M14 47 0 l1) := by rw [u_20]; exact jm_une_f (by decide)
  have r_25 : (jm_w ((M22 15 0 l1) - (M22 47 0 l1))) = (jm_w ((M 15 0 l1) - (M14 47 0 l1))) := congrArg jm_w (by omega)
  have b_26 : (-2147483648) ≤ (M 15 0 l1) ∧ (M 15 0 l1) ≤ 2147483647 := iM 15 0 l1
  have b_27 : (-2147483648) ≤ (M14 47 0 l1) ∧ (M14 47 0 l1) ≤ 2147483647 := iM14 47 0 l1
  have w_28 : -2147483648 ≤ (jm_w ((M 15 0 l1) - (M14 47 0 l1))) ∧ (jm_w ((M 15 0 l1) - (M14 47 0 l1))) ≤ 2147483647 := jm_w_in _
  refine wp_e (by exact (jm_w_in _)) (fun v27 e_29 hv27 => ?_)
  refine wp_T ⟨by omega, by omega⟩ ?_
  have q_30 : (M22 44 0 l1) = (M14 44 0 l1) := by rw [u_20]; exact jm_une_f (by decide)
  have b_32 : -2147483648 ≤ v27 ∧ v27 ≤ 2147483647 := hv27
  have b_33 : (-2147483648) ≤ (M14 44 0 l1) ∧ (M14 44 0 l1) ≤ 2147483647 := iM14 44 0 l1
  refine wp_ite (fun c_31 => ?_) (fun c_31 => ?_)
  · skip
    refine wp_T ⟨by omega, by omega⟩ ?_
    refine wp_T ⟨by omega, by omega⟩ ?_
    have r_34 : (jm_w ((M22 44 0 l1) - v27)) = (jm_w ((M14 44 0 l1) - v27)) := congrArg jm_w (by omega)
    refine wp_sk iM22 (jm_w_in _) kM22 (by unfold TG2; omega) (fun M35 u_35 iM35 kM35 => ?_)
    refine wp_bp (s_fX12_isSlow fu hfu M35 iM35 l2 hl2 ) (fun v36 hv36 => ?_)
    have b_36 : -2147483648 ≤ v7 ∧ v7 ≤ 2147483647 := hv7
    have q_37 : (M35 45 0 l1) = (M22 45 0 l1) := by rw [u_35]; exact jm_une_f (by decide)
    have q_38 : (M22 45 0 l1) = (M14 45 0 l1) := by rw [u_20]; exact jm_une_f (by decide)
    refine wp_bp (s_fX12_takes fu hfu M35 iM35 l1 v7 l2 v36 ⟨by omega, by omega⟩ ⟨by omega, by omega⟩ hl2 ⟨by omega, by omega⟩ (by omega)) (fun v39 hv39 => ?_)
    refine wp_bk (s_fX12_held fu hfu M35 iM35 l1 v7 l2 (jm_w (l2 + v39)) v36 ⟨by omega, by omega⟩ ⟨by omega, by omega⟩ hl2 (jm_w_in _) ⟨by omega, by omega⟩ ) (fun v42 M43 iM43 jM43 hv42 => ?_)
    have kM43 := kM35.tr jM43 tt_TG2_TH2
    refine wp_T ⟨by omega, by omega⟩ ?_
    have q_39 : (M43 45 0 l1) = (M35 45 0 l1) := jM43 45 0 l1 (by unfold TH2; omega)
    have r_40 : (jm_w ((jm_w (4 * l1)) + (M43 45 0 l1))) = (jm_w ((jm_w (4 * l1)) + (M 45 0 l1))) := congrArg jm_w (by omega)
    refine wp_T ⟨by omega, by omega⟩ ?_
    refine wp_ite (fun c_41 => ?_) (fun c_41 => ?_)
    · skip
      refine wp_T ⟨by omega, by omega⟩ ?_
      have b_43 : (-2147483648) ≤ (M43 47 0 l1) ∧ (M43 47 0 l1) ≤ 2147483647 := iM43 47 0 l1
      refine wp_ite (fun c_42 => ?_) (fun c_42 => ?_)
      · skip
        have r_44 : (M43 46 0 (jm_w ((jm_w (4 * l1)) + (M43 45 0 l1)))) = (M43 46 0 (jm_w ((jm_w (4 * l1)) + (M 45 0 l1)))) := by rw [show (jm_w ((jm_w (4 * l1)) + (M43 45 0 l1))) = (jm_w ((jm_w (4 * l1)) + (M 45 0 l1))) by omega]
        have b_45 : -2147483648 ≤ v42 ∧ v42 ≤ 2147483647 := hv42
        have b_46 : (-2147483648) ≤ (M43 46 0 (jm_w ((jm_w (4 * l1)) + (M 45 0 l1)))) ∧ (M43 46 0 (jm_w ((jm_w (4 * l1)) + (M 45 0 l1)))) ≤ 2147483647 := iM43 46 0 (jm_w ((jm_w (4 * l1)) + (M 45 0 l1)))
        have q_47 : (M43 42 0 l1) = (M35 42 0 l1) := jM43 42 0 l1 (by unfold TH2; omega)
        have q_48 : (M35 42 0 l1) = (M22 42 0 l1) := by rw [u_35]; exact jm_une_f (by decide)
        have q_49 : (M22 42 0 l1) = (M14 42 0 l1) := by rw [u_20]; exact jm_une_f (by decide)
        have q_50 : (M14 42 0 l1) = (M12 42 0 l1) := jM14 42 0 l1 (by unfold TH2; omega)
        have q_51 : (M12 42 0 l1) = (jm_w ((M 42 0 l1) + 1)) := by rw [u_8]; exact jm_ueq
        have q_52 : (M43 0 0 1) = (M35 0 0 1) := jM43 0 0 1 (by unfold TH2; omega)
        have q_53 : (M35 0 0 1) = (M22 0 0 1) := by rw [u_35]; exact jm_une_f (by decide)
        have q_54 : (M22 0 0 1) = (M14 0 0 1) := by rw [u_20]; exact jm_une_f (by decide)
        have q_55 : (M14 0 0 1) = (M12 0 0 1) := jM14 0 0 1 (by unfold TH2; omega)
        have q_56 : (M12 0 0 1) = (M 0 0 1) := by rw [u_8]; exact jm_une_f (by decide)
        have q_57 : (M43 0 0 2) = (M35 0 0 2) := jM43 0 0 2 (by unfold TH2; omega)
        have q_58 : (M35 0 0 2) = (M22 0 0 2) := by rw [u_35]; exact jm_une_f (by decide)
        have q_59 : (M22 0 0 2) = (M14 0 0 2) := by rw [u_20]; exact jm_une_f (by decide)
        have q_60 : (M14 0 0 2) = (M12 0 0 2) := jM14 0 0 2 (by unfold TH2; omega)
        have q_61 : (M12 0 0 2) = (M 0 0 2) := by rw [u_8]; exact jm_une_f (by decide)
        have r_62 : ((M43 0 0 1) * (M43 0 0 2)) = ((M 0 0 1) * (M 0 0 2)) := by rw [show (M43 0 0 1) = (M 0 0 1) by omega, show (M43 0 0 2) = (M 0 0 2) by omega]
        have b_63 : 1 ≤ (M 0 0 2) ∧ (M 0 0 2) ≤ 12 := iM 0 0 2
        have p_64 : 0 ≤ ((M 0 0 1) * (M 0 0 2)) ∧ ((M 0 0 1) * (M 0 0 2)) ≤ 60 := jm_mulb (A := 5) (B := 12) (by omega) (by omega) (by omega) (by omega) (by decide)
        have p_65 : 2 ≤ ((M 0 0 1) * (M 0 0 2)) := jm_mull (A := 2) (B := 1) (by omega) (by omega) (by omega) (by omega) (by decide)
        have q_66 : (M43 0 0 70) = (M35 0 0 70) := jM43 0 0 70 (by unfold TH2; omega)
        have q_67 : (M35 0 0 70) = (M22 0 0 70) := by rw [u_35]; exact jm_une_f (by decide)
        have q_68 : (M22 0 0 70) = (M14 0 0 70) := by rw [u_20]; exact jm_une_f (by decide)
        have q_69 : (M14 0 0 70) = (M12 0 0 70) := jM14 0 0 70 (by unfold TH2; omega)
        have q_70 : (M12 0 0 70) = (M 0 0 70) := by rw [u_8]; exact jm_une_f (by decide)
        have b_71 : 0 ≤ (M 0 0 70) ∧ (M 0 0 70) ≤ 361 := iM 0 0 70
        have q_73 : (M43 39 0 l1) = (M35 39 0 l1) := jM43 39 0 l1 (by unfold TH2; omega)
        have q_74 : (M35 39 0 l1) = (M22 39 0 l1) := by rw [u_35]; exact jm_une_f (by decide)
        have q_75 : (M22 39 0 l1) = (M14 39 0 l1) := by rw [u_20]; exact jm_une_f (by decide)
        have q_76 : (M14 39 0 l1) = (M12 39 0 l1) := jM14 39 0 l1 (by unfold TH2; omega)
        have q_77 : (M12 39 0 l1) = (M 39 0 l1) := by rw [u_8]; exact jm_une_f (by decide)
        have b_78 : (-2147483648) ≤ (M 39 0 l1) ∧ (M 39 0 l1) ≤ 2147483647 := iM 39 0 l1
        have eq1 : M43 0 0 1 = M 0 0 1 := by omega
        have eq2 : jm_mod v3 (M43 0 0 1) = jm_mod v3 (M 0 0 1) := by rw [eq1]
        have eq3 : M43 0 0 1 * M43 0 0 2 = M 0 0 1 * M 0 0 2 := by rw [eq1, show M43 0 0 2 = M 0 0 2 by omega]
        exact s_gX12_goes_180 fu hfu M wM    l1 v3 v7 v42 2 (M43 46 0 (jm_w ((jm_w (4 * l1)) + (M43 45 0 l1)))) (jm_w ((jm_w (4 * l1)) + (M43 45 0 l1))) M43 iM43 kM43 ⟨by omega, by omega⟩ ⟨by omega, by omega⟩ ⟨by omega, by omega⟩ hv42 ⟨by omega, by omega⟩ (bx2_in (iM43 46 0 (jm_w ((jm_w (4 * l1)) + (M43 45 0 l1))))) ⟨by omega, by omega⟩ (by omega) (by omega) (by omega) (by omega) (by omega) 
      · skip
        have r_79 : (M43 46 0 (jm_w ((jm_w (4 * l1)) + (M43 45 0 l1)))) = (M43 46 0 (jm_w ((jm_w (4 * l1)) + (M 45 0 l1)))) := by rw [show (jm_w ((jm_w (4 * l1)) + (M43 45 0 l1))) = (jm_w ((jm_w (4 * l1)) + (M 45 0 l1))) by omega]
        have b_80 : -2147483648 ≤ v42 ∧ v42 ≤ 2147483647 := hv42
        have b_81 : (-2147483648) ≤ (M43 46 0 (jm_w ((jm_w (4 * l1)) + (M 45 0 l1)))) ∧ (M43 46 0 (jm_w ((jm_w (4 * l1)) + (M 45 0 l1)))) ≤ 2147483647 := iM43 46 0 (jm_w ((jm_w (4 * l1)) + (M 45 0 l1)))
        have q_82 : (M43 42 0 l1) = (M35 42 0 l1) := jM43 42 0 l1 (by unfold TH2; omega)
        have q_83 : (M35 42 0 l1) = (M22 42 0 l1) := by rw [u_35]; exact jm_une_f (by decide)
        have q_84 : (M22 42 0 l1) = (M14 42 0 l1) := by rw [u_20]; exact jm_une_f (by decide)
        have q_85 : (M14 42 0 l1) = (M12 42 0 l1) := jM14 42 0 l1 (by unfold TH2; omega)
        have q_86 : (M12 42 0 l1) = (jm_w ((M 42 0 l1) + 1)) := by rw [u_8]; exact jm_ueq
        have q_87 : (M43 0 0 1) = (M35 0 0 1) := jM43 0 0 1 (by unfold TH2; omega)
        have q_88 : (M35 0 0 1) = (M22 0 0 1) := by rw [u_35]; exact jm_une_f (by decide)
        have q_89 : (M22 0 0 1) = (M14 0 0 1) := by rw [u_20]; exact jm_une_f (by decide)
        have q_90 : (M14 0 0 1) = (M12 0 0 1) := jM14 0 0 1 (by unfold TH2; omega)
        have q_91 : (M12 0 0 1) = (M 0 0 1) := by rw [u_8]; exact jm_une_f (by decide)
        have q_92 : (M43 0 0 2) = (M35 0 0 2) := jM43 0 0 2 (by unfold TH2; omega)
        have q_93 : (M35 0 0 2) = (M22 0 0 2) := by rw [u_35]; exact jm_une_f (by decide)
        have q_94 : (M22 0 0 2) = (M14 0 0 2) := by rw [u_20]; exact jm_une_f (by decide)
        have q_95 : (M14 0 0 2) = (M12 0 0 2) := jM14 0 0 2 (by unfold TH2; omega)
        have q_96 : (M12 0 0 2) = (M 0 0 2) := by rw [u_8]; exact jm_une_f (by decide)
        have r_97 : ((M43 0 0 1) * (M43 0 0 2)) = ((M 0 0 1) * (M 0 0 2)) := by rw [show (M43 0 0 1) = (M 0 0 1) by omega, show (M43 0 0 2) = (M 0 0 2) by omega]
        have b_98 : 1 ≤ (M 0 0 2) ∧ (M 0 0 2) ≤ 12 := iM 0 0 2
        have p_99 : 0 ≤ ((M 0 0 1) * (M 0 0 2)) ∧ ((M 0 0 1) * (M 0 0 2)) ≤ 60 := jm_mulb (A := 5) (B := 12) (by omega) (by omega) (by omega) (by omega) (by decide)
        have p_100 : 2 ≤ ((M 0 0 1) * (M 0 0 2)) := jm_mull (A := 2) (B := 1) (by omega) (by omega) (by omega) (by omega) (by decide)
        have q_101 : (M43 0 0 70) = (M35 0 0 70) := jM43 0 0 70 (by unfold TH2; omega)
        have q_102 : (M35 0 0 70) = (M22 0 0 70) := by rw [u_35]; exact jm_une_f (by decide)
        have q_103 : (M22 0 0 70) = (M14 0 0 70) := by rw [u_20]; exact jm_une_f (by decide)
        have q_104 : (M14 0 0 70) = (M12 0 0 70) := jM14 0 0 70 (by unfold TH2; omega)
        have q_105 : (M12 0 0 70) = (M 0 0 70) := by rw [u_8]; exact jm_une_f (by decide)
        have b_106 : 0 ≤ (M 0 0 70) ∧ (M 0 0 70) ≤ 361 := iM 0 0 70
        have q_108 : (M43 39 0 l1) = (M35 39 0 l1) := jM43 39 0 l1 (by unfold TH2; omega)
        have q_109 : (M35 39 0 l1) = (M22 39 0 l1) := by rw [u_35]; exact jm_une_f (by decide)
        have q_110 : (M22 39 0 l1) = (M14 39 0 l1) := by rw [u_20]; exact jm_une_f (by decide)
        have q_111 : (M14 39 0 l1) = (M12 39 0 l1) := jM14 39 0 l1 (by unfold TH2; omega)
        have q_112 : (M12 39 0 l1) = (M 39 0 l1) := by rw [u_8]; exact jm_une_f (by decide)
        have b_113 : (-2147483648) ≤ (M 39 0 l1) ∧ (M 39 0 l1) ≤ 2147483647 := iM 39 0 l1
        have eq1 : M43 0 0 1 = M 0 0 1 := by omega
        have eq2 : jm_mod v3 (M43 0 0 1) = jm_mod v3 (M 0 0 1) := by rw [eq1]
        have eq3 : M43 0 0 1 * M43 0 0 2 = M 0 0 1 * M 0 0 2 := by rw [eq1, show M43 0 0 2 = M 0 0 2 by omega]
        exact s_gX12_goes_180 fu hfu M wM    l1 v3 v7 v42 1 (M43 46 0 (jm_w ((jm_w (4 * l1)) + (M43 45 0 l1)))) (jm_w ((jm_w (4 * l1)) + (M43 45 0 l1))) M43 iM43 kM43 ⟨by omega, by omega⟩ ⟨by omega, by omega⟩ ⟨by omega, by omega⟩ hv42 ⟨by omega, by omega⟩ (bx2_in (iM43 46 0 (jm_w ((jm_w (4 * l1)) + (M43 45 0 l1))))) ⟨by omega, by omega⟩ (by omega) (by omega) (by omega) (by omega) (by omega) 
    · skip
      have r_114 : (M43 46 0 (jm_w ((jm_w (4 * l1)) + (M43 45 0 l1)))) = (M43 46 0 (jm_w ((jm_w (4 * l1)) + (M 45 0 l1)))) := by rw [show (jm_w ((jm_w (4 * l1)) + (M43 45 0 l1))) = (jm_w ((jm_w (4 * l1)) + (M 45 0 l1))) by omega]
      have b_115 : -2147483648 ≤ v42 ∧ v42 ≤ 2147483647 := hv42
      have b_116 : (-2147483648) ≤ (M43 46 0 (jm_w ((jm_w (4 * l1)) + (M 45 0 l1)))) ∧ (M43 46 0 (jm_w ((jm_w (4 * l1)) + (M 45 0 l1)))) ≤ 2147483647 := iM43 46 0 (jm_w ((jm_w (4 * l1)) + (M 45 0 l1)))
      have q_117 : (M43 42 0 l1) = (M35 42 0 l1) := jM43 42 0 l1 (by unfold TH2; omega)
      have q_118 : (M35 42 0 l1) = (M22 42 0 l1) := by rw [u_35]; exact jm_une_f (by decide)
      have q_119 : (M22 42 0 l1) = (M14 42 0 l1) := by rw [u_20]; exact jm_une_f (by decide)
      have q_120 : (M14 42 0 l1) = (M12 42 0 l1) := jM14 42 0 l1 (by unfold TH2; omega)
      have q_121 : (M12 42 0 l1) = (jm_w ((M 42 0 l1) + 1)) := by rw [u_8]; exact jm_ueq
      have q_122 : (M43 0 0 1) = (M35 0 0 1) := jM43 0 0 1 (by unfold TH2; omega)
      have q_123 : (M35 0 0 1) = (M22 0 0 1) := by rw [u_35]; exact jm_une_f (by decide)
      have q_124 : (M22 0 0 1) = (M14 0 0 1) := by rw [u_20]; exact jm_une_f (by decide)
      have q_125 : (M14 0 0 1) = (M12 0 0 1) := jM14 0 0 1 (by unfold TH2; omega)
      have q_126 : (M12 0 0 1) = (M 0 0 1) := by rw [u_8]; exact jm_une_f (by decide)
      have q_127 : (M43 0 0 2) = (M35 0 0 2) := jM43 0 0 2 (by unfold TH2; omega)
      have q_128 : (M35 0 0 2) = (M22 0 0 2) := by rw [u_35]; exact jm_une_f (by decide)
      have q_129 : (M22 0 0 2) = (M14 0 0 2) := by rw [u_20]; exact jm_une_f (by decide)
      have q_130 : (M14 0 0 2) = (M12 0 0 2) := jM14 0 0 2 (by unfold TH2; omega)
      have q_131 : (M12 0 0 2) = (M 0 0 2) := by rw [u_8]; exact jm_une_f (by decide)
      have r_132 : ((M43 0 0 1) * (M43 0 0 2)) = ((M 0 0 1) * (M 0 0 2)) := by rw [show (M43 0 0 1) = (M 0 0 1) by omega, show (M43 0 0 2) = (M 0 0 2) by omega]
      have b_133 : 1 ≤ (M 0 0 2) ∧ (M 0 0 2) ≤ 12 := iM 0 0 2
      have p_134 : 0 ≤ ((M 0 0 1) * (M 0 0 2)) ∧ ((M 0 0 1) * (M 0 0 2)) ≤ 60 := jm_mulb (A := 5) (B := 12) (by omega) (by omega) (by omega) (by omega) (by decide)
      have p_135 : 2 ≤ ((M 0 0 1) * (M 0 0 2)) := jm_mull (A := 2) (B := 1) (by omega) (by omega) (by omega) (by omega) (by decide)
      have q_136 : (M43 0 0 70) = (M35 0 0 70) := jM43 0 0 70 (by unfold TH2; omega)
      have q_137 : (M35 0 0 70) = (M22 0 0 70) := by rw [u_35]; exact jm_une_f (by decide)
      have q_138 : (M22 0 0 70) = (M14 0 0 70) := by rw [u_20]; exact jm_une_f (by decide)
      have q_139 : (M14 0 0 70) = (M12 0 0 70) := jM14 0 0 70 (by unfold TH2; omega)
      have q_140 : (M12 0 0 70) = (M 0 0 70) := by rw [u_8]; exact jm_une_f (by decide)
      have b_141 : 0 ≤ (M 0 0 70) ∧ (M 0 0 70) ≤ 361 := iM 0 0 70
      have q_143 : (M43 39 0 l1) = (M35 39 0 l1) := jM43 39 0 l1 (by unfold TH2; omega)
      have q_144 : (M35 39 0 l1) = (M22 39 0 l1) := by rw [u_35]; exact jm_une_f (by decide)
      have q_145 : (M22 39 0 l1) = (M14 39 0 l1) := by rw [u_20]; exact jm_une_f (by decide)
      have q_146 : (M14 39 0 l1) = (M12 39 0 l1) := jM14 39 0 l1 (by unfold TH2; omega)
      have q_147 : (M12 39 0 l1) = (M 39 0 l1) := by rw [u_8]; exact jm_une_f (by decide)
      have b_148 : (-2147483648) ≤ (M 39 0 l1) ∧ (M 39 0 l1) ≤ 2147483647 := iM 39 0 l1
      have eq1 : M43 0 0 1 = M 0 0 1 := by omega
      have eq2 : jm_mod v3 (M43 0 0 1) = jm_mod v3 (M 0 0 1) := by rw [eq1]
      have eq3 : M43 0 0 1 * M43 0 0 2 = M 0 0 1 * M 0 0 2 := by rw [eq1, show M43 0 0 2 = M 0 0 2 by omega]
      exact s_gX12_goes_180 fu hfu M wM    l1 v3 v7 v42 0 (M43 46 0 (jm_w ((jm_w (4 * l1)) + (M43 45 0 l1)))) (jm_w ((jm_w (4 * l1)) + (M43 45 0 l1))) M43 iM43 kM43 ⟨by omega, by omega⟩ ⟨by omega, by omega⟩ ⟨by omega, by omega⟩ hv42 ⟨by omega, by omega⟩ (bx2_in (iM43 46 0 (jm_w ((jm_w (4 * l1)) + (M43 45 0 l1))))) ⟨by omega, by omega⟩ (by omega) (by omega) (by omega) (by omega) (by omega) 
  · skip
    refine wp_T ⟨by omega, by omega⟩ ?_
    refine wp_sk iM22 (jm_inL (by decide) (by decide)) kM22 (by unfold TG2; omega) (fun M54 u_149 iM54 kM54 => ?_)
    refine wp_T ⟨by omega, by omega⟩ ?_
    refine wp_sk iM54 hl2 kM54 (by unfold TG2; omega) (fun M56 u_150 iM56 kM56 => ?_)
    have q_151 : (M56 45 0 l1) = (M54 45 0 l1) := by rw [u_150]; exact jm_une_f (by decide)
    have q_152 : (M54 45 0 l1) = (M22 45 0 l1) := by rw [u_149]; exact jm_une_f (by decide)
    have q_153 : (M22 45 0 l1) = (M14 45 0 l1) := by rw [u_20]; exact jm_une_f (by decide)
    have q_154 : (M56 42 0 l1) = (M54 42 0 l1) := by rw [u_150]; exact jm_une_f (by decide)
    have q_155 : (M54 42 0 l1) = (M22 42 0 l1) := by rw [u_149]; exact jm_une_f (by decide)
    have q_156 : (M22 42 0 l1) = (M14 42 0 l1) := by rw [u_20]; exact jm_une_f (by decide)
    have q_157 : (M14 42 0 l1) = (M12 42 0 l1) := jM14 42 0 l1 (by unfold TH2; omega)
    have q_158 : (M12 42 0 l1) = (jm_w ((M 42 0 l1) + 1)) := by rw [u_8]; exact jm_ueq
    have q_159 : (M56 39 0 l1) = (M54 39 0 l1) := by rw [u_150]; exact jm_une_f (by decide)
    have q_160 : (M54 39 0 l1) = 2 := by rw [u_149]; exact jm_ueq
    have q_161 : (M56 0 0 70) = (M54 0 0 70) := by rw [u_150]; exact jm_une_f (by decide)
    have q_162 : (M54 0 0 70) = (M22 0 0 70) := by rw [u_149]; exact jm_une_f (by decide)
    have q_163 : (M22 0 0 70) = (M14 0 0 70) := by rw [u_20]; exact jm_une_f (by decide)
    have q_164 : (M14 0 0 70) = (M12 0 0 70) := jM14 0 0 70 (by unfold TH2; omega)
    have q_165 : (M12 0 0 70) = (M 0 0 70) := by rw [u_8]; exact jm_une_f (by decide)
    have b_166 : 0 ≤ (M 0 0 70) ∧ (M 0 0 70) ≤ 361 := iM 0 0 70
    exact wp_ret ⟨iM56, kM56, by omega, by omega, by omega⟩
/-! the run -/
def sb (M : jm_M) : Int := M 42 0 0 + M 42 0 1 + M 42 0 2 + M 42 0 3 + M 42 0 4 + M 42 0 5
def RV (M : jm_M) : Prop := M 0 0 70 ≤ sb M ∧ ∀ c : Int, 0 ≤ c → c < M 0 0 17 → M 39 0 c = 0 → 0 ≤ M 45 0 c ∧ M 42 0 c < M 0 0 1 * M 0 0 2
theorem s_runs_9 (fu : Nat) (hfu : 4000 ≤ fu) (Mb : jm_M) (w0 : WF Mb) : ∀ (n : Nat) (M : jm_M) (l1 : Int), bI bx2 M → Kp TA2 Mb M → RV M → (l1 = -1 ∨ (0 ≤ l1 ∧ l1 ≤ 5 ∧ l1 < M 0 0 17 ∧ M 39 0 l1 = 0)) → 360 - sb M < (n : Int) → wp (fX12_runs_9 fu n M l1) (fun r M1 => bI bx2 M1 ∧ Kp TA2 Mb M1 ∧ (0 ≤ r ∧ r ≤ 0)) := by
  intro n
  induction n with
  | zero =>
    intro M l1 iM _ _ _ hm
    have b0 : 0 ≤ M 42 0 0 ∧ M 42 0 0 ≤ 60 := iM 42 0 0
    have b1 : 0 ≤ M 42 0 1 ∧ M 42 0 1 ≤ 60 := iM 42 0 1
    have b2 : 0 ≤ M 42 0 2 ∧ M 42 0 2 ≤ 60 := iM 42 0 2
    have b3 : 0 ≤ M 42 0 3 ∧ M 42 0 3 ≤ 60 := iM 42 0 3
    have b4 : 0 ≤ M 42 0 4 ∧ M 42 0 4 ≤ 60 := iM 42 0 4
    have b5 : 0 ≤ M 42 0 5 ∧ M 42 0 5 ≤ 60 := iM 42 0 5
    unfold sb at hm
    exfalso; omega
  | succ n ih =>
    intro M l1 iM kM hv hl hm
    show wp (gX12_runs_9 fu (fX12_runs_9 fu n) M l1) _
    unfold gX12_runs_9
    refine wp_ite (fun c => wp_ret ⟨iM, kM, by omega, by omega⟩) (fun c => ?_)
    refine wp_T ⟨by omega, by omega⟩ ?_
    obtain ⟨h0, h5, h17, h39⟩ : 0 ≤ l1 ∧ l1 ≤ 5 ∧ l1 < M 0 0 17 ∧ M 39 0 l1 = 0 := by
      rcases hl with q | q
      · exfalso; omega
      · exact q
    obtain ⟨g45, g42⟩ := hv.2 l1 h0 h17 h39
    have bs : 2 ≤ M 0 0 1 ∧ M 0 0 1 ≤ 5 := iM 0 0 1
    have bl : 1 ≤ M 0 0 2 ∧ M 0 0 2 ≤ 12 := iM 0 0 2
    have bp : 0 ≤ M 0 0 1 * M 0 0 2 ∧ M 0 0 1 * M 0 0 2 ≤ 60 := jm_mulb (A := 5) (B := 12) (by omega) (by omega) (by omega) (by omega) (by decide)
    have b0 : 0 ≤ M 42 0 0 ∧ M 42 0 0 ≤ 60 := iM 42 0 0
    have b1 : 0 ≤ M 42 0 1 ∧ M 42 0 1 ≤ 60 := iM 42 0 1
    have b2 : 0 ≤ M 42 0 2 ∧ M 42 0 2 ≤ 60 := iM 42 0 2
    have b3 : 0 ≤ M 42 0 3 ∧ M 42 0 3 ≤ 60 := iM 42 0 3
    have b4 : 0 ≤ M 42 0 4 ∧ M 42 0 4 ≤ 60 := iM 42 0 4
    have b5 : 0 ≤ M 42 0 5 ∧ M 42 0 5 ≤ 60 := iM 42 0 5
    have ht : M 0 0 70 ≤ 360 := by
      have := hv.1
      unfold sb at this
      omega
    refine wp_bk (s_fX12_goes fu hfu M iM l1 (M 41 0 l1) ⟨h0, h5⟩ (bx2_in (iM 41 0 l1)) (w0.kp kM wf_TA2) g45 g42 ht h39) (fun v4 M5 i5 j5 h4 => ?_)
    have k5 := kM.tr j5 tt_TA2_TG2
    obtain ⟨-, -, x45, x42, x70, x39⟩ : 0 ≤ v4 ∧ v4 ≤ 0 ∧ 0 ≤ M5 45 0 l1 ∧ M5 42 0 l1 = M 42 0 l1 + 1 ∧ M5 0 0 70 ≤ M 0 0 70 + 1 ∧ (M5 39 0 l1 = 0 → M5 42 0 l1 < M 0 0 1 * M 0 0 2) := by
      obtain ⟨q1, q2, q3, q4, q5, q6⟩ := h4
      exact ⟨q1, q2, q3, q4, q5, q6⟩
    have hsb : sb M5 = sb M + 1 := by
      have hk : ∀ c : Int, c ≠ l1 → M5 42 0 c = M 42 0 c := fun c q => j5 42 0 c (by unfold TG2; omega)
      unfold sb
      have hl6 : l1 = 0 ∨ l1 = 1 ∨ l1 = 2 ∨ l1 = 3 ∨ l1 = 4 ∨ l1 = 5 := by omega
      rcases hl6 with rfl | rfl | rfl | rfl | rfl | rfl
      · have := hk 1 (by decide); have := hk 2 (by decide); have := hk 3 (by decide); have := hk 4 (by decide); have := hk 5 (by decide); omega
      · have := hk 0 (by decide); have := hk 2 (by decide); have := hk 3 (by decide); have := hk 4 (by decide); have := hk 5 (by decide); omega
      · have := hk 0 (by decide); have := hk 1 (by decide); have := hk 3 (by decide); have := hk 4 (by decide); have := hk 5 (by decide); omega
      · have := hk 0 (by decide); have := hk 1 (by decide); have := hk 2 (by decide); have := hk 4 (by decide); have := hk 5 (by decide); omega
      · have := hk 0 (by decide); have := hk 1 (by decide); have := hk 2 (by decide); have := hk 3 (by decide); have := hk 5 (by decide); omega
      · have := hk 0 (by decide); have := hk 1 (by decide); have := hk 2 (by decide); have := hk 3 (by decide); have := hk 4 (by decide); omega
    have e1 : M5 0 0 1 = M 0 0 1 := j5 0 0 1 (by unfold TG2; omega)
    have e2 : M5 0 0 2 = M 0 0 2 := j5 0 0 2 (by unfold TG2; omega)
    have e17 : M5 0 0 17 = M 0 0 17 := j5 0 0 17 (by unfold TG2; omega)
    have hv5 : RV M5 := by
      refine ⟨by have := hv.1; omega, fun c q1 q2 q3 => ?_⟩
      rw [e1, e2]
      by_cases q : c = l1
      · subst q
        exact ⟨x45, x39 q3⟩
      · have z1 : M5 39 0 c = M 39 0 c := j5 39 0 c (by unfold TG2; omega)
        have z2 : M5 45 0 c = M 45 0 c := j5 45 0 c (by unfold TG2; omega)
        have z3 : M5 42 0 c = M 42 0 c := j5 42 0 c (by unfold TG2; omega)
        rw [z1] at q3
        rw [z2, z3]
        exact hv.2 c q1 (by omega) q3
    refine wp_bp (s_fX12_next fu hfu M5 i5) (fun v6 h6 => ?_)
    exact ih M5 v6 i5 k5 hv5 h6 (by omega)
theorem s_fX12_runs (fu : Nat) (hfu : 4000 ≤ fu) (M : jm_M) (iM : bI bx2 M) (wM : WF M) : wp (fX12_runs fu M) (fun r M1 => bI bx2 M1 ∧ Kp TA2 M M1 ∧ (0 ≤ r ∧ r ≤ 0)) := by
  unfold fX12_runs
  refine wp_b (s_fX12_starts fu hfu M iM) (fun v1 M2 q => ?_)
  obtain ⟨i2, k2, h70, hv⟩ := q
  refine wp_bp (s_fX12_next fu hfu M2 i2) (fun v3 h3 => ?_)
  have bs : 2 ≤ M2 0 0 1 ∧ M2 0 0 1 ≤ 5 := i2 0 0 1
  have bl : 1 ≤ M2 0 0 2 ∧ M2 0 0 2 ≤ 12 := i2 0 0 2
  have bp : 2 ≤ M2 0 0 1 * M2 0 0 2 := jm_mull (A := 2) (B := 1) (by omega) (by omega) (by omega) (by omega) (by decide)
  have b0 : 0 ≤ M2 42 0 0 ∧ M2 42 0 0 ≤ 60 := i2 42 0 0
  have b1 : 0 ≤ M2 42 0 1 ∧ M2 42 0 1 ≤ 60 := i2 42 0 1
  have b2 : 0 ≤ M2 42 0 2 ∧ M2 42 0 2 ≤ 60 := i2 42 0 2
  have b3 : 0 ≤ M2 42 0 3 ∧ M2 42 0 3 ≤ 60 := i2 42 0 3
  have b4 : 0 ≤ M2 42 0 4 ∧ M2 42 0 4 ≤ 60 := i2 42 0 4
  have b5 : 0 ≤ M2 42 0 5 ∧ M2 42 0 5 ≤ 60 := i2 42 0 5
  have hr : RV M2 := by
    refine ⟨by unfold sb; omega, fun c q1 q2 q3 => ?_⟩
    obtain ⟨z1, z2⟩ := hv c q1 q2 q3
    exact ⟨by omega, by omega⟩
  exact s_runs_9 fu hfu M wM fu M2 v3 i2 k2 hr h3 (by unfold sb; omega)
set_option maxHeartbeats 4000000 in
set_option maxRecDepth 100000 in
theorem s_gX12_knownOf_160 (fu : Nat) (hfu : 4000 ≤ fu) (M : jm_M) (iM : bI bx2 M) : ∀ (l1 l2 l6 : Int) (hl1 : 0 ≤ l1 ∧ l1 ≤ 5) (hl2 : 0 ≤ l2 ∧ l2 ≤ 59) (hl6 : (-1) ≤ l6 ∧ l6 ≤ 59), wp (gX12_knownOf_160 fu  M l1 l2 l6) (fun r M1 => M1 = M ∧ (jm_in r)) := by
  intro l1 l2 l6 hl1 hl2 hl6
  unfold gX12_knownOf_160
  refine wp_ite (fun c_1 => ?_) (fun c_1 => ?_)
  · skip
    have w_2 : (jm_w (60 * l1)) = (60 * l1) := jm_wid (by omega) (by omega)
    have w_3 : (jm_w ((jm_w (60 * l1)) + l6)) = ((jm_w (60 * l1)) + l6) := jm_wid (by omega) (by omega)
    refine wp_T ⟨by omega, by omega⟩ ?_
    have b_4 : (-2147483648) ≤ (M 55 0 (jm_w ((jm_w (60 * l1)) + l6))) ∧ (M 55 0 (jm_w ((jm_w (60 * l1)) + l6))) ≤ 2147483647 := iM 55 0 (jm_w ((jm_w (60 * l1)) + l6))
    have w_5 : (jm_w (l2 - l6)) = (l2 - l6) := jm_wid (by omega) (by omega)
    have w_6 : (jm_w (1000 * (jm_w (l2 - l6)))) = (1000 * (jm_w (l2 - l6))) := jm_wid (by omega) (by omega)
    have w_7 : -2147483648 ≤ (jm_w ((M 55 0 (jm_w ((jm_w (60 * l1)) + l6))) + (jm_w (1000 * (jm_w (l2 - l6)))))) ∧ (jm_w ((M 55 0 (jm_w ((jm_w (60 * l1)) + l6))) + (jm_w (1000 * (jm_w (l2 - l6)))))) ≤ 2147483647 := jm_w_in _
    exact wp_ret ⟨rfl, (jm_w_in _)⟩
  · skip
    refine wp_T ⟨by omega, by omega⟩ ?_
    have b_8 : (-2147483648) ≤ (M 5 0 6) ∧ (M 5 0 6) ≤ 2147483647 := iM 5 0 6
    have w_9 : -2147483648 ≤ (jm_w ((M 5 0 6) * l1)) ∧ (jm_w ((M 5 0 6) * l1)) ≤ 2147483647 := jm_w_in _
    have w_10 : (jm_w (l2 - l6)) = (l2 - l6) := jm_wid (by omega) (by omega)
    have w_11 : (jm_w (1000 * (jm_w (l2 - l6)))) = (1000 * (jm_w (l2 - l6))) := jm_wid (by omega) (by omega)
    have w_12 : -2147483648 ≤ (jm_w ((jm_w ((M 5 0 6) * l1)) + (jm_w (1000 * (jm_w (l2 - l6)))))) ∧ (jm_w ((jm_w ((M 5 0 6) * l1)) + (jm_w (1000 * (jm_w (l2 - l6)))))) ≤ 2147483647 := jm_w_in _
    exact wp_ret ⟨rfl, (jm_w_in _)⟩
set_option maxHeartbeats 4000000 in
set_option maxRecDepth 100000 in
theorem s_gX12_knownOf_134 (fu : Nat) (hfu : 4000 ≤ fu) (M : jm_M) (iM : bI bx2 M) (k134 : jm_M → Int → Int → Int → jm_R) (N134 : Int) (hk134 : ∀ (l1 l2 l6 : Int) (hl1 : 0 ≤ l1 ∧ l1 ≤ 5) (hl2 : 0 ≤ l2 ∧ l2 ≤ 59) (hl6 : (-1) ≤ l6 ∧ l6 ≤ 59), l6 - (-2) < N134 → wp (k134 M l1 l2 l6) (fun r M1 => M1 = M ∧ (jm_in r))) : ∀ (l1 l2 l6 : Int) (hl1 : 0 ≤ l1 ∧ l1 ≤ 5) (hl2 : 0 ≤ l2 ∧ l2 ≤ 59) (hl6 : (-1) ≤ l6 ∧ l6 ≤ 59), l6 - (-2) < N134 + 1 → wp (gX12_knownOf_134 fu k134 M l1 l2 l6) (fun r M1 => M1 = M ∧ (jm_in r)) := by
  intro l1 l2 l6 hl1 hl2 hl6 m134
  unfold gX12_knownOf_134
  refine wp_ite (fun c_1 => ?_) (fun c_1 => ?_)
  · skip
    exact s_gX12_knownOf_160 fu hfu M iM    l1 l2 l6  ⟨by omega, by omega⟩ ⟨by omega, by omega⟩ ⟨by omega, by omega⟩  
  · skip
    have b_2 : 2 ≤ (M 0 0 1) ∧ (M 0 0 1) ≤ 5 := iM 0 0 1
    refine wp_T (by omega) ?_
    have f_3 : 0 ≤ (jm_mod l6 (M 0 0 1)) ∧ (jm_mod l6 (M 0 0 1)) < (M 0 0 1) := jm_mod_f (by omega) (by omega)
    refine wp_T ⟨by omega, by omega⟩ ?_
    have b_5 : 0 ≤ (M 3 0 (jm_mod l6 (M 0 0 1))) ∧ (M 3 0 (jm_mod l6 (M 0 0 1))) ≤ 1 := iM 3 0 (jm_mod l6 (M 0 0 1))
    refine wp_ite (fun c_4 => ?_) (fun c_4 => ?_)
    · skip
      exact s_gX12_knownOf_160 fu hfu M iM    l1 l2 l6  ⟨by omega, by omega⟩ ⟨by omega, by omega⟩ ⟨by omega, by omega⟩  
    · skip
      have w_6 : (jm_w (l6 + (-1))) = (l6 + (-1)) := jm_wid (by omega) (by omega)
      refine wp_e (by exact (jm_w_in _)) (fun v7 e_7 hv7 => ?_)
      have b_8 : -2147483648 ≤ v7 ∧ v7 ≤ 2147483647 := hv7
      exact hk134 l1 l2 v7  ⟨by omega, by omega⟩ ⟨by omega, by omega⟩ ⟨by omega, by omega⟩  (by omega)
set_option maxHeartbeats 4000000 in
set_option maxRecDepth 100000 in
theorem s_fX12_knownOf_134 (fu : Nat) (hfu : 4000 ≤ fu) (M : jm_M) (iM : bI bx2 M) : ∀ (n : Nat) (l1 l2 l6 : Int) (hl1 : 0 ≤ l1 ∧ l1 ≤ 5) (hl2 : 0 ≤ l2 ∧ l2 ≤ 59) (hl6 : (-1) ≤ l6 ∧ l6 ≤ 59), l6 - (-2) < (n : Int) → wp (fX12_knownOf_134 fu  n M l1 l2 l6) (fun r M1 => M1 = M ∧ (jm_in r)) := by
  intro n
  induction n with
  | zero => intro l1 l2 l6 hl1 hl2 hl6 hm; exfalso; omega
  | succ n ih =>
    intro l1 l2 l6 hl1 hl2 hl6 hm
    exact s_gX12_knownOf_134 fu hfu M iM (fX12_knownOf_134 fu  n) (n : Int) ih l1 l2 l6 hl1 hl2 hl6 (by omega)
set_option maxHeartbeats 4000000 in
set_option maxRecDepth 100000 in
theorem s_gX12_knownOf_73 (fu : Nat) (hfu : 4000 ≤ fu) (M : jm_M) (iM : bI bx2 M) : ∀ (l1 l2 l3 l5 : Int) (hl1 : 0 ≤ l1 ∧ l1 ≤ 5) (hl2 : 0 ≤ l2 ∧ l2 ≤ 59) (hl3 : 0 ≤ l3 ∧ l3 ≤ 1) (hl5 : 0 ≤ l5 ∧ l5 ≤ 60) (y0 : l5 ≤ ((M 0 0 1) * (M 0 0 2))), wp (gX12_knownOf_73 fu  M l1 l2 l3 l5) (fun r M1 => M1 = M ∧ (jm_in r)) := by
  intro l1 l2 l3 l5 hl1 hl2 hl3 hl5 y0
  unfold gX12_knownOf_73
  have b_2 : 2 ≤ (M 0 0 1) ∧ (M 0 0 1) ≤ 5 := iM 0 0 1
  have b_3 : 1 ≤ (M 0 0 2) ∧ (M 0 0 2) ≤ 12 := iM 0 0 2
  have p_4 : 0 ≤ ((M 0 0 1) * (M 0 0 2)) ∧ ((M 0 0 1) * (M 0 0 2)) ≤ 60 := jm_mulb (A := 5) (B := 12) (by omega) (by omega) (by omega) (by omega) (by decide)
  have p_5 : 2 ≤ ((M 0 0 1) * (M 0 0 2)) := jm_mull (A := 2) (B := 1) (by omega) (by omega) (by omega) (by omega) (by decide)
  have w_6 : (jm_w ((M 0 0 1) * (M 0 0 2))) = ((M 0 0 1) * (M 0 0 2)) := jm_wid (by omega) (by omega)
  refine wp_ite (fun c_1 => ?_) (fun c_1 => ?_)
  · skip
    exact wp_ret ⟨rfl, (jm_inL (by decide) (by decide))⟩
  · skip
    have w_7 : (jm_w (60 * l1)) = (60 * l1) := jm_wid (by omega) (by omega)
    have w_8 : (jm_w ((jm_w (60 * l1)) + l5)) = ((jm_w (60 * l1)) + l5) := jm_wid (by omega) (by omega)
    refine wp_T ⟨by omega, by omega⟩ ?_
    have b_10 : (-2147483648) ≤ (M 55 0 (jm_w ((jm_w (60 * l1)) + l5))) ∧ (M 55 0 (jm_w ((jm_w (60 * l1)) + l5))) ≤ 2147483647 := iM 55 0 (jm_w ((jm_w (60 * l1)) + l5))
    refine wp_ite (fun c_9 => ?_) (fun c_9 => ?_)
    · skip
      refine wp_ite (fun c_11 => ?_) (fun c_11 => ?_)
      · skip
        refine wp_T ⟨by omega, by omega⟩ ?_
        have w_12 : (jm_w (l5 - l2)) = (l5 - l2) := jm_wid (by omega) (by omega)
        have w_13 : (jm_w (1000 * (jm_w (l5 - l2)))) = (1000 * (jm_w (l5 - l2))) := jm_wid (by omega) (by omega)
        have w_14 : -2147483648 ≤ (jm_w ((M 55 0 (jm_w ((jm_w (60 * l1)) + l5))) - (jm_w (1000 * (jm_w (l5 - l2)))))) ∧ (jm_w ((M 55 0 (jm_w ((jm_w (60 * l1)) + l5))) - (jm_w (1000 * (jm_w (l5 - l2)))))) ≤ 2147483647 := jm_w_in _
        exact wp_ret ⟨rfl, (jm_w_in _)⟩
      · skip
        exact s_fX12_knownOf_134 fu hfu M iM    fu l1 l2 l2  ⟨by omega, by omega⟩ ⟨by omega, by omega⟩ ⟨by omega, by omega⟩   (by omega)
    · skip
      exact wp_ret ⟨rfl, (jm_inL (by decide) (by decide))⟩
