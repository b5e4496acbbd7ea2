theorem s_gives_5 (fu : Nat) (hfu : 4000 ≤ fu) (M0 : jm_M) (e l2 : Int) (he : e ≤ l2 ∧ l2 ≤ 1700) (hz : e = l2 ∨ M0 35 0 e = -300) : ∀ (n : Nat) (M : jm_M) (h : Nat) (l3 l4 : Int), l3 = (h : Int) → bI bx2 M → Kp TH2 M0 M → 0 ≤ l4 → l4 ≤ e → (h : Int) + (e - l4) ≤ 100 → hg (M0 35 0) (e - l4).toNat l4 h = some 1 → e - l4 < (n : Int) → wp (fX12_gives_5 fu n M l2 l3 l4) (fun r M1 => bI bx2 M1 ∧ Kp TH2 M0 M1 ∧ (jm_in r ∧ M1 0 0 47 = e)) := by
  intro n
  induction n with
  | zero => intro M h l3 l4 _ _ _ h0 h1 _ _ hm; exfalso; omega
  | succ n ih =>
    intro M h l3 l4 hl iM kM h0 h1 hr hh hm
    show wp (gX12_gives_5 fu (fX12_gives_5 fu n) M l2 l3 l4) _
    unfold gX12_gives_5
    have hc : M 35 0 l4 = M0 35 0 l4 := kM 35 0 l4 (by unfold TH2; omega)
    by_cases hq : l4 = e
    · have z2 : wp (jm_s (jm_u M 0 0 47 l4) fun M2 => if (0 : Int) ≤ 0 ∧ (0 : Int) < 100 then (some ((M2 37 0 0), M2)) else none) (fun r M1 => bI bx2 M1 ∧ Kp TH2 M0 M1 ∧ (jm_in r ∧ M1 0 0 47 = e)) := by
        refine wp_sk iM (jm_inL (by omega) (by omega)) kM (by unfold TH2; omega) (fun M2 u iM2 kM2 => ?_)
        refine wp_T ⟨by omega, by omega⟩ ?_
        exact wp_ret ⟨iM2, kM2, iM2 37 0 0, by rw [u, ← hq]; exact jm_ueq⟩
      refine wp_ite (fun c => z2) (fun c => ?_)
      refine wp_T ⟨by omega, by omega⟩ ?_
      refine wp_T ?_ z2
      rw [hc, hq]
      rcases hz with q | q
      · exfalso; omega
      · exact q
    · have hx : (e - l4).toNat = (e - (l4 + 1)).toNat + 1 := by omega
      rw [hx] at hh
      have hh : (match tk (M0 35 0 l4) h with | none => none | some m => hg (M0 35 0) (e - (l4 + 1)).toNat (l4 + 1) m) = some 1 := hh
      cases ht : tk (M0 35 0 l4) h with
      | none => rw [ht] at hh; cases hh
      | some m =>
        rw [ht] at hh
        have hh : hg (M0 35 0) (e - (l4 + 1)).toNat (l4 + 1) m = some 1 := hh
        have bc : jm_in (M 35 0 l4) := iM 35 0 l4
        have w4 : jm_w (l4 + 1) = l4 + 1 := jm_wid (by omega) (by omega)
        have k5 : ∀ (M' : jm_M) (m' : Int), m' = (m : Int) → (m : Int) ≤ h + 1 → bI bx2 M' → Kp TH2 M0 M' → wp (fX12_gives_5 fu n M' l2 m' (jm_w (l4 + 1))) (fun r M1 => bI bx2 M1 ∧ Kp TH2 M0 M1 ∧ (jm_in r ∧ M1 0 0 47 = e)) := by
          intro M' m' e1 e2 i' k'
          rw [w4]
          exact ih M' m m' (l4 + 1) e1 i' k' (by omega) (by omega) (by omega) hh (by omega)
        rw [← hc] at ht
        unfold tk at ht
        have ne : M 35 0 l4 ≠ -300 := by intro q; rw [if_pos q] at ht; cases ht
        rw [if_neg ne] at ht
        refine wp_F (by omega) ?_
        refine wp_T ⟨by omega, by omega⟩ ?_
        refine wp_F ne ?_
        refine wp_T ⟨by omega, by omega⟩ ?_
        refine wp_e bc (fun v13 e13 h13 => ?_)
        rw [← e13] at ht
        have wm : jm_w (l3 - 1) = l3 - 1 := jm_wid (by omega) (by omega)
        refine wp_ite (fun c1 => ?_) (fun c1 => ?_)
        · refine wp_ite (fun c2 => ?_) (fun c2 => ?_)
          · rw [if_neg (show ¬ (-13 ≤ v13) by omega)] at ht
            refine wp_b (P := fun r M1 => M1 = M ∧ r = -167) ⟨_, _, rfl, rfl, by decide⟩ (fun v17 M18 q17 => ?_)
            obtain ⟨q18, q17⟩ := q17
            subst q18
            refine wp_ite (fun c3 => ?_) (fun c3 => ?_)
            · rw [if_pos (show v13 = -167 ∨ v13 = -74 by omega)] at ht
              have h1' : 1 ≤ h := by
                by_cases q : 1 ≤ h
                · exact q
                · rw [if_neg q] at ht; cases ht
              rw [if_pos h1'] at ht
              have hm' : h = m := by injection ht
              refine wp_T ⟨by omega, by omega⟩ ?_
              refine wp_ite (fun c4 => ?_) (fun c4 => ?_)
              · refine wp_bp (s_fX12_truth M18 iM 1 (jm_inL (by decide) (by decide))) (fun v24 h24 => ?_)
                refine wp_T ⟨by omega, by omega⟩ ?_
                refine wp_sk iM (jm_inL (by omega) (by omega)) kM (by unfold TH2; omega) (fun M28 u28 i28 k28 => ?_)
                refine wp_e (jm_w_in _) (fun v29 e29 _ => ?_)
                rw [e29]
                exact k5 M28 l3 (by omega) (by omega) i28 k28
              · refine wp_bp (s_fX12_truth M18 iM 0 (jm_inL (by decide) (by decide))) (fun v24 h24 => ?_)
                refine wp_T ⟨by omega, by omega⟩ ?_
                refine wp_sk iM (jm_inL (by omega) (by omega)) kM (by unfold TH2; omega) (fun M28 u28 i28 k28 => ?_)
                refine wp_e (jm_w_in _) (fun v29 e29 _ => ?_)
                rw [e29]
                exact k5 M28 l3 (by omega) (by omega) i28 k28
            · refine wp_b (P := fun r M1 => M1 = M18 ∧ r = -74) ⟨_, _, rfl, rfl, by decide⟩ (fun v38 M39 q39 => ?_)
              obtain ⟨q40, q38⟩ := q39
              subst q40
              refine wp_ite (fun c4 => ?_) (fun c4 => ?_)
              · rw [if_pos (show v13 = -167 ∨ v13 = -74 by omega)] at ht
                have h1' : 1 ≤ h := by
                  by_cases q : 1 ≤ h
                  · exact q
                  · rw [if_neg q] at ht; cases ht
                rw [if_pos h1'] at ht
                have hm' : h = m := by injection ht
                refine wp_T ⟨by omega, by omega⟩ ?_
                refine wp_T ⟨by omega, by omega⟩ ?_
                refine wp_sk iM (jm_w_in _) kM (by unfold TH2; omega) (fun M28 u28 i28 k28 => ?_)
                refine wp_e (jm_w_in _) (fun v29 e29 _ => ?_)
                rw [e29]
                exact k5 M28 l3 (by omega) (by omega) i28 k28
              · rw [if_neg (show ¬ (v13 = -167 ∨ v13 = -74) by omega)] at ht
                have h1' : 2 ≤ h := by
                  by_cases q : 2 ≤ h
                  · exact q
                  · rw [if_neg q] at ht; cases ht
                rw [if_pos h1'] at ht
                have hm' : h - 1 = m := by injection ht
                have wn : jm_w (l3 + (-1)) = l3 + (-1) := jm_wid (by omega) (by omega)
                refine wp_e (jm_w_in _) (fun v48 e48 _ => ?_)
                have wo : jm_w (v48 - 1) = v48 - 1 := jm_wid (by omega) (by omega)
                refine wp_T ⟨by omega, by omega⟩ ?_
                refine wp_T ⟨by omega, by omega⟩ ?_
                refine wp_bp (s_fX12_acted M39 iM _ _ _ (jm_w_in _) (iM 37 0 _) (iM 37 0 _)) (fun v54 h54 => ?_)
                refine wp_T ⟨by omega, by omega⟩ ?_
                refine wp_sk iM h54 kM (by unfold TH2; omega) (fun M28 u28 i28 k28 => ?_)
                refine wp_e (jm_w_in _) (fun v29 e29 _ => ?_)
                rw [e29]
                exact k5 M28 v48 (by omega) (by omega) i28 k28
          · rw [if_pos (show -13 ≤ v13 by omega)] at ht
            have hm' : h + 1 = m := by injection ht
            have wa : jm_w ((-1) - v13) = (-1) - v13 := jm_wid (by omega) (by omega)
            have wb : jm_w (l3 + 1) = l3 + 1 := jm_wid (by omega) (by omega)
            refine wp_T ⟨by omega, by omega⟩ ?_
            refine wp_T ⟨by omega, by omega⟩ ?_
            refine wp_sk iM (iM 38 0 _) kM (by unfold TH2; omega) (fun M28 u28 i28 k28 => ?_)
            refine wp_e (jm_w_in _) (fun v65 e65 _ => ?_)
            refine wp_e (jm_w_in _) (fun v29 e29 _ => ?_)
            rw [e29]
            exact k5 M28 v65 (by omega) (by omega) i28 k28
        · rw [if_pos (show -13 ≤ v13 by omega)] at ht
          have hm' : h + 1 = m := by injection ht
          have wb : jm_w (l3 + 1) = l3 + 1 := jm_wid (by omega) (by omega)
          refine wp_T ⟨by omega, by omega⟩ ?_
          refine wp_sk iM h13 kM (by unfold TH2; omega) (fun M28 u28 i28 k28 => ?_)
          refine wp_e (jm_w_in _) (fun v65 e65 _ => ?_)
          refine wp_e (jm_w_in _) (fun v29 e29 _ => ?_)
          rw [e29]
          exact k5 M28 v65 (by omega) (by omega) i28 k28
theorem t_fX12_gives (fu : Nat) (hfu : 4000 ≤ fu) (M : jm_M) (iM : bI bx2 M) (l1 l2 e : Int) (h0 : 0 ≤ l1 ∧ l1 ≤ e) (he : e - l1 ≤ 100 ∧ e ≤ l2 ∧ l2 ≤ 1700) (hh : hg (M 35 0) (e - l1).toNat l1 0 = some 1) (hz : e = l2 ∨ M 35 0 e = -300) : wp (fX12_gives fu M l1 l2) (fun r M1 => bI bx2 M1 ∧ Kp TH2 M M1 ∧ (jm_in r ∧ M1 0 0 47 = e)) := by
  unfold fX12_gives
  exact s_gives_5 fu hfu M e l2 ⟨by omega, by omega⟩ hz fu M 0 0 l1 rfl iM Kp.rf (by omega) (by omega) (by omega) hh (by omega)
/-! the lines of a plan -/
theorem WFt_le {c : Int → Int} : ∀ (n : Nat) (a b : Int), WFt c n a b → a ≤ b := by
  intro n
  induction n with
  | zero => intro a b h; have h : a = b := h; omega
  | succ n ih =>
    intro a b h
    obtain ⟨y, h1, h2⟩ := h
    have := ih y b h2
    obtain ⟨e, x, q1, -, -, q2, -, -, q3⟩ := h1
    omega
theorem s_asks_64 (fu : Nat) (M0 : jm_M) (Q : Int → jm_M → Prop) (hQ : ∀ (r : Int) (M : jm_M), jm_in r → bI bx2 M → Kp TH2 M0 M → Q r M) (l1 l2 l5 l6 x : Int) (hl1 : 0 ≤ l1 ∧ l1 ≤ 5) (hl2 : 0 ≤ l2 ∧ l2 ≤ 11) (hl6 : jm_in l6) (hx : 0 ≤ x ∧ x < 1700) (hcx : M0 35 0 x = -302) (k27 : jm_M → Int → Int → Int → Int → Int → jm_R)
    (hk : ∀ (M : jm_M) (v : Int), bI bx2 M → Kp TH2 M0 M → jm_in v → wp (k27 M l1 l2 (x + 1) l5 v) Q) : ∀ (n : Nat) (M : jm_M) (l4 l7 l8 : Int), bI bx2 M → Kp TH2 M0 M → 0 ≤ l4 → l4 ≤ x → (∀ j : Int, l4 ≤ j → j < x → M0 35 0 j ≠ -302) → jm_in l8 → x - l4 < (n : Int) → wp (fX12_asks_64 fu k27 n M l1 l2 l4 l5 l6 l7 l8) Q := by
  intro n
  induction n with
  | zero => intro M l4 l7 l8 _ _ _ _ _ _ hm; exfalso; omega
  | succ n ih =>
    intro M l4 l7 l8 iM kM h0 h1 hj h8 hm
    show wp (gX12_asks_64 fu k27 (fX12_asks_64 fu k27 n) M l1 l2 l4 l5 l6 l7 l8) _
    unfold gX12_asks_64
    have hc : M 35 0 l4 = M0 35 0 l4 := kM 35 0 l4 (by unfold TH2; omega)
    have w4 : jm_w (l4 + 1) = l4 + 1 := jm_wid (by omega) (by omega)
    refine wp_T ⟨by omega, by omega⟩ ?_
    refine wp_ite (fun c => ?_) (fun c => ?_)
    · have hq : l4 = x := by
        by_cases q : l4 = x
        · exact q
        · exact absurd (hc.symm.trans c) (hj l4 (Int.le_refl _) (by omega))
      refine wp_e (jm_w_in _) (fun v4 e4 _ => ?_)
      refine wp_ite (fun c2 => ?_) (fun c2 => ?_)
      · refine wp_e (jm_w_in _) (fun v7 e7 b7 => ?_)
        rw [e4, w4, hq]
        exact hk M v7 iM kM b7
      · have wa : jm_w (12 * l1) = 12 * l1 := jm_wid (by omega) (by omega)
        have wb : jm_w (jm_w (12 * l1) + l2) = jm_w (12 * l1) + l2 := jm_wid (by omega) (by omega)
        refine wp_T ⟨by omega, by omega⟩ ?_
        refine wp_sk iM hl6 kM (by unfold TH2; omega) (fun M10 u10 i10 k10 => ?_)
        exact wp_ret (hQ _ _ h8 i10 k10)
    · have hq : l4 < x := by
        by_cases q : l4 = x
        · rw [q] at hc; exact absurd (by rw [q, hc]; exact hcx) c
        · omega
      have k64 : ∀ (M' : jm_M) (l8' : Int), bI bx2 M' → Kp TH2 M0 M' → jm_in l8' → wp (fX12_asks_64 fu k27 n M' l1 l2 (jm_w (l4 + 1)) l5 l6 l7 l8') Q := by
        intro M' l8' i' k' b'
        rw [w4]
        exact ih M' (l4 + 1) l7 l8' i' k' (by omega) (by omega) (fun j q1 q2 => hj j (by omega) q2) b' (by omega)
      refine wp_ite (fun c2 => ?_) (fun c2 => ?_)
      · refine wp_e (jm_w_in _) (fun v4 e4 _ => ?_)
        rw [e4]
        exact k64 M l8 iM kM h8
      · refine wp_T ⟨by omega, by omega⟩ ?_
        have k156 : ∀ (l8' l9 s0 : Int), jm_in l8' → jm_in s0 → wp (gX12_asks_156 fu k27 (fX12_asks_64 fu k27 n) M l1 l2 l4 l5 l6 l7 l8' l9 s0 l1) Q := by
          intro l8' l9 s0 b8 b0
          unfold gX12_asks_156
          refine wp_T ⟨by omega, by omega⟩ ?_
          refine wp_sk iM b0 kM (by unfold TH2; omega) (fun M2 u2 i2 k2 => ?_)
          refine wp_ite (fun c3 => ?_) (fun c3 => ?_)
          · refine wp_T ⟨by omega, by omega⟩ ?_
            refine wp_sk i2 (jm_inL (by decide) (by decide)) k2 (by unfold TH2; omega) (fun M5 u5 i5 k5 => ?_)
            refine wp_e (jm_w_in _) (fun v6 e6 _ => ?_)
            rw [e6]
            exact k64 M5 l8' i5 k5 b8
          · refine wp_ite (fun c4 => ?_) (fun c4 => ?_)
            · refine wp_T ⟨by omega, by omega⟩ ?_
              refine wp_sk i2 (jm_inL (by decide) (by decide)) k2 (by unfold TH2; omega) (fun M5 u5 i5 k5 => ?_)
              refine wp_e (jm_w_in _) (fun v6 e6 _ => ?_)
              rw [e6]
              exact k64 M5 l8' i5 k5 b8
            · refine wp_T ⟨by omega, by omega⟩ ?_
              refine wp_T ⟨by omega, by omega⟩ ?_
              refine wp_sk i2 (i2 48 0 l1) k2 (by unfold TH2; omega) (fun M5 u5 i5 k5 => ?_)
              refine wp_e (jm_w_in _) (fun v6 e6 _ => ?_)
              rw [e6]
              exact k64 M5 l8' i5 k5 b8
        have k110 : ∀ (l9 s0 : Int), jm_in s0 → wp (gX12_asks_110 fu k27 (fX12_asks_64 fu k27 n) M l1 l2 l4 l5 l6 l7 l9 s0) Q := by
          intro l9 s0 b0
          unfold gX12_asks_110
          refine wp_ite (fun c3 => k156 _ _ _ b0 (jm_inL (by decide) (by decide))) (fun c3 => ?_)
          refine wp_ite (fun c4 => k156 _ _ _ b0 (jm_inL (by decide) (by decide))) (fun c4 => ?_)
          refine wp_ite (fun c5 => k156 _ _ _ b0 (jm_inL (by decide) (by decide))) (fun c5 => ?_)
          refine wp_T ⟨by omega, by omega⟩ ?_
          exact k156 _ _ _ b0 (iM 47 0 l1)
        refine wp_e (iM 35 0 l4) (fun v16 e16 _ => ?_)
        refine wp_ite (fun c3 => ?_) (fun c3 => ?_)
        · exact k110 v16 l8 h8
        · exact k110 v16 _ (jm_w_in _)
theorem s_asks_27 (fu : Nat) (hfu : 4000 ≤ fu) (M0 : jm_M) (l1 l2 b : Int) (hl1 : 0 ≤ l1 ∧ l1 ≤ 5) (hl2 : 0 ≤ l2 ∧ l2 ≤ 11) (hb : b ≤ 1700) : ∀ (n : Nat) (M : jm_M) (a l6 : Int) (k : Nat), bI bx2 M → Kp TH2 M0 M → 0 ≤ a → b - a ≤ 100 → WFt (M0 35 0) k a b → jm_in l6 → b - a < (n : Int) → wp (fX12_asks_27 fu n M l1 l2 a b l6) (fun r M1 => bI bx2 M1 ∧ Kp TH2 M0 M1 ∧ jm_in r) := by
  intro n
  induction n with
  | zero =>
    intro M a l6 k _ _ h0 _ hw _ hm
    have := WFt_le k a b hw
    exfalso; omega
  | succ n ih =>
    intro M a l6 k iM kM h0 hr hw h6 hm
    show wp (gX12_asks_27 fu (fX12_asks_27 fu n) M l1 l2 a b l6) _
    unfold gX12_asks_27
    refine wp_ite (fun c => ?_) (fun c => ?_)
    · exact wp_ret ⟨iM, kM, jm_inL (by decide) (by decide)⟩
    · cases k with
      | zero => exact absurd (show b ≤ a by have h : a = b := hw; omega) c
      | succ k =>
        obtain ⟨y, ⟨e, x, q1, q2, q3, q4, q5, q6, q7⟩, hw2⟩ := hw
        have hle := WFt_le k y b hw2
        have e35 : M 35 0 = M0 35 0 := funext fun j => kM 35 0 j (by unfold TH2; omega)
        refine wp_bk (s_fX12_gives fu hfu M iM a b e ⟨h0, q1⟩ ⟨by omega, by omega, hb⟩ (by rw [e35]; exact q2) (Or.inr (by rw [e35]; exact q3))) (fun v2 M3 i3 j3 h3 => ?_)
        have k3 := kM.tr j3 (fun _ _ _ h => h)
        have k50 : ∀ s0 : Int, wp (gX12_asks_50 fu (fX12_asks_27 fu n) M3 l1 l2 b l6 s0) (fun r M1 => bI bx2 M1 ∧ Kp TH2 M0 M1 ∧ jm_in r) := by
          intro s0
          unfold gX12_asks_50
          refine wp_e (jm_w_in _) (fun v4 e4 _ => ?_)
          rw [e4, h3.2, jm_wid (by omega) (by omega)]
          exact s_asks_64 fu M0 _ (fun r M b i k => ⟨i, k, b⟩) l1 l2 b l6 x hl1 hl2 h6 ⟨by omega, by omega⟩ q6 (fX12_asks_27 fu n) (fun M' v i' k' b' => ih M' (x + 1) v k i' k' (by omega) (by omega) (by rw [← q7]; exact hw2) b' (by omega)) fu M3 (e + 1) s0 (-2) i3 k3 (by omega) (by omega) (fun j z1 z2 => q5 j (by omega) z2) (jm_inL (by decide) (by decide)) (by omega)
        exact wp_ite (fun _ => k50 0) (fun _ => k50 1)
theorem t_fX12_asks (fu : Nat) (hfu : 4000 ≤ fu) (M : jm_M) (iM : bI bx2 M) (l1 l2 l3 : Int) (hl1 : 0 ≤ l1 ∧ l1 ≤ 5) (hl2 : 0 ≤ l2 ∧ l2 ≤ 11) (hl3 : jm_in l3) (wM : WF M) (x0 : 0 ≤ (M 45 0 l1)) (x1 : M 30 0 l1 = 1) : wp (fX12_asks fu M l1 l2 l3) (fun r M1 => bI bx2 M1 ∧ Kp TH2 M M1 ∧ (jm_in r)) := by
  unfold fX12_asks
  refine wp_bk (s_fX12_speaks fu hfu M iM l1 l2 l3 hl1 hl2 hl3 x0) (fun v1 M2 i2 j2 h1 => ?_)
  refine wp_e (jm_w_in _) (fun v3 e3 _ => ?_)
  have w3 : jm_w (100 * l1) = 100 * l1 := jm_wid (by omega) (by omega)
  have e36 : M2 36 0 l1 = M 36 0 l1 := j2 36 0 l1 (by unfold TH2; omega)
  have b36 : 0 ≤ M 36 0 l1 ∧ M 36 0 l1 ≤ 100 := iM 36 0 l1
  refine wp_T ⟨by omega, by omega⟩ ?_
  refine wp_e (jm_w_in _) (fun v7 e7 _ => ?_)
  have w7 : jm_w (v3 + (M2 36 0 l1)) = v3 + M2 36 0 l1 := jm_wid (by omega) (by omega)
  obtain ⟨n, hn⟩ := wM.2 l1 hl1.1 (by omega) x1
  have ev3 : v3 = 100 * l1 := by omega
  have ev7 : v7 = 100 * l1 + M 36 0 l1 := by omega
  rw [ev3, ev7]
  exact s_asks_27 fu hfu M l1 l2 (100 * l1 + M 36 0 l1) hl1 hl2 (by omega) fu M2 (100 * l1) 0 n i2 j2 (by omega) (by omega) hn (jm_inL (by decide) (by decide)) (by omega)
/-! the rules' seconds -/
theorem s_secondsOf_136 (fu : Nat) (hfu : 4000 ≤ fu) (M0 : jm_M) (w0 : WF M0) (l2 : Int) : ∀ (n : Nat) (M : jm_M) (l3 l4 : Int), bI bx2 M → Kp TA2 M0 M → jm_in l3 → 0 ≤ l4 → l4 ≤ 10 → 10 - l4 < (n : Int) → wp (fX12_secondsOf_136 fu n M l2 l3 l4) (fun r M1 => bI bx2 M1 ∧ Kp TA2 M0 M1 ∧ (jm_in r)) := by
  intro n
  induction n with
  | zero => intro M l3 l4 _ _ _ _ _ hm; exfalso; omega
  | succ n ih =>
    intro M l3 l4 iM kM h3 h0 h1 hm
    show wp (gX12_secondsOf_136 fu (fX12_secondsOf_136 fu n) M l2 l3 l4) _
    unfold gX12_secondsOf_136
    have b72 : 0 ≤ M 0 0 72 ∧ M 0 0 72 ≤ 10 := iM 0 0 72
    have e72 : M 0 0 72 = M0 0 0 72 := kM 0 0 72 (by unfold TA2; omega)
    refine wp_ite (fun c => wp_ret ⟨iM, kM, h3⟩) (fun c => ?_)
    have w6 : jm_w (6 + l4) = 6 + l4 := jm_wid (by omega) (by omega)
    have w1 : jm_w (l4 + 1) = l4 + 1 := jm_wid (by omega) (by omega)
    have w3 : jm_w (100 * jm_w (6 + l4)) = 100 * jm_w (6 + l4) := jm_wid (by omega) (by omega)
    refine wp_e (jm_w_in _) (fun v3 e3 _ => ?_)
    refine wp_T ⟨by omega, by omega⟩ ?_
    have K : ∀ (M' : jm_M) (v : Int), bI bx2 M' → Kp TA2 M0 M' → jm_in v → wp (fX12_secondsOf_136 fu n M' l2 v (jm_w (l4 + 1))) (fun r M1 => bI bx2 M1 ∧ Kp TA2 M0 M1 ∧ (jm_in r)) := by
      intro M' v i' k' b'
      rw [w1]
      exact ih M' v (l4 + 1) i' k' b' (by omega) (by omega) (by omega)
    refine wp_ite (fun c2 => ?_) (fun c2 => ?_)
    · refine wp_e (jm_w_in _) (fun v8 e8 _ => ?_)
      rw [e8]
      exact K M l3 iM kM h3
    · refine wp_T ⟨by omega, by omega⟩ ?_
      have b36 : 0 ≤ M 36 0 (6 + l4) ∧ M 36 0 (6 + l4) ≤ 100 := iM 36 0 (6 + l4)
      have ev3 : v3 = 100 * (6 + l4) := by omega
      have wv : jm_w (v3 + (M 36 0 (jm_w (6 + l4)))) = 100 * (6 + l4) + M 36 0 (6 + l4) := by rw [w6, ev3]; exact jm_wid (by omega) (by omega)
      have wM := w0.kp kM wf_TA2
      have hh := wM.1 l4 h0 (by omega)
      rw [wv, ev3]
      refine wp_bk (s_fX12_gives fu hfu M iM (100 * (6 + l4)) (100 * (6 + l4) + M 36 0 (6 + l4)) (100 * (6 + l4) + M 36 0 (6 + l4)) ⟨by omega, by omega⟩ ⟨by omega, by omega, by omega⟩ (by rw [show (100 * (6 + l4) + M 36 0 (6 + l4) - 100 * (6 + l4)) = M 36 0 (6 + l4) by omega]; exact hh) (Or.inl rfl)) (fun v12 M13 i13 j13 h12 => ?_)
      have k13 := kM.tr j13 tt_TA2_TH2
      refine wp_ite (fun c3 => ?_) (fun c3 => ?_)
      · refine wp_e (jm_w_in _) (fun v16 e16 _ => ?_)
        rw [e16]
        exact K M13 l3 i13 k13 h3
      · refine wp_T ⟨by omega, by omega⟩ ?_
        refine wp_ite (fun c4 => ?_) (fun c4 => ?_)
        · refine wp_T ⟨by omega, by omega⟩ ?_
          refine wp_e (jm_w_in _) (fun v23 e23 b23 => ?_)
          refine wp_e (jm_w_in _) (fun v25 e25 _ => ?_)
          rw [e25]
          exact K M13 v23 i13 k13 b23
        · exact wp_ret ⟨i13, k13, jm_inL (by decide) (by decide)⟩
theorem t_fX12_secondsOf (fu : Nat) (hfu : 4000 ≤ fu) (M : jm_M) (iM : bI bx2 M) (l1 l2 : Int) (hl1 : 0 ≤ l1 ∧ l1 ≤ 5) (hl2 : 0 ≤ l2 ∧ l2 ≤ 99) (wM : WF M) : wp (fX12_secondsOf fu M l1 l2) (fun r M1 => bI bx2 M1 ∧ Kp TA2 M M1 ∧ (jm_in r)) := by
  have kM : Kp TA2 M M := Kp.rf
  have k101 : ∀ (M' : jm_M) (s0 : Int), jm_in s0 → bI bx2 M' → Kp TA2 M M' → wp (gX12_secondsOf_101 fu M' l1 l2 s0 6) (fun r M1 => bI bx2 M1 ∧ Kp TA2 M M1 ∧ (jm_in r)) := by
    intro M' s0 b0 i' k'
    unfold gX12_secondsOf_101
    refine wp_bp (s_fX12_truth M' i' s0 b0) (fun v1 h1 => ?_)
    refine wp_T ⟨by omega, by omega⟩ ?_
    refine wp_sk i' (jm_inL (by omega) (by omega)) k' (by unfold TA2; omega) (fun M5 u5 i5 k5 => ?_)
    refine wp_T ⟨by omega, by omega⟩ ?_
    refine wp_T ⟨by omega, by omega⟩ ?_
    refine wp_sk i5 (i5 44 0 l1) k5 (by unfold TA2; omega) (fun M9 u9 i9 k9 => ?_)
    refine wp_T ⟨by omega, by omega⟩ ?_
    refine wp_T ⟨by omega, by omega⟩ ?_
    refine wp_sk i9 (bx2_in (i9 16 0 l1)) k9 (by unfold TA2; omega) (fun M13 u13 i13 k13 => ?_)
    exact s_secondsOf_136 fu hfu M wM l2 fu M13 0 0 i13 k13 (jm_inL (by decide) (by decide)) (by omega) (by omega) (by omega)
  unfold fX12_secondsOf
  refine wp_T ⟨by omega, by omega⟩ ?_
  refine wp_T ⟨by omega, by omega⟩ ?_
  refine wp_sk iM (bx2_in (iM 49 0 l1)) kM (by unfold TA2; omega) (fun M4 u4 i4 k4 => ?_)
  refine wp_T ⟨by omega, by omega⟩ ?_
  refine wp_bp (s_fJ6_bitCount_0f7a4_w2 M4 i4 _ (bx2_in (i4 50 0 l1))) (fun v7 h7 => ?_)
  refine wp_T ⟨by omega, by omega⟩ ?_
  refine wp_sk i4 h7 k4 (by unfold TA2; omega) (fun M11 u11 i11 k11 => ?_)
  refine wp_T ⟨by omega, by omega⟩ ?_
  refine wp_T ⟨by omega, by omega⟩ ?_
  refine wp_sk i11 (bx2_in (i11 51 0 l1)) k11 (by unfold TA2; omega) (fun M15 u15 i15 k15 => ?_)
  refine wp_T ⟨by omega, by omega⟩ ?_
  have b1 : 2 ≤ M15 0 0 1 ∧ M15 0 0 1 ≤ 5 := i15 0 0 1
  refine wp_T (by omega) ?_
  refine wp_T ⟨by omega, by omega⟩ ?_
  refine wp_sk i15 (jm_div_in _ _) k15 (by unfold TA2; omega) (fun M21 u21 i21 k21 => ?_)
  refine wp_bp (s_fX12_weight fu hfu M21 i21 l1 l2 hl1 hl2) (fun v22 h22 => ?_)
  refine wp_T ⟨by omega, by omega⟩ ?_
  refine wp_sk i21 h22 k21 (by unfold TA2; omega) (fun M26 u26 i26 k26 => ?_)
  refine wp_T ⟨by omega, by omega⟩ ?_
  refine wp_T ⟨by omega, by omega⟩ ?_
  refine wp_sk i26 (bx2_in (i26 17 0 l1)) k26 (by unfold TA2; omega) (fun M30 u30 i30 k30 => ?_)
  refine wp_T ⟨by omega, by omega⟩ ?_
  exact wp_ite (fun _ => k101 M30 1 (jm_inL (by decide) (by decide)) i30 k30) (fun _ => k101 M30 0 (jm_inL (by decide) (by decide)) i30 k30)
