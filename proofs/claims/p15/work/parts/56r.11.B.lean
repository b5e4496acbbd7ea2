/-! what is told of rain and flags -/
def TDr (M N : jm_M) : Prop := M 10 30 3 = N 0 0 8 ∧ ∀ j : Int, 0 ≤ j → j < N 0 0 8 → M 19 30 (3 * j) = N 6 0 j ∧ M 19 30 (3 * j + 1) = N 7 0 j ∧ M 19 30 (3 * j + 2) = N 8 0 j ∧ (0 ≤ N 7 0 j ∧ 0 ≤ N 8 0 j ∧ N 8 0 j ≤ 100)
def TDf (M N : jm_M) : Prop := M 10 31 3 = N 0 0 12 ∧ ∀ j : Int, 0 ≤ j → j < N 0 0 12 → M 19 31 (4 * j) = N 9 0 j ∧ M 19 31 (4 * j + 1) = N 10 0 j ∧ M 19 31 (4 * j + 2) = N 11 0 j ∧ M 19 31 (4 * j + 3) = N 12 0 j
theorem cell_30 {M : jm_M} (iM : bI bx1 M) {j k a : Int} (hi : 0 ≤ j ∧ j < M 10 30 3) (hk : 0 ≤ k ∧ k < 3) (ha : 3 * j + k = a) : wp (fX7_cell M 30 j k) (fun v M1 => M1 = M ∧ v = M 19 30 a) := cell_in iM ⟨by decide, by decide⟩ (wid1_24 (by decide) (by decide)) hi hk (by omega)
theorem cell_31 {M : jm_M} (iM : bI bx1 M) {j k a : Int} (hi : 0 ≤ j ∧ j < M 10 31 3) (hk : 0 ≤ k ∧ k < 4) (ha : 4 * j + k = a) : wp (fX7_cell M 31 j k) (fun v M1 => M1 = M ∧ v = M 19 31 a) := cell_in iM ⟨by decide, by decide⟩ (wid1_31 (by decide)) hi hk (by omega)
theorem j_wet_l (fu : Nat) (M N : jm_M) (iM : bI bx1 M) (iN : bI bx2 N) (td : TDr M N) (l1 l2 : Int) : ∀ (n : Nat) (l3 l4 b l5 : Int), 0 ≤ l5 → l5 ≤ N 0 0 8 → ((b = -1 ∧ l3 = 0 ∧ l4 = 0) ∨ (0 ≤ b ∧ b < l5 ∧ l3 = N 8 0 b ∧ l4 = N 7 0 b)) → N 0 0 8 - l5 < (n : Int) → J2 (fX9_wetAt_8 fu n M l1 l2 l3 l4 l5) (fX12_wet_5 fu n N l1 l2 b l5) (fun v M1 w N1 => M1 = M ∧ N1 = N ∧ v = w) := by
  intro n
  induction n with
  | zero => intro l3 l4 b l5 _ _ _ hm; exfalso; omega
  | succ n ih =>
    intro l3 l4 b l5 h0 h1 hb hm
    show J2 (gX9_wetAt_8 fu (fX9_wetAt_8 fu n) M l1 l2 l3 l4 l5) (gX12_wet_5 fu (fX12_wet_5 fu n) N l1 l2 b l5) _
    unfold gX9_wetAt_8 gX12_wet_5
    have b8 : 0 ≤ N 0 0 8 ∧ N 0 0 8 ≤ 30 := iN 0 0 8
    have e8 := td.1
    have w1 : jm_w (l5 + 1) = l5 + 1 := jm_wid (by omega) (by omega)
    by_cases c : N 0 0 8 ≤ l5
    · refine J2.lT (by omega) (J2.rT c ?_)
      rcases hb with ⟨rfl, rfl, rfl⟩ | ⟨q1, q2, q3, q4⟩
      · exact J2.rF (by omega) (J2.ret ⟨rfl, rfl, rfl⟩)
      · exact J2.rT q1 (J2.rT ⟨q1, by omega⟩ (J2.ret ⟨rfl, rfl, q3⟩))
    · obtain ⟨e0, e1, e2, e3⟩ := td.2 l5 h0 (by omega)
      refine J2.lF (by omega) (J2.rF c (J2.rT ⟨h0, by omega⟩ ?_))
      refine J2.lq (cell_30 iM ⟨h0, by omega⟩ ⟨by omega, by omega⟩ rfl) (fun v3 z3 => ?_)
      refine J2.lq (cell_30 iM (a := 3 * l5) ⟨h0, by omega⟩ ⟨by omega, by omega⟩ (by omega)) (fun v6 z6 => ?_)
      by_cases s : N 6 0 l5 = l1
      · refine J2.lT (by omega) (J2.rT s (J2.rT ⟨h0, by omega⟩ ?_))
        by_cases s2 : l2 < N 7 0 l5
        · exact J2.lT (by omega) (J2.rT s2 (J2.le' w1 (J2.re' w1 (ih _ _ _ _ (by omega) (by omega) (by omega) (by omega)))))
        · refine J2.lF (by omega) (J2.rF s2 ?_)
          have go : J2 (jm_b (fX7_cell M 30 l5 2) fun v16 M17 => jm_e (jm_w (l5 + 1)) fun v19 => fX9_wetAt_8 fu n M17 l1 l2 v16 v3 v19) (fX12_wet_5 fu n N l1 l2 l5 (l5 + 1)) (fun v M1 w N1 => M1 = M ∧ N1 = N ∧ v = w) := by
            refine J2.lq (cell_30 iM ⟨h0, by omega⟩ ⟨by omega, by omega⟩ rfl) (fun v16 z16 => ?_)
            exact J2.le' w1 (ih _ _ _ _ (by omega) (by omega) (Or.inr ⟨h0, by omega, by omega, by omega⟩) (by omega))
          rcases hb with ⟨rfl, rfl, rfl⟩ | ⟨q1, q2, q3, q4⟩
          · exact J2.lF (by omega) (J2.rT (by omega) (J2.re' w1 go))
          · refine J2.rF (by omega) (J2.rT ⟨h0, by omega⟩ (J2.rT ⟨q1, by omega⟩ ?_))
            by_cases s3 : N 7 0 l5 < N 7 0 b
            · exact J2.lT (by omega) (J2.rT s3 (J2.le' w1 (J2.re' w1 (ih _ _ _ _ (by omega) (by omega) (Or.inr ⟨q1, by omega, q3, q4⟩) (by omega)))))
            · exact J2.lF (by omega) (J2.rF s3 (J2.re' w1 go))
      · exact J2.lF (by omega) (J2.rF s (J2.le' w1 (J2.re' w1 (ih _ _ _ _ (by omega) (by omega) (by omega) (by omega)))))
theorem j_wet (fu : Nat) (hfu : 4000 ≤ fu) (M N : jm_M) (iM : bI bx1 M) (iN : bI bx2 N) (td : TDr M N) (l1 l2 : Int) : J2 (fX9_wetAt fu M l1 l2) (fX12_wet fu N l1 l2) (fun v M1 w N1 => M1 = M ∧ N1 = N ∧ v = w) := by
  have b8 : 0 ≤ N 0 0 8 ∧ N 0 0 8 ≤ 30 := iN 0 0 8
  exact j_wet_l fu M N iM iN td l1 l2 fu 0 0 (-1) 0 (by omega) (by omega) (Or.inl ⟨rfl, rfl, rfl⟩) (by omega)
/-! a slow car -/
theorem d_slow1 (fu : Nat) (N : jm_M) (iN : bI bx2 N) (l1 : Int) : ∀ (n : Nat) (l3 : Int), 0 ≤ l3 → l3 ≤ N 0 0 12 → N 0 0 12 - l3 < (n : Int) → wp (fX12_isSlow_4 fu n N l1 1 l3) (fun w N1 => N1 = N ∧ w = 1) := by
  intro n
  induction n with
  | zero => intro l3 _ _ hm; exfalso; omega
  | succ n ih =>
    intro l3 h0 h1 hm
    show wp (gX12_isSlow_4 fu (fX12_isSlow_4 fu n) N l1 1 l3) _
    unfold gX12_isSlow_4
    have b12 : 0 ≤ N 0 0 12 ∧ N 0 0 12 ≤ 20 := iN 0 0 12
    have w1 : jm_w (l3 + 1) = l3 + 1 := jm_wid (by omega) (by omega)
    refine wp_ite (fun c => wp_T (Or.inr rfl) (wp_ret ⟨rfl, rfl⟩)) (fun c => wp_F (by decide) ?_)
    refine wp_e (jm_w_in _) (fun v e _ => ?_)
    rw [e, w1]
    exact ih _ (by omega) (by omega) (by omega)
theorem j_slow_l (fu : Nat) (M N : jm_M) (iM : bI bx1 M) (iN : bI bx2 N) (td : TDf M N) (l1 : Int) : ∀ (n : Nat) (l2 : Int), 0 ≤ l2 → l2 ≤ N 0 0 12 → N 0 0 12 - l2 < (n : Int) → J2 (fX9_slowAt_2 fu n M l1 l2) (fX12_isSlow_4 fu n N l1 0 l2) (fun v M1 w N1 => M1 = M ∧ N1 = N ∧ v = w ∧ (v = 0 ∨ v = 1)) := by
  intro n
  induction n with
  | zero => intro l2 _ _ hm; exfalso; omega
  | succ n ih =>
    intro l2 h0 h1 hm
    show J2 (gX9_slowAt_2 fu (fX9_slowAt_2 fu n) M l1 l2) (gX12_isSlow_4 fu (fX12_isSlow_4 fu n) N l1 0 l2) _
    unfold gX9_slowAt_2 gX12_isSlow_4
    have b12 : 0 ≤ N 0 0 12 ∧ N 0 0 12 ≤ 20 := iN 0 0 12
    have e12 := td.1
    have w1 : jm_w (l2 + 1) = l2 + 1 := jm_wid (by omega) (by omega)
    by_cases c : N 0 0 12 ≤ l2
    · exact J2.lT (by omega) (J2.rT c (J2.rT (Or.inl rfl) (J2.ret ⟨rfl, rfl, rfl, Or.inl rfl⟩)))
    · obtain ⟨e0, e1, e2, e3⟩ := td.2 l2 h0 (by omega)
      have nx := ih (l2 + 1) (by omega) (by omega) (by omega)
      refine J2.lF (by omega) (J2.rF c (J2.rT rfl (J2.rT ⟨h0, by omega⟩ ?_)))
      refine J2.lq (cell_31 iM ⟨h0, by omega⟩ ⟨by omega, by omega⟩ rfl) (fun v3 z3 => ?_)
      by_cases s : N 12 0 l2 = 1
      · refine J2.lT (by omega) (J2.rT s (J2.rT ⟨h0, by omega⟩ ?_))
        refine J2.lq (cell_31 iM ⟨h0, by omega⟩ ⟨by omega, by omega⟩ rfl) (fun v7 z7 => ?_)
        by_cases s2 : l1 < N 10 0 l2
        · exact J2.lT (by omega) (J2.rT s2 (J2.le' w1 (J2.re' w1 nx)))
        · refine J2.lF (by omega) (J2.rF s2 (J2.rT ⟨h0, by omega⟩ ?_))
          refine J2.lq (cell_31 iM ⟨h0, by omega⟩ ⟨by omega, by omega⟩ rfl) (fun v13 z13 => ?_)
          by_cases s3 : N 11 0 l2 ≤ l1
          · exact J2.lT (by omega) (J2.rT s3 (J2.le' w1 (J2.re' w1 nx)))
          · refine J2.lF (by omega) (J2.rF s3 (J2.re' w1 ?_))
            exact J2.of (wp_ret (wp_mono (d_slow1 fu N iN l1 n (l2 + 1) (by omega) (by omega) (by omega)) (fun w N1 q => ⟨rfl, q.1, q.2.symm, Or.inr rfl⟩)))
      · exact J2.lF (by omega) (J2.rF s (J2.le' w1 (J2.re' w1 nx)))
theorem j_slow (fu : Nat) (hfu : 4000 ≤ fu) (M N : jm_M) (iM : bI bx1 M) (iN : bI bx2 N) (td : TDf M N) (l1 : Int) : J2 (fX9_slowAt fu M l1) (fX12_isSlow fu N l1) (fun v M1 w N1 => M1 = M ∧ N1 = N ∧ v = w ∧ (v = 0 ∨ v = 1)) := by
  have b12 : 0 ≤ N 0 0 12 ∧ N 0 0 12 ≤ 20 := iN 0 0 12
  exact j_slow_l fu M N iM iN td l1 fu 0 (by omega) (by omega) (by omega)
/-! yellow -/
theorem d_yellow1 (fu : Nat) (N : jm_M) (iN : bI bx2 N) (l1 l2 : Int) : ∀ (n : Nat) (l4 : Int), 0 ≤ l4 → l4 ≤ N 0 0 12 → N 0 0 12 - l4 < (n : Int) → wp (fX12_isYellow_5 fu n N l1 l2 1 l4) (fun w N1 => N1 = N ∧ w = 1) := by
  intro n
  induction n with
  | zero => intro l4 _ _ hm; exfalso; omega
  | succ n ih =>
    intro l4 h0 h1 hm
    show wp (gX12_isYellow_5 fu (fX12_isYellow_5 fu n) N l1 l2 1 l4) _
    unfold gX12_isYellow_5
    have b12 : 0 ≤ N 0 0 12 ∧ N 0 0 12 ≤ 20 := iN 0 0 12
    have w1 : jm_w (l4 + 1) = l4 + 1 := jm_wid (by omega) (by omega)
    have nx : ∀ s : Int, N 0 0 12 ≠ l4 → l4 < N 0 0 12 → wp (gX12_isYellow_46 fu (fX12_isYellow_5 fu n) N l1 l2 1 l4 s) (fun w N1 => N1 = N ∧ w = 1) := fun s _ q => by
      unfold gX12_isYellow_46
      refine wp_F (by decide) ?_
      refine wp_e (jm_w_in _) (fun v e _ => ?_)
      rw [e, w1]
      exact ih _ (by omega) (by omega) (by omega)
    refine wp_ite (fun c => wp_T (Or.inr rfl) (wp_ret ⟨rfl, rfl⟩)) (fun c => ?_)
    refine wp_ite (fun c2 => nx _ (by omega) (by omega)) (fun c2 => wp_T ⟨h0, by omega⟩ ?_)
    refine wp_ite (fun c3 => nx _ (by omega) (by omega)) (fun c3 => wp_T ⟨h0, by omega⟩ ?_)
    exact wp_ite (fun c4 => nx _ (by omega) (by omega)) (fun c4 => nx _ (by omega) (by omega))
theorem j_yellow_l (fu : Nat) (M N : jm_M) (iM : bI bx1 M) (iN : bI bx2 N) (td : TDf M N) (l1 l2 : Int) : ∀ (n : Nat) (l3 : Int), 0 ≤ l3 → l3 ≤ N 0 0 12 → N 0 0 12 - l3 < (n : Int) → J2 (fX9_yellowAt_2 fu n M l1 l2 l3) (fX12_isYellow_5 fu n N l1 l2 0 l3) (fun v M1 w N1 => M1 = M ∧ N1 = N ∧ v = w ∧ (v = 0 ∨ v = 1)) := by
  intro n
  induction n with
  | zero => intro l3 _ _ hm; exfalso; omega
  | succ n ih =>
    intro l3 h0 h1 hm
    show J2 (gX9_yellowAt_2 fu (fX9_yellowAt_2 fu n) M l1 l2 l3) (gX12_isYellow_5 fu (fX12_isYellow_5 fu n) N l1 l2 0 l3) _
    unfold gX9_yellowAt_2 gX12_isYellow_5
    have b12 : 0 ≤ N 0 0 12 ∧ N 0 0 12 ≤ 20 := iN 0 0 12
    have e12 := td.1
    have w1 : jm_w (l3 + 1) = l3 + 1 := jm_wid (by omega) (by omega)
    by_cases c : N 0 0 12 ≤ l3
    · exact J2.lT (by omega) (J2.rT c (J2.rT (Or.inl rfl) (J2.ret ⟨rfl, rfl, rfl, Or.inl rfl⟩)))
    · obtain ⟨e0, e1, e2, e3⟩ := td.2 l3 h0 (by omega)
      have nx := ih (l3 + 1) (by omega) (by omega) (by omega)
      refine J2.lF (by omega) (J2.rF c ?_)
      refine J2.lq (cell_31 iM (a := 4 * l3) ⟨h0, by omega⟩ ⟨by omega, by omega⟩ (by omega)) (fun v3 z3 => ?_)
      have in0 : J2 (gX9_yellowAt_46 fu (fX9_yellowAt_2 fu n) M l1 l2 l3 0) (gX12_isYellow_46 fu (fX12_isYellow_5 fu n) N l1 l2 0 l3 0) (fun v M1 w N1 => M1 = M ∧ N1 = N ∧ v = w ∧ (v = 0 ∨ v = 1)) := by
        unfold gX9_yellowAt_46 gX12_isYellow_46
        refine J2.lT rfl (J2.rT rfl (J2.rT ⟨h0, by omega⟩ (J2.le' w1 ?_)))
        exact J2.ri (fun _ => J2.rT rfl (J2.re' w1 nx)) (fun _ => J2.re' w1 nx)
      have in1 : J2 (gX9_yellowAt_46 fu (fX9_yellowAt_2 fu n) M l1 l2 l3 1) (gX12_isYellow_46 fu (fX12_isYellow_5 fu n) N l1 l2 0 l3 1) (fun v M1 w N1 => M1 = M ∧ N1 = N ∧ v = w ∧ (v = 0 ∨ v = 1)) := by
        unfold gX9_yellowAt_46 gX12_isYellow_46
        refine J2.lF (by decide) (J2.rT rfl (J2.rT ⟨h0, by omega⟩ ?_))
        refine J2.lq (cell_31 iM ⟨h0, by omega⟩ ⟨by omega, by omega⟩ rfl) (fun v4 z4 => ?_)
        by_cases s : N 12 0 l3 = 0
        · refine J2.lT (by omega) (J2.rT s (J2.rF (by decide) (J2.rT ⟨h0, by omega⟩ ?_)))
          refine J2.lq (cell_31 iM ⟨h0, by omega⟩ ⟨by omega, by omega⟩ rfl) (fun v8 z8 => ?_)
          by_cases s2 : l2 < N 10 0 l3
          · exact J2.lT (by omega) (J2.rT s2 (J2.le' w1 (J2.re' w1 nx)))
          · refine J2.lF (by omega) (J2.rF s2 (J2.rT ⟨h0, by omega⟩ ?_))
            refine J2.lq (cell_31 iM ⟨h0, by omega⟩ ⟨by omega, by omega⟩ rfl) (fun v14 z14 => ?_)
            by_cases s3 : N 11 0 l3 ≤ l2
            · exact J2.lT (by omega) (J2.rT s3 (J2.le' w1 (J2.re' w1 nx)))
            · refine J2.lF (by omega) (J2.rF s3 (J2.re' w1 ?_))
              exact J2.of (wp_ret (wp_mono (d_yellow1 fu N iN l1 l2 n (l3 + 1) (by omega) (by omega) (by omega)) (fun w N1 q => ⟨rfl, q.1, q.2.symm, Or.inr rfl⟩)))
        · exact J2.lF (by omega) (J2.rF s (J2.le' w1 (J2.re' w1 nx)))
      by_cases s1 : l1 = -1
      · refine J2.rT s1 ?_
        by_cases s2 : v3 = -1
        · exact J2.lT s2 in1
        · exact J2.lF s2 (J2.lT s1 in1)
      · refine J2.rF s1 (J2.rT ⟨h0, by omega⟩ ?_)
        by_cases s2 : N 9 0 l3 = -1
        · exact J2.lT (by omega) (J2.rT s2 in1)
        · refine J2.lF (by omega) (J2.lF s1 (J2.rF s2 (J2.rT ⟨h0, by omega⟩ ?_)))
          by_cases s3 : N 9 0 l3 = l1
          · exact J2.lT (by omega) (J2.rT s3 in1)
          · exact J2.lF (by omega) (J2.rF s3 in0)
theorem j_yellow (fu : Nat) (hfu : 4000 ≤ fu) (M N : jm_M) (iM : bI bx1 M) (iN : bI bx2 N) (td : TDf M N) (l1 l2 : Int) : J2 (fX9_yellowAt fu M l1 l2) (fX12_isYellow fu N l1 l2) (fun v M1 w N1 => M1 = M ∧ N1 = N ∧ v = w ∧ (v = 0 ∨ v = 1)) := by
  have b12 : 0 ≤ N 0 0 12 ∧ N 0 0 12 ≤ 20 := iN 0 0 12
  exact j_yellow_l fu M N iM iN td l1 l2 fu 0 (by omega) (by omega) (by omega)
/-! who goes next -/
theorem d_goesOn (N : jm_M) (c : Int) (hc : 0 ≤ c ∧ c < 6) : wp (fX12_goesOn N c) (fun v N1 => N1 = N ∧ ((N 39 0 c = 0 ∧ v = 1) ∨ (N 39 0 c ≠ 0 ∧ v = 0))) := by
  unfold fX12_goesOn
  refine wp_T hc ?_
  exact wp_ite (fun c => wp_ret ⟨rfl, Or.inl ⟨c, rfl⟩⟩) (fun c => wp_ret ⟨rfl, Or.inr ⟨c, rfl⟩⟩)
theorem j_next_l (fu : Nat) (M N : jm_M) (iN : bI bx2 N) (e5 : M 2 0 5 = N 0 0 17) (rs : ∀ c : Int, 0 ≤ c → c < N 0 0 17 → M 9 c 0 = N 41 0 c ∧ M 9 c 1 = N 42 0 c ∧ M 9 c 3 = N 39 0 c) : ∀ (n : Nat) (l1 l2 : Int), 0 ≤ l2 → l2 ≤ N 0 0 17 → (l1 = -1 ∨ (0 ≤ l1 ∧ l1 < l2 ∧ N 39 0 l1 = 0)) → N 0 0 17 - l2 < (n : Int) → J2 (fX2_nextToGo_4 fu n M l1 l2) (fX12_next_4 fu n N l1 l2) (fun v M1 w N1 => M1 = M ∧ N1 = N ∧ v = w ∧ (v = -1 ∨ (0 ≤ v ∧ v < N 0 0 17 ∧ N 39 0 v = 0))) := by
  intro n
  induction n with
  | zero => intro l1 l2 _ _ _ hm; exfalso; omega
  | succ n ih =>
    intro l1 l2 h0 h1 hb hm
    show J2 (gX2_nextToGo_4 fu (fX2_nextToGo_4 fu n) M l1 l2) (gX12_next_4 fu (fX12_next_4 fu n) N l1 l2) _
    unfold gX2_nextToGo_4 gX12_next_4
    have b17 : 0 ≤ N 0 0 17 ∧ N 0 0 17 ≤ 6 := iN 0 0 17
    have w1 : jm_w (l2 + 1) = l2 + 1 := jm_wid (by omega) (by omega)
    by_cases c : N 0 0 17 ≤ l2
    · refine J2.lT (by omega) (J2.rT c (J2.ret ⟨rfl, rfl, rfl, ?_⟩))
      rcases hb with q | ⟨q1, q2, q3⟩
      · exact Or.inl q
      · exact Or.inr ⟨q1, by omega, q3⟩
    · obtain ⟨a0, a1, a3⟩ := rs l2 h0 (by omega)
      refine J2.lF (by omega) (J2.lF (by omega) (J2.lT ⟨h0, by omega⟩ (J2.rF c ?_)))
      refine J2.rq (d_goesOn N l2 ⟨h0, by omega⟩) (fun v3 z3 => ?_)
      rcases z3 with ⟨z, rfl⟩ | ⟨z, rfl⟩
      · have tk := ih l2 (l2 + 1) (by omega) (by omega) (Or.inr ⟨h0, by omega, z⟩) (by omega)
        refine J2.lT (by omega) (J2.rF (by decide) ?_)
        rcases hb with rfl | ⟨q1, q2, q3⟩
        · exact J2.lT rfl (J2.rT (by decide) (J2.le' w1 (J2.re' w1 tk)))
        · obtain ⟨c0, c1, c3⟩ := rs l1 q1 (by omega)
          have kp := ih l1 (l2 + 1) (by omega) (by omega) (Or.inr ⟨q1, by omega, q3⟩) (by omega)
          refine J2.lF (by omega) (J2.lT ⟨h0, by omega⟩ (J2.lT ⟨q1, by omega⟩ ?_))
          refine J2.rF (by omega) (J2.rT ⟨h0, by omega⟩ (J2.rT ⟨q1, by omega⟩ ?_))
          have ga : wp (fX2_goesAhead M l2 l1) (fun v M1 => M1 = M ∧ (((N 41 0 l2 < N 41 0 l1 ∨ (N 41 0 l2 = N 41 0 l1 ∧ N 42 0 l1 < N 42 0 l2)) ∧ v = 1) ∨ (¬ (N 41 0 l2 < N 41 0 l1 ∨ (N 41 0 l2 = N 41 0 l1 ∧ N 42 0 l1 < N 42 0 l2)) ∧ v = 0))) := by
            unfold fX2_goesAhead
            refine wp_ite (fun y => wp_ret ⟨rfl, by omega⟩) (fun y => ?_)
            refine wp_ite (fun y2 => ?_) (fun y2 => wp_ret ⟨rfl, by omega⟩)
            exact wp_ite (fun y3 => wp_ret ⟨rfl, by omega⟩) (fun y3 => wp_ret ⟨rfl, by omega⟩)
          refine J2.lq ga (fun v12 z12 => ?_)
          by_cases s1 : N 41 0 l2 < N 41 0 l1
          · exact J2.rT s1 (J2.lF (by omega) (J2.le' w1 (J2.re' w1 tk)))
          · refine J2.rF s1 (J2.rT ⟨h0, by omega⟩ (J2.rT ⟨q1, by omega⟩ ?_))
            by_cases s2 : N 41 0 l2 = N 41 0 l1
            · refine J2.rT s2 (J2.rT ⟨h0, by omega⟩ (J2.rT ⟨q1, by omega⟩ ?_))
              by_cases s3 : N 42 0 l2 ≤ N 42 0 l1
              · exact J2.rT s3 (J2.lT (by omega) (J2.le' w1 (J2.re' w1 kp)))
              · exact J2.rF s3 (J2.lF (by omega) (J2.le' w1 (J2.re' w1 tk)))
            · exact J2.rF s2 (J2.lT (by omega) (J2.le' w1 (J2.re' w1 kp)))
      · refine J2.lF (by omega) (J2.rT rfl (J2.le' w1 (J2.re' w1 (ih l1 (l2 + 1) (by omega) (by omega) ?_ (by omega)))))
        rcases hb with q | ⟨q1, q2, q3⟩
        · exact Or.inl q
        · exact Or.inr ⟨q1, by omega, q3⟩
theorem j_next (fu : Nat) (hfu : 4000 ≤ fu) (M N : jm_M) (iN : bI bx2 N) (e5 : M 2 0 5 = N 0 0 17) (rs : ∀ c : Int, 0 ≤ c → c < N 0 0 17 → M 9 c 0 = N 41 0 c ∧ M 9 c 1 = N 42 0 c ∧ M 9 c 3 = N 39 0 c) : J2 (fX2_nextToGo fu M) (fX12_next fu N) (fun v M1 w N1 => M1 = M ∧ N1 = N ∧ v = w ∧ (v = -1 ∨ (0 ≤ v ∧ v < N 0 0 17 ∧ N 39 0 v = 0))) := by
  have b17 : 0 ≤ N 0 0 17 ∧ N 0 0 17 ≤ 6 := iN 0 0 17
  exact j_next_l fu M N iN e5 rs fu (-1) 0 (by omega) (by omega) (Or.inl rfl) (by omega)
