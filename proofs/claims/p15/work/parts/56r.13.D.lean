/-! a sector's time -/
def TDs (M N : jm_M) : Prop := ∀ c : Int, 0 ≤ c → c < N 0 0 17 → M 10 c 3 = N 19 0 c ∧ ∀ j : Int, 0 ≤ j → j < N 19 0 c → M 19 c (2 * j) = N 20 0 (4 * c + j) ∧ M 19 c (2 * j + 1) = N 21 0 (4 * c + j)
theorem ww_3 (x f y : Int) : jm_w (x + jm_w (f + y)) = jm_w (jm_w (x + f) + y) := by unfold jm_w; omega
theorem c_tyreN (M : jm_M) (a b : Int) (ha : 0 ≤ a ∧ a < 4) (hb : 0 ≤ b ∧ b < 6) : wp (fX9_tyreNumber M a b) (fun v M1 => M1 = M ∧ v = M 17 0 (6 * a + b)) := by
  have w : jm_w (jm_w (a * 6) + b) = 6 * a + b := by rw [jm_wid (x := a * 6) (by omega) (by omega), jm_wid (by omega) (by omega)]; omega
  unfold fX9_tyreNumber
  refine wp_bp (x_isIndex M a 4) (fun v z => wp_F (by omega) ?_)
  refine wp_bp (x_isIndex M b 6) (fun v2 z2 => wp_F (by omega) ?_)
  rw [w]
  exact wp_T ⟨by omega, by omega⟩ (wp_ret ⟨rfl, rfl⟩)
theorem c_age (M : jm_M) (c : Int) (h : 0 ≤ M 9 c 9 ∧ M 9 c 9 < 4) : wp (fX6_age M c) (fun v M1 => M1 = M ∧ v = M 29 c (M 9 c 9)) := by
  unfold fX6_age
  refine wp_bp (x_isIndex M (M 9 c 9) 4) (fun v z => wp_F (by omega) ?_)
  exact wp_T h (wp_ret ⟨rfl, rfl⟩)
theorem j_free (fu : Nat) (hfu : 4000 ≤ fu) (M N : jm_M) (iM : bI bx1 M) (iN : bI bx2 N) (td : TDr M N) (ts : TDs M N) (n24 : ∀ k : Int, 0 ≤ k → k < 24 → M 17 0 k = N 4 0 k) (n8 : ∀ k : Int, 0 ≤ k → k < 8 → M 18 0 k = N 5 0 k) (c l3 l4 : Int) (hc : 0 ≤ c ∧ c < N 0 0 17) (h3 : 0 ≤ l3 ∧ l3 < 5) (el : M 14 0 l3 = N 1 0 l3) (eo : M 8 c 0 = N 13 0 c) (e9 : M 9 c 9 = N 45 0 c) (hon : 0 ≤ N 45 0 c ∧ N 45 0 c < N 19 0 c) (ea : M 29 c (N 45 0 c) = N 46 0 (4 * c + N 45 0 c)) (ef : M 9 c 8 = N 44 0 c) (em : M 9 c 13 = N 47 0 c) : J2 (fX2_freeTime fu M c c l3 l4) (fX12_takes fu N c l3 l4 0) (fun v M1 w N1 => M1 = M ∧ N1 = N ∧ v = w) := by
  obtain ⟨wv, Mw, ww, Nw, g1, g2, y1, y2, y3⟩ := j_wet fu hfu M N iM iN td l3 l4
  rw [y1] at g1
  rw [y2, ← y3] at g2
  have b17 : 0 ≤ N 0 0 17 ∧ N 0 0 17 ≤ 6 := iN 0 0 17
  have b19 : 0 ≤ N 19 0 c ∧ N 19 0 c ≤ 4 := iN 19 0 c
  obtain ⟨s0, s1⟩ := ts c hc.1 hc.2
  obtain ⟨s2, s3⟩ := s1 (N 45 0 c) hon.1 hon.2
  have bk : 0 ≤ N 20 0 (4 * c + N 45 0 c) ∧ N 20 0 (4 * c + N 45 0 c) ≤ 3 := iN 20 0 _
  have w4 : jm_w (jm_w (4 * c) + N 45 0 c) = 4 * c + N 45 0 c := by rw [jm_wid (x := 4 * c) (by omega) (by omega)]; exact jm_wid (by omega) (by omega)
  unfold fX2_freeTime fX12_takes
  rw [e9]
  refine J2.lq (cell_in iM (w := 2) (a := 2 * N 45 0 c) ⟨by omega, by omega⟩ (wid1_0 (by omega)) ⟨by omega, by omega⟩ ⟨by omega, by omega⟩ (by omega)) (fun k z2 => ?_)
  have hk : N 20 0 (4 * c + N 45 0 c) = k := s2.symm.trans z2.symm
  rw [hk] at bk
  have bk : 0 ≤ k ∧ k < 4 := ⟨bk.1, by omega⟩
  have a5 := c_age M c (by rw [e9]; omega)
  rw [e9] at a5
  refine J2.lq a5 (fun v5 z5 => ?_)
  have z5 : v5 = N 46 0 (4 * c + N 45 0 c) := z5.trans ea
  refine J2.lq (P := fun r => r = wv) ⟨wv, M, g1, rfl, rfl⟩ (fun v8 z8 => ?_)
  subst z8
  refine J2.lq (c_tyreN M k 4 bk (by decide)) (fun v11 z11 => ?_)
  refine J2.le (J2.lT h3 (J2.lT (by decide) (J2.le ?_)))
  refine J2.lq (c_tyreN M k 0 bk (by decide)) (fun v24 z24 => ?_)
  refine J2.lq (c_tyreN M k 1 bk (by decide)) (fun v27 z27 => ?_)
  refine J2.le ?_
  refine J2.lq (c_tyreN M k 2 bk (by decide)) (fun v32 z32 => ?_)
  have q0 : v24 = N 4 0 (6 * k) := by rw [z24, n24 _ (by omega) (by omega), Int.add_zero]
  have q1 : v27 = N 4 0 (6 * k + 1) := by rw [z27, n24 _ (by omega) (by omega)]
  have q2 : v32 = N 4 0 (6 * k + 2) := by rw [z32, n24 _ (by omega) (by omega)]
  have q4 : v11 = N 4 0 (6 * k + 4) := by rw [z11, n24 _ (by omega) (by omega)]
  have u0 : jm_w (6 * k) = 6 * k := jm_wid (by omega) (by omega)
  have u1 : jm_w (6 * k + 1) = 6 * k + 1 := jm_wid (by omega) (by omega)
  have u2 : jm_w (6 * k + 2) = 6 * k + 2 := jm_wid (by omega) (by omega)
  have u3 : jm_w (6 * k + 3) = 6 * k + 3 := jm_wid (by omega) (by omega)
  have u4 : jm_w (6 * k + 4) = 6 * k + 4 := jm_wid (by omega) (by omega)
  have u5 : jm_w (6 * k + 5) = 6 * k + 5 := jm_wid (by omega) (by omega)
  have hc6 : 0 ≤ c ∧ c < 6 := ⟨hc.1, by omega⟩
  have h24 : 0 ≤ 4 * c + N 45 0 c ∧ 4 * c + N 45 0 c < 24 := ⟨by omega, by omega⟩
  refine J2.rT rfl (J2.rT hc6 (J2.re' w4 (J2.rT h24 ?_)))
  rw [hk]
  refine J2.re' u0 (J2.rT h3 (J2.rT hc6 (J2.rT (by decide) (J2.rT hc6 ?_))))
  rw [u1, u2, u3]
  refine J2.rT ⟨by omega, by omega⟩ (J2.rT ⟨by omega, by omega⟩ (J2.rT h24 (J2.re (J2.rT h24 (J2.rT ⟨by omega, by omega⟩ ?_)))))
  have tl : ∀ (x y fl : Int), x = jm_w (y + fl) → J2 (gX2_freeTime_136 fu M c k (jm_abs (jm_w (v8 - v11))) x) (gX12_takes_145 fu N c l3 l4 (6 * k) fl y) (fun v M1 w N1 => M1 = M ∧ N1 = N ∧ v = w) := by
    intro x y fl hx
    unfold gX2_freeTime_136 gX12_takes_145
    rw [u4, u5]
    refine J2.lq (c_tyreN M k 5 bk (by decide)) (fun v1 z1 => ?_)
    have q5 : v1 = N 4 0 (6 * k + 5) := by rw [z1, n24 _ (by omega) (by omega)]
    refine J2.lT (by decide) (J2.le (J2.re (J2.rT ⟨by omega, by omega⟩ ?_)))
    refine J2.rq (P := fun r => r = v8) ⟨v8, N, g2, rfl, rfl⟩ (fun v5' z5' => ?_)
    subst z5'
    refine J2.rT ⟨by omega, by omega⟩ (J2.rT (by decide) (J2.rT hc6 (J2.re (J2.ret ⟨rfl, rfl, ?_⟩))))
    rw [hx, q5, q4, n8 2 (by decide) (by decide), em]
  rw [el, eo, n8 1 (by decide) (by decide), ef, q0, q1, q2, z5]
  have ex : ∀ f : Int, jm_w (jm_w (jm_w (jm_w (N 1 0 l3 + N 13 0 c) + jm_w (N 5 0 1 * N 44 0 c)) + jm_w (N 4 0 (6 * k) + jm_w (N 4 0 (6 * k + 1) * N 46 0 (4 * c + N 45 0 c)))) + f) = jm_w (jm_w (jm_w (jm_w (jm_w (N 1 0 l3 + N 13 0 c) + jm_w (N 5 0 1 * N 44 0 c)) + N 4 0 (6 * k)) + jm_w (N 4 0 (6 * k + 1) * N 46 0 (4 * c + N 45 0 c))) + f) := fun f => by rw [ww_3]
  by_cases cl : N 46 0 (4 * c + N 45 0 c) < N 4 0 (6 * k + 2)
  · refine J2.lT cl (J2.rT cl (tl _ _ _ ?_))
    rw [ww_0, ww_3]
  · refine J2.lF cl (J2.rF cl (J2.rT ⟨by omega, by omega⟩ ?_))
    refine J2.lq (c_tyreN M k 3 bk (by decide)) (fun v36 z36 => ?_)
    have q3 : v36 = N 4 0 (6 * k + 3) := by rw [z36, n24 _ (by omega) (by omega)]
    refine J2.le (tl _ _ _ ?_)
    rw [q3]
    exact ex _
theorem j_slowT (fu : Nat) (hfu : 4000 ≤ fu) (M N : jm_M) (iN : bI bx2 N) (e5 : M 2 0 5 = N 0 0 17) (rs : ∀ c : Int, 0 ≤ c → c < N 0 0 17 → M 9 c 1 = N 42 0 c ∧ M 9 c 3 = N 39 0 c) (c l3 l4 : Int) (hc : 0 ≤ c ∧ c < N 0 0 17) (h3 : 0 ≤ l3 ∧ l3 < 5) (el : M 14 0 l3 = N 1 0 l3) : J2 (fX2_slowTime fu M c l3) (fX12_takes fu N c l3 l4 1) (fun v M1 w N1 => M1 = M ∧ N1 = N ∧ v = w) := by
  unfold fX12_takes
  refine J2.rF (by decide) (J2.rT h3 (J2.rk (j_front fu hfu M N iN e5 rs c l3 hc h3) (fun v M1 w N1 q => ?_)))
  obtain ⟨rfl, rfl, q3, q4⟩ := q
  rw [q3, el]
  unfold slowT
  rcases q4 with rfl | rfl
  · exact J2.rT rfl (J2.ret ⟨rfl, rfl, if_pos rfl⟩)
  · exact J2.rF (by decide) (J2.ret ⟨rfl, rfl, if_neg (by decide)⟩)
