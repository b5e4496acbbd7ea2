/-! of two programs: the right one goes on -/
theorem J2.rk {x g : jm_R} {P Q : Int → jm_M → Int → jm_M → Prop} {K : Int → jm_M → jm_R} (h : J2 x g P) (k : ∀ (v : Int) (M1 : jm_M) (w : Int) (N1 : jm_M), P v M1 w N1 → J2 (some (v, M1)) (K w N1) Q) : J2 x (jm_b g K) Q := by
  obtain ⟨v, M1, w, N1, e1, e2, q⟩ := h
  rw [e1, e2]
  exact k v M1 w N1 q
theorem J2.lk {y g : jm_R} {P Q : Int → jm_M → Int → jm_M → Prop} {K : Int → jm_M → jm_R} (h : J2 g y P) (k : ∀ (v : Int) (M1 : jm_M) (w : Int) (N1 : jm_M), P v M1 w N1 → J2 (K v M1) (some (w, N1)) Q) : J2 (jm_b g K) y Q := by
  obtain ⟨v, M1, w, N1, e1, e2, q⟩ := h
  rw [e1, e2]
  exact k v M1 w N1 q
/-! sums that wrap -/
theorem ww_l (a b : Int) : jm_w (jm_w a + b) = jm_w (a + b) := by unfold jm_w; omega
theorem ww_r (a b : Int) : jm_w (a + jm_w b) = jm_w (a + b) := by unfold jm_w; omega
theorem ww_sl (a b : Int) : jm_w (jm_w a - b) = jm_w (a - b) := by unfold jm_w; omega
theorem ww_sr (a b : Int) : jm_w (a - jm_w b) = jm_w (a - b) := by unfold jm_w; omega
theorem ww_w (a : Int) : jm_w (jm_w a) = jm_w a := by unfold jm_w; omega
theorem ww_0 (a : Int) : jm_w (jm_w a + 0) = jm_w a := by rw [Int.add_zero, ww_w]
/-! the latest before -/
theorem j_late_l (fu : Nat) (M N : jm_M) (iN : bI bx2 N) (e5 : M 2 0 5 = N 0 0 17) (l1 l2 l3 : Int) (h2 : 0 ≤ l2 ∧ l2 < 5) (te : ∀ c : Int, 0 ≤ c → c < N 0 0 17 → M 32 c l2 = N 56 0 (5 * c + l2) + 1 ∧ -1 ≤ N 56 0 (5 * c + l2)) : ∀ (n : Nat) (l4 l5 l6 : Int), 0 ≤ l6 → l6 ≤ N 0 0 17 → ((l4 = -1 ∧ l5 = 0) ∨ (0 ≤ l4 ∧ l4 < l6 ∧ l4 ≠ l1 ∧ l5 = N 56 0 (5 * l4 + l2) + 1 ∧ 0 ≤ N 56 0 (5 * l4 + l2) ∧ N 56 0 (5 * l4 + l2) < l3)) → N 0 0 17 - l6 < (n : Int) → J2 (fX2_latestBefore_9 fu n M l1 l2 (l3 + 1) l4 l5 l6) (fX12_latest_6 fu n N l1 l2 l3 l4 l6) (fun v M1 w N1 => M1 = M ∧ N1 = N ∧ v = w ∧ (v = -1 ∨ (0 ≤ v ∧ v < N 0 0 17 ∧ v ≠ l1 ∧ 0 ≤ N 56 0 (5 * v + l2) ∧ N 56 0 (5 * v + l2) < l3))) := by
  intro n
  induction n with
  | zero => intro l4 l5 l6 _ _ _ hm; exfalso; omega
  | succ n ih =>
    intro l4 l5 l6 h0 h1 hb hm
    show J2 (gX2_latestBefore_9 fu (fX2_latestBefore_9 fu n) M l1 l2 (l3 + 1) l4 l5 l6) (gX12_latest_6 fu (fX12_latest_6 fu n) N l1 l2 l3 l4 l6) _
    unfold gX2_latestBefore_9 gX12_latest_6
    have b17 : 0 ≤ N 0 0 17 ∧ N 0 0 17 ≤ 6 := iN 0 0 17
    have w1 : jm_w (l6 + 1) = l6 + 1 := jm_wid (by omega) (by omega)
    by_cases c : N 0 0 17 ≤ l6
    · refine J2.lT (by omega) (J2.rT c (J2.ret ⟨rfl, rfl, rfl, ?_⟩))
      rcases hb with q | ⟨q1, q2, q3, q4, q5, q6⟩
      · exact Or.inl q.1
      · exact Or.inr ⟨q1, by omega, q3, q5, q6⟩
    · obtain ⟨e0, e1⟩ := te l6 h0 (by omega)
      have w2 : jm_w (jm_w (5 * l6) + l2) = 5 * l6 + l2 := by rw [jm_wid (x := 5 * l6) (by omega) (by omega)]; exact jm_wid (by omega) (by omega)
      rw [w2]
      refine J2.lF (by omega) (J2.lF (by omega) (J2.lT ⟨h0, by omega⟩ (J2.lT h2 (J2.rF c (J2.rT ⟨by omega, by omega⟩ (J2.le (J2.re ?_)))))))
      have kp := ih l4 l5 (l6 + 1) (by omega) (by omega) (by omega) (by omega)
      by_cases s1 : l6 = l1
      · exact J2.lT s1 (J2.rT s1 (J2.le' w1 (J2.re' w1 kp)))
      · refine J2.lF s1 (J2.rF s1 ?_)
        by_cases s2 : N 56 0 (5 * l6 + l2) < 0
        · refine J2.rT s2 (J2.lT (by omega) (J2.le' w1 (J2.re' w1 kp)))
        · refine J2.rF s2 ?_
          by_cases s3 : l3 ≤ N 56 0 (5 * l6 + l2)
          · exact J2.rT s3 (J2.re' w1 (J2.li (fun _ => J2.le' w1 kp) (fun _ => J2.lT (by omega) (J2.le' w1 kp))))
          · have tk := ih l6 (M 32 l6 l2) (l6 + 1) (by omega) (by omega) (Or.inr ⟨h0, by omega, s1, e0, by omega, by omega⟩) (by omega)
            refine J2.rF s3 ?_
            rcases hb with ⟨rfl, rfl⟩ | ⟨q1, q2, q3, q4, q5, q6⟩
            · exact J2.rT (by decide) (J2.lF (by omega) (J2.lF (by omega) (J2.le' w1 (J2.re' w1 tk))))
            · have w3 : jm_w (jm_w (5 * l4) + l2) = 5 * l4 + l2 := by rw [jm_wid (x := 5 * l4) (by omega) (by omega)]; exact jm_wid (by omega) (by omega)
              rw [w3]
              refine J2.rF (by omega) (J2.rT ⟨by omega, by omega⟩ ?_)
              by_cases s4 : N 56 0 (5 * l6 + l2) ≤ N 56 0 (5 * l4 + l2)
              · exact J2.rT s4 (J2.lT (by omega) (J2.le' w1 (J2.re' w1 kp)))
              · exact J2.rF s4 (J2.lF (by omega) (J2.lF (by omega) (J2.le' w1 (J2.re' w1 tk))))
theorem j_late (fu : Nat) (hfu : 4000 ≤ fu) (M N : jm_M) (iN : bI bx2 N) (e5 : M 2 0 5 = N 0 0 17) (l1 l2 l3 : Int) (h2 : 0 ≤ l2 ∧ l2 < 5) (te : ∀ c : Int, 0 ≤ c → c < N 0 0 17 → M 32 c l2 = N 56 0 (5 * c + l2) + 1 ∧ -1 ≤ N 56 0 (5 * c + l2)) : J2 (fX2_latestBefore fu M l1 l2 (l3 + 1)) (fX12_latest fu N l1 l2 l3) (fun v M1 w N1 => M1 = M ∧ N1 = N ∧ v = w ∧ (v = -1 ∨ (0 ≤ v ∧ v < N 0 0 17 ∧ v ≠ l1 ∧ 0 ≤ N 56 0 (5 * v + l2) ∧ N 56 0 (5 * v + l2) < l3))) := by
  have b17 : 0 ≤ N 0 0 17 ∧ N 0 0 17 ≤ 6 := iN 0 0 17
  exact j_late_l fu M N iN e5 l1 l2 l3 h2 te fu (-1) 0 0 (by omega) (by omega) (Or.inl ⟨rfl, rfl⟩) (by omega)
/-! times at lines -/
def RTm (M N : jm_M) : Prop := ∀ c : Int, 0 ≤ c → c < N 0 0 17 → (M 9 c 2 = N 43 0 c ∧ 0 ≤ N 43 0 c ∧ N 43 0 c ≤ 60) ∧ ∀ g : Int, 0 ≤ g → g < 60 → (g < N 43 0 c → N 55 0 (60 * c + g) = M 30 c g ∧ 0 ≤ M 30 c g) ∧ (N 43 0 c ≤ g → N 55 0 (60 * c + g) = -1)
theorem c_timeAt {M N : jm_M} (rt : RTm M N) {c g : Int} (hc : 0 ≤ c ∧ c < N 0 0 17) (hg : 0 ≤ g ∧ g < 60) : wp (fX6_timeAt M c g) (fun v M1 => M1 = M ∧ v = N 55 0 (60 * c + g) ∧ (v = -1 ∨ 0 ≤ v)) := by
  obtain ⟨⟨r1, r2, r3⟩, r4⟩ := rt c hc.1 hc.2
  obtain ⟨r5, r6⟩ := r4 g hg.1 hg.2
  unfold fX6_timeAt
  refine wp_bp (x_isIndex M g (M 9 c 2)) (fun v z => ?_)
  by_cases q : g < N 43 0 c
  · obtain ⟨r7, r8⟩ := r5 q
    exact wp_F (by omega) (wp_T ⟨by omega, by omega⟩ (wp_ret ⟨rfl, r7.symm, Or.inr r8⟩))
  · exact wp_T (by omega) (wp_ret ⟨rfl, (r6 (by omega)).symm, Or.inl rfl⟩)
theorem line_last {s n : Int} (hs : 2 ≤ s ∧ s ≤ 5) (hn : 1 ≤ n ∧ n ≤ 12) : jm_w (jm_w (jm_w (n - 1) * s) + jm_w (s - 1)) = s * n - 1 ∧ jm_w (s * n) = s * n ∧ 2 ≤ s * n ∧ s * n ≤ 60 := by
  have e1 : jm_w (n - 1) = n - 1 := jm_wid (by omega) (by omega)
  have e2 : jm_w (s - 1) = s - 1 := jm_wid (by omega) (by omega)
  have e3 : (n - 1) * s = s * n - s := by rw [Int.sub_mul, Int.one_mul, Int.mul_comm]
  have b1 : 2 * 1 ≤ s * n := Int.mul_le_mul hs.1 hn.1 (by omega) (by omega)
  have b2 : s * n ≤ 5 * 12 := Int.mul_le_mul hs.2 hn.2 (by omega) (by omega)
  rw [e1, e2, e3, jm_wid (x := s * n - s) (by omega) (by omega), jm_wid (x := s * n) (by omega) (by omega)]
  exact ⟨by rw [jm_wid (by omega) (by omega)]; omega, rfl, by omega, by omega⟩
theorem d_over1 (fu : Nat) (N : jm_M) (iN : bI bx2 N) (l1 l2 : Int) : ∀ (n : Nat) (l4 : Int), 0 ≤ l4 → l4 ≤ N 0 0 17 → N 0 0 17 - l4 < (n : Int) → wp (fX12_isOver_5 fu n N l1 l2 1 l4) (fun w N1 => N1 = N ∧ w = 1) := by
  intro n
  induction n with
  | zero => intro l4 _ _ hm; exfalso; omega
  | succ n ih =>
    intro l4 h0 h1 hm
    show wp (gX12_isOver_5 fu (fX12_isOver_5 fu n) N l1 l2 1 l4) _
    unfold gX12_isOver_5
    have b17 : 0 ≤ N 0 0 17 ∧ N 0 0 17 ≤ 6 := iN 0 0 17
    have bs : 2 ≤ N 0 0 1 ∧ N 0 0 1 ≤ 5 := iN 0 0 1
    have bn : 1 ≤ N 0 0 2 ∧ N 0 0 2 ≤ 12 := iN 0 0 2
    have w1 : jm_w (l4 + 1) = l4 + 1 := jm_wid (by omega) (by omega)
    obtain ⟨-, p2, p3, p4⟩ := line_last bs bn
    refine wp_ite (fun c => wp_T (Or.inr rfl) (wp_ret ⟨rfl, rfl⟩)) (fun c => ?_)
    have w2 : jm_w (jm_w (jm_w (60 * l4) + jm_w (N 0 0 1 * N 0 0 2)) - 1) = 60 * l4 + N 0 0 1 * N 0 0 2 - 1 := by
      rw [p2, jm_wid (x := 60 * l4) (by omega) (by omega), jm_wid (x := 60 * l4 + N 0 0 1 * N 0 0 2) (by omega) (by omega)]
      exact jm_wid (by omega) (by omega)
    rw [w2]
    refine wp_T ⟨by omega, by omega⟩ ?_
    refine wp_e (bx2_in (iN 55 0 _)) (fun v _ _ => wp_F (by decide) ?_)
    refine wp_e (jm_w_in _) (fun v e _ => ?_)
    rw [e, w1]
    exact ih _ (by omega) (by omega) (by omega)
theorem j_over_l (fu : Nat) (M N : jm_M) (iN : bI bx2 N) (e5 : M 2 0 5 = N 0 0 17) (rt : RTm M N) (l1 l2 : Int) : ∀ (n : Nat) (l4 : Int), 0 ≤ l4 → l4 ≤ N 0 0 17 → N 0 0 17 - l4 < (n : Int) → J2 (fX2_isRaceWon_29 fu n M l1 l2 (N 0 0 1 * N 0 0 2 - 1) l4) (fX12_isOver_5 fu n N l1 l2 0 l4) (fun v M1 w N1 => M1 = M ∧ N1 = N ∧ v = w ∧ (v = 0 ∨ v = 1)) := by
  intro n
  induction n with
  | zero => intro l4 _ _ hm; exfalso; omega
  | succ n ih =>
    intro l4 h0 h1 hm
    show J2 (gX2_isRaceWon_29 fu (fX2_isRaceWon_29 fu n) M l1 l2 (N 0 0 1 * N 0 0 2 - 1) l4) (gX12_isOver_5 fu (fX12_isOver_5 fu n) N l1 l2 0 l4) _
    unfold gX2_isRaceWon_29 gX12_isOver_5
    have b17 : 0 ≤ N 0 0 17 ∧ N 0 0 17 ≤ 6 := iN 0 0 17
    have bs : 2 ≤ N 0 0 1 ∧ N 0 0 1 ≤ 5 := iN 0 0 1
    have bn : 1 ≤ N 0 0 2 ∧ N 0 0 2 ≤ 12 := iN 0 0 2
    have w1 : jm_w (l4 + 1) = l4 + 1 := jm_wid (by omega) (by omega)
    obtain ⟨-, p2, p3, p4⟩ := line_last bs bn
    by_cases c : N 0 0 17 ≤ l4
    · exact J2.lT (by omega) (J2.rT c (J2.rT (Or.inl rfl) (J2.ret ⟨rfl, rfl, rfl, Or.inl rfl⟩)))
    · have nx := ih (l4 + 1) (by omega) (by omega) (by omega)
      have w2 : jm_w (jm_w (jm_w (60 * l4) + jm_w (N 0 0 1 * N 0 0 2)) - 1) = 60 * l4 + (N 0 0 1 * N 0 0 2 - 1) := by
        rw [p2, jm_wid (x := 60 * l4) (by omega) (by omega), jm_wid (x := 60 * l4 + N 0 0 1 * N 0 0 2) (by omega) (by omega), jm_wid (by omega) (by omega)]
        omega
      rw [w2]
      refine J2.lF (by omega) (J2.lF (by omega) (J2.lT ⟨h0, by omega⟩ (J2.rF c (J2.rT ⟨by omega, by omega⟩ (J2.re (J2.rT rfl ?_))))))
      refine J2.lq (c_timeAt rt ⟨h0, by omega⟩ ⟨by omega, by omega⟩) (fun v5 z5 => ?_)
      obtain ⟨z5, z6⟩ := z5
      rw [← z5]
      by_cases s1 : l4 = l1
      · exact J2.lT s1 (J2.rT s1 (J2.le' w1 (J2.re' w1 nx)))
      · refine J2.lF s1 (J2.rF s1 ?_)
        by_cases s2 : v5 = -1
        · exact J2.lT s2 (J2.rT (by omega) (J2.le' w1 (J2.re' w1 nx)))
        · refine J2.lF s2 (J2.rF (by omega) ?_)
          by_cases s3 : l2 < v5
          · exact J2.lT s3 (J2.rT s3 (J2.le' w1 (J2.re' w1 nx)))
          · refine J2.lF s3 (J2.rF s3 (J2.re' w1 ?_))
            exact J2.of (wp_ret (wp_mono (d_over1 fu N iN l1 l2 n (l4 + 1) (by omega) (by omega) (by omega)) (fun w N1 q => ⟨rfl, q.1, q.2.symm, Or.inr rfl⟩)))
theorem j_over (fu : Nat) (hfu : 4000 ≤ fu) (M N : jm_M) (iN : bI bx2 N) (e0 : M 1 0 0 = N 0 0 1) (e1 : M 1 0 1 = N 0 0 2) (e5 : M 2 0 5 = N 0 0 17) (rt : RTm M N) (l1 l2 : Int) : J2 (fX2_isRaceWon fu M l1 l2) (fX12_isOver fu N l1 l2) (fun v M1 w N1 => M1 = M ∧ N1 = N ∧ v = w ∧ (v = 0 ∨ v = 1)) := by
  have b17 : 0 ≤ N 0 0 17 ∧ N 0 0 17 ≤ 6 := iN 0 0 17
  obtain ⟨p1, -⟩ := line_last (s := N 0 0 1) (n := N 0 0 2) (iN 0 0 1) (iN 0 0 2)
  unfold fX2_isRaceWon
  have lo : wp (fX9_lineOf M (jm_w (M 1 0 1 - 1)) (jm_w (M 1 0 0 - 1))) (fun v M1 => M1 = M ∧ v = N 0 0 1 * N 0 0 2 - 1) := by
    unfold fX9_lineOf
    exact wp_ret ⟨rfl, by rw [e0, e1]; exact p1⟩
  refine J2.lq lo (fun v3 z3 => ?_)
  rw [z3]
  exact j_over_l fu M N iN e5 rt l1 l2 fu 0 (by omega) (by omega) (by omega)
/-! in front -/
theorem d_front0 (fu : Nat) (N : jm_M) (iN : bI bx2 N) (l1 : Int) : ∀ (n : Nat) (l3 : Int), 0 ≤ l3 → l3 ≤ N 0 0 17 → N 0 0 17 - l3 < (n : Int) → wp (fX12_isFront_4 fu n N l1 0 l3) (fun w N1 => N1 = N ∧ w = 0) := by
  intro n
  induction n with
  | zero => intro l3 _ _ hm; exfalso; omega
  | succ n ih =>
    intro l3 h0 h1 hm
    show wp (gX12_isFront_4 fu (fX12_isFront_4 fu n) N l1 0 l3) _
    unfold gX12_isFront_4
    have b17 : 0 ≤ N 0 0 17 ∧ N 0 0 17 ≤ 6 := iN 0 0 17
    have w1 : jm_w (l3 + 1) = l3 + 1 := jm_wid (by omega) (by omega)
    refine wp_ite (fun c => wp_T (Or.inl rfl) (wp_ret ⟨rfl, rfl⟩)) (fun c => wp_T rfl ?_)
    refine wp_e (jm_w_in _) (fun v e _ => ?_)
    rw [e, w1]
    exact ih _ (by omega) (by omega) (by omega)
def slowT (x l : Int) : Int := if x = 0 then jm_div (jm_w (l * 120)) 100 else jm_div (jm_w (l * 150)) 100
theorem c_slow0 (fu : Nat) (M : jm_M) (l1 l2 : Int) (hc : 0 ≤ M 2 0 5 ∧ M 2 0 5 ≤ 6) (h1 : 0 ≤ l1 ∧ l1 < 6) (h2 : 0 ≤ l2 ∧ l2 < 5) : ∀ (n : Nat) (l4 : Int), 0 ≤ l4 → l4 ≤ M 2 0 5 → M 2 0 5 - l4 < (n : Int) → wp (fX2_slowTime_5 fu n M l1 l2 0 l4) (fun v M1 => M1 = M ∧ v = slowT 0 (M 14 0 l2)) := by
  intro n
  induction n with
  | zero => intro l4 _ _ hm; exfalso; omega
  | succ n ih =>
    intro l4 h0 hl hm
    show wp (gX2_slowTime_5 fu (fX2_slowTime_5 fu n) M l1 l2 0 l4) _
    unfold gX2_slowTime_5
    have w1 : jm_w (l4 + 1) = l4 + 1 := jm_wid (by omega) (by omega)
    by_cases c : M 2 0 5 ≤ l4
    · refine wp_T c ?_
      unfold gX2_slowTime_70
      exact wp_T h2 (wp_T rfl (wp_ret ⟨rfl, rfl⟩))
    · have nx := ih (l4 + 1) (by omega) (by omega) (by omega)
      have go : wp (jm_e (jm_w (l4 + 1)) fun v5 => fX2_slowTime_5 fu n M l1 l2 0 v5) (fun v M1 => M1 = M ∧ v = slowT 0 (M 14 0 l2)) := wp_e (jm_w_in _) (fun v e _ => by rw [e, w1]; exact nx)
      refine wp_F c (wp_F (by omega) ?_)
      refine wp_ite (fun _ => go) (fun _ => wp_T ⟨h0, by omega⟩ ?_)
      refine wp_ite (fun _ => wp_T ⟨h0, by omega⟩ (wp_T h1 ?_)) (fun _ => go)
      exact wp_ite (fun _ => go) (fun _ => go)
theorem j_front_l (fu : Nat) (M N : jm_M) (iN : bI bx2 N) (e5 : M 2 0 5 = N 0 0 17) (rs : ∀ c : Int, 0 ≤ c → c < N 0 0 17 → M 9 c 1 = N 42 0 c ∧ M 9 c 3 = N 39 0 c) (l1 l2 : Int) (hl1 : 0 ≤ l1 ∧ l1 < N 0 0 17) (h2 : 0 ≤ l2 ∧ l2 < 5) : ∀ (n : Nat) (l4 : Int), 0 ≤ l4 → l4 ≤ N 0 0 17 → N 0 0 17 - l4 < (n : Int) → J2 (fX2_slowTime_5 fu n M l1 l2 1 l4) (fX12_isFront_4 fu n N l1 1 l4) (fun v M1 w N1 => M1 = M ∧ N1 = N ∧ v = slowT w (M 14 0 l2) ∧ (w = 0 ∨ w = 1)) := by
  intro n
  induction n with
  | zero => intro l4 _ _ hm; exfalso; omega
  | succ n ih =>
    intro l4 h0 h1 hm
    show J2 (gX2_slowTime_5 fu (fX2_slowTime_5 fu n) M l1 l2 1 l4) (gX12_isFront_4 fu (fX12_isFront_4 fu n) N l1 1 l4) _
    unfold gX2_slowTime_5 gX12_isFront_4
    have b17 : 0 ≤ N 0 0 17 ∧ N 0 0 17 ≤ 6 := iN 0 0 17
    have w1 : jm_w (l4 + 1) = l4 + 1 := jm_wid (by omega) (by omega)
    by_cases c : N 0 0 17 ≤ l4
    · refine J2.lT (by omega) (J2.rT c (J2.rT (Or.inr rfl) ?_))
      unfold gX2_slowTime_70
      exact J2.lT h2 (J2.lF (by decide) (J2.ret ⟨rfl, rfl, rfl, Or.inr rfl⟩))
    · have nx := ih (l4 + 1) (by omega) (by omega) (by omega)
      obtain ⟨a1, a3⟩ := rs l4 h0 (by omega)
      obtain ⟨c1, c3⟩ := rs l1 hl1.1 hl1.2
      refine J2.lF (by omega) (J2.lF (by omega) (J2.rF c (J2.rF (by decide) ?_)))
      by_cases s1 : l4 = l1
      · exact J2.lT s1 (J2.rT s1 (J2.le' w1 (J2.re' w1 nx)))
      · refine J2.lF s1 (J2.lT ⟨h0, by omega⟩ (J2.rF s1 ?_))
        refine J2.rq (d_goesOn N l4 ⟨h0, by omega⟩) (fun v9 z9 => ?_)
        rcases z9 with ⟨z, rfl⟩ | ⟨z, rfl⟩
        · refine J2.lT (by omega) (J2.lT ⟨h0, by omega⟩ (J2.lT ⟨by omega, by omega⟩ (J2.rF (by decide) (J2.rT ⟨h0, by omega⟩ (J2.rT ⟨by omega, by omega⟩ ?_)))))
          by_cases s2 : N 42 0 l1 ≤ N 42 0 l4
          · refine J2.rT s2 (J2.lF (by omega) (J2.le' w1 (J2.re' w1 ?_)))
            exact J2.of (wp_mono (c_slow0 fu M l1 l2 (by omega) ⟨by omega, by omega⟩ h2 n (l4 + 1) (by omega) (by omega) (by omega)) (fun v M1 q => wp_mono (d_front0 fu N iN l1 n (l4 + 1) (by omega) (by omega) (by omega)) (fun w N1 q2 => ⟨q.1, q2.1, by rw [q.2, q2.2], Or.inl q2.2⟩)))
          · exact J2.rF s2 (J2.lT (by omega) (J2.le' w1 (J2.re' w1 nx)))
        · exact J2.lF (by omega) (J2.rT rfl (J2.le' w1 (J2.re' w1 nx)))
theorem j_front (fu : Nat) (hfu : 4000 ≤ fu) (M N : jm_M) (iN : bI bx2 N) (e5 : M 2 0 5 = N 0 0 17) (rs : ∀ c : Int, 0 ≤ c → c < N 0 0 17 → M 9 c 1 = N 42 0 c ∧ M 9 c 3 = N 39 0 c) (l1 l2 : Int) (hl1 : 0 ≤ l1 ∧ l1 < N 0 0 17) (h2 : 0 ≤ l2 ∧ l2 < 5) : J2 (fX2_slowTime fu M l1 l2) (fX12_isFront fu N l1) (fun v M1 w N1 => M1 = M ∧ N1 = N ∧ v = slowT w (M 14 0 l2) ∧ (w = 0 ∨ w = 1)) := by
  have b17 : 0 ≤ N 0 0 17 ∧ N 0 0 17 ≤ 6 := iN 0 0 17
  exact j_front_l fu M N iN e5 rs l1 l2 hl1 h2 fu 0 (by omega) (by omega) (by omega)
