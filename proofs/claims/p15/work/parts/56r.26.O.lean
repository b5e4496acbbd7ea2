/-! bounds -/
def WETB (N : jm_M) : Prop := ∀ j : Int, 0 ≤ j → j < N 0 0 8 → 0 ≤ N 8 0 j ∧ N 8 0 j ≤ 100
theorem b_wet_l (fu : Nat) (N : jm_M) (iN : bI bx2 N) (hw : WETB N) (l1 l2 : Int) : ∀ (n : Nat) (b l4 : Int), 0 ≤ l4 → l4 ≤ N 0 0 8 → (b = -1 ∨ (0 ≤ b ∧ b < l4)) → N 0 0 8 - l4 < (n : Int) → wp (fX12_wet_5 fu n N l1 l2 b l4) (fun r N1 => N1 = N ∧ 0 ≤ r ∧ r ≤ 100) := by
  intro n
  induction n with
  | zero => intro b l4 _ _ _ hm; exfalso; omega
  | succ n ih =>
    intro b l4 h0 h1 hb hm
    show wp (gX12_wet_5 fu (fX12_wet_5 fu n) N l1 l2 b l4) _
    unfold gX12_wet_5
    have b8 : 0 ≤ N 0 0 8 ∧ N 0 0 8 ≤ 30 := iN 0 0 8
    have w1 : jm_w (l4 + 1) = l4 + 1 := jm_wid (by omega) (by omega)
    rw [w1]
    refine wp_ite (fun c => ?_) (fun c => wp_T ⟨h0, by omega⟩ ?_)
    · refine wp_ite (fun q => wp_T ⟨q, by omega⟩ (wp_ret ⟨rfl, hw b q (by omega)⟩)) (fun q => wp_ret ⟨rfl, by decide, by decide⟩)
    · have kp : wp (jm_e (l4 + 1) fun v => fX12_wet_5 fu n N l1 l2 b v) (fun r N1 => N1 = N ∧ 0 ≤ r ∧ r ≤ 100) := ih b (l4 + 1) (by omega) (by omega) (by omega) (by omega)
      have tk : wp (jm_e (l4 + 1) fun v => fX12_wet_5 fu n N l1 l2 l4 v) (fun r N1 => N1 = N ∧ 0 ≤ r ∧ r ≤ 100) := ih l4 (l4 + 1) (by omega) (by omega) (by omega) (by omega)
      refine wp_ite (fun _ => wp_T ⟨h0, by omega⟩ ?_) (fun _ => kp)
      refine wp_ite (fun _ => kp) (fun _ => wp_ite (fun _ => tk) (fun q => wp_T ⟨h0, by omega⟩ (wp_T ⟨by omega, by omega⟩ ?_)))
      exact wp_ite (fun _ => kp) (fun _ => tk)
theorem b_wet (fu : Nat) (hfu : 4000 ≤ fu) (N : jm_M) (iN : bI bx2 N) (hw : WETB N) (l1 l2 : Int) : wp (fX12_wet fu N l1 l2) (fun r N1 => N1 = N ∧ 0 ≤ r ∧ r ≤ 100) := by
  have b8 : 0 ≤ N 0 0 8 ∧ N 0 0 8 ≤ 30 := iN 0 0 8
  exact b_wet_l fu N iN hw l1 l2 fu (-1) 0 (by omega) (by omega) (Or.inl rfl) (by omega)
theorem b_free (fu : Nat) (hfu : 4000 ≤ fu) (N : jm_M) (iN : bI bx2 N) (lim : LIM N) (hw : WETB N) (c l3 l4 : Int) (hc : 0 ≤ c ∧ c < N 0 0 17) (h3 : 0 ≤ l3 ∧ l3 < 5) (hon : 0 ≤ N 45 0 c ∧ N 45 0 c < N 19 0 c) (ha : 0 ≤ N 46 0 (4 * c + N 45 0 c) ∧ N 46 0 (4 * c + N 45 0 c) ≤ 830) (hf : 0 ≤ N 44 0 c ∧ N 44 0 c ≤ 200) (hm : -1 ≤ N 47 0 c ∧ N 47 0 c ≤ 1) : wp (fX12_takes fu N c l3 l4 0) (fun v N1 => N1 = N ∧ 1000 ≤ v ∧ v ≤ 180000) := by
  obtain ⟨⟨-, -, a1, a2, a3, a4, -⟩, b1, b2, b3⟩ := lim
  obtain ⟨⟨d1, d2, -⟩, -⟩ := b3 c hc.1 hc.2
  obtain ⟨e1, e2, -⟩ := b2 l3 h3.1 h3.2
  have b17 : 0 ≤ N 0 0 17 ∧ N 0 0 17 ≤ 6 := iN 0 0 17
  have b19 : 0 ≤ N 19 0 c ∧ N 19 0 c ≤ 4 := iN 19 0 c
  have bk : 0 ≤ N 20 0 (4 * c + N 45 0 c) ∧ N 20 0 (4 * c + N 45 0 c) ≤ 3 := iN 20 0 _
  have w4 : jm_w (jm_w (4 * c) + N 45 0 c) = 4 * c + N 45 0 c := by rw [jm_wid (x := 4 * c) (by omega) (by omega)]; exact jm_wid (by omega) (by omega)
  have hc6 : 0 ≤ c ∧ c < 6 := ⟨hc.1, by omega⟩
  have h24 : 0 ≤ 4 * c + N 45 0 c ∧ 4 * c + N 45 0 c < 24 := ⟨by omega, by omega⟩
  unfold fX12_takes
  rw [w4]
  refine wp_T rfl (wp_T hc6 (wp_e (jm_inL (by omega) (by omega)) (fun v4 ev4 _ => ?_)))
  rw [ev4]
  refine wp_T h24 ?_
  generalize hk : N 20 0 (4 * c + N 45 0 c) = k at *
  obtain ⟨f0, f1, f2, f3, f4, f5, f6, f7, f8, f9, f10, f11⟩ := b1 k bk.1 (by omega)
  have u0 : jm_w (6 * k) = 6 * k := jm_wid (by omega) (by omega)
  have u1 : jm_w (6 * k + 1) = 6 * k + 1 := jm_wid (by omega) (by omega)
  have u2 : jm_w (6 * k + 2) = 6 * k + 2 := jm_wid (by omega) (by omega)
  have u3 : jm_w (6 * k + 3) = 6 * k + 3 := jm_wid (by omega) (by omega)
  have u4 : jm_w (6 * k + 4) = 6 * k + 4 := jm_wid (by omega) (by omega)
  have u5 : jm_w (6 * k + 5) = 6 * k + 5 := jm_wid (by omega) (by omega)
  have p1 := jm_mulb (C := 10000) a1 a2 hf.1 hf.2 rfl
  have p2 := jm_mulb (C := 83000) f2 f3 ha.1 ha.2 rfl
  rw [u0]
  refine wp_e (jm_inL (by omega) (by omega)) (fun v8 ev8 _ => ?_)
  rw [ev8, u1, u2, u3]
  refine wp_T h3 (wp_T hc6 (wp_T (by decide) (wp_T hc6 (wp_T ⟨by omega, by omega⟩ (wp_T ⟨by omega, by omega⟩ (wp_T h24 ?_))))))
  have y0 : jm_w (jm_w (jm_w (jm_w (N 1 0 l3 + N 13 0 c) + jm_w (N 5 0 1 * N 44 0 c)) + N 4 0 (6 * k)) + jm_w (N 4 0 (6 * k + 1) * N 46 0 (4 * c + N 45 0 c))) = N 1 0 l3 + N 13 0 c + N 5 0 1 * N 44 0 c + N 4 0 (6 * k) + N 4 0 (6 * k + 1) * N 46 0 (4 * c + N 45 0 c) := by
    rw [jm_wid (x := N 5 0 1 * N 44 0 c) (by omega) (by omega), jm_wid (x := N 4 0 (6 * k + 1) * N 46 0 (4 * c + N 45 0 c)) (by omega) (by omega), jm_wid (x := N 1 0 l3 + N 13 0 c) (by omega) (by omega), jm_wid (x := N 1 0 l3 + N 13 0 c + N 5 0 1 * N 44 0 c) (by omega) (by omega), jm_wid (x := N 1 0 l3 + N 13 0 c + N 5 0 1 * N 44 0 c + N 4 0 (6 * k)) (by omega) (by omega)]
    exact jm_wid (by omega) (by omega)
  rw [y0]
  generalize hy : N 1 0 l3 + N 13 0 c + N 5 0 1 * N 44 0 c + N 4 0 (6 * k) + N 4 0 (6 * k + 1) * N 46 0 (4 * c + N 45 0 c) = y
  have yb : 3000 ≤ y ∧ y ≤ 158000 := by omega
  refine wp_e (jm_inL (by omega) (by omega)) (fun v24 ev24 _ => wp_T h24 (wp_T ⟨by omega, by omega⟩ ?_))
  rw [ev24]
  have tl : ∀ fl : Int, 0 ≤ fl → fl ≤ 5000 → wp (gX12_takes_145 fu N c l3 l4 (6 * k) fl y) (fun v N1 => N1 = N ∧ 1000 ≤ v ∧ v ≤ 180000) := fun fl g0 g1 => by
    unfold gX12_takes_145
    rw [u4, u5]
    refine wp_e (jm_w_in _) (fun v1 ev1 _ => wp_T ⟨by omega, by omega⟩ ?_)
    rw [ev1, jm_wid (x := y + fl) (by omega) (by omega)]
    refine wp_bp (b_wet fu hfu N iN hw l3 l4) (fun v5 z5 => wp_T ⟨by omega, by omega⟩ (wp_T (by decide) (wp_T hc6 (wp_e (jm_w_in _) (fun v14 ev14 _ => wp_ret ⟨rfl, ?_⟩)))))
    have ab : 0 ≤ jm_abs (jm_w (v5 - N 4 0 (6 * k + 4))) ∧ jm_abs (jm_w (v5 - N 4 0 (6 * k + 4))) ≤ 100 := by
      rw [jm_wid (x := v5 - N 4 0 (6 * k + 4)) (by omega) (by omega)]
      unfold jm_abs
      split
      · omega
      · rw [jm_wid (by omega) (by omega)]
        omega
    have p3 := jm_mulb (C := 10000) f10 f11 ab.1 ab.2 rfl
    have p4 : -500 ≤ N 5 0 2 * N 47 0 c ∧ N 5 0 2 * N 47 0 c ≤ 500 := by
      have : N 47 0 c = -1 ∨ N 47 0 c = 0 ∨ N 47 0 c = 1 := by omega
      rcases this with q | q | q
      · rw [q]; omega
      · rw [q]; omega
      · rw [q]; omega
    have mx := jm_max_f 1000 v14
    rw [ev14, jm_wid (x := N 4 0 (6 * k + 5) * jm_abs (jm_w (v5 - N 4 0 (6 * k + 4)))) (by omega) (by omega), jm_wid (x := N 5 0 2 * N 47 0 c) (by omega) (by omega), jm_wid (x := N 4 0 (6 * k + 5) * jm_abs (jm_w (v5 - N 4 0 (6 * k + 4))) + N 5 0 2 * N 47 0 c) (by omega) (by omega), jm_wid (x := y + fl + (N 4 0 (6 * k + 5) * jm_abs (jm_w (v5 - N 4 0 (6 * k + 4))) + N 5 0 2 * N 47 0 c)) (by omega) (by omega)]
    have mx2 := jm_max_f 1000 (y + fl + (N 4 0 (6 * k + 5) * jm_abs (jm_w (v5 - N 4 0 (6 * k + 4))) + N 5 0 2 * N 47 0 c))
    exact ⟨by omega, by omega⟩
  refine wp_ite (fun _ => tl 0 (by decide) (by decide)) (fun _ => wp_T ⟨by omega, by omega⟩ (tl _ f6 f7))
theorem b_slowT (fu : Nat) (hfu : 4000 ≤ fu) (N : jm_M) (iN : bI bx2 N) (lim : LIM N) (c l3 l4 : Int) (hc : 0 ≤ c ∧ c < N 0 0 17) (h3 : 0 ≤ l3 ∧ l3 < 5) : wp (fX12_takes fu N c l3 l4 1) (fun v N1 => N1 = N ∧ 1000 ≤ v ∧ v ≤ 180000) := by
  obtain ⟨e1, e2, -⟩ := lim.2.2.1 l3 h3.1 h3.2
  have b17 : 0 ≤ N 0 0 17 ∧ N 0 0 17 ≤ 6 := iN 0 0 17
  have dv : ∀ m : Int, 100 ≤ m → m ≤ 150 → (m = 120 ∨ m = 150) → 1000 ≤ jm_div (jm_w (N 1 0 l3 * m)) 100 ∧ jm_div (jm_w (N 1 0 l3 * m)) 100 ≤ 180000 := fun m _ _ hm => by
    rcases hm with rfl | rfl
    · rw [jm_wid (x := N 1 0 l3 * 120) (by omega) (by omega)]
      unfold jm_div
      have e : (N 1 0 l3 * 120).tdiv 100 = (N 1 0 l3 * 120) / 100 := Int.tdiv_eq_ediv_of_nonneg (by omega)
      rw [e, jm_wid (by omega) (by omega)]
      omega
    · rw [jm_wid (x := N 1 0 l3 * 150) (by omega) (by omega)]
      unfold jm_div
      have e : (N 1 0 l3 * 150).tdiv 100 = (N 1 0 l3 * 150) / 100 := Int.tdiv_eq_ediv_of_nonneg (by omega)
      rw [e, jm_wid (by omega) (by omega)]
      omega
  unfold fX12_takes
  refine wp_F (by decide) (wp_T h3 ?_)
  refine wp_bp (wp_mono (s_fX12_isFront fu hfu N iN c ⟨hc.1, by omega⟩) (fun r N1 q => ⟨q.1, trivial⟩)) (fun v _ => ?_)
  exact wp_ite (fun _ => wp_ret ⟨rfl, dv 120 (by decide) (by decide) (Or.inl rfl)⟩) (fun _ => wp_ret ⟨rfl, dv 150 (by decide) (by decide) (Or.inr rfl)⟩)
