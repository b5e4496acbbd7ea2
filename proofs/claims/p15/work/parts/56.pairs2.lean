/-! the pairs that are left -/
theorem zs_set : jm_z 1 0 = 100 ∧ jm_z 2 0 = 2000 ∧ jm_z 1 1 = 0 ∧ jm_z 2 1 = 50 ∧ jm_z 1 2 = 0 ∧ jm_z 2 2 = 500 ∧ jm_z 1 3 = 0 ∧ jm_z 2 3 = 60000 ∧ jm_z 1 4 = 0 ∧ jm_z 2 4 = 20000 ∧ jm_z 1 5 = 0 ∧ jm_z 2 5 = 200 ∧ jm_z 1 6 = 0 ∧ jm_z 2 6 = 2000 ∧ jm_z 1 7 = 0 ∧ jm_z 2 7 = 9 := by decide +kernel
theorem zs_tyres : jm_z 4 0 = 3000 ∧ jm_z 4 1 = 100 ∧ jm_z 4 2 = 200 ∧ jm_z 4 3 = 5000 ∧ jm_z 4 4 = 100 ∧ jm_z 4 5 = 100 := by decide +kernel
theorem zc_set (l1 l2 : Int) : (0 ≤ l1 ∧ l1 < 8 ∧ jm_z 1 l1 ≤ l2 ∧ l2 ≤ jm_z 2 l1) ↔ ((l1 = 0 ∧ 100 ≤ l2 ∧ l2 ≤ 2000) ∨ (l1 = 1 ∧ 0 ≤ l2 ∧ l2 ≤ 50) ∨ (l1 = 2 ∧ 0 ≤ l2 ∧ l2 ≤ 500) ∨ (l1 = 3 ∧ 0 ≤ l2 ∧ l2 ≤ 60000) ∨ (l1 = 4 ∧ 0 ≤ l2 ∧ l2 ≤ 20000) ∨ (l1 = 5 ∧ 0 ≤ l2 ∧ l2 ≤ 200) ∨ (l1 = 6 ∧ 0 ≤ l2 ∧ l2 ≤ 2000) ∨ (l1 = 7 ∧ 0 ≤ l2 ∧ l2 ≤ 9)) := by
  obtain ⟨a0, b0, a1, b1, a2, b2, a3, b3, a4, b4, a5, b5, a6, b6, a7, b7⟩ := zs_set
  by_cases h : 0 ≤ l1 ∧ l1 < 8
  · have : l1 = 0 ∨ l1 = 1 ∨ l1 = 2 ∨ l1 = 3 ∨ l1 = 4 ∨ l1 = 5 ∨ l1 = 6 ∨ l1 = 7 := by omega
    rcases this with rfl | rfl | rfl | rfl | rfl | rfl | rfl | rfl
    · rw [a0, b0]; omega
    · rw [a1, b1]; omega
    · rw [a2, b2]; omega
    · rw [a3, b3]; omega
    · rw [a4, b4]; omega
    · rw [a5, b5]; omega
    · rw [a6, b6]; omega
    · rw [a7, b7]; omega
  · constructor
    · intro q; exact absurd ⟨q.1, q.2.1⟩ h
    · intro q; exfalso; omega
theorem zc_tyres (l1 l2 l3 : Int) : (0 ≤ l1 ∧ l1 < 4 ∧ 0 ≤ l2 ∧ l2 < 6 ∧ 0 ≤ l3 ∧ l3 ≤ jm_z 4 l2) ↔ (0 ≤ l1 ∧ l1 < 4 ∧ 0 ≤ l3 ∧ ((l2 = 0 ∧ l3 ≤ 3000) ∨ (l2 = 1 ∧ l3 ≤ 100) ∨ (l2 = 2 ∧ l3 ≤ 200) ∨ (l2 = 3 ∧ l3 ≤ 5000) ∨ (l2 = 4 ∧ l3 ≤ 100) ∨ (l2 = 5 ∧ l3 ≤ 100))) := by
  obtain ⟨a0, a1, a2, a3, a4, a5⟩ := zs_tyres
  by_cases h : 0 ≤ l2 ∧ l2 < 6
  · have : l2 = 0 ∨ l2 = 1 ∨ l2 = 2 ∨ l2 = 3 ∨ l2 = 4 ∨ l2 = 5 := by omega
    rcases this with rfl | rfl | rfl | rfl | rfl | rfl
    · rw [a0]; omega
    · rw [a1]; omega
    · rw [a2]; omega
    · rw [a3]; omega
    · rw [a4]; omega
    · rw [a5]; omega
  · constructor
    · intro q; exact absurd ⟨q.2.2.1, q.2.2.2.1⟩ h
    · intro q; exfalso; omega
theorem p_set (fu : Nat) (hfu : 4000 ≤ fu) (M N : jm_M) (h : IV M N) (l1 l2 : Int) (h1 : jm_in l1) (h2 : jm_in l2) : P2 (fX11_set M l1 l2) (fX12_set fu N l1 l2) True :=
  P2.of (s_fX11_set M h.1 l1 l2 h1 h2) (s_fX12_set fu hfu N h.2.1 l1 l2 h1 h2) (fun r M1 s N1 a b => by
    obtain ⟨i1, k1, -, a⟩ := a
    obtain ⟨i2, k2, -, b⟩ := b
    skip
    have zc := zc_set l1 l2
    have g : 0 ≤ l1 → l1 < 8 → M 18 0 l1 = N 5 0 l1 := h.2.2.2.2.2.2.1 l1
    have eqx : 0 ≤ l1 → l1 < 8 → M1 18 0 l1 = N1 5 0 l1 := fun y1 y2 => by
      have g := g y1 y2
      rcases a with ⟨c1, ra, ma⟩ | ⟨c1, ra, ma⟩ <;> rcases b with ⟨c2, rb, mb⟩ | ⟨c2, rb, mb⟩
      · rw [ma, mb]
      · exact absurd (zc.1 c1) c2
      · exact absurd (zc.2 c2) c1
      · rw [ma, mb]; exact g
    have es : r = s := by
      rcases a with ⟨c1, ra, ma⟩ | ⟨c1, ra, ma⟩ <;> rcases b with ⟨c2, rb, mb⟩ | ⟨c2, rb, mb⟩
      · rw [ra, rb]
        exact g (by omega) (by omega)
      · exact absurd (zc.1 c1) c2
      · exact absurd (zc.2 c2) c1
      · rw [ra, rb]
    have eq : ∀ k : Int, 0 ≤ k → k < 8 → M1 18 0 k = N1 5 0 k := fun k y1 y2 => by
      by_cases q : k = l1
      · rw [q] at y1 y2 ⊢
        exact eqx y1 y2
      · rw [k1 18 0 k ⟨by unfold RC1; omega, fun z => q z.2⟩, k2 5 0 k ⟨by unfold RC2; omega, fun z => q z.2⟩]
        exact h.2.2.2.2.2.2.1 k y1 y2
    exact ⟨⟨i1, i2, h.2.2.1.kp k2 (fun k => by unfold TM2 RC2; omega), ⟨⟨by rw [k1 1 0 0 (by unfold TN1 RC1; omega), k2 0 0 1 (by unfold TM2 RC2; omega)]; exact h.2.2.2.1.1, by rw [k1 1 0 1 (by unfold TN1 RC1; omega), k2 0 0 2 (by unfold TM2 RC2; omega)]; exact h.2.2.2.1.2.1, by rw [k1 2 0 5 (by unfold TN1 RC1; omega), k2 0 0 17 (by unfold TM2 RC2; omega)]; exact h.2.2.2.1.2.2.1, by rw [k1 10 30 3 (by unfold TN1 RC1; omega), k2 0 0 8 (by unfold TM2 RC2; omega)]; exact h.2.2.2.1.2.2.2.1, by rw [k1 10 31 3 (by unfold TN1 RC1; omega), k2 0 0 12 (by unfold TM2 RC2; omega)]; exact h.2.2.2.1.2.2.2.2.1, by rw [k1 10 32 3 (by unfold TN1 RC1; omega), k2 0 0 75 (by unfold TM2 RC2; omega)]; exact h.2.2.2.1.2.2.2.2.2.1, by rw [k1 0 0 7 (by unfold TN1 RC1; omega), k2 0 0 40 (by unfold TM2 RC2; omega)]; exact h.2.2.2.1.2.2.2.2.2.2⟩, fun c y1 y2 => by
      rw [k2 0 0 17 (by unfold TM2 RC2; omega)] at y2
      have b17 : 0 ≤ N 0 0 17 ∧ N 0 0 17 ≤ 6 := h.2.1 0 0 17
      rw [k1 10 c 3 (by unfold TN1 RC1; omega), k1 10 (c + 6) 3 (by unfold TN1 RC1; omega), k1 10 (c + 12) 3 (by unfold TN1 RC1; omega), k1 10 (c + 18) 3 (by unfold TN1 RC1; omega), k2 19 0 c (by unfold TM2 RC2; omega), k2 22 0 c (by unfold TM2 RC2; omega), k2 26 0 c (by unfold TM2 RC2; omega), k2 31 0 c (by unfold TM2 RC2; omega)]
      exact h.2.2.2.2.1 c y1 y2, fun c y1 y2 => by rw [k2 31 0 c (by unfold TM2 RC2; omega)]; exact h.2.2.2.2.2.1 c (by rw [← k2 0 0 17 (by unfold TM2 RC2; omega)]; exact y1) y2, eq, fun k y1 y2 => by rw [k1 17 0 k (by unfold TN1 RC1; omega), k2 4 0 k (by unfold TM2 RC2; omega)]; exact h.2.2.2.2.2.2.2 k y1 y2⟩⟩, fun _ => es⟩)
theorem p_tyres (M N : jm_M) (h : IV M N) (l1 l2 l3 : Int) (h1 : jm_in l1) (h2 : jm_in l2) (h3 : jm_in l3) : P2 (fX11_tyres M l1 l2 l3) (fX12_tyres N l1 l2 l3) True :=
  P2.of (s_fX11_tyres M h.1 l1 l2 l3 h1 h2 h3) (s_fX12_tyres N h.2.1 l1 l2 l3 h1 h2 h3) (fun r M1 s N1 a b => by
    obtain ⟨i1, k1, -, a⟩ := a
    obtain ⟨i2, k2, -, b⟩ := b
    rw [show 6 * l1 = l1 * 6 from Int.mul_comm 6 l1] at b k2
    obtain ⟨ix, hix⟩ : ∃ ix : Int, ix = jm_w ((jm_w (l1 * 6)) + l2) := ⟨_, rfl⟩
    rw [← hix] at a b k1 k2
    have zc := zc_tyres l1 l2 l3
    have g : 0 ≤ ix → ix < 24 → M 17 0 ix = N 4 0 ix := h.2.2.2.2.2.2.2 ix
    have eqx : 0 ≤ ix → ix < 24 → M1 17 0 ix = N1 4 0 ix := fun y1 y2 => by
      have g := g y1 y2
      rcases a with ⟨c1, ra, ma⟩ | ⟨c1, ra, ma⟩ <;> rcases b with ⟨c2, rb, mb⟩ | ⟨c2, rb, mb⟩
      · rw [ma, mb]
      · exact absurd (zc.1 c1) c2
      · exact absurd (zc.2 c2) c1
      · rw [ma, mb]; exact g
    have es : r = s := by
      rcases a with ⟨c1, ra, ma⟩ | ⟨c1, ra, ma⟩ <;> rcases b with ⟨c2, rb, mb⟩ | ⟨c2, rb, mb⟩
      · rw [ra, rb]
        exact g (by rw [hix, jm_wid (x := l1 * 6) (by omega) (by omega), jm_wid (by omega) (by omega)]; omega) (by rw [hix, jm_wid (x := l1 * 6) (by omega) (by omega), jm_wid (by omega) (by omega)]; omega)
      · exact absurd (zc.1 c1) c2
      · exact absurd (zc.2 c2) c1
      · rw [ra, rb]
    have eq : ∀ k : Int, 0 ≤ k → k < 24 → M1 17 0 k = N1 4 0 k := fun k y1 y2 => by
      by_cases q : k = ix
      · rw [q] at y1 y2 ⊢
        exact eqx y1 y2
      · rw [k1 17 0 k ⟨by unfold RC1; omega, fun z => q z.2⟩, k2 4 0 k ⟨by unfold RC2; omega, fun z => q z.2⟩]
        exact h.2.2.2.2.2.2.2 k y1 y2
    exact ⟨⟨i1, i2, h.2.2.1.kp k2 (fun k => by unfold TM2 RC2; omega), ⟨⟨by rw [k1 1 0 0 (by unfold TN1 RC1; omega), k2 0 0 1 (by unfold TM2 RC2; omega)]; exact h.2.2.2.1.1, by rw [k1 1 0 1 (by unfold TN1 RC1; omega), k2 0 0 2 (by unfold TM2 RC2; omega)]; exact h.2.2.2.1.2.1, by rw [k1 2 0 5 (by unfold TN1 RC1; omega), k2 0 0 17 (by unfold TM2 RC2; omega)]; exact h.2.2.2.1.2.2.1, by rw [k1 10 30 3 (by unfold TN1 RC1; omega), k2 0 0 8 (by unfold TM2 RC2; omega)]; exact h.2.2.2.1.2.2.2.1, by rw [k1 10 31 3 (by unfold TN1 RC1; omega), k2 0 0 12 (by unfold TM2 RC2; omega)]; exact h.2.2.2.1.2.2.2.2.1, by rw [k1 10 32 3 (by unfold TN1 RC1; omega), k2 0 0 75 (by unfold TM2 RC2; omega)]; exact h.2.2.2.1.2.2.2.2.2.1, by rw [k1 0 0 7 (by unfold TN1 RC1; omega), k2 0 0 40 (by unfold TM2 RC2; omega)]; exact h.2.2.2.1.2.2.2.2.2.2⟩, fun c y1 y2 => by
      rw [k2 0 0 17 (by unfold TM2 RC2; omega)] at y2
      have b17 : 0 ≤ N 0 0 17 ∧ N 0 0 17 ≤ 6 := h.2.1 0 0 17
      rw [k1 10 c 3 (by unfold TN1 RC1; omega), k1 10 (c + 6) 3 (by unfold TN1 RC1; omega), k1 10 (c + 12) 3 (by unfold TN1 RC1; omega), k1 10 (c + 18) 3 (by unfold TN1 RC1; omega), k2 19 0 c (by unfold TM2 RC2; omega), k2 22 0 c (by unfold TM2 RC2; omega), k2 26 0 c (by unfold TM2 RC2; omega), k2 31 0 c (by unfold TM2 RC2; omega)]
      exact h.2.2.2.2.1 c y1 y2, fun c y1 y2 => by rw [k2 31 0 c (by unfold TM2 RC2; omega)]; exact h.2.2.2.2.2.1 c (by rw [← k2 0 0 17 (by unfold TM2 RC2; omega)]; exact y1) y2, fun k y1 y2 => by rw [k1 18 0 k (by unfold TN1 RC1; omega), k2 5 0 k (by unfold TM2 RC2; omega)]; exact h.2.2.2.2.2.2.1 k y1 y2, eq⟩⟩, fun _ => es⟩)
theorem p_move (fu : Nat) (hfu : 4000 ≤ fu) (M N : jm_M) (h : IV M N) (l1 l2 l3 l4 : Int) (h1 : jm_in l1) (h2 : jm_in l2) (h3 : jm_in l3) (h4 : jm_in l4) : P2 (fX11_move fu M l1 l2 l3 l4) (fX12_move fu N l1 l2 l3 l4) False :=
  P2.of (s_fX11_move fu hfu M h.1 l1 l2 l3 l4 h1 h2 h3 h4) (s_fX12_move fu hfu N h.2.1 l1 l2 l3 l4 h1 h2 h3 h4 h.2.2.1) (fun r M1 s N1 a b => ⟨h.kp a.1 b.1 a.2.1 b.2.1, fun q => absurd q (by decide)⟩)
theorem p_count (fu : Nat) (hfu : 4000 ≤ fu) (M N : jm_M) (h : IV M N) (l1 : Int) (h1 : jm_in l1) : P2 (fX11_count fu M l1) (fX12_count fu N l1) False :=
  P2.of (s_fX11_count fu hfu M h.1 l1 h1) (s_fX12_count fu hfu N h.2.1 l1 h1) (fun r M1 s N1 a b => ⟨h.kp (by rw [a.1]; exact h.1) b.1 (by rw [a.1]; exact Kp.rf) (b.2.1.weak tt_RC2_TA2), fun q => absurd q (by decide)⟩)
theorem p_row (M N : jm_M) (h : IV M N) (l1 : Int) (h1 : jm_in l1) : P2 (fX11_row M l1) (fX12_row N l1) False :=
  P2.of (s_fX11_row M h.1 l1 h1) (s_fX12_row N h.2.1 l1 h1) (fun r M1 s N1 a b => ⟨h.kp (by rw [a.1]; exact h.1) b.1 (by rw [a.1]; exact Kp.rf) (b.2.1.weak tt_RC2_TA2), fun q => absurd q (by decide)⟩)
theorem p_lost (M N : jm_M) (h : IV M N) (l1 l2 : Int) (h1 : jm_in l1) (h2 : 0 ≤ l2 ∧ l2 ≤ 1) : P2 (fX11_lost M l1 l2) (fX12_lost N l1 l2) True :=
  P2.of (s_fX11_lost M h.1 l1 l2 h1 h2) (s_fX12_lost N h.2.1 l1 l2 h1 h2) (fun r M1 s N1 a b => ⟨h.kp a.1 b.1 a.2.1 b.2.1, fun _ => by
    have e := h.2.2.2.1.1
    obtain ⟨-, -, -, -, a⟩ := a
    obtain ⟨-, -, -, -, b⟩ := b
    omega⟩)
theorem p_unplan (fu : Nat) (hfu : 4000 ≤ fu) (M N : jm_M) (h : IV M N) (l1 : Int) (h1 : jm_in l1) : P2 (fX11_unplan M l1) (fX12_unplan fu N l1) False :=
  P2.of (s_fX11_unplan M h.1 l1 h1) (s_fX12_unplan fu hfu N h.2.1 l1 h1) (fun r M1 s N1 a b => by
    obtain ⟨i1, k1, -⟩ := a
    obtain ⟨i2, k2, -, -, b⟩ := b
    have w : WF N1 := by
      obtain ⟨w1, w2⟩ := h.2.2.1
      have e1 : N1 35 0 = N 35 0 := funext fun k => k2 35 0 k (by unfold TM2 RC2; omega)
      have e2 : N1 36 0 = N 36 0 := funext fun k => k2 36 0 k (by unfold TM2 RC2; omega)
      have e4 : N1 0 0 72 = N 0 0 72 := k2 0 0 72 (by unfold TM2 RC2; omega)
      unfold WF
      rw [e1, e2, e4]
      refine ⟨w1, fun c y1 y2 y3 => w2 c y1 y2 ?_⟩
      by_cases q : c = l1
      · rw [q] at y3 ⊢
        omega
      · rw [← k2 30 0 c (by unfold TM2 RC2; omega)]; exact y3
    exact ⟨⟨i1, i2, w, ⟨⟨by rw [k1 1 0 0 (by unfold TU1 RC1; omega), k2 0 0 1 (by unfold TM2 RC2; omega)]; exact h.2.2.2.1.1, by rw [k1 1 0 1 (by unfold TU1 RC1; omega), k2 0 0 2 (by unfold TM2 RC2; omega)]; exact h.2.2.2.1.2.1, by rw [k1 2 0 5 (by unfold TU1 RC1; omega), k2 0 0 17 (by unfold TM2 RC2; omega)]; exact h.2.2.2.1.2.2.1, by rw [k1 10 30 3 (by unfold TU1 RC1; omega), k2 0 0 8 (by unfold TM2 RC2; omega)]; exact h.2.2.2.1.2.2.2.1, by rw [k1 10 31 3 (by unfold TU1 RC1; omega), k2 0 0 12 (by unfold TM2 RC2; omega)]; exact h.2.2.2.1.2.2.2.2.1, by rw [k1 10 32 3 (by unfold TU1 RC1; omega), k2 0 0 75 (by unfold TM2 RC2; omega)]; exact h.2.2.2.1.2.2.2.2.2.1, by rw [k1 0 0 7 (by unfold TU1 RC1; omega), k2 0 0 40 (by unfold TM2 RC2; omega)]; exact h.2.2.2.1.2.2.2.2.2.2⟩, fun c y1 y2 => by
      rw [k2 0 0 17 (by unfold TM2 RC2; omega)] at y2
      have b17 : 0 ≤ N 0 0 17 ∧ N 0 0 17 ≤ 6 := h.2.1 0 0 17
      rw [k1 10 c 3 (by unfold TU1 RC1; omega), k1 10 (c + 6) 3 (by unfold TU1 RC1; omega), k1 10 (c + 12) 3 (by unfold TU1 RC1; omega), k1 10 (c + 18) 3 (by unfold TU1 RC1; omega), k2 19 0 c (by unfold TM2 RC2; omega), k2 22 0 c (by unfold TM2 RC2; omega), k2 26 0 c (by unfold TM2 RC2; omega), k2 31 0 c (by unfold TM2 RC2; omega)]
      exact h.2.2.2.2.1 c y1 y2, fun c y1 y2 => by rw [k2 31 0 c (by unfold TM2 RC2; omega)]; exact h.2.2.2.2.2.1 c (by rw [← k2 0 0 17 (by unfold TM2 RC2; omega)]; exact y1) y2, fun k y1 y2 => by rw [k1 18 0 k (by unfold TU1 RC1; omega), k2 5 0 k (by unfold TM2 RC2; omega)]; exact h.2.2.2.2.2.2.1 k y1 y2, fun k y1 y2 => by rw [k1 17 0 k (by unfold TU1 RC1; omega), k2 4 0 k (by unfold TM2 RC2; omega)]; exact h.2.2.2.2.2.2.2 k y1 y2⟩⟩, fun q => absurd q (by decide)⟩)
theorem p_plan (fu : Nat) (hfu : 4000 ≤ fu) (M N : jm_M) (h : IV M N) (l1 : Int) (h1 : jm_in l1) : P2 (fX11_plan fu M l1) (fX12_plan fu N l1) False :=
  P2.of (s_fX11_plan fu hfu M h.1 l1 h1) (s_fX12_plan fu hfu N h.2.1 h.2.2.1 l1 h1) (fun r M1 s N1 a b => by
    obtain ⟨i1, k1, -, -, k7⟩ := a
    obtain ⟨i2, k2, k40, w, -⟩ := b
    exact ⟨⟨i1, i2, w, ⟨⟨by rw [k1 1 0 0 (by unfold TZ1 RC1; omega), k2 0 0 1 (by unfold TPN; omega)]; exact h.2.2.2.1.1, by rw [k1 1 0 1 (by unfold TZ1 RC1; omega), k2 0 0 2 (by unfold TPN; omega)]; exact h.2.2.2.1.2.1, by rw [k1 2 0 5 (by unfold TZ1 RC1; omega), k2 0 0 17 (by unfold TPN; omega)]; exact h.2.2.2.1.2.2.1, by rw [k1 10 30 3 (by unfold TZ1 RC1; omega), k2 0 0 8 (by unfold TPN; omega)]; exact h.2.2.2.1.2.2.2.1, by rw [k1 10 31 3 (by unfold TZ1 RC1; omega), k2 0 0 12 (by unfold TPN; omega)]; exact h.2.2.2.1.2.2.2.2.1, by rw [k1 10 32 3 (by unfold TZ1 RC1; omega), k2 0 0 75 (by unfold TPN; omega)]; exact h.2.2.2.1.2.2.2.2.2.1, k7.trans k40.symm⟩, fun c y1 y2 => by
      rw [k2 0 0 17 (by unfold TPN; omega)] at y2
      have b17 : 0 ≤ N 0 0 17 ∧ N 0 0 17 ≤ 6 := h.2.1 0 0 17
      rw [k1 10 c 3 (by unfold TZ1 RC1; omega), k1 10 (c + 6) 3 (by unfold TZ1 RC1; omega), k1 10 (c + 12) 3 (by unfold TZ1 RC1; omega), k1 10 (c + 18) 3 (by unfold TZ1 RC1; omega), k2 19 0 c (by unfold TPN; omega), k2 22 0 c (by unfold TPN; omega), k2 26 0 c (by unfold TPN; omega), k2 31 0 c (by unfold TPN; omega)]
      exact h.2.2.2.2.1 c y1 y2, fun c y1 y2 => by rw [k2 31 0 c (by unfold TPN; omega)]; exact h.2.2.2.2.2.1 c (by rw [← k2 0 0 17 (by unfold TPN; omega)]; exact y1) y2, fun k y1 y2 => by rw [k1 18 0 k (by unfold TZ1 RC1; omega), k2 5 0 k (by unfold TPN; omega)]; exact h.2.2.2.2.2.2.1 k y1 y2, fun k y1 y2 => by rw [k1 17 0 k (by unfold TZ1 RC1; omega), k2 4 0 k (by unfold TPN; omega)]; exact h.2.2.2.2.2.2.2 k y1 y2⟩⟩, fun q => absurd q (by decide)⟩)
theorem p_rule (fu : Nat) (hfu : 4000 ≤ fu) (M N : jm_M) (h : IV M N) (l1 : Int) (h1 : jm_in l1) : P2 (fX11_rule fu M l1) (fX12_rule fu N l1) False :=
  P2.of (s_fX11_rule fu hfu M h.1 l1 h1) (s_fX12_rule fu hfu N h.2.1 h.2.2.1 l1 h1) (fun r M1 s N1 a b => by
    obtain ⟨i1, k1, -, -, k7⟩ := a
    obtain ⟨i2, k2, k40, w, -⟩ := b
    exact ⟨⟨i1, i2, w, ⟨⟨by rw [k1 1 0 0 (by unfold TZ1 RC1; omega), k2 0 0 1 (by unfold TPN; omega)]; exact h.2.2.2.1.1, by rw [k1 1 0 1 (by unfold TZ1 RC1; omega), k2 0 0 2 (by unfold TPN; omega)]; exact h.2.2.2.1.2.1, by rw [k1 2 0 5 (by unfold TZ1 RC1; omega), k2 0 0 17 (by unfold TPN; omega)]; exact h.2.2.2.1.2.2.1, by rw [k1 10 30 3 (by unfold TZ1 RC1; omega), k2 0 0 8 (by unfold TPN; omega)]; exact h.2.2.2.1.2.2.2.1, by rw [k1 10 31 3 (by unfold TZ1 RC1; omega), k2 0 0 12 (by unfold TPN; omega)]; exact h.2.2.2.1.2.2.2.2.1, by rw [k1 10 32 3 (by unfold TZ1 RC1; omega), k2 0 0 75 (by unfold TPN; omega)]; exact h.2.2.2.1.2.2.2.2.2.1, k7.trans k40.symm⟩, fun c y1 y2 => by
      rw [k2 0 0 17 (by unfold TPN; omega)] at y2
      have b17 : 0 ≤ N 0 0 17 ∧ N 0 0 17 ≤ 6 := h.2.1 0 0 17
      rw [k1 10 c 3 (by unfold TZ1 RC1; omega), k1 10 (c + 6) 3 (by unfold TZ1 RC1; omega), k1 10 (c + 12) 3 (by unfold TZ1 RC1; omega), k1 10 (c + 18) 3 (by unfold TZ1 RC1; omega), k2 19 0 c (by unfold TPN; omega), k2 22 0 c (by unfold TPN; omega), k2 26 0 c (by unfold TPN; omega), k2 31 0 c (by unfold TPN; omega)]
      exact h.2.2.2.2.1 c y1 y2, fun c y1 y2 => by rw [k2 31 0 c (by unfold TPN; omega)]; exact h.2.2.2.2.2.1 c (by rw [← k2 0 0 17 (by unfold TPN; omega)]; exact y1) y2, fun k y1 y2 => by rw [k1 18 0 k (by unfold TZ1 RC1; omega), k2 5 0 k (by unfold TPN; omega)]; exact h.2.2.2.2.2.2.1 k y1 y2, fun k y1 y2 => by rw [k1 17 0 k (by unfold TZ1 RC1; omega), k2 4 0 k (by unfold TPN; omega)]; exact h.2.2.2.2.2.2.2 k y1 y2⟩⟩, fun q => absurd q (by decide)⟩)
theorem p_track (fu : Nat) (hfu : 4000 ≤ fu) (M N : jm_M) (h : IV M N) (l1 l2 : Int) (h1 : jm_in l1) (h2 : jm_in l2) : P2 (fX11_track fu M l1 l2) (fX12_track fu N l1 l2) True :=
  P2.of (s_fX11_track fu hfu M h.1 l1 l2 h1 h2) (s_fX12_track fu hfu N h.2.1 l1 l2 h1 h2) (fun r M1 s N1 a b => by
    obtain ⟨i1, a⟩ := a
    obtain ⟨i2, b⟩ := b
    rcases a with ⟨c1, ra, a1, a2, a3, a4, a5, a6, k1⟩ | ⟨c1, ra, k1⟩ <;> rcases b with ⟨c2, rb, b1, b2, b3, b4, b5, b6, b7, b8, k2⟩ | ⟨c2, rb, k2⟩
    · have w : WF N1 := by
        obtain ⟨w1, w2⟩ := h.2.2.1
        have e1 : N1 35 0 = N 35 0 := funext fun k => k2 35 0 k (by unfold TKb; omega)
        have e2 : N1 36 0 = N 36 0 := funext fun k => k2 36 0 k (by unfold TKb; omega)
        have e3 : N1 30 0 = N 30 0 := funext fun k => k2 30 0 k (by unfold TKb; omega)
        unfold WF
        rw [e1, e2, e3, b7]
        exact ⟨fun k y1 y2 => by omega, w2⟩
      exact ⟨⟨i1, i2, w, ⟨⟨a1.trans b1.symm, a2.trans b2.symm, a3.trans b3.symm, a4.trans b4.symm, a5.trans b5.symm, a6.trans b6.symm, by rw [k1 0 0 7 (by unfold TKa; omega), k2 0 0 40 (by unfold TKb; omega)]; exact h.2.2.2.1.2.2.2.2.2.2⟩, fun c y1 y2 => by rw [b3] at y2; omega, fun c y1 y2 => b8 c (by rw [b3] at y1; exact y1) y2, fun k y1 y2 => by rw [k1 18 0 k (by unfold TKa; omega), k2 5 0 k (by unfold TKb; omega)]; exact h.2.2.2.2.2.2.1 k y1 y2, fun k y1 y2 => by rw [k1 17 0 k (by unfold TKa; omega), k2 4 0 k (by unfold TKb; omega)]; exact h.2.2.2.2.2.2.2 k y1 y2⟩⟩, fun _ => ra.trans rb.symm⟩
    · exact absurd c1 c2
    · exact absurd c2 c1
    · exact ⟨h.kp i1 i2 (by rw [k1]; exact Kp.rf) (k2.weak (fun f i k q => by unfold RC2 at q; omega)), fun _ => ra.trans rb.symm⟩)
theorem p_car (M N : jm_M) (h : IV M N) (l1 l2 l3 l4 l5 l6 : Int) (h1 : jm_in l1) (h2 : jm_in l2) (h3 : jm_in l3) (h4 : jm_in l4) (h5 : jm_in l5) (h6 : jm_in l6) : P2 (fX11_car M l1 l2 l3 l4 l5 l6) (fX12_car N l1 l2 l3 l4 l5 l6) True :=
  P2.of (s_fX11_car M h.1 l1 l2 l3 l4 l5 l6 h1 h2 h3 h4 h5 h6) (s_fX12_car N h.2.1 l1 l2 l3 l4 l5 l6 h1 h2 h3 h4 h5 h6) (fun r M1 s N1 a b => by
    obtain ⟨i1, a⟩ := a
    obtain ⟨i2, b⟩ := b
    have e3 : M 2 0 5 = N 0 0 17 := h.2.2.2.1.2.2.1
    have b17 : 0 ≤ N 0 0 17 ∧ N 0 0 17 ≤ 6 := h.2.1 0 0 17
    rw [e3] at a
    rcases a with ⟨c1, ra, k1⟩ | ⟨c1, ra, a1, a2, a3, a4, a5, k1⟩ <;> rcases b with ⟨c2, rb, k2⟩ | ⟨c2, rb, b1, b2, b3, b4, b5, k2⟩
    · exact ⟨h.kp i1 i2 (by rw [k1]; exact Kp.rf) (k2.weak (fun f i k q => by unfold RC2 at q; omega)), fun _ => ra.trans rb.symm⟩
    · exact absurd c2 c1
    · exact absurd c1 c2
    · generalize hz : N 0 0 17 = z at *
      have hz6 : z < 6 := c1.2
      have w : WF N1 := by
        obtain ⟨w1, w2⟩ := h.2.2.1
        have e1 : N1 35 0 = N 35 0 := funext fun k => k2 35 0 k (by unfold TCb; omega)
        have e2 : N1 36 0 = N 36 0 := funext fun k => k2 36 0 k (by unfold TCb; omega)
        have e4 : N1 0 0 72 = N 0 0 72 := k2 0 0 72 (by unfold TCb; omega)
        unfold WF
        rw [e1, e2, e4]
        refine ⟨w1, fun c y1 y2 y3 => w2 c y1 y2 ?_⟩
        by_cases q : c = z
        · rw [q] at y3
          omega
        · rw [← k2 30 0 c (by unfold TCb; omega)]; exact y3
      have z31 : N 31 0 z = 0 := h.2.2.2.2.2.1 z (by omega) hz6
      exact ⟨⟨i1, i2, w, ⟨⟨by rw [k1 1 0 0 (by unfold TCa RC1; omega), k2 0 0 1 (by unfold TCb; omega)]; exact h.2.2.2.1.1, by rw [k1 1 0 1 (by unfold TCa RC1; omega), k2 0 0 2 (by unfold TCb; omega)]; exact h.2.2.2.1.2.1, a1.trans b1.symm, by rw [k1 10 30 3 (by unfold TCa RC1; omega), k2 0 0 8 (by unfold TCb; omega)]; exact h.2.2.2.1.2.2.2.1, by rw [k1 10 31 3 (by unfold TCa RC1; omega), k2 0 0 12 (by unfold TCb; omega)]; exact h.2.2.2.1.2.2.2.2.1, by rw [k1 10 32 3 (by unfold TCa RC1; omega), k2 0 0 75 (by unfold TCb; omega)]; exact h.2.2.2.1.2.2.2.2.2.1, by rw [k1 0 0 7 (by unfold TCa RC1; omega), k2 0 0 40 (by unfold TCb; omega)]; exact h.2.2.2.1.2.2.2.2.2.2⟩, fun c y1 y2 => by
        rw [b1] at y2
        by_cases q : c = z
        · rw [q]
          exact ⟨a2.trans b2.symm, a3.trans b3.symm, a4.trans b4.symm, a5.trans ((k2 31 0 z (by unfold TCb; omega)).trans z31).symm⟩
        · obtain ⟨g1, g2, g3, g4⟩ := h.2.2.2.2.1 c y1 (by omega)
          refine ⟨?_, ?_, ?_, ?_⟩
          · rw [k1 10 c 3 (by unfold TCa RC1; omega), k2 19 0 c (by unfold TCb; omega)]; exact g1
          · rw [k1 10 (c + 6) 3 (by unfold TCa RC1; omega), k2 22 0 c (by unfold TCb; omega)]; exact g2
          · rw [k1 10 (c + 12) 3 (by unfold TCa RC1; omega), k2 26 0 c (by unfold TCb; omega)]; exact g3
          · rw [k1 10 (c + 18) 3 (by unfold TCa RC1; omega), k2 31 0 c (by unfold TCb; omega)]; exact g4, fun c y1 y2 => by
        rw [b1] at y1
        rw [k2 31 0 c (by unfold TCb; omega)]
        exact h.2.2.2.2.2.1 c (by omega) y2, fun k y1 y2 => by rw [k1 18 0 k (by unfold TCa RC1; omega), k2 5 0 k (by unfold TCb; omega)]; exact h.2.2.2.2.2.2.1 k y1 y2, fun k y1 y2 => by rw [k1 17 0 k (by unfold TCa RC1; omega), k2 4 0 k (by unfold TCb; omega)]; exact h.2.2.2.2.2.2.2 k y1 y2⟩⟩, fun _ => ra.trans rb.symm⟩)
theorem sg_congr {g g2 : Int → Int} : ∀ n : Nat, (∀ c : Int, 0 ≤ c → c < (n : Int) → g c = g2 c) → sg g n = sg g2 n := by
  intro n
  induction n with
  | zero => intro _; rfl
  | succ n ih =>
    intro q
    show sg g n + g (n : Int) = sg g2 n + g2 (n : Int)
    rw [ih (fun c y1 y2 => q c y1 (by omega)), q (n : Int) (by omega) (by omega)]
theorem p_clear (fu : Nat) (hfu : 4000 ≤ fu) (M N : jm_M) (h : IV M N) : P2 (fX11_clear fu M) (fX12_clear fu N) True :=
  P2.of (s_fX11_clear fu hfu M h.1) (s_fX12_clear fu hfu N h.2.1) (fun r M1 s N1 a b => by
    obtain ⟨ra, i1, k1, a1⟩ := a
    obtain ⟨rb, i2, k2, b1⟩ := b
    have e3 : M 2 0 5 = N 0 0 17 := h.2.2.2.1.2.2.1
    have b17 : 0 ≤ N 0 0 17 ∧ N 0 0 17 ≤ 6 := h.2.1 0 0 17
    have es : r = s := by
      rw [ra, rb, e3]
      exact sg_congr _ (fun c y1 y2 => (h.2.2.2.2.1 c y1 (by omega)).2.2.2)
    have q2 : Kp (fun f i k => RC2 f i k ∧ f ≠ 31) N N1 := k2.weak (fun f i k q => by unfold RC2 at q; omega)
    exact ⟨⟨i1, i2, h.2.2.1.kp k2 (fun k => by omega), ⟨⟨by rw [k1 1 0 0 (by omega), k2 0 0 1 (by omega)]; exact h.2.2.2.1.1, by rw [k1 1 0 1 (by omega), k2 0 0 2 (by omega)]; exact h.2.2.2.1.2.1, by rw [k1 2 0 5 (by omega), k2 0 0 17 (by omega)]; exact h.2.2.2.1.2.2.1, by rw [k1 10 30 3 (by omega), k2 0 0 8 (by omega)]; exact h.2.2.2.1.2.2.2.1, by rw [k1 10 31 3 (by omega), k2 0 0 12 (by omega)]; exact h.2.2.2.1.2.2.2.2.1, by rw [k1 10 32 3 (by omega), k2 0 0 75 (by omega)]; exact h.2.2.2.1.2.2.2.2.2.1, by rw [k1 0 0 7 (by omega), k2 0 0 40 (by omega)]; exact h.2.2.2.1.2.2.2.2.2.2⟩, fun c y1 y2 => by
      rw [k2 0 0 17 (by omega)] at y2
      obtain ⟨g1, g2, g3, g4⟩ := h.2.2.2.2.1 c y1 y2
      rw [k1 10 c 3 (by omega), k1 10 (c + 6) 3 (by omega), k1 10 (c + 12) 3 (by omega), k2 19 0 c (by omega), k2 22 0 c (by omega), k2 26 0 c (by omega)]
      exact ⟨g1, g2, g3, (a1 c y1 (by omega)).trans (b1 c y1 (by omega)).symm⟩, fun c y1 y2 => b1 c (by rw [k2 0 0 17 (by omega)] at y1; omega) y2, fun k y1 y2 => by rw [k1 18 0 k (by omega), k2 5 0 k (by omega)]; exact h.2.2.2.2.2.2.1 k y1 y2, fun k y1 y2 => by rw [k1 17 0 k (by omega), k2 4 0 k (by omega)]; exact h.2.2.2.2.2.2.2 k y1 y2⟩⟩, fun _ => es⟩)
