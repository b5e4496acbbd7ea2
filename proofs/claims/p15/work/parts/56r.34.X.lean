/-! between two calls -/
def IT (M N : jm_M) : Prop := TLD M N ∧ ∀ c : Int, 0 ≤ c → c < 6 → N 60 0 c = 0
/-- cells of a race that was run -/
def CRC (f : Nat) (_ k : Int) : Prop := f = 9 ∨ (29 ≤ f ∧ f ≤ 34) ∨ (f = 2 ∧ k = 6)
def CR7 (f : Nat) (_ k : Int) : Prop := f = 9 ∨ (29 ≤ f ∧ f ≤ 34) ∨ (f = 2 ∧ (k = 6 ∨ k = 7))
def CA (fu : Nat) (M N : jm_M) : Prop := M 2 0 7 ≠ 0 → ∃ (M0 M1 : jm_M) (v : Int), bI bx1 M0 ∧ fX2_run fu M0 = some (v, M1) ∧ TLD M0 N ∧ Kp CRC M1 M
theorem CA.zero {fu : Nat} {M N : jm_M} (h : M 2 0 7 = 0) : CA fu M N := fun q => absurd h q
theorem CA.keep {fu : Nat} {M N M1 N1 : jm_M} (h : CA fu M N) (iN : bI bx2 N) (k1 : Kp CR7 M M1) (k2 : Kp RL2 N N1) : CA fu M1 N1 := fun q => by
  rw [k1 2 0 7 (by unfold CR7; omega)] at q
  obtain ⟨M0, M2, v, i0, e, tl, k⟩ := h q
  refine ⟨M0, M2, v, i0, e, tl.kk iN Kp.rf (fun _ _ _ _ _ _ _ => rfl) k2, fun f i k' y => ?_⟩
  rw [k1 f i k' (by unfold CRC at y; unfold CR7; omega)]
  exact k f i k' y
/-- a call told nothing -/
theorem RL2.r0 {N : jm_M} {v : Int} : Kp RL2 N (jm_u N 0 0 0 v) := fun f i k y => jm_une (by unfold RL2 C2r C2f C2s C2p C2o C2n C2c C2l at y; omega)
theorem RL1.r7 {M : jm_M} {v : Int} : Kp RL1 M (jm_u M 2 0 7 v) := fun f i k y => jm_une (by unfold RL1 C1r C1f C1s C1p C1o C1n C1c at y; omega)
theorem CTX.r7 {M : jm_M} {v t : Int} : ∀ (f : Nat) (k : Int), CTX f 0 0 → (jm_u M 2 0 7 v) f t k = M f t k := fun f k y => jm_une (by unfold CTX at y; omega)
theorem IT.keep {M N M1 N1 : jm_M} (h : IT M N) (iN : bI bx2 N) (k1 : Kp RL1 M M1) (kt : ∀ (c : Int) (f : Nat) (k : Int), 0 ≤ c → c < N 0 0 17 → N 30 0 c ≠ 0 → CTX f 0 0 → M1 f (M 8 c 11) k = M f (M 8 c 11) k) (k2 : Kp RL2 N N1) : IT M1 N1 :=
  ⟨h.1.kk iN k1 kt k2, fun c y1 y2 => (k2 60 0 c (by unfold RL2 C2c; omega)).trans (h.2 c y1 y2)⟩
/-- refused -/
theorem IT.no {fu : Nat} {M N M1 N1 : jm_M} (h : IT M N) (ca : CA fu M N) (iN : bI bx2 N) (e1 : M1 = M ∨ M1 = jm_u M 2 0 7 0) (e2 : N1 = jm_u N 0 0 0 0) : IT M1 N1 ∧ CA fu M1 N1 := by
  rw [e2]
  rcases e1 with e1 | e1
  · rw [e1]
    exact ⟨h.keep iN Kp.rf (fun _ _ _ _ _ _ _ => rfl) RL2.r0, ca.keep iN Kp.rf RL2.r0⟩
  · rw [e1]
    exact ⟨h.keep iN RL1.r7 (fun _ f k _ _ _ y => CTX.r7 f k y) RL2.r0, CA.zero jm_ueq⟩
theorem t_rain (fu : Nat) (hfu : 4000 ≤ fu) (M N : jm_M) (iv : IW M N) (it : IT M N) (ca : CA fu M N) (l1 l2 l3 : Int) (h1 : jm_in l1) (h2 : jm_in l2) (h3 : jm_in l3) : J2 (fX11_rain M l1 l2 l3) (fX12_rain N l1 l2 l3) (fun _ M1 _ N1 => IT M1 N1 ∧ CA fu M1 N1) := by
  have iM := iv.1.1
  have iN := iv.1.2.1
  obtain ⟨⟨t1, t2, t3, t4, t5⟩, t6, t7, t8⟩ := id it.1
  obtain ⟨⟨s0, s1, s5⟩, -, -, -⟩ := id t6
  have b17 : 0 ≤ N 0 0 17 ∧ N 0 0 17 ≤ 6 := iN 0 0 17
  obtain ⟨v, M1, e1, ⟨-, -, fa⟩, ca1⟩ := wp_and (s_fX11_rain M iM l1 l2 l3 h1 h2 h3) (cc_rain iM l1 l2 l3 h1 h2 h3)
  obtain ⟨w, N1, e2, ⟨-, -, fb⟩, cb⟩ := wp_and (s_fX12_rain N iN l1 l2 l3 h1 h2 h3) (dd_rain iN l1 l2 l3 h1 h2 h3)
  refine ⟨v, M1, w, N1, e1, e2, ?_⟩
  have sz : M 10 30 3 = N 0 0 8 := iv.1.2.2.2.1.2.2.2.1
  rcases ca1 with ca1 | ⟨M2, u2, p1, p2, p3⟩
  · have e3 : M1 10 30 3 = M 10 30 3 := by
      rcases ca1 with z | z
      · rw [z]
      · rw [z]; exact jm_une_f (by decide)
    rcases cb with cb | ⟨q1, -, -⟩
    · exact it.no ca iN ca1 cb
    · exfalso
      omega
  · have e4 : M2 10 30 3 = M 10 30 3 := by rw [u2]; exact jm_une_f (by decide)
    rw [e4] at p1
    rcases cb with cb | ⟨q1, q2, q3⟩
    · have e3 : N1 0 0 8 = N 0 0 8 := by rw [cb]; exact jm_une (by omega)
      exfalso
      omega
    obtain ⟨n, hn⟩ : ∃ n : Int, n = N 0 0 8 := ⟨_, rfl⟩
    have hn2 : M 10 30 3 = n := by omega
    rw [← hn] at q1 q2 q3
    rw [e4, hn2] at p2 p3
    rw [hn2] at p1
    have bn : 0 ≤ n := by have : 0 ≤ N 0 0 8 := (iN 0 0 8).1; omega
    have kM : ∀ (f : Nat) (i k : Int), ¬ (f = 10 ∧ i = 30 ∧ k = 3) → ¬ (f = 19 ∧ i = 30 ∧ 3 * n ≤ k) → ¬ (f = 2 ∧ i = 0 ∧ k = 7) → M1 f i k = M f i k := fun f i k y1 y2 y3 => by
      rw [p3 f i k y1 (by omega), u2]
      exact jm_une y3
    have new : TDr M1 N1 := by
      refine ⟨by omega, fun j y1 y2 => ?_⟩
      by_cases e : j = n
      · rw [e]
        exact ⟨p2.1.trans q2.1.symm, p2.2.1.trans q2.2.1.symm, p2.2.2.trans q2.2.2.symm, by omega, by omega, by omega⟩
      · rw [kM 19 30 (3 * j) (by omega) (by omega) (by omega), kM 19 30 (3 * j + 1) (by omega) (by omega) (by omega), kM 19 30 (3 * j + 2) (by omega) (by omega) (by omega), q3 6 0 j (by omega), q3 7 0 j (by omega), q3 8 0 j (by omega)]
        exact t1.2 j y1 (by omega)
    exact ⟨⟨⟨⟨new, t2.kk (fun f i k y => kM f i k (by unfold C1f at y; omega) (by unfold C1f at y; omega) (by unfold C1f at y; omega)) (fun f i k y => q3 f i k (by unfold C2f at y; omega)), t3.kk b17.2 (fun f i k y => kM f i k (by unfold C1s at y; omega) (by unfold C1s at y; omega) (by unfold C1s at y; omega)) (fun f i k y => q3 f i k (by unfold C2s at y; omega)), t4.kk b17.2 (fun f i k y => kM f i k (by unfold C1p at y; omega) (by unfold C1p at y; omega) (by unfold C1p at y; omega)) (fun f i k y => q3 f i k (by unfold C2p at y; omega)), t5.kk b17.2 (fun f i k y => kM f i k (by unfold C1o at y; omega) (by unfold C1o at y; omega) (by unfold C1o at y; omega)) (fun f i k y => q3 f i k (by unfold C2o at y; omega))⟩, t6.kk (fun f i k y => kM f i k (by unfold C1n at y; omega) (by unfold C1n at y; omega) (by unfold C1n at y; omega)) (fun f i k y => q3 f i k (by unfold C2n at y; omega)), t7.kk iN (fun f i k y => kM f i k (by unfold C1c at y; omega) (by unfold C1c at y; omega) (by unfold C1c at y; omega)) (fun c f k _ _ _ y => kM f _ k (by unfold CTX at y; omega) (by unfold CTX at y; omega) (by unfold CTX at y; omega)) (fun f i k y => q3 f i k (by unfold C2c at y; omega)), t8.kk (fun f i k y => q3 f i k (by unfold C2l at y; omega))⟩, fun c y1 y2 => (q3 60 0 c (by omega)).trans (it.2 c y1 y2)⟩, CA.zero (by rw [p3 2 0 7 (by omega) (by omega), u2]; exact jm_ueq)⟩
theorem t_flag (fu : Nat) (hfu : 4000 ≤ fu) (M N : jm_M) (iv : IW M N) (it : IT M N) (ca : CA fu M N) (l1 l2 l3 l4 : Int) (h1 : jm_in l1) (h2 : jm_in l2) (h3 : jm_in l3) (h4 : jm_in l4) : J2 (fX11_flag fu M l1 l2 l3 l4) (fX12_flag fu N l1 l2 l3 l4) (fun _ M1 _ N1 => IT M1 N1 ∧ CA fu M1 N1) := by
  have iM := iv.1.1
  have iN := iv.1.2.1
  obtain ⟨⟨t1, t2, t3, t4, t5⟩, t6, t7, t8⟩ := id it.1
  obtain ⟨⟨s0, s1, s5⟩, -, -, -⟩ := id t6
  have b17 : 0 ≤ N 0 0 17 ∧ N 0 0 17 ≤ 6 := iN 0 0 17
  obtain ⟨v, M1, e1, ⟨-, -, fa⟩, ca1⟩ := wp_and (s_fX11_flag fu hfu M iM l1 l2 l3 l4 h1 h2 h3 h4) (cc_flag fu iM l1 l2 l3 l4 h1 h2 h3 h4)
  obtain ⟨w, N1, e2, ⟨-, -, fb⟩, cb⟩ := wp_and (s_fX12_flag fu hfu N iN l1 l2 l3 l4 h1 h2 h3 h4) (dd_flag fu iN l1 l2 l3 l4 h1 h2 h3 h4)
  refine ⟨v, M1, w, N1, e1, e2, ?_⟩
  have sz : M 10 31 3 = N 0 0 12 := iv.1.2.2.2.1.2.2.2.2.1
  rcases ca1 with ca1 | ⟨M2, u2, p1, p2, p3⟩
  · have e3 : M1 10 31 3 = M 10 31 3 := by
      rcases ca1 with z | z
      · rw [z]
      · rw [z]; exact jm_une_f (by decide)
    rcases cb with cb | ⟨q1, -, -⟩
    · exact it.no ca iN ca1 cb
    · exfalso
      omega
  · have e4 : M2 10 31 3 = M 10 31 3 := by rw [u2]; exact jm_une_f (by decide)
    rw [e4] at p1
    rcases cb with cb | ⟨q1, q2, q3⟩
    · have e3 : N1 0 0 12 = N 0 0 12 := by rw [cb]; exact jm_une (by omega)
      exfalso
      omega
    obtain ⟨n, hn⟩ : ∃ n : Int, n = N 0 0 12 := ⟨_, rfl⟩
    have hn2 : M 10 31 3 = n := by omega
    rw [← hn] at q1 q2 q3
    rw [e4, hn2] at p2 p3
    rw [hn2] at p1
    have bn : 0 ≤ n := by have : 0 ≤ N 0 0 12 := (iN 0 0 12).1; omega
    have kM : ∀ (f : Nat) (i k : Int), ¬ (f = 10 ∧ i = 31 ∧ k = 3) → ¬ (f = 19 ∧ i = 31 ∧ 4 * n ≤ k) → ¬ (f = 2 ∧ i = 0 ∧ k = 7) → M1 f i k = M f i k := fun f i k y1 y2 y3 => by
      rw [p3 f i k y1 (by omega), u2]
      exact jm_une y3
    have new : TDf M1 N1 := by
      refine ⟨by omega, fun j y1 y2 => ?_⟩
      by_cases e : j = n
      · rw [e]
        exact ⟨p2.1.trans q2.1.symm, p2.2.1.trans q2.2.1.symm, p2.2.2.1.trans q2.2.2.1.symm, p2.2.2.2.trans q2.2.2.2.symm⟩
      · rw [kM 19 31 (4 * j) (by omega) (by omega) (by omega), kM 19 31 (4 * j + 1) (by omega) (by omega) (by omega), kM 19 31 (4 * j + 2) (by omega) (by omega) (by omega), kM 19 31 (4 * j + 3) (by omega) (by omega) (by omega), q3 9 0 j (by omega), q3 10 0 j (by omega), q3 11 0 j (by omega), q3 12 0 j (by omega)]
        exact t2.2 j y1 (by omega)
    exact ⟨⟨⟨⟨t1.kk (fun f i k y => kM f i k (by unfold C1r at y; omega) (by unfold C1r at y; omega) (by unfold C1r at y; omega)) (fun f i k y => q3 f i k (by unfold C2r at y; omega)), new, t3.kk b17.2 (fun f i k y => kM f i k (by unfold C1s at y; omega) (by unfold C1s at y; omega) (by unfold C1s at y; omega)) (fun f i k y => q3 f i k (by unfold C2s at y; omega)), t4.kk b17.2 (fun f i k y => kM f i k (by unfold C1p at y; omega) (by unfold C1p at y; omega) (by unfold C1p at y; omega)) (fun f i k y => q3 f i k (by unfold C2p at y; omega)), t5.kk b17.2 (fun f i k y => kM f i k (by unfold C1o at y; omega) (by unfold C1o at y; omega) (by unfold C1o at y; omega)) (fun f i k y => q3 f i k (by unfold C2o at y; omega))⟩, t6.kk (fun f i k y => kM f i k (by unfold C1n at y; omega) (by unfold C1n at y; omega) (by unfold C1n at y; omega)) (fun f i k y => q3 f i k (by unfold C2n at y; omega)), t7.kk iN (fun f i k y => kM f i k (by unfold C1c at y; omega) (by unfold C1c at y; omega) (by unfold C1c at y; omega)) (fun c f k _ _ _ y => kM f _ k (by unfold CTX at y; omega) (by unfold CTX at y; omega) (by unfold CTX at y; omega)) (fun f i k y => q3 f i k (by unfold C2c at y; omega)), t8.kk (fun f i k y => q3 f i k (by unfold C2l at y; omega))⟩, fun c y1 y2 => (q3 60 0 c (by omega)).trans (it.2 c y1 y2)⟩, CA.zero (by rw [p3 2 0 7 (by omega) (by omega), u2]; exact jm_ueq)⟩
theorem t_tyre (fu : Nat) (hfu : 4000 ≤ fu) (M N : jm_M) (iv : IW M N) (it : IT M N) (ca : CA fu M N) (l1 l2 l3 : Int) (h1 : jm_in l1) (h2 : jm_in l2) (h3 : jm_in l3) : J2 (fX11_tyre M l1 l2 l3) (fX12_tyre N l1 l2 l3) (fun _ M1 _ N1 => IT M1 N1 ∧ CA fu M1 N1) := by
  have iM := iv.1.1
  have iN := iv.1.2.1
  obtain ⟨⟨t1, t2, t3, t4, t5⟩, t6, t7, t8⟩ := id it.1
  obtain ⟨⟨s0, s1, s5⟩, -, -, -⟩ := id t6
  have b17 : 0 ≤ N 0 0 17 ∧ N 0 0 17 ≤ 6 := iN 0 0 17
  obtain ⟨v, M1, e1, ⟨-, -, fa⟩, ca1⟩ := wp_and (s_fX11_tyre M iM l1 l2 l3 h1 h2 h3) (cc_tyre iM l1 l2 l3 h1 h2 h3)
  obtain ⟨w, N1, e2, ⟨-, -, fb⟩, cb⟩ := wp_and (s_fX12_tyre N iN l1 l2 l3 h1 h2 h3) (dd_tyre iN l1 l2 l3 h1 h2 h3)
  refine ⟨v, M1, w, N1, e1, e2, ?_⟩
  have sz : 0 ≤ l1 → l1 < N 0 0 17 → M 10 l1 3 = N 19 0 l1 := fun y1 y2 => (iv.1.2.2.2.2.1 l1 y1 y2).1
  have lm : 0 ≤ l1 → l1 < 6 → lim1 l1 = 4 := fun y1 y2 => lim1_0 y1 y2
  rcases ca1 with ca1 | ⟨M2, u2, p1, p2, p3⟩
  · have e3 : M1 10 l1 3 = M 10 l1 3 := by
      rcases ca1 with z | z
      · rw [z]
      · rw [z]; exact jm_une_f (by decide)
    rcases cb with cb | ⟨q1, -, -⟩
    · exact it.no ca iN ca1 cb
    · exfalso
      omega
  · have e4 : M2 10 l1 3 = M 10 l1 3 := by rw [u2]; exact jm_une_f (by decide)
    rw [e4] at p1
    rcases cb with cb | ⟨q1, q2, q3⟩
    · have e3 : N1 19 0 l1 = N 19 0 l1 := by rw [cb]; exact jm_une (by omega)
      exfalso
      omega
    obtain ⟨n, hn⟩ : ∃ n : Int, n = N 19 0 l1 := ⟨_, rfl⟩
    have hn2 : M 10 l1 3 = n := by omega
    rw [← hn] at q1 q2 q3
    rw [e4, hn2] at p2 p3
    rw [hn2] at p1
    have bn : 0 ≤ n := by have : 0 ≤ N 19 0 l1 := (iN 19 0 l1).1; omega
    have kM : ∀ (f : Nat) (i k : Int), ¬ (f = 10 ∧ i = l1 ∧ k = 3) → ¬ (f = 19 ∧ i = l1 ∧ 2 * n ≤ k) → ¬ (f = 2 ∧ i = 0 ∧ k = 7) → M1 f i k = M f i k := fun f i k y1 y2 y3 => by
      rw [p3 f i k y1 (by omega), u2]
      exact jm_une y3
    have new : TDs M1 N1 := by
      intro c y1 y2
      rw [q3 0 0 17 (by omega)] at y2
      obtain ⟨a, b⟩ := t3 c y1 y2
      by_cases e : c = l1
      · rw [e] at a b ⊢
        refine ⟨p1.trans q1.symm, fun j y3 y4 => ?_⟩
        by_cases e2 : j = n
        · rw [e2]
          exact ⟨p2.1.trans q2.1.symm, p2.2.trans q2.2.symm⟩
        · rw [kM 19 l1 (2 * j) (by omega) (by omega) (by omega), kM 19 l1 (2 * j + 1) (by omega) (by omega) (by omega), q3 20 0 (4 * l1 + j) (by omega), q3 21 0 (4 * l1 + j) (by omega)]
          exact b j y3 (by omega)
      · rw [kM 10 c 3 (by omega) (by omega) (by omega), q3 19 0 c (by omega)]
        refine ⟨a, fun j y3 y4 => ?_⟩
        have bc : N 19 0 c ≤ 4 := (iN 19 0 c).2
        rw [kM 19 c (2 * j) (by omega) (by omega) (by omega), kM 19 c (2 * j + 1) (by omega) (by omega) (by omega), q3 20 0 (4 * c + j) (by omega), q3 21 0 (4 * c + j) (by omega)]
        exact b j y3 y4
    have lim : LIM N1 := by
      obtain ⟨z1, z2, z3, z4⟩ := t8
      have n1 : N1 1 0 = N 1 0 := funext fun k => q3 1 0 k (by omega)
      have n2 : N1 2 0 = N 2 0 := funext fun k => q3 2 0 k (by omega)
      have n4 : N1 4 0 = N 4 0 := funext fun k => q3 4 0 k (by omega)
      have n5 : N1 5 0 = N 5 0 := funext fun k => q3 5 0 k (by omega)
      have n13 : N1 13 0 = N 13 0 := funext fun k => q3 13 0 k (by omega)
      have n14 : N1 14 0 = N 14 0 := funext fun k => q3 14 0 k (by omega)
      have n15 : N1 15 0 = N 15 0 := funext fun k => q3 15 0 k (by omega)
      have n18 : N1 18 0 = N 18 0 := funext fun k => q3 18 0 k (by omega)
      have a17 : N1 0 0 17 = N 0 0 17 := q3 0 0 17 (by omega)
      unfold LIM
      rw [n1, n2, n4, n5, n13, n14, n15, n18, a17]
      refine ⟨z1, z2, z3, fun c y1 y2 => ⟨(z4 c y1 y2).1, fun j y3 y4 => ?_⟩⟩
      by_cases e : c = l1
      · by_cases e2 : j = n
        · rw [e, e2, q2.2]
          exact ⟨by omega, by omega⟩
        · rw [e] at y4 ⊢
          rw [q3 21 0 (4 * l1 + j) (by omega)]
          exact (z4 l1 (by omega) (by omega)).2 j y3 (by omega)
      · rw [q3 19 0 c (by omega)] at y4
        have bc : N 19 0 c ≤ 4 := (iN 19 0 c).2
        rw [q3 21 0 (4 * c + j) (by omega)]
        exact (z4 c y1 y2).2 j y3 y4
    exact ⟨⟨⟨⟨t1.kk (fun f i k y => kM f i k (by unfold C1r at y; omega) (by unfold C1r at y; omega) (by unfold C1r at y; omega)) (fun f i k y => q3 f i k (by unfold C2r at y; omega)), t2.kk (fun f i k y => kM f i k (by unfold C1f at y; omega) (by unfold C1f at y; omega) (by unfold C1f at y; omega)) (fun f i k y => q3 f i k (by unfold C2f at y; omega)), new, t4.kk b17.2 (fun f i k y => kM f i k (by unfold C1p at y; omega) (by unfold C1p at y; omega) (by unfold C1p at y; omega)) (fun f i k y => q3 f i k (by unfold C2p at y; omega)), t5.kk b17.2 (fun f i k y => kM f i k (by unfold C1o at y; omega) (by unfold C1o at y; omega) (by unfold C1o at y; omega)) (fun f i k y => q3 f i k (by unfold C2o at y; omega))⟩, t6.kk (fun f i k y => kM f i k (by unfold C1n at y; omega) (by unfold C1n at y; omega) (by unfold C1n at y; omega)) (fun f i k y => q3 f i k (by unfold C2n at y; omega)), t7.kk iN (fun f i k y => kM f i k (by unfold C1c at y; omega) (by unfold C1c at y; omega) (by unfold C1c at y; omega)) (fun c f k _ _ _ y => kM f _ k (by unfold CTX at y; omega) (by unfold CTX at y; omega) (by unfold CTX at y; omega)) (fun f i k y => q3 f i k (by unfold C2c at y; omega)), lim⟩, fun c y1 y2 => (q3 60 0 c (by omega)).trans (it.2 c y1 y2)⟩, CA.zero (by rw [p3 2 0 7 (by omega) (by omega), u2]; exact jm_ueq)⟩
theorem t_order (fu : Nat) (hfu : 4000 ≤ fu) (M N : jm_M) (iv : IW M N) (it : IT M N) (ca : CA fu M N) (l1 l2 l3 l4 : Int) (h1 : jm_in l1) (h2 : jm_in l2) (h3 : jm_in l3) (h4 : jm_in l4) : J2 (fX11_order fu M l1 l2 l3 l4) (fX12_order fu N l1 l2 l3 l4) (fun _ M1 _ N1 => IT M1 N1 ∧ CA fu M1 N1) := by
  have iM := iv.1.1
  have iN := iv.1.2.1
  obtain ⟨⟨t1, t2, t3, t4, t5⟩, t6, t7, t8⟩ := id it.1
  obtain ⟨⟨s0, s1, s5⟩, -, -, -⟩ := id t6
  have b17 : 0 ≤ N 0 0 17 ∧ N 0 0 17 ≤ 6 := iN 0 0 17
  obtain ⟨v, M1, e1, ⟨-, -, fa⟩, ca1⟩ := wp_and (s_fX11_order fu hfu M iM l1 l2 l3 l4 h1 h2 h3 h4) (cc_order fu iM l1 l2 l3 l4 h1 h2 h3 h4)
  obtain ⟨w, N1, e2, ⟨-, -, fb⟩, cb⟩ := wp_and (s_fX12_order fu hfu N iN l1 l2 l3 l4 h1 h2 h3 h4) (dd_order fu iN l1 l2 l3 l4 h1 h2 h3 h4)
  refine ⟨v, M1, w, N1, e1, e2, ?_⟩
  have sz : 0 ≤ l1 → l1 < N 0 0 17 → M 10 (l1 + 6) 3 = N 22 0 l1 := fun y1 y2 => (iv.1.2.2.2.2.1 l1 y1 y2).2.1
  have lm : 0 ≤ l1 → l1 < 6 → lim1 (l1 + 6) = 12 := fun y1 y2 => lim1_6 (by omega) (by omega)
  rcases ca1 with ca1 | ⟨M2, u2, p1, p2, p3⟩
  · have e3 : M1 10 (l1 + 6) 3 = M 10 (l1 + 6) 3 := by
      rcases ca1 with z | z
      · rw [z]
      · rw [z]; exact jm_une_f (by decide)
    rcases cb with cb | ⟨q1, -, -⟩
    · exact it.no ca iN ca1 cb
    · exfalso
      omega
  · have e4 : M2 10 (l1 + 6) 3 = M 10 (l1 + 6) 3 := by rw [u2]; exact jm_une_f (by decide)
    rw [e4] at p1
    rcases cb with cb | ⟨q1, q2, q3⟩
    · have e3 : N1 22 0 l1 = N 22 0 l1 := by rw [cb]; exact jm_une (by omega)
      exfalso
      omega
    obtain ⟨n, hn⟩ : ∃ n : Int, n = N 22 0 l1 := ⟨_, rfl⟩
    have hn2 : M 10 (l1 + 6) 3 = n := by omega
    rw [← hn] at q1 q2 q3
    rw [e4, hn2] at p2 p3
    rw [hn2] at p1
    have bn : 0 ≤ n := by have : 0 ≤ N 22 0 l1 := (iN 22 0 l1).1; omega
    have kM : ∀ (f : Nat) (i k : Int), ¬ (f = 10 ∧ i = (l1 + 6) ∧ k = 3) → ¬ (f = 19 ∧ i = (l1 + 6) ∧ 3 * n ≤ k) → ¬ (f = 2 ∧ i = 0 ∧ k = 7) → M1 f i k = M f i k := fun f i k y1 y2 y3 => by
      rw [p3 f i k y1 (by omega), u2]
      exact jm_une y3
    have new : TDo M1 N1 := by
      intro c y1 y2
      rw [q3 0 0 17 (by omega)] at y2
      obtain ⟨a, b⟩ := t5 c y1 y2
      by_cases e : c = l1
      · rw [e] at a b ⊢
        refine ⟨p1.trans q1.symm, fun j y3 y4 => ?_⟩
        by_cases e2 : j = n
        · rw [e2]
          exact ⟨p2.1.trans q2.1.symm, p2.2.1.trans q2.2.1.symm, p2.2.2.trans q2.2.2.symm, by omega, by omega⟩
        · rw [kM 19 (l1 + 6) (3 * j) (by omega) (by omega) (by omega), kM 19 (l1 + 6) (3 * j + 1) (by omega) (by omega) (by omega), kM 19 (l1 + 6) (3 * j + 2) (by omega) (by omega) (by omega), q3 23 0 (12 * l1 + j) (by omega), q3 24 0 (12 * l1 + j) (by omega), q3 25 0 (12 * l1 + j) (by omega)]
          exact b j y3 (by omega)
      · rw [kM 10 (c + 6) 3 (by omega) (by omega) (by omega), q3 22 0 c (by omega)]
        refine ⟨a, fun j y3 y4 => ?_⟩
        have bc : N 22 0 c ≤ 12 := (iN 22 0 c).2
        rw [kM 19 (c + 6) (3 * j) (by omega) (by omega) (by omega), kM 19 (c + 6) (3 * j + 1) (by omega) (by omega) (by omega), kM 19 (c + 6) (3 * j + 2) (by omega) (by omega) (by omega), q3 23 0 (12 * c + j) (by omega), q3 24 0 (12 * c + j) (by omega), q3 25 0 (12 * c + j) (by omega)]
        exact b j y3 y4
    exact ⟨⟨⟨⟨t1.kk (fun f i k y => kM f i k (by unfold C1r at y; omega) (by unfold C1r at y; omega) (by unfold C1r at y; omega)) (fun f i k y => q3 f i k (by unfold C2r at y; omega)), t2.kk (fun f i k y => kM f i k (by unfold C1f at y; omega) (by unfold C1f at y; omega) (by unfold C1f at y; omega)) (fun f i k y => q3 f i k (by unfold C2f at y; omega)), t3.kk b17.2 (fun f i k y => kM f i k (by unfold C1s at y; omega) (by unfold C1s at y; omega) (by unfold C1s at y; omega)) (fun f i k y => q3 f i k (by unfold C2s at y; omega)), t4.kk b17.2 (fun f i k y => kM f i k (by unfold C1p at y; omega) (by unfold C1p at y; omega) (by unfold C1p at y; omega)) (fun f i k y => q3 f i k (by unfold C2p at y; omega)), new⟩, t6.kk (fun f i k y => kM f i k (by unfold C1n at y; omega) (by unfold C1n at y; omega) (by unfold C1n at y; omega)) (fun f i k y => q3 f i k (by unfold C2n at y; omega)), t7.kk iN (fun f i k y => kM f i k (by unfold C1c at y; omega) (by unfold C1c at y; omega) (by unfold C1c at y; omega)) (fun c f k _ _ _ y => kM f _ k (by unfold CTX at y; omega) (by unfold CTX at y; omega) (by unfold CTX at y; omega)) (fun f i k y => q3 f i k (by unfold C2c at y; omega)), t8.kk (fun f i k y => q3 f i k (by unfold C2l at y; omega))⟩, fun c y1 y2 => (q3 60 0 c (by omega)).trans (it.2 c y1 y2)⟩, CA.zero (by rw [p3 2 0 7 (by omega) (by omega), u2]; exact jm_ueq)⟩
theorem t_stop (fu : Nat) (hfu : 4000 ≤ fu) (M N : jm_M) (iv : IW M N) (it : IT M N) (ca : CA fu M N) (l1 l2 l3 l4 : Int) (h1 : jm_in l1) (h2 : jm_in l2) (h3 : jm_in l3) (h4 : jm_in l4) : J2 (fX11_stop M l1 l2 l3 l4) (fX12_stop N l1 l2 l3 l4) (fun _ M1 _ N1 => IT M1 N1 ∧ CA fu M1 N1) := by
  have iM := iv.1.1
  have iN := iv.1.2.1
  obtain ⟨⟨t1, t2, t3, t4, t5⟩, t6, t7, t8⟩ := id it.1
  obtain ⟨⟨s0, s1, s5⟩, -, -, -⟩ := id t6
  have b17 : 0 ≤ N 0 0 17 ∧ N 0 0 17 ≤ 6 := iN 0 0 17
  obtain ⟨v, M1, e1, ⟨-, -, fa⟩, ca1⟩ := wp_and (s_fX11_stop M iM l1 l2 l3 l4 h1 h2 h3 h4) (cc_stop iM l1 l2 l3 l4 h1 h2 h3 h4)
  obtain ⟨w, N1, e2, ⟨-, -, fb⟩, cb⟩ := wp_and (s_fX12_stop N iN l1 l2 l3 l4 h1 h2 h3 h4) (dd_stop iN l1 l2 l3 l4 h1 h2 h3 h4)
  refine ⟨v, M1, w, N1, e1, e2, ?_⟩
  have sz : 0 ≤ l1 → l1 < N 0 0 17 → M 10 (l1 + 12) 3 = N 26 0 l1 := fun y1 y2 => (iv.1.2.2.2.2.1 l1 y1 y2).2.2.1
  have lm : 0 ≤ l1 → l1 < 6 → lim1 (l1 + 12) = 5 := fun y1 y2 => lim1_12 (by omega) (by omega)
  rcases ca1 with ca1 | ⟨M2, u2, p1, p2, p3⟩
  · have e3 : M1 10 (l1 + 12) 3 = M 10 (l1 + 12) 3 := by
      rcases ca1 with z | z
      · rw [z]
      · rw [z]; exact jm_une_f (by decide)
    rcases cb with cb | ⟨q1, -, -⟩
    · exact it.no ca iN ca1 cb
    · exfalso
      omega
  · have e4 : M2 10 (l1 + 12) 3 = M 10 (l1 + 12) 3 := by rw [u2]; exact jm_une_f (by decide)
    rw [e4] at p1
    rcases cb with cb | ⟨q1, q2, q3⟩
    · have e3 : N1 26 0 l1 = N 26 0 l1 := by rw [cb]; exact jm_une (by omega)
      exfalso
      omega
    obtain ⟨n, hn⟩ : ∃ n : Int, n = N 26 0 l1 := ⟨_, rfl⟩
    have hn2 : M 10 (l1 + 12) 3 = n := by omega
    rw [← hn] at q1 q2 q3
    rw [e4, hn2] at p2 p3
    rw [hn2] at p1
    have bn : 0 ≤ n := by have : 0 ≤ N 26 0 l1 := (iN 26 0 l1).1; omega
    have kM : ∀ (f : Nat) (i k : Int), ¬ (f = 10 ∧ i = (l1 + 12) ∧ k = 3) → ¬ (f = 19 ∧ i = (l1 + 12) ∧ 3 * n ≤ k) → ¬ (f = 2 ∧ i = 0 ∧ k = 7) → M1 f i k = M f i k := fun f i k y1 y2 y3 => by
      rw [p3 f i k y1 (by omega), u2]
      exact jm_une y3
    have new : TDp M1 N1 := by
      intro c y1 y2
      rw [q3 0 0 17 (by omega)] at y2
      obtain ⟨a, b⟩ := t4 c y1 y2
      have z13 : ∀ o : Int, 0 ≤ o → o < N 0 0 17 → stT M o = o + 12 ∧ stT M1 o = o + 12 := fun o z1 z2 => by
        have z := (t7 o z1 z2).2.1.2.trans (it.2 o z1 (by omega))
        have z' : M1 8 o 13 = 0 := (kM 8 o 13 (by omega) (by omega) (by omega)).trans z
        unfold stT
        exact ⟨if_pos z, if_pos z'⟩
      rw [(z13 c y1 y2).1] at a b
      rw [(z13 c y1 y2).2]
      by_cases e : c = l1
      · rw [e] at a b ⊢
        refine ⟨p1.trans q1.symm, fun j y3 y4 => ?_⟩
        by_cases e2 : j = n
        · rw [e2]
          exact ⟨p2.1.trans q2.1.symm, p2.2.1.trans q2.2.1.symm, p2.2.2.trans q2.2.2.symm, by omega, by omega, by omega, by omega⟩
        · rw [kM 19 (l1 + 12) (3 * j) (by omega) (by omega) (by omega), kM 19 (l1 + 12) (3 * j + 1) (by omega) (by omega) (by omega), kM 19 (l1 + 12) (3 * j + 2) (by omega) (by omega) (by omega), q3 27 0 (5 * l1 + j) (by omega), q3 28 0 (5 * l1 + j) (by omega), q3 29 0 (5 * l1 + j) (by omega)]
          exact b j y3 (by omega)
      · rw [kM 10 (c + 12) 3 (by omega) (by omega) (by omega), q3 26 0 c (by omega)]
        refine ⟨a, fun j y3 y4 => ?_⟩
        have bc : N 26 0 c ≤ 5 := (iN 26 0 c).2
        rw [kM 19 (c + 12) (3 * j) (by omega) (by omega) (by omega), kM 19 (c + 12) (3 * j + 1) (by omega) (by omega) (by omega), kM 19 (c + 12) (3 * j + 2) (by omega) (by omega) (by omega), q3 27 0 (5 * c + j) (by omega), q3 28 0 (5 * c + j) (by omega), q3 29 0 (5 * c + j) (by omega)]
        exact b j y3 y4
    exact ⟨⟨⟨⟨t1.kk (fun f i k y => kM f i k (by unfold C1r at y; omega) (by unfold C1r at y; omega) (by unfold C1r at y; omega)) (fun f i k y => q3 f i k (by unfold C2r at y; omega)), t2.kk (fun f i k y => kM f i k (by unfold C1f at y; omega) (by unfold C1f at y; omega) (by unfold C1f at y; omega)) (fun f i k y => q3 f i k (by unfold C2f at y; omega)), t3.kk b17.2 (fun f i k y => kM f i k (by unfold C1s at y; omega) (by unfold C1s at y; omega) (by unfold C1s at y; omega)) (fun f i k y => q3 f i k (by unfold C2s at y; omega)), new, t5.kk b17.2 (fun f i k y => kM f i k (by unfold C1o at y; omega) (by unfold C1o at y; omega) (by unfold C1o at y; omega)) (fun f i k y => q3 f i k (by unfold C2o at y; omega))⟩, t6.kk (fun f i k y => kM f i k (by unfold C1n at y; omega) (by unfold C1n at y; omega) (by unfold C1n at y; omega)) (fun f i k y => q3 f i k (by unfold C2n at y; omega)), t7.kk iN (fun f i k y => kM f i k (by unfold C1c at y; omega) (by unfold C1c at y; omega) (by unfold C1c at y; omega)) (fun c f k _ _ _ y => kM f _ k (by unfold CTX at y; omega) (by unfold CTX at y; omega) (by unfold CTX at y; omega)) (fun f i k y => q3 f i k (by unfold C2c at y; omega)), t8.kk (fun f i k y => q3 f i k (by unfold C2l at y; omega))⟩, fun c y1 y2 => (q3 60 0 c (by omega)).trans (it.2 c y1 y2)⟩, CA.zero (by rw [p3 2 0 7 (by omega) (by omega), u2]; exact jm_ueq)⟩
theorem t_option (fu : Nat) (hfu : 4000 ≤ fu) (M N : jm_M) (iv : IW M N) (it : IT M N) (ca : CA fu M N) (l1 l2 l3 : Int) (h1 : jm_in l1) (h2 : jm_in l2) (h3 : jm_in l3) : J2 (fX11_option M l1 l2 l3) (fX12_option fu N l1 l2 l3) (fun _ M1 _ N1 => IT M1 N1 ∧ CA fu M1 N1) := by
  have iM := iv.1.1
  have iN := iv.1.2.1
  obtain ⟨⟨t1, t2, t3, t4, t5⟩, t6, t7, t8⟩ := id it.1
  obtain ⟨⟨s0, s1, s5⟩, -, -, -⟩ := id t6
  have b17 : 0 ≤ N 0 0 17 ∧ N 0 0 17 ≤ 6 := iN 0 0 17
  obtain ⟨v, M1, e1, ⟨-, -, fa⟩, ca1⟩ := wp_and (s_fX11_option M iM l1 l2 l3 h1 h2 h3) (cc_option iM l1 l2 l3 h1 h2 h3)
  obtain ⟨w, N1, e2, ⟨-, -, fb⟩, cb⟩ := wp_and (s_fX12_option fu hfu N iN l1 l2 l3 h1 h2 h3) (dd_option fu iN l1 l2 l3 h1 h2 h3)
  refine ⟨v, M1, w, N1, e1, e2, ?_⟩
  have sz : 0 ≤ l1 → l1 < N 0 0 17 → M 10 (l1 + 18) 3 = N 31 0 l1 := fun y1 y2 => (iv.1.2.2.2.2.1 l1 y1 y2).2.2.2
  have lm : 0 ≤ l1 → l1 < 6 → lim1 (l1 + 18) = 4 := fun y1 y2 => lim1_18 (by omega) (by omega)
  rcases ca1 with ca1 | ⟨M2, u2, p1, p2, p3⟩
  · have e3 : M1 10 (l1 + 18) 3 = M 10 (l1 + 18) 3 := by
      rcases ca1 with z | z
      · rw [z]
      · rw [z]; exact jm_une_f (by decide)
    rcases cb with cb | ⟨q1, -, -⟩
    · exact it.no ca iN ca1 cb
    · exfalso
      omega
  · have e4 : M2 10 (l1 + 18) 3 = M 10 (l1 + 18) 3 := by rw [u2]
    rw [e4] at p1
    rcases cb with cb | ⟨q1, q2, q3⟩
    · have e3 : N1 31 0 l1 = N 31 0 l1 := by rw [cb]; exact jm_une (by omega)
      exfalso
      omega
    obtain ⟨n, hn⟩ : ∃ n : Int, n = N 31 0 l1 := ⟨_, rfl⟩
    have hn2 : M 10 (l1 + 18) 3 = n := by omega
    rw [← hn] at q1 q2 q3
    rw [e4, hn2] at p2 p3
    rw [hn2] at p1
    have bn : 0 ≤ n := by have : 0 ≤ N 31 0 l1 := (iN 31 0 l1).1; omega
    have kM : ∀ (f : Nat) (i k : Int), ¬ (f = 10 ∧ i = (l1 + 18) ∧ k = 3) → ¬ (f = 19 ∧ i = (l1 + 18) ∧ 2 * n ≤ k) → M1 f i k = M f i k := fun f i k y1 y2 => by
      rw [p3 f i k y1 (by omega), u2]
    exact ⟨⟨⟨⟨t1.kk (fun f i k y => kM f i k (by unfold C1r at y; omega) (by unfold C1r at y; omega)) (fun f i k y => q3 f i k (by unfold C2r at y; omega)), t2.kk (fun f i k y => kM f i k (by unfold C1f at y; omega) (by unfold C1f at y; omega)) (fun f i k y => q3 f i k (by unfold C2f at y; omega)), t3.kk b17.2 (fun f i k y => kM f i k (by unfold C1s at y; omega) (by unfold C1s at y; omega)) (fun f i k y => q3 f i k (by unfold C2s at y; omega)), t4.kk b17.2 (fun f i k y => kM f i k (by unfold C1p at y; omega) (by unfold C1p at y; omega)) (fun f i k y => q3 f i k (by unfold C2p at y; omega)), t5.kk b17.2 (fun f i k y => kM f i k (by unfold C1o at y; omega) (by unfold C1o at y; omega)) (fun f i k y => q3 f i k (by unfold C2o at y; omega))⟩, t6.kk (fun f i k y => kM f i k (by unfold C1n at y; omega) (by unfold C1n at y; omega)) (fun f i k y => q3 f i k (by unfold C2n at y; omega)), t7.kk iN (fun f i k y => kM f i k (by unfold C1c at y; omega) (by unfold C1c at y; omega)) (fun c f k _ _ _ y => kM f _ k (by unfold CTX at y; omega) (by unfold CTX at y; omega)) (fun f i k y => q3 f i k (by unfold C2c at y; omega)), t8.kk (fun f i k y => q3 f i k (by unfold C2l at y; omega))⟩, fun c y1 y2 => (q3 60 0 c (by omega)).trans (it.2 c y1 y2)⟩, ca.keep iN (fun f i k y => kM f i k (by unfold CR7 at y; omega) (by unfold CR7 at y; omega)) (fun f i k y => q3 f i k (by unfold RL2 C2r C2f C2s C2p C2o C2n C2c C2l at y; omega))⟩
theorem t_finding (fu : Nat) (hfu : 4000 ≤ fu) (M N : jm_M) (iv : IW M N) (it : IT M N) (ca : CA fu M N) (l1 l2 l3 l4 : Int) (h1 : jm_in l1) (h2 : jm_in l2) (h3 : jm_in l3) (h4 : jm_in l4) : J2 (fX11_finding fu M l1 l2 l3 l4) (fX12_finding fu N l1 l2 l3 l4) (fun _ M1 _ N1 => IT M1 N1 ∧ CA fu M1 N1) := by
  have iM := iv.1.1
  have iN := iv.1.2.1
  obtain ⟨⟨t1, t2, t3, t4, t5⟩, t6, t7, t8⟩ := id it.1
  obtain ⟨⟨s0, s1, s5⟩, -, -, -⟩ := id t6
  have b17 : 0 ≤ N 0 0 17 ∧ N 0 0 17 ≤ 6 := iN 0 0 17
  obtain ⟨v, M1, e1, ⟨-, -, fa⟩, ca1⟩ := wp_and (s_fX11_finding fu hfu M iM l1 l2 l3 l4 h1 h2 h3 h4) (cc_finding fu iM l1 l2 l3 l4 h1 h2 h3 h4)
  obtain ⟨w, N1, e2, ⟨-, -, fb⟩, cb⟩ := wp_and (s_fX12_finding fu hfu N iN l1 l2 l3 l4 h1 h2 h3 h4) (dd_finding fu iN l1 l2 l3 l4 h1 h2 h3 h4)
  refine ⟨v, M1, w, N1, e1, e2, ?_⟩
  have sz : M 10 32 3 = N 0 0 75 := iv.1.2.2.2.1.2.2.2.2.2.1
  rcases ca1 with ca1 | ⟨M2, u2, p1, p2, p3⟩
  · have e3 : M1 10 32 3 = M 10 32 3 := by
      rcases ca1 with z | z
      · rw [z]
      · rw [z]; exact jm_une_f (by decide)
    rcases cb with cb | ⟨q1, -, -⟩
    · exact it.no ca iN ca1 cb
    · exfalso
      omega
  · have e4 : M2 10 32 3 = M 10 32 3 := by rw [u2]
    rw [e4] at p1
    rcases cb with cb | ⟨q1, q2, q3⟩
    · have e3 : N1 0 0 75 = N 0 0 75 := by rw [cb]; exact jm_une (by omega)
      exfalso
      omega
    obtain ⟨n, hn⟩ : ∃ n : Int, n = N 0 0 75 := ⟨_, rfl⟩
    have hn2 : M 10 32 3 = n := by omega
    rw [← hn] at q1 q2 q3
    rw [e4, hn2] at p2 p3
    rw [hn2] at p1
    have bn : 0 ≤ n := by have : 0 ≤ N 0 0 75 := (iN 0 0 75).1; omega
    have kM : ∀ (f : Nat) (i k : Int), ¬ (f = 10 ∧ i = 32 ∧ k = 3) → ¬ (f = 19 ∧ i = 32 ∧ 4 * n ≤ k) → M1 f i k = M f i k := fun f i k y1 y2 => by
      rw [p3 f i k y1 (by omega), u2]
    exact ⟨⟨⟨⟨t1.kk (fun f i k y => kM f i k (by unfold C1r at y; omega) (by unfold C1r at y; omega)) (fun f i k y => q3 f i k (by unfold C2r at y; omega)), t2.kk (fun f i k y => kM f i k (by unfold C1f at y; omega) (by unfold C1f at y; omega)) (fun f i k y => q3 f i k (by unfold C2f at y; omega)), t3.kk b17.2 (fun f i k y => kM f i k (by unfold C1s at y; omega) (by unfold C1s at y; omega)) (fun f i k y => q3 f i k (by unfold C2s at y; omega)), t4.kk b17.2 (fun f i k y => kM f i k (by unfold C1p at y; omega) (by unfold C1p at y; omega)) (fun f i k y => q3 f i k (by unfold C2p at y; omega)), t5.kk b17.2 (fun f i k y => kM f i k (by unfold C1o at y; omega) (by unfold C1o at y; omega)) (fun f i k y => q3 f i k (by unfold C2o at y; omega))⟩, t6.kk (fun f i k y => kM f i k (by unfold C1n at y; omega) (by unfold C1n at y; omega)) (fun f i k y => q3 f i k (by unfold C2n at y; omega)), t7.kk iN (fun f i k y => kM f i k (by unfold C1c at y; omega) (by unfold C1c at y; omega)) (fun c f k _ _ _ y => kM f _ k (by unfold CTX at y; omega) (by unfold CTX at y; omega)) (fun f i k y => q3 f i k (by unfold C2c at y; omega)), t8.kk (fun f i k y => q3 f i k (by unfold C2l at y; omega))⟩, fun c y1 y2 => (q3 60 0 c (by omega)).trans (it.2 c y1 y2)⟩, ca.keep iN (fun f i k y => kM f i k (by unfold CR7 at y; omega) (by unfold CR7 at y; omega)) (fun f i k y => q3 f i k (by unfold RL2 C2r C2f C2s C2p C2o C2n C2c C2l at y; omega))⟩
