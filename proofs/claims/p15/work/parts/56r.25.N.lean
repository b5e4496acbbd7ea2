/-! all that is told of the race to both -/
def LIM (N : jm_M) : Prop := (100 ≤ N 5 0 0 ∧ N 5 0 0 ≤ 2000 ∧ 0 ≤ N 5 0 1 ∧ N 5 0 1 ≤ 50 ∧ 0 ≤ N 5 0 2 ∧ N 5 0 2 ≤ 500 ∧ 0 ≤ N 5 0 3 ∧ N 5 0 3 ≤ 60000 ∧ 0 ≤ N 5 0 4 ∧ N 5 0 4 ≤ 20000 ∧ 0 ≤ N 5 0 5 ∧ N 5 0 5 ≤ 200 ∧ 0 ≤ N 5 0 6 ∧ N 5 0 6 ≤ 2000 ∧ 0 ≤ N 5 0 7 ∧ N 5 0 7 ≤ 9) ∧ (∀ k : Int, 0 ≤ k → k < 4 → 0 ≤ N 4 0 (6 * k) ∧ N 4 0 (6 * k) ≤ 3000 ∧ 0 ≤ N 4 0 (6 * k + 1) ∧ N 4 0 (6 * k + 1) ≤ 100 ∧ 0 ≤ N 4 0 (6 * k + 2) ∧ N 4 0 (6 * k + 2) ≤ 200 ∧ 0 ≤ N 4 0 (6 * k + 3) ∧ N 4 0 (6 * k + 3) ≤ 5000 ∧ 0 ≤ N 4 0 (6 * k + 4) ∧ N 4 0 (6 * k + 4) ≤ 100 ∧ 0 ≤ N 4 0 (6 * k + 5) ∧ N 4 0 (6 * k + 5) ≤ 100) ∧ (∀ i : Int, 0 ≤ i → i < 5 → 5000 ≤ N 1 0 i ∧ N 1 0 i ≤ 60000 ∧ -1 ≤ N 2 0 i ∧ N 2 0 i ≤ 5000) ∧ ∀ c : Int, 0 ≤ c → c < N 0 0 17 → (-2000 ≤ N 13 0 c ∧ N 13 0 c ≤ 2000 ∧ 1 ≤ N 14 0 c ∧ N 14 0 c ≤ 200 ∧ 1 ≤ N 15 0 c ∧ N 15 0 c ≤ 9 ∧ 0 ≤ N 18 0 c ∧ N 18 0 c ≤ N 14 0 c) ∧ ∀ j : Int, 0 ≤ j → j < N 19 0 c → 0 ≤ N 21 0 (4 * c + j) ∧ N 21 0 (4 * c + j) ≤ 100
def TCAR (M N : jm_M) : Prop := ∀ c : Int, 0 ≤ c → c < N 0 0 17 → (M 8 c 0 = N 13 0 c ∧ M 8 c 1 = N 14 0 c ∧ M 8 c 2 = N 15 0 c ∧ M 8 c 3 = N 16 0 c ∧ M 8 c 4 = N 17 0 c ∧ M 8 c 5 = N 18 0 c) ∧ (M 8 c 12 = N 30 0 c ∧ M 8 c 13 = N 60 0 c) ∧ (N 30 0 c ≠ 0 → TXT 0 M N (M 8 c 11) (100 * c) (100 * c + N 36 0 c))
def TNUM (M N : jm_M) : Prop := (M 1 0 0 = N 0 0 1 ∧ M 1 0 1 = N 0 0 2 ∧ M 2 0 5 = N 0 0 17) ∧ (∀ k : Int, 0 ≤ k → k < 8 → M 18 0 k = N 5 0 k) ∧ (∀ k : Int, 0 ≤ k → k < 24 → M 17 0 k = N 4 0 k) ∧ (∀ i : Int, 0 ≤ i → i < 5 → M 14 0 i = N 1 0 i ∧ M 15 0 i = N 2 0 i)
def TLD (M N : jm_M) : Prop := (TDr M N ∧ TDf M N ∧ TDs M N ∧ TDp M N ∧ TDo M N) ∧ TNUM M N ∧ TCAR M N ∧ LIM N
def TD1 (f : Nat) (_ k : Int) : Prop := f = 1 ∨ f = 8 ∨ (10 ≤ f ∧ f ≤ 11) ∨ (14 ≤ f ∧ f ≤ 24) ∨ (f = 2 ∧ k = 5)
def TD2 (f : Nat) (_ k : Int) : Prop := (1 ≤ f ∧ f ≤ 33) ∨ (35 ≤ f ∧ f ≤ 36) ∨ f = 60 ∨ (f = 0 ∧ (k = 1 ∨ k = 2 ∨ k = 8 ∨ k = 12 ∨ k = 17))
theorem jm_bsm (v : Int) (M : jm_M) (K : Int → jm_M → jm_R) : jm_b (some (v, M)) K = K v M := rfl
theorem TLD.kp {M N M1 N1 : jm_M} (h : TLD M N) (k1 : Kp TD1 M M1) (k2 : Kp TD2 N N1) : TLD M1 N1 := by
  have fm : ∀ f : Nat, (∀ k : Int, TD1 f 0 k) → M1 f = M f := fun f q => funext fun i => funext fun k => k1 f i k (q k)
  have fn : ∀ f : Nat, (∀ k : Int, TD2 f 0 k) → N1 f = N f := fun f q => funext fun i => funext fun k => k2 f i k (q k)
  have m1 : M1 1 = M 1 := fm 1 (fun k => by unfold TD1; omega)
  have m8 : M1 8 = M 8 := fm 8 (fun k => by unfold TD1; omega)
  have m10 : M1 10 = M 10 := fm 10 (fun k => by unfold TD1; omega)
  have m11 : M1 11 = M 11 := fm 11 (fun k => by unfold TD1; omega)
  have m14 : M1 14 = M 14 := fm 14 (fun k => by unfold TD1; omega)
  have m15 : M1 15 = M 15 := fm 15 (fun k => by unfold TD1; omega)
  have m17 : M1 17 = M 17 := fm 17 (fun k => by unfold TD1; omega)
  have m18 : M1 18 = M 18 := fm 18 (fun k => by unfold TD1; omega)
  have m19 : M1 19 = M 19 := fm 19 (fun k => by unfold TD1; omega)
  have m20 : M1 20 = M 20 := fm 20 (fun k => by unfold TD1; omega)
  have m21 : M1 21 = M 21 := fm 21 (fun k => by unfold TD1; omega)
  have m22 : M1 22 = M 22 := fm 22 (fun k => by unfold TD1; omega)
  have m23 : M1 23 = M 23 := fm 23 (fun k => by unfold TD1; omega)
  have m24 : M1 24 = M 24 := fm 24 (fun k => by unfold TD1; omega)
  have n1 : N1 1 = N 1 := fn 1 (fun k => by unfold TD2; omega)
  have n2 : N1 2 = N 2 := fn 2 (fun k => by unfold TD2; omega)
  have n4 : N1 4 = N 4 := fn 4 (fun k => by unfold TD2; omega)
  have n5 : N1 5 = N 5 := fn 5 (fun k => by unfold TD2; omega)
  have n6 : N1 6 = N 6 := fn 6 (fun k => by unfold TD2; omega)
  have n7 : N1 7 = N 7 := fn 7 (fun k => by unfold TD2; omega)
  have n8 : N1 8 = N 8 := fn 8 (fun k => by unfold TD2; omega)
  have n9 : N1 9 = N 9 := fn 9 (fun k => by unfold TD2; omega)
  have n10 : N1 10 = N 10 := fn 10 (fun k => by unfold TD2; omega)
  have n11 : N1 11 = N 11 := fn 11 (fun k => by unfold TD2; omega)
  have n12 : N1 12 = N 12 := fn 12 (fun k => by unfold TD2; omega)
  have n13 : N1 13 = N 13 := fn 13 (fun k => by unfold TD2; omega)
  have n14 : N1 14 = N 14 := fn 14 (fun k => by unfold TD2; omega)
  have n15 : N1 15 = N 15 := fn 15 (fun k => by unfold TD2; omega)
  have n16 : N1 16 = N 16 := fn 16 (fun k => by unfold TD2; omega)
  have n17 : N1 17 = N 17 := fn 17 (fun k => by unfold TD2; omega)
  have n18 : N1 18 = N 18 := fn 18 (fun k => by unfold TD2; omega)
  have n19 : N1 19 = N 19 := fn 19 (fun k => by unfold TD2; omega)
  have n20 : N1 20 = N 20 := fn 20 (fun k => by unfold TD2; omega)
  have n21 : N1 21 = N 21 := fn 21 (fun k => by unfold TD2; omega)
  have n22 : N1 22 = N 22 := fn 22 (fun k => by unfold TD2; omega)
  have n23 : N1 23 = N 23 := fn 23 (fun k => by unfold TD2; omega)
  have n24 : N1 24 = N 24 := fn 24 (fun k => by unfold TD2; omega)
  have n25 : N1 25 = N 25 := fn 25 (fun k => by unfold TD2; omega)
  have n26 : N1 26 = N 26 := fn 26 (fun k => by unfold TD2; omega)
  have n27 : N1 27 = N 27 := fn 27 (fun k => by unfold TD2; omega)
  have n28 : N1 28 = N 28 := fn 28 (fun k => by unfold TD2; omega)
  have n29 : N1 29 = N 29 := fn 29 (fun k => by unfold TD2; omega)
  have n30 : N1 30 = N 30 := fn 30 (fun k => by unfold TD2; omega)
  have n35 : N1 35 = N 35 := fn 35 (fun k => by unfold TD2; omega)
  have n36 : N1 36 = N 36 := fn 36 (fun k => by unfold TD2; omega)
  have n60 : N1 60 = N 60 := fn 60 (fun k => by unfold TD2; omega)
  have b5 : M1 2 0 5 = M 2 0 5 := k1 2 0 5 (by unfold TD1; omega)
  have a1 : N1 0 0 1 = N 0 0 1 := k2 0 0 1 (by unfold TD2; omega)
  have a2 : N1 0 0 2 = N 0 0 2 := k2 0 0 2 (by unfold TD2; omega)
  have a8 : N1 0 0 8 = N 0 0 8 := k2 0 0 8 (by unfold TD2; omega)
  have a12 : N1 0 0 12 = N 0 0 12 := k2 0 0 12 (by unfold TD2; omega)
  have a17 : N1 0 0 17 = N 0 0 17 := k2 0 0 17 (by unfold TD2; omega)
  unfold TLD TDr TDf TDs TDp TDo TNUM TCAR LIM TXT LR frm stT at h ⊢
  rw [m1, m8, m10, m11, m14, m15, m17, m18, m19, m20, m21, m22, m23, m24, n1, n2, n4, n5, n6, n7, n8, n9, n10, n11, n12, n13, n14, n15, n16, n17, n18, n19, n20, n21, n22, n23, n24, n25, n26, n27, n28, n29, n30, n35, n36, n60, b5, a1, a2, a8, a12, a17]
  exact h
/-! the end of a lap -/
def KZ1 (c lap : Int) (f : Nat) (i k : Int) : Prop := ¬ (f = 9 ∧ i = c ∧ (k = 0 ∨ k = 3 ∨ k = 4 ∨ k = 5 ∨ k = 8 ∨ k = 9 ∨ k = 12 ∨ k = 13 ∨ k = 14)) ∧ ¬ (f = 34 ∧ i = 0) ∧ ¬ (f = 31 ∧ i = c ∧ k = lap) ∧ f ≠ 27 ∧ f ≠ 28
def KZ2 (c lap : Int) (f : Nat) (i k : Int) : Prop := ¬ ((f = 41 ∨ f = 39 ∨ f = 40 ∨ f = 49 ∨ f = 44 ∨ f = 45 ∨ f = 54 ∨ f = 47 ∨ f = 48) ∧ i = 0 ∧ k = c) ∧ ¬ (f = 58 ∧ i = 0) ∧ ¬ (f = 59 ∧ i = 0 ∧ k = 12 * c + lap) ∧ f ≠ 38 ∧ f ≠ 37 ∧ ¬ (f = 0 ∧ k = 47)
/-- what both have come to of car c at the end of a lap -/
def QZ (M0 N0 : jm_M) (c lap X : Int) (M N : jm_M) : Prop := (bI bx1 M ∧ bI bx2 N ∧ Kp (KZ1 c lap) M0 M ∧ Kp (KZ2 c lap) N0 N) ∧ (M 9 c 0 = N 41 0 c ∧ M 9 c 3 = N 39 0 c ∧ (N 39 0 c = 1 → M 9 c 4 = N 40 0 c) ∧ M 9 c 5 = N 49 0 c ∧ M 9 c 8 = N 44 0 c ∧ M 9 c 9 = N 45 0 c ∧ M 9 c 12 = N 54 0 c ∧ M 9 c 13 = N 47 0 c ∧ M 9 c 14 = N 48 0 c) ∧ (∀ t : Int, 0 ≤ t → t < 4 → M 34 0 t = N 58 0 t ∧ 0 ≤ N 58 0 t ∧ N 58 0 t ≤ X) ∧ M 31 c lap = N 59 0 (12 * c + lap) ∧ (N 39 0 c = 1 ∨ (N 39 0 c = 0 ∧ lap + 1 < N0 0 0 2)) ∧ (0 ≤ N 45 0 c ∧ N 45 0 c < N0 19 0 c) ∧ (0 ≤ N 44 0 c ∧ N 44 0 c ≤ N0 14 0 c) ∧ (0 ≤ N 41 0 c ∧ N 41 0 c ≤ X) ∧ (-1 ≤ N 47 0 c ∧ N 47 0 c ≤ 1) ∧ N0 41 0 c ≤ N 41 0 c
/-- what holds of both of car c at the end of its lap -/
def PZ (M N : jm_M) (c lap e X : Int) : Prop := (0 ≤ c ∧ c < N 0 0 17 ∧ 0 ≤ lap ∧ lap < N 0 0 2) ∧ N 43 0 c = N 0 0 1 * lap + (N 0 0 1 - 1) + 1 ∧ (M 9 c 0 = N 41 0 c ∧ N 41 0 c = e ∧ M 9 c 3 = N 39 0 c ∧ N 39 0 c = 0 ∧ M 9 c 5 = N 49 0 c ∧ M 9 c 8 = N 44 0 c ∧ M 9 c 9 = N 45 0 c ∧ M 9 c 12 = N 54 0 c ∧ M 9 c 13 = N 47 0 c ∧ M 9 c 14 = N 48 0 c ∧ (-1 ≤ N 47 0 c ∧ N 47 0 c ≤ 1)) ∧ (∀ t : Int, 0 ≤ t → t < 4 → M 34 0 t = N 58 0 t ∧ 0 ≤ N 58 0 t ∧ N 58 0 t ≤ X) ∧ M 31 c lap = N 59 0 (12 * c + lap) ∧ (0 ≤ N 45 0 c ∧ N 45 0 c < N 19 0 c) ∧ (0 ≤ N 44 0 c ∧ N 44 0 c ≤ N 14 0 c) ∧ (0 ≤ e ∧ e ≤ X ∧ X ≤ 2000000000) ∧ (∀ j : Int, 0 ≤ j → j < N 19 0 c → M 29 c j = N 46 0 (4 * c + j))
theorem jm_max_b {a b lo hi : Int} (ha : lo ≤ a ∧ a ≤ hi) (hb : lo ≤ b ∧ b ≤ hi) : lo ≤ jm_max a b ∧ jm_max a b ≤ hi := by
  unfold jm_max
  split <;> omega
/-- the times at the box are bounded -/
theorem b_box {x lane free chg fl fills X : Int} (hx : 0 ≤ x ∧ x ≤ X) (hl : 0 ≤ lane ∧ lane ≤ 60000) (hf : 0 ≤ free ∧ free ≤ X) (hc : 0 ≤ chg ∧ chg ≤ 20000) (hfl : 0 ≤ fl ∧ fl ≤ 200) (hfi : 0 ≤ fills ∧ fills ≤ 200) (hX : X ≤ 2000000000) : 0 ≤ jm_w (jm_w (jm_max (jm_w (x + lane)) free + chg) + jm_w (fl * fills)) ∧ jm_w (jm_w (jm_max (jm_w (x + lane)) free + chg) + jm_w (fl * fills)) ≤ X + 120000 := by
  have m := jm_mulb (C := 40000) hfl.1 hfl.2 hfi.1 hfi.2 rfl
  have w1 : jm_w (x + lane) = x + lane := jm_wid (by omega) (by omega)
  have mx := jm_max_b (lo := 0) (hi := X + 60000) (a := x + lane) (b := free) ⟨by omega, by omega⟩ ⟨by omega, by omega⟩
  rw [w1, jm_wid (x := fl * fills) (by omega) (by omega), jm_wid (x := jm_max (x + lane) free + chg) (by omega) (by omega), jm_wid (by omega) (by omega)]
  exact ⟨by omega, by omega⟩
theorem b_box2 {x lane free chg fl fills X : Int} (hx : 0 ≤ x ∧ x ≤ X) (hl : 0 ≤ lane ∧ lane ≤ 60000) (hf : 0 ≤ free ∧ free ≤ X) (hc : 0 ≤ chg ∧ chg ≤ 20000) (hfl : 0 ≤ fl ∧ fl ≤ 200) (hfi : 0 ≤ fills ∧ fills ≤ 200) (hX : X ≤ 2000000000) : x ≤ jm_w (jm_w (jm_max (jm_w (x + lane)) free + chg) + jm_w (fl * fills)) := by
  have m := jm_mulb (C := 40000) hfl.1 hfl.2 hfi.1 hfi.2 rfl
  have w1 : jm_w (x + lane) = x + lane := jm_wid (by omega) (by omega)
  have mx := jm_max_b (lo := 0) (hi := X + 60000) (a := x + lane) (b := free) ⟨by omega, by omega⟩ ⟨by omega, by omega⟩
  have m2 : x ≤ jm_max (x + lane) free := by unfold jm_max; split <;> omega
  rw [w1, jm_wid (x := fl * fills) (by omega) (by omega), jm_wid (x := jm_max (x + lane) free + chg) (by omega) (by omega), jm_wid (by omega) (by omega)]
  omega
theorem j_endLap (fu : Nat) (hfu : 4000 ≤ fu) (M N : jm_M) (iM : bI bx1 M) (iN : bI bx2 N) (tl : TLD M N) (rt : RTm M N) (c lap e X : Int) (pz : PZ M N c lap e X) : J2 (fX2_endLap fu M c c c lap e) (fX12_endsLap fu N c lap e) (fun _ M1 _ N1 => QZ M N c lap (X + 120000) M1 N1) := by
  obtain ⟨⟨t1, t2, t3, t4, t5⟩, ⟨⟨s0, s1, s5⟩, n8, n24, nl⟩, tc, ⟨lm1, lm2, lm3, lm4⟩⟩ := id tl
  obtain ⟨⟨c0, c1, l0, l1⟩, hend, ⟨q0, qe, q3, q39, q5, q8, q9, q12, q13, q14, qm⟩, bx, q31, on, fl, be, ag⟩ := pz
  obtain ⟨⟨u0, u1, u2, u3, u4, u5⟩, ⟨u12, u13⟩, ut⟩ := tc c c0 c1
  obtain ⟨⟨g1, g2, g3, g4, g5, g6, g7, g8⟩, g9⟩ := lm4 c c0 c1
  obtain ⟨z1, z2⟩ := t3 c c0 c1
  have b17 : 0 ≤ N 0 0 17 ∧ N 0 0 17 ≤ 6 := iN 0 0 17
  have bn : 1 ≤ N 0 0 2 ∧ N 0 0 2 ≤ 12 := iN 0 0 2
  have b16 : 0 ≤ N 16 0 c ∧ N 16 0 c ≤ 3 := iN 16 0 c
  have hc6 : 0 ≤ c ∧ c < 6 := ⟨c0, by omega⟩
  have ie : jm_in e := jm_inL (by omega) (by omega)
  have wn : jm_w (N 0 0 2 - 1) = N 0 0 2 - 1 := jm_wid (by omega) (by omega)
  have w5 : jm_w (5 * c) = 5 * c := jm_wid (by omega) (by omega)
  -- the car is home
  have home : J2 (jm_b (fX6_rest M c 1 e) fun _ M4 => some ((0 : Int), M4)) (gX12_endsLap_19 fu N c e) (fun _ M1 _ N1 => QZ M N c lap (X + 120000) M1 N1) := by
    unfold gX12_endsLap_19
    refine J2.lb (c_rest M c 1 e) (fun _ M1 v1 => ?_)
    refine J2.rT hc6 (J2.rs (fun N1 v2 => J2.rT hc6 (J2.rs (fun N2 v3 => J2.ret ?_))))
    have o : ∀ (f : Nat) (i k : Int), ¬ (f = 9 ∧ i = c ∧ (k = 3 ∨ k = 4)) → M1 f i k = M f i k := fun f i k y => by rw [v1, jm_une (by omega), jm_une (by omega)]
    have p : ∀ (f : Nat) (i k : Int), ¬ ((f = 39 ∨ f = 40) ∧ i = 0 ∧ k = c) → N2 f i k = N f i k := fun f i k y => by rw [v3, jm_une (by omega), v2, jm_une (by omega)]
    have e39 : N2 39 0 c = 1 := by rw [v3, jm_une_f (by decide), v2]; exact jm_ueq
    have e40 : N2 40 0 c = e := by rw [v3]; exact jm_ueq
    have e3 : M1 9 c 3 = 1 := by rw [v1, jm_une_k (by decide)]; exact jm_ueq
    have e4 : M1 9 c 4 = e := by rw [v1]; exact jm_ueq
    refine ⟨⟨?_, ?_, fun f i k y => ?_, fun f i k y => ?_⟩, ⟨?_, e3.trans e39.symm, fun _ => e4.trans e40.symm, ?_, ?_, ?_, ?_, ?_, ?_⟩, fun t y1 y2 => ?_, ?_, Or.inl e39, ?_, ?_, ?_, ?_, ?_⟩
    · rw [v1]; exact bI_u (bI_u iM (jm_inL (by decide) (by decide))) ie
    · rw [v3, v2]; exact bI_u (bI_u iN (jm_inL (by decide) (by decide))) ie
    · unfold KZ1 at y; exact o f i k (by omega)
    · unfold KZ2 at y; exact p f i k (by omega)
    · rw [o 9 c 0 (by omega), p 41 0 c (by omega)]; exact q0
    · rw [o 9 c 5 (by omega), p 49 0 c (by omega)]; exact q5
    · rw [o 9 c 8 (by omega), p 44 0 c (by omega)]; exact q8
    · rw [o 9 c 9 (by omega), p 45 0 c (by omega)]; exact q9
    · rw [o 9 c 12 (by omega), p 54 0 c (by omega)]; exact q12
    · rw [o 9 c 13 (by omega), p 47 0 c (by omega)]; exact q13
    · rw [o 9 c 14 (by omega), p 48 0 c (by omega)]; exact q14
    · have := bx t y1 y2
      rw [o 34 0 t (by omega), p 58 0 t (by omega)]
      exact ⟨this.1, this.2.1, by omega⟩
    · rw [o 31 c lap (by omega), p 59 0 _ (by omega)]; exact q31
    · rw [p 45 0 c (by omega)]; exact on
    · rw [p 44 0 c (by omega)]; exact fl
    · rw [p 41 0 c (by omega), qe]; exact ⟨be.1, by omega⟩
    · rw [p 47 0 c (by omega)]; exact qm
    · rw [p 41 0 c (by omega)]; exact Int.le_refl _
  -- at the box, or on
  have atb : ∀ (M2 N2 : jm_M) (box s p : Int), bI bx1 M2 → bI bx2 N2 → TLD M2 N2 → (∀ (f : Nat) (i k : Int), ¬ (f = 9 ∧ i = c ∧ (k = 13 ∨ k = 14)) → f ≠ 27 → f ≠ 28 → ¬ (f = 31 ∧ i = c ∧ k = lap) → M2 f i k = M f i k) → (∀ (f : Nat) (i k : Int), ¬ ((f = 47 ∨ f = 48) ∧ i = 0 ∧ k = c) → f ≠ 37 → f ≠ 38 → ¬ (f = 0 ∧ k = 47) → ¬ (f = 59 ∧ i = 0 ∧ k = 12 * c + lap) → N2 f i k = N f i k) → M2 9 c 13 = N2 47 0 c → M2 9 c 14 = N2 48 0 c → M2 31 c lap = N2 59 0 (12 * c + lap) → (-1 ≤ N2 47 0 c ∧ N2 47 0 c ≤ 1) → ((box = -1 ∧ s = -2) ∨ (0 ≤ box ∧ box ≤ 3 ∧ s = box ∧ p = N 14 0 c)) → lap + 1 < N 0 0 2 → J2 (gX2_endLap_76 fu M2 c c lap e box) (fX12_endsLap_92 fu fu N2 c lap e s p (5 * c)) (fun _ M1 _ N1 => QZ M N c lap (X + 120000) M1 N1) := by
    intro M2 N2 box s p i2 j2 tl2 o p2 e13 e14 e31 md hb hl
    obtain ⟨⟨-, -, -, tp2, -⟩, ⟨-, n82, -, -⟩, -, -⟩ := tl2
    have r14 : N2 14 0 c = N 14 0 c := p2 14 0 c (by omega) (by decide) (by decide) (by omega) (by omega)
    have r17 : N2 0 0 17 = N 0 0 17 := p2 0 0 17 (by omega) (by decide) (by decide) (by omega) (by omega)
    have r16 : N2 16 0 c = N 16 0 c := p2 16 0 c (by omega) (by decide) (by decide) (by omega) (by omega)
    have r44 : N2 44 0 c = N 44 0 c := p2 44 0 c (by omega) (by decide) (by decide) (by omega) (by omega)
    have r45 : N2 45 0 c = N 45 0 c := p2 45 0 c (by omega) (by decide) (by decide) (by omega) (by omega)
    have r19 : N2 19 0 c = N 19 0 c := p2 19 0 c (by omega) (by decide) (by decide) (by omega) (by omega)
    have r41 : N2 41 0 c = N 41 0 c := p2 41 0 c (by omega) (by decide) (by decide) (by omega) (by omega)
    have r39 : N2 39 0 c = N 39 0 c := p2 39 0 c (by omega) (by decide) (by decide) (by omega) (by omega)
    have r49 : N2 49 0 c = N 49 0 c := p2 49 0 c (by omega) (by decide) (by decide) (by omega) (by omega)
    have r54 : N2 54 0 c = N 54 0 c := p2 54 0 c (by omega) (by decide) (by decide) (by omega) (by omega)
    have r58 : ∀ t : Int, N2 58 0 t = N 58 0 t := fun t => p2 58 0 t (by omega) (by decide) (by decide) (by omega) (by omega)
    have r5 : ∀ k : Int, N2 5 0 k = N 5 0 k := fun k => p2 5 0 k (by omega) (by decide) (by decide) (by omega) (by omega)
    have v34 : ∀ t : Int, M2 34 0 t = M 34 0 t := fun t => o 34 0 t (by omega) (by decide) (by decide) (by omega)
    have v : ∀ k : Int, k ≠ 13 → k ≠ 14 → M2 9 c k = M 9 c k := fun k y1 y2 => o 9 c k (by omega) (by decide) (by decide) (by omega)
    have v8 : ∀ k : Int, M2 8 c k = M 8 c k := fun k => o 8 c k (by omega) (by decide) (by decide) (by omega)
    have v10 : M2 10 c 3 = M 10 c 3 := o 10 c 3 (by omega) (by decide) (by decide) (by omega)
    refine J2.mono (j_lapE fu hfu M2 N2 i2 j2 tp2 n82 c lap e box s p ⟨c0, by omega⟩ (by rw [r14]; exact hb) (by rw [v8, r16]; exact u3) (by rw [v8, r14]; exact u1) (by rw [r14]; omega) (by rw [r44, r14]; exact fl) (fun t y1 y2 => by rw [v34, r58]; exact (bx t y1 y2).1) (by rw [v10, r19]; exact z1) (by rw [v 9 (by decide) (by decide), r45]; exact q9) (by rw [v 8 (by decide) (by decide), r44]; exact q8) (by rw [v 12 (by decide) (by decide), r54]; exact q12) (by rw [v 5 (by decide) (by decide), r49]; exact q5)) (fun _ M1 _ N1 y => ?_)
    rcases y with ⟨rfl, rfl⟩ | ⟨set, put, qb, pb⟩
    · refine ⟨⟨i2, j2, fun f i k y => ?_, fun f i k y => ?_⟩, ⟨?_, ?_, fun y => ?_, ?_, ?_, ?_, ?_, e13, e14⟩, fun t y1 y2 => ?_, e31, Or.inr ⟨r39.trans q39, hl⟩, ?_, ?_, ?_, md, ?_⟩
      · unfold KZ1 at y; exact o f i k (by omega) y.2.2.2.1 y.2.2.2.2 y.2.2.1
      · unfold KZ2 at y; exact p2 f i k (by omega) y.2.2.2.2.1 y.2.2.2.1 y.2.2.2.2.2 y.2.2.1
      · rw [v 0 (by decide) (by decide), r41]; exact q0
      · rw [v 3 (by decide) (by decide), r39]; exact q3
      · rw [r39, q39] at y; exact absurd y (by decide)
      · rw [v 5 (by decide) (by decide), r49]; exact q5
      · rw [v 8 (by decide) (by decide), r44]; exact q8
      · rw [v 9 (by decide) (by decide), r45]; exact q9
      · rw [v 12 (by decide) (by decide), r54]; exact q12
      · have := bx t y1 y2
        rw [v34, r58]
        exact ⟨this.1, this.2.1, by omega⟩
      · rw [r45]; exact on
      · rw [r44]; exact fl
      · rw [r41, qe]; exact ⟨be.1, by omega⟩
      · rw [r41]; exact Int.le_refl _
    · obtain ⟨⟨i3, j3, k3, m3⟩, ⟨a0, a5, a8, a9, a12, a34⟩, ao, chg, fills, hch, hfi, h41, h44, h58, h58t⟩ := qb
      rw [r16] at h41 h58 h58t
      rw [r5, r5, r58] at h41
      rw [r5] at hch
      rw [r14, r44] at hfi
      rw [r44] at h44
      have w0 : jm_w (N 14 0 c - N 44 0 c) = N 14 0 c - N 44 0 c := jm_wid (by omega) (by omega)
      rw [w0] at hfi
      have mf := jm_min_f put (N 14 0 c - N 44 0 c)
      have fb : 0 ≤ fills ∧ fills ≤ 200 ∧ fills ≤ N 14 0 c - N 44 0 c := by
        rw [hfi]
        omega
      have w44 : jm_w (N 44 0 c + fills) = N 44 0 c + fills := jm_wid (by omega) (by omega)
      have bt := bx (N 16 0 c) b16.1 (by omega)
      have tb := b_box (x := e) (lane := N 5 0 3) (free := N 58 0 (N 16 0 c)) (chg := chg) (fl := N 5 0 5) (fills := fills) (X := X) ⟨be.1, be.2.1⟩ ⟨by omega, by omega⟩ ⟨bt.2.1, bt.2.2⟩ (by omega) ⟨by omega, by omega⟩ ⟨fb.1, fb.2.1⟩ be.2.2
      have tb2 := b_box2 (x := e) (lane := N 5 0 3) (free := N 58 0 (N 16 0 c)) (chg := chg) (fl := N 5 0 5) (fills := fills) (X := X) ⟨be.1, be.2.1⟩ ⟨by omega, by omega⟩ ⟨bt.2.1, bt.2.2⟩ (by omega) ⟨by omega, by omega⟩ ⟨fb.1, fb.2.1⟩ be.2.2
      rw [← h41] at tb tb2
      have n31 : ∀ k : Int, N1 59 0 k = N2 59 0 k := fun k => m3 59 0 k (by unfold KB2; omega)
      refine ⟨⟨i3, j3, fun f i k y => ?_, fun f i k y => ?_⟩, ⟨a0, ?_, fun y => ?_, a5, a8, a9, a12, ?_, ?_⟩, fun t y1 y2 => ?_, ?_, Or.inr ⟨?_, hl⟩, ?_, ?_, tb, by rw [m3 47 0 c (by unfold KB2; omega)]; exact md, by rw [qe]; exact tb2⟩
      · unfold KZ1 at y
        rw [k3 f i k (by unfold KB1; omega)]
        exact o f i k (by omega) y.2.2.2.1 y.2.2.2.2 y.2.2.1
      · unfold KZ2 at y
        rw [m3 f i k (by unfold KB2; omega)]
        exact p2 f i k (by omega) y.2.2.2.2.1 y.2.2.2.1 y.2.2.2.2.2 y.2.2.1
      · rw [k3 9 c 3 (by unfold KB1; omega), v 3 (by decide) (by decide), m3 39 0 c (by unfold KB2; omega), r39]; exact q3
      · rw [m3 39 0 c (by unfold KB2; omega), r39, q39] at y; exact absurd y (by decide)
      · rw [k3 9 c 13 (by unfold KB1; omega), m3 47 0 c (by unfold KB2; omega)]; exact e13
      · rw [k3 9 c 14 (by unfold KB1; omega), m3 48 0 c (by unfold KB2; omega)]; exact e14
      · refine ⟨a34 t y1 y2, ?_⟩
        by_cases yt : t = N 16 0 c
        · rw [yt, h58t]; exact tb
        · have := bx t y1 y2
          rw [h58 t yt, r58]
          exact ⟨this.2.1, by omega⟩
      · rw [k3 31 c lap (by unfold KB1; omega), n31]; exact e31
      · rw [m3 39 0 c (by unfold KB2; omega), r39]; exact q39
      · rcases ao with y | ⟨y, y1, y2⟩
        · rw [y, r45]; exact on
        · rw [y]; rw [r19] at y2; exact ⟨y1, y2⟩
      · rw [h44, w44]; exact ⟨by omega, by omega⟩
  unfold fX2_endLap fX12_endsLap
  rw [s1, wn]
  by_cases last : lap = N 0 0 2 - 1
  · exact J2.lT last (J2.rT last home)
  · refine J2.lF last (J2.rF last ?_)
    have hl : lap + 1 < N 0 0 2 := by omega
    refine J2.bq (j_over fu hfu M N iN s0 s1 s5 rt c e) (fun v w z => ?_)
    obtain ⟨z0, z01⟩ := z
    subst z0
    by_cases won : v = 0
    case neg => exact J2.lF won (J2.rF won home)
    refine J2.lT won (J2.rT won (J2.rT hc6 ?_))
    have asked : wp (fX1_isAsked M c) (fun v M1 => M1 = M ∧ ((N 30 0 c ≠ 0 ∧ N 60 0 c = 0 ∧ v = 1) ∨ (¬ (N 30 0 c ≠ 0 ∧ N 60 0 c = 0) ∧ v = 0))) := by
      unfold fX1_isAsked
      rw [u12, u13]
      refine wp_ite (fun y => wp_ret ⟨rfl, Or.inr ⟨fun y2 => y2.1 y, rfl⟩⟩) (fun y => ?_)
      exact wp_ite (fun y2 => wp_ret ⟨rfl, Or.inl ⟨y, y2, rfl⟩⟩) (fun y2 => wp_ret ⟨rfl, Or.inr ⟨fun y3 => y2 y3.2, rfl⟩⟩)
    have plain : J2 (gX2_endLap_76 fu M c c lap e (-1)) (fX12_endsLap_92 fu fu N c lap e (-2) 0 (5 * c)) (fun _ M1 _ N1 => QZ M N c lap (X + 120000) M1 N1) := atb M N (-1) (-2) 0 iM iN tl (fun _ _ _ _ _ _ _ => rfl) (fun _ _ _ _ _ _ _ _ => rfl) q13 q14 q31 qm (Or.inl ⟨rfl, rfl⟩) hl
    refine J2.lq asked (fun va hva => ?_)
    by_cases p30 : N 30 0 c = 0
    · refine J2.rT p30 (J2.lT (by omega) (J2.re' w5 plain))
    · refine J2.rF p30 (J2.rT hc6 ?_)
      by_cases p60 : N 60 0 c = 0
      · refine J2.lF (by omega) (J2.rT p60 ?_)
        have tx := ut p30
        have b11 : 0 ≤ M 8 c 11 ∧ M 8 c 11 ≤ 16 := iM 8 c 11
        have b36 : 0 ≤ N 36 0 c ∧ N 36 0 c ≤ 100 := iN 36 0 c
        have w100 : jm_w (100 * c) = 100 * c := jm_wid (by omega) (by omega)
        have w36 : jm_w (100 * c + N 36 0 c) = 100 * c + N 36 0 c := jm_wid (by omega) (by omega)
        unfold fX12_asks
        have lt := j_letters fu hfu M N iM iN t1 t2 rt n8 c lap e ie ⟨c0, c1⟩ s0 s1 s5 ⟨l0, l1⟩ hend u2 u3 z1 q9 on q8 q5 (ag _ on.1 on.2) (z2 _ on.1 on.2).1 (fun t y1 y2 => (bx t y1 y2).1)
        obtain ⟨va1, M1, wa1, N1, x1, x2, i1, j1, k1, m1, LP⟩ := lt
        rw [x1, x2]
        have e11 : M1 8 c 11 = M 8 c 11 := k1 8 c 11 (by unfold K27; decide)
        have e36 : N1 36 0 c = N 36 0 c := m1 36 0 c (by unfold K38; decide)
        have tl1 : TLD M1 N1 := tl.kp (k1.weak (fun f i k y => by unfold TD1 at y; unfold K27; omega)) (m1.weak (fun f i k y => by unfold TD2 at y; unfold K38; omega))
        have tx1 : TXT 0 M1 N1 (M 8 c 11) (100 * c) (100 * c + N 36 0 c) := by
          have y := (tl1.2.2.1 c c0 (by rw [m1 0 0 17 (by unfold K38; decide)]; exact c1)).2.2 (by rw [m1 30 0 c (by unfold K38; decide)]; exact p30)
          rw [e11, e36] at y
          exact y
        rw [jm_bsm, jm_bsm, e11, w100]
        refine J2.lT ⟨by omega, by omega⟩ (J2.lT ⟨by omega, by omega⟩ ?_)
        have as := j_asks fu hfu M1 N1 i1 j1 (M 8 c 11) c lap (100 * c) (100 * c + N 36 0 c) hc6 ⟨l0, by omega⟩ LP.ltr tx1
        obtain ⟨v17, M2, w17, N2, x3, x4, i2, j2, k2, hq⟩ := as
        have x5 : (jm_e (100 * c) fun v3 => if 0 ≤ c ∧ c < 17 then (jm_e (jm_w (v3 + (N1 36 0 c))) fun v7 => fX12_asks_27 fu fu N1 c lap v3 v7 0) else none) = some (w17, N2) := by
          show (if 0 ≤ c ∧ c < 17 then fX12_asks_27 fu fu N1 c lap (100 * c) (jm_w (100 * c + (N1 36 0 c))) 0 else none) = _
          rw [if_pos ⟨by omega, by omega⟩, e36, w36]
          exact x4
        rw [x3]
        refine J2.lb (P := fun r M3 => r = v17 ∧ M3 = M2) ⟨v17, M2, rfl, rfl, rfl⟩ (fun va2 M3 y => ?_)
        rw [y.1, y.2]
        refine J2.rb (P := fun r N3 => r = w17 ∧ N3 = N2) ⟨w17, N2, x5, rfl, rfl⟩ (fun wa2 N3 y => ?_)
        rw [y.1, y.2]
        have tl2 : TLD M2 N2 := by
          refine tl1.kp (k2.weak (fun f i k y => by unfold TD1 at y; unfold K28; omega)) ?_
          rcases hq with ⟨-, -, y⟩ | ⟨-, -, y, -⟩
          · exact y.weak (fun f i k y => by unfold TD2 at y; unfold K37; omega)
          · exact y.weak (fun f i k y => by unfold TD2 at y; unfold KAA; omega)
        have oM : ∀ (f : Nat) (i k : Int), f ≠ 27 → f ≠ 28 → M2 f i k = M f i k := fun f i k y1 y2 => (k2 f i k y2).trans (k1 f i k y1)
        rcases hq with ⟨hv, hw, kN⟩ | ⟨hv0, hv20, kN, h59, hmd, h47, h48, hbx⟩
        · have cf := c_follow fu M2 i2 (M 8 c 11) v17 c lap ⟨by omega, by omega⟩ ⟨l0, by omega⟩
          refine J2.lb cf (fun b M4 y => ?_)
          obtain ⟨-, hb, hM⟩ : v17 = -1 ∧ b = -1 ∧ M4 = M2 := by
            rcases y with y | ⟨y, -⟩
            · exact y
            · exfalso; omega
          rw [hb, hM]
          refine J2.rT (by omega) (J2.re' w5 ?_)
          have oN : ∀ (f : Nat) (i k : Int), f ≠ 37 → f ≠ 38 → ¬ (f = 0 ∧ k = 47) → N2 f i k = N f i k := fun f i k y1 y2 y3 => (kN f i k ⟨y1, y3⟩).trans (m1 f i k y2)
          refine atb M2 N2 (-1) w17 0 i2 j2 tl2 (fun f i k y1 y2 y3 y4 => oM f i k y2 y3) (fun f i k y1 y2 y3 y4 y5 => oN f i k y2 y3 y4) ?_ ?_ ?_ (by rw [oN 47 0 c (by decide) (by decide) (by omega)]; exact qm) (Or.inl ⟨rfl, hw⟩) hl
          · rw [oM 9 c 13 (by decide) (by decide), oN 47 0 c (by decide) (by decide) (by omega)]; exact q13
          · rw [oM 9 c 14 (by decide) (by decide), oN 48 0 c (by decide) (by decide) (by omega)]; exact q14
          · rw [oM 31 c lap (by decide) (by decide), oN 59 0 _ (by decide) (by decide) (by omega)]; exact q31
        · have cf := c_follow fu M2 i2 (M 8 c 11) v17 c lap ⟨by omega, hv20⟩ ⟨l0, by omega⟩
          refine J2.lb cf (fun b M4 y => ?_)
          obtain ⟨-, hb, i4, k4, f31, f13, f14⟩ : 0 ≤ v17 ∧ b = M2 24 (M 8 c 11) v17 ∧ bI bx1 M4 ∧ Kp (KF c lap) M2 M4 ∧ M4 31 c lap = v17 ∧ M4 9 c 13 = (if M2 22 (M 8 c 11) v17 = 9 then M2 9 c 13 else M2 22 (M 8 c 11) v17) ∧ M4 9 c 14 = (if M2 23 (M 8 c 11) v17 = 9 then M2 9 c 14 else M2 23 (M 8 c 11) v17) := by
            rcases y with ⟨y, -⟩ | y
            · exfalso; omega
            · exact y
          rw [k2 24 _ _ (by unfold K28; decide)] at hb
          rw [k2 22 _ _ (by unfold K28; decide), oM 9 c 13 (by decide) (by decide)] at f13
          rw [k2 23 _ _ (by unfold K28; decide), oM 9 c 14 (by decide) (by decide)] at f14
          rw [m1 47 0 c (by unfold K38; decide)] at h47
          rw [m1 48 0 c (by unfold K38; decide)] at h48
          have tl4 : TLD M4 N2 := tl2.kp (k4.weak (fun f i k y => by unfold TD1 at y; unfold KF; omega)) Kp.rf
          have oM4 : ∀ (f : Nat) (i k : Int), ¬ (f = 9 ∧ i = c ∧ (k = 13 ∨ k = 14)) → f ≠ 27 → f ≠ 28 → ¬ (f = 31 ∧ i = c ∧ k = lap) → M4 f i k = M f i k := fun f i k y1 y2 y3 y4 => (k4 f i k ⟨y4, y1⟩).trans (oM f i k y2 y3)
          have oN : ∀ (f : Nat) (i k : Int), ¬ ((f = 47 ∨ f = 48) ∧ i = 0 ∧ k = c) → f ≠ 37 → f ≠ 38 → ¬ (f = 0 ∧ k = 47) → ¬ (f = 59 ∧ i = 0 ∧ k = 12 * c + lap) → N2 f i k = N f i k := fun f i k y1 y2 y3 y4 y5 => (kN f i k ⟨y1, y5, y2, y4⟩).trans (m1 f i k y3)
          have md2 : -1 ≤ N2 47 0 c ∧ N2 47 0 c ≤ 1 := by
            rcases hmd with y | y
            · rw [y, m1 47 0 c (by unfold K38; decide)]; exact qm
            · exact y
          have e13 : M4 9 c 13 = N2 47 0 c := by rw [f13, h47, q13]
          have e14 : M4 9 c 14 = N2 48 0 c := by rw [f14, h48, q14]
          have e31 : M4 31 c lap = N2 59 0 (12 * c + lap) := f31.trans h59.symm
          have r14 : N2 14 0 c = N 14 0 c := oN 14 0 c (by omega) (by decide) (by decide) (by omega) (by omega)
          rcases hbx with ⟨hb1, hw⟩ | ⟨hb1, hb2, hw⟩
          · refine J2.rT (by omega) (J2.re' w5 ?_)
            exact atb M4 N2 b w17 0 i4 j2 tl4 oM4 oN e13 e14 e31 md2 (Or.inl ⟨by omega, hw⟩) hl
          · refine J2.rF (by omega) (J2.rT hc6 (J2.re (J2.re' w5 ?_)))
            rw [r14]
            exact atb M4 N2 b w17 (N 14 0 c) i4 j2 tl4 oM4 oN e13 e14 e31 md2 (Or.inr ⟨by omega, by omega, by omega, rfl⟩) hl
      · exact J2.lT (by omega) (J2.rF p60 (J2.re' w5 plain))
