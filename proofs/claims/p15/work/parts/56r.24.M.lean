/-! orders are heard -/
def TDo (M N : jm_M) : Prop := ∀ c : Int, 0 ≤ c → c < N 0 0 17 → M 10 (c + 6) 3 = N 22 0 c ∧ ∀ j : Int, 0 ≤ j → j < N 22 0 c → M 19 (c + 6) (3 * j) = N 23 0 (12 * c + j) ∧ M 19 (c + 6) (3 * j + 1) = N 24 0 (12 * c + j) ∧ M 19 (c + 6) (3 * j + 2) = N 25 0 (12 * c + j) ∧ (N 24 0 (12 * c + j) = 0 ∨ N 24 0 (12 * c + j) = 1) ∧ (N 24 0 (12 * c + j) = 0 → -1 ≤ N 25 0 (12 * c + j) ∧ N 25 0 (12 * c + j) ≤ 1)
def KO1 (c : Int) (f : Nat) (i k : Int) : Prop := ¬ (f = 9 ∧ i = c ∧ (k = 13 ∨ k = 14))
def KO2 (c : Int) (f : Nat) (i k : Int) : Prop := ¬ ((f = 47 ∨ f = 48) ∧ i = 0 ∧ k = c)
def QO (M0 N0 : jm_M) (c : Int) (_ : Int) (M : jm_M) (_ : Int) (N : jm_M) : Prop := bI bx1 M ∧ bI bx2 N ∧ Kp (KO1 c) M0 M ∧ Kp (KO2 c) N0 N ∧ M 9 c 13 = N 47 0 c ∧ M 9 c 14 = N 48 0 c ∧ (-1 ≤ N 47 0 c ∧ N 47 0 c ≤ 1)
theorem j_hear_l (fu : Nat) (M0 N0 : jm_M) (j0 : bI bx2 N0) (td : TDo M0 N0) (n8 : ∀ k : Int, 0 ≤ k → k < 8 → M0 18 0 k = N0 5 0 k) (es : M0 1 0 0 = N0 0 0 1) (c g : Int) (hc : 0 ≤ c ∧ c < N0 0 0 17) : ∀ (n : Nat) (M N : jm_M) (x : Int), QO M0 N0 c 0 M 0 N → 0 ≤ x → x ≤ N0 22 0 c → N0 22 0 c - x < (n : Int) → J2 (fX2_hear_3 fu n M c c g x) (fX12_hears_5 fu n N c g (12 * c + x)) (QO M0 N0 c) := by
  intro n
  induction n with
  | zero => intro M N x _ _ h1 hm; exfalso; omega
  | succ n ih =>
    intro M N x hq h0 h1 hm
    have hq' := hq
    obtain ⟨i1, i2, k1, k2, e13, e14, md⟩ := hq'
    show J2 (gX2_hear_3 fu (fX2_hear_3 fu n) M c c g x) (gX12_hears_5 fu (fX12_hears_5 fu n) N c g (12 * c + x)) _
    unfold gX2_hear_3 gX12_hears_5
    have b17 : 0 ≤ N0 0 0 17 ∧ N0 0 0 17 ≤ 6 := j0 0 0 17
    have b22 : 0 ≤ N0 22 0 c ∧ N0 22 0 c ≤ 12 := j0 22 0 c
    have hc6 : 0 ≤ c ∧ c < 6 := ⟨hc.1, by omega⟩
    obtain ⟨t1, t2⟩ := td c hc.1 hc.2
    have m10 : M 10 (c + 6) 3 = N0 22 0 c := (k1 10 (c + 6) 3 (by unfold KO1; omega)).trans t1
    have n22 : N 22 0 c = N0 22 0 c := k2 22 0 c (by unfold KO2; omega)
    have w0 : jm_w (jm_w (12 * c) + N0 22 0 c) = 12 * c + N0 22 0 c := by rw [jm_wid (x := 12 * c) (by omega) (by omega)]; exact jm_wid (by omega) (by omega)
    have w1 : jm_w (x + 1) = x + 1 := jm_wid (by omega) (by omega)
    have w2 : jm_w (12 * c + x + 1) = 12 * c + (x + 1) := by rw [jm_wid (by omega) (by omega)]; omega
    rw [n22, w0, m10]
    refine J2.rT hc6 ?_
    by_cases q : N0 22 0 c ≤ x
    · exact J2.lT q (J2.rT (by omega) (J2.ret hq))
    · obtain ⟨y0, y1, y2, y3, y4⟩ := t2 x h0 (by omega)
      have hi : 0 ≤ x ∧ x < M 10 (c + 6) 3 := ⟨h0, by omega⟩
      have c0 := cell_in i1 (r := c + 6) (i := x) (k := 0) (w := 3) (a := 3 * x) ⟨by omega, by omega⟩ (wid1_6 (by omega) (by omega)) hi ⟨by omega, by omega⟩ (by omega)
      have c1 := cell_in i1 (r := c + 6) (i := x) (k := 1) (w := 3) (a := 3 * x + 1) ⟨by omega, by omega⟩ (wid1_6 (by omega) (by omega)) hi ⟨by omega, by omega⟩ (by omega)
      have c2 := cell_in i1 (r := c + 6) (i := x) (k := 2) (w := 3) (a := 3 * x + 2) ⟨by omega, by omega⟩ (wid1_6 (by omega) (by omega)) hi ⟨by omega, by omega⟩ (by omega)
      have h72 : 0 ≤ 12 * c + x ∧ 12 * c + x < 72 := ⟨by omega, by omega⟩
      have a0 : ∀ v : Int, v = M 19 (c + 6) (3 * x) → v = N0 23 0 (12 * c + x) := fun v z => (z.trans (k1 19 _ _ (by unfold KO1; omega))).trans y0
      have a1 : ∀ v : Int, v = M 19 (c + 6) (3 * x + 1) → v = N0 24 0 (12 * c + x) := fun v z => (z.trans (k1 19 _ _ (by unfold KO1; omega))).trans y1
      have a2 : ∀ v : Int, v = M 19 (c + 6) (3 * x + 2) → v = N0 25 0 (12 * c + x) := fun v z => (z.trans (k1 19 _ _ (by unfold KO1; omega))).trans y2
      have n23 : N 23 0 (12 * c + x) = N0 23 0 (12 * c + x) := k2 23 0 _ (by unfold KO2; omega)
      have n24 : N 24 0 (12 * c + x) = N0 24 0 (12 * c + x) := k2 24 0 _ (by unfold KO2; omega)
      have n25 : N 25 0 (12 * c + x) = N0 25 0 (12 * c + x) := k2 25 0 _ (by unfold KO2; omega)
      have m1 : M 1 0 0 = N0 0 0 1 := (k1 1 0 0 (by unfold KO1; omega)).trans es
      have m18 : M 18 0 7 = N0 5 0 7 := (k1 18 0 7 (by unfold KO1; omega)).trans (n8 7 (by decide) (by decide))
      have n1 : N 0 0 1 = N0 0 0 1 := k2 0 0 1 (by unfold KO2; omega)
      have n5 : N 5 0 7 = N0 5 0 7 := k2 5 0 7 (by unfold KO2; omega)
      refine J2.lF q (J2.rF (by omega) (J2.rT h72 (J2.rT (by decide) ?_)))
      refine J2.lq c0 (fun v3 z3 => J2.lT (by decide) ?_)
      rw [a0 v3 z3, m1, m18, n23, n1, n5, n24]
      by_cases s1 : jm_w (jm_w (N0 23 0 (12 * c + x) * N0 0 0 1) + N0 5 0 7) = g
      · refine J2.lT s1 (J2.rT s1 (J2.rT h72 ?_))
        refine J2.lq c1 (fun v10 z10 => ?_)
        rw [a1 v10 z10]
        rcases y3 with q0 | q1
        · refine J2.lT q0 (J2.lq c2 (fun v14 z14 => ?_))
          rw [a2 v14 z14]
          refine J2.rT q0 (J2.rT h72 ?_)
          rw [n25]
          unfold gX12_hears_72
          refine J2.ls (fun M1 u1 => J2.le' w1 (J2.rT hc6 (J2.rs (fun N1 u2 => J2.rT h72 ?_))))
          have g24 : N1 24 0 (12 * c + x) = N0 24 0 (12 * c + x) := by rw [u2, jm_une_f (by decide)]; exact n24
          refine J2.rF (by omega) (J2.rT hc6 (J2.rT hc6 (J2.rs (fun N2 u3 => J2.re' w2 ?_))))
          have i25 : jm_in (N0 25 0 (12 * c + x)) := bx2_in (j0 25 0 _)
          have j1 : bI bx2 N1 := by rw [u2]; exact bI_u i2 i25
          refine ih M1 N2 (x + 1) ⟨by rw [u1]; exact bI_u i1 i25, by rw [u3]; exact bI_u j1 (bx2_in (j1 48 0 c)), fun f i k z => ?_, fun f i k z => ?_, ?_, ?_, ?_⟩ (by omega) (by omega) (by omega)
          · rw [u1, jm_une (by unfold KO1 at z; omega)]; exact k1 f i k z
          · rw [u3, jm_une (by unfold KO2 at z; omega), u2, jm_une (by unfold KO2 at z; omega)]; exact k2 f i k z
          · rw [u1, jm_ueq, u3, jm_une_f (by decide), u2, jm_ueq]
          · rw [u1, jm_une_k (by decide), u3, jm_ueq, u2, jm_une_f (by decide)]; exact e14
          · rw [u3, jm_une_f (by decide), u2, jm_ueq]; exact y4 q0
        · refine J2.lF (by omega) (J2.lq c2 (fun v14 z14 => ?_))
          rw [a2 v14 z14]
          refine J2.rF (by omega) (J2.rT hc6 ?_)
          unfold gX12_hears_72
          refine J2.ls (fun M1 u1 => J2.le' w1 (J2.rT hc6 (J2.rs (fun N1 u2 => J2.rT h72 ?_))))
          have g24 : N1 24 0 (12 * c + x) = N0 24 0 (12 * c + x) := by rw [u2, jm_une_f (by decide)]; exact n24
          have g25 : N1 25 0 (12 * c + x) = N0 25 0 (12 * c + x) := by rw [u2, jm_une_f (by decide)]; exact n25
          refine J2.rT (by omega) (J2.rT h72 (J2.rT hc6 ?_))
          rw [g25]
          refine J2.rs (fun N2 u3 => J2.re' w2 ?_)
          have i25 : jm_in (N0 25 0 (12 * c + x)) := bx2_in (j0 25 0 _)
          have j1 : bI bx2 N1 := by rw [u2]; exact bI_u i2 (bx2_in (i2 47 0 c))
          refine ih M1 N2 (x + 1) ⟨by rw [u1]; exact bI_u i1 i25, by rw [u3]; exact bI_u j1 i25, fun f i k z => ?_, fun f i k z => ?_, ?_, ?_, ?_⟩ (by omega) (by omega) (by omega)
          · rw [u1, jm_une (by unfold KO1 at z; omega)]; exact k1 f i k z
          · rw [u3, jm_une (by unfold KO2 at z; omega), u2, jm_une (by unfold KO2 at z; omega)]; exact k2 f i k z
          · rw [u1, jm_une_k (by decide), u3, jm_une_f (by decide), u2, jm_ueq]; exact e13
          · rw [u1, jm_ueq, u3, jm_ueq]
          · rw [u3, jm_une_f (by decide), u2, jm_ueq]; exact md
      · refine J2.lF s1 (J2.rF s1 (J2.le' w1 (J2.re' w2 ?_)))
        exact ih M N (x + 1) hq (by omega) (by omega) (by omega)
theorem j_hear (fu : Nat) (hfu : 4000 ≤ fu) (M0 N0 : jm_M) (i0 : bI bx1 M0) (j0 : bI bx2 N0) (td : TDo M0 N0) (n8 : ∀ k : Int, 0 ≤ k → k < 8 → M0 18 0 k = N0 5 0 k) (es : M0 1 0 0 = N0 0 0 1) (c g : Int) (hc : 0 ≤ c ∧ c < N0 0 0 17) (e13 : M0 9 c 13 = N0 47 0 c) (e14 : M0 9 c 14 = N0 48 0 c) (md : -1 ≤ N0 47 0 c ∧ N0 47 0 c ≤ 1) : J2 (fX2_hear fu M0 c c g) (fX12_hears fu N0 c g) (QO M0 N0 c) := by
  have b17 : 0 ≤ N0 0 0 17 ∧ N0 0 0 17 ≤ 6 := j0 0 0 17
  have b22 : 0 ≤ N0 22 0 c ∧ N0 22 0 c ≤ 12 := j0 22 0 c
  have w : jm_w (12 * c) = 12 * c + 0 := by rw [Int.add_zero]; exact jm_wid (by omega) (by omega)
  unfold fX2_hear fX12_hears
  exact J2.re' w (j_hear_l fu M0 N0 j0 td n8 es c g hc fu M0 N0 0 ⟨i0, j0, Kp.rf, Kp.rf, e13, e14, md⟩ (by omega) (by omega) (by omega))
/-! a line is ended -/
def KL1 (c s g : Int) (f : Nat) (i k : Int) : Prop := ¬ (f = 9 ∧ i = c ∧ (k = 0 ∨ k = 2)) ∧ ¬ (f = 30 ∧ i = c ∧ k = g) ∧ ¬ ((f = 32 ∨ f = 33) ∧ i = c ∧ k = s)
theorem c_endLine (M : jm_M) (iM : bI bx1 M) (c g s e tn : Int) (hg : 0 ≤ g ∧ g < 60) (hs : 0 ≤ s ∧ s < 5) (ie : jm_in e) (it : jm_in tn) : wp (fX6_endLine M c g s e tn) (fun _ M1 => bI bx1 M1 ∧ Kp (KL1 c s g) M M1 ∧ M1 9 c 0 = e ∧ M1 9 c 2 = g + 1 ∧ M1 30 c g = e ∧ M1 32 c s = tn ∧ M1 33 c s = e) := by
  have w : jm_w (g + 1) = g + 1 := jm_wid (by omega) (by omega)
  unfold fX6_endLine
  refine wp_bp (x_isIndex M g 60) (fun v z => wp_F (by omega) (wp_bp (x_isIndex M s 5) (fun v2 z2 => wp_F (by omega) (wp_T hg ?_))))
  refine wp_si iM ie (fun M1 u1 i1 => ?_)
  rw [w]
  refine wp_si i1 (show 0 ≤ g + 1 ∧ g + 1 ≤ 60 by omega) (fun M2 u2 i2 => wp_T hs ?_)
  refine wp_si i2 it (fun M3 u3 i3 => wp_T hs ?_)
  refine wp_si i3 ie (fun M4 u4 i4 => ?_)
  refine wp_si i4 ie (fun M5 u5 i5 => wp_ret ⟨i5, fun f i k z => ?_, ?_, ?_, ?_, ?_, ?_⟩)
  · unfold KL1 at z
    rw [u5, jm_une (by omega), u4, jm_une (by omega), u3, jm_une (by omega), u2, jm_une (by omega), u1, jm_une (by omega)]
  · rw [u5]; exact jm_ueq
  · rw [u5, jm_une_k (by decide), u4, jm_une_f (by decide), u3, jm_une_f (by decide), u2]; exact jm_ueq
  · rw [u5, jm_une_f (by decide), u4, jm_une_f (by decide), u3, jm_une_f (by decide), u2, jm_une_f (by decide), u1]; exact jm_ueq
  · rw [u5, jm_une_f (by decide), u4, jm_une_f (by decide), u3]; exact jm_ueq
  · rw [u5, jm_une_f (by decide), u4]; exact jm_ueq
theorem c_wear (M : jm_M) (iM : bI bx1 M) (c : Int) (h : 0 ≤ M 9 c 9 ∧ M 9 c 9 < 4) : wp (fX6_wear M c) (fun _ M1 => M1 = jm_u M 29 c (M 9 c 9) (jm_w (M 29 c (M 9 c 9) + (if M 9 c 13 = -1 then 2 else 1)))) := by
  unfold fX6_wear
  refine wp_bp (x_isIndex M (M 9 c 9) 4) (fun v z => wp_F (by omega) (wp_T h ?_))
  refine wp_ite (fun q => wp_T h ?_) (fun q => wp_T h ?_)
  · exact ⟨_, _, rfl, by rw [if_pos q]⟩
  · exact ⟨_, _, rfl, by rw [if_neg q]⟩
theorem c_rest (M : jm_M) (c a b : Int) : wp (fX6_rest M c a b) (fun _ M1 => M1 = jm_u (jm_u M 9 c 3 a) 9 c 4 b) := ⟨_, _, rfl, rfl⟩
