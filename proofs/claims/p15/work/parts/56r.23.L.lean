/-! the plan is asked -/
def KAA (c g : Int) (f : Nat) (i k : Int) : Prop := ¬ ((f = 47 ∨ f = 48) ∧ i = 0 ∧ k = c) ∧ ¬ (f = 59 ∧ i = 0 ∧ k = g) ∧ f ≠ 37 ∧ ¬ (f = 0 ∧ k = 47)
def QA (M0 N0 : jm_M) (t c lap : Int) (v : Int) (M : jm_M) (w : Int) (N : jm_M) : Prop := bI bx1 M ∧ bI bx2 N ∧ Kp K28 M0 M ∧ ((v = -1 ∧ w = -2 ∧ Kp K37 N0 N) ∨ (0 ≤ v ∧ v ≤ 20 ∧ Kp (KAA c (12 * c + lap)) N0 N ∧ N 59 0 (12 * c + lap) = v ∧ (N 47 0 c = N0 47 0 c ∨ (-1 ≤ N 47 0 c ∧ N 47 0 c ≤ 1)) ∧ N 47 0 c = (if M0 22 t v = 9 then N0 47 0 c else M0 22 t v) ∧ N 48 0 c = (if M0 23 t v = 9 then N0 48 0 c else M0 23 t v) ∧ ((M0 24 t v = -1 ∧ w = -2) ∨ (0 ≤ M0 24 t v ∧ M0 24 t v ≤ 3 ∧ w = M0 24 t v))))
theorem j_asks_l (fu : Nat) (hfu : 4000 ≤ fu) (M0 N0 : jm_M) (t c lap a b : Int) (hc : 0 ≤ c ∧ c < 6) (hlap : 0 ≤ lap ∧ lap < 12) (L : LTR 0 M0 N0) (tb : 0 ≤ M0 11 t 6 ∧ M0 11 t 6 ≤ 20 ∧ 0 ≤ a ∧ b ≤ 1700) (P : Int → Int) (pe : P (M0 11 t 6) = b) (hP : ∀ l : Int, 0 ≤ l → l < M0 11 t 6 → ∃ q r : Int, LR 0 M0 N0 t l (P l) q r ∧ P (l + 1) = r + 1 ∧ a ≤ P l ∧ r < b) : ∀ (n : Nat) (M N : jm_M) (l : Int), bI bx1 M → bI bx2 N → Kp K28 M0 M → Kp K37 N0 N → 0 ≤ l → l ≤ M0 11 t 6 → M0 11 t 6 - l < (n : Int) → J2 (fX4_firstTrue_2 fu n M t l) (fX12_asks_27 fu n N c lap (P l) b l) (QA M0 N0 t c lap) := by
  intro n
  induction n with
  | zero => intro M N l _ _ _ _ _ h1 hm; exfalso; omega
  | succ n ih =>
    intro M N l iM iN k1 k2 h0 h1 hm
    show J2 (gX4_firstTrue_2 fu (fX4_firstTrue_2 fu n) M t l) (gX12_asks_27 fu (fX12_asks_27 fu n) N c lap (P l) b l) _
    unfold gX4_firstTrue_2 gX12_asks_27
    have m11 : M 11 t 6 = M0 11 t 6 := k1 11 t 6 (by unfold K28; decide)
    rw [m11]
    by_cases q0 : M0 11 t 6 ≤ l
    · have el : l = M0 11 t 6 := by omega
      exact J2.lT q0 (J2.rT (by rw [el, pe]; exact Int.le_refl _) (J2.ret ⟨iM, iN, k1, Or.inl ⟨rfl, rfl, k2⟩⟩))
    · obtain ⟨q, r, lr, pn, pa, rb⟩ := hP l h0 (by omega)
      have lr' := lr
      obtain ⟨⟨f0, f1, f2⟩, cd, ⟨c1, c2, c3, c4⟩, ac⟩ := lr'
      have hq : P l ≤ q := by
        rcases cd with ⟨d1, d2, -⟩ | ⟨d1, d2, -⟩ <;> omega
      refine J2.lF q0 (J2.rF (by omega) ?_)
      refine J2.bb (j_hold fu hfu M N M0 N0 iM iN k1 k2 0 t l (P l) q r b ⟨h0, by omega⟩ (by omega) ⟨rb, tb.2.2.2⟩ lr L) (fun v M1 w N1 z => ?_)
      obtain ⟨i1, i2, e1, e2, e47, z⟩ := z
      have w1 : jm_w (l + 1) = l + 1 := jm_wid (by omega) (by omega)
      have n35 : N1 35 0 = N0 35 0 := funext fun k => e2 35 0 k (by unfold K37; omega)
      have w2 : jm_w (N1 0 0 47 + 1) = q + 1 := by rw [e47]; exact jm_wid (by omega) (by omega)
      rcases z with ⟨rfl, hw⟩ | ⟨rfl, rfl⟩
      · refine J2.lF (by decide) (J2.rF hw ?_)
        unfold gX12_asks_50
        refine J2.re' w2 ?_
        have da := d_acts fu (fX12_asks_27 fu n) N1 c lap b l r hc hlap (by omega) (by rw [n35]; exact c3) ⟨h0, by omega⟩ fu N1 (q + 1) (-2) i2 Kp.rf (by omega) (by omega) (by omega) (jm_inL (by decide) (by decide)) (fun j y1 y2 => by rw [n35]; exact c4 j (by omega) y2)
        refine J2.of (wp_ret (wp_mono da (fun w2 N2 y => ?_)))
        obtain ⟨y1, y2, y3, y4⟩ := y
        have rel := aF_rel (N0 35 0) (N1 47 0 c) (N1 48 0 c) (r - q - 1).toNat (q + 1) (9, 9, -1) (N1 47 0 c, N1 48 0 c, -2) (fun j z1 z2 => (c4 j (by omega) (by omega)).2) ⟨rfl, rfl, Or.inl ⟨rfl, rfl⟩⟩
        rw [n35, show r - (q + 1) = r - q - 1 by omega] at y4
        rw [← ac, ← y4] at rel
        obtain ⟨r1, r2, r3⟩ := rel
        have g47 : N1 47 0 c = N0 47 0 c := e2 47 0 c (by unfold K37; omega)
        have g48 : N1 48 0 c = N0 48 0 c := e2 48 0 c (by unfold K37; omega)
        have md := aF_md (N0 35 0) (r - q - 1).toNat (q + 1) (9, 9, -1) (Or.inl rfl)
        rw [← ac] at md
        refine ⟨i1, y1, e1, Or.inr ⟨h0, by omega, fun f i k z => ?_, y3, ?_, ?_, ?_, r3⟩⟩
        · exact (y2 f i k ⟨z.1, z.2.1⟩).trans (e2 f i k z.2.2)
        · have r1' : N2 47 0 c = (if M0 22 t l = 9 then N1 47 0 c else M0 22 t l) := r1
          rw [r1', ← g47]
          by_cases z9 : M0 22 t l = 9
          · rw [if_pos z9]; exact Or.inl rfl
          · rw [if_neg z9]
            rcases md with md | md
            · exact absurd md z9
            · exact Or.inr md
        · rw [← g47]; exact r1
        · rw [← g48]; exact r2
      · refine J2.lT rfl (J2.rT rfl (J2.le' w1 ?_))
        unfold gX12_asks_50
        refine J2.re' w2 ?_
        rw [d_skip fu (fX12_asks_27 fu n) N1 c lap b l (-2) r (by omega) (by rw [n35]; exact c3) ⟨by omega, by omega⟩ fu (q + 1) (by omega) (by omega) (by omega) (fun j y1 y2 => by rw [n35]; exact (c4 j (by omega) y2).1), ← pn]
        exact ih M1 N1 (l + 1) i1 i2 e1 e2 (by omega) (by omega) (by omega)
theorem j_asks (fu : Nat) (hfu : 4000 ≤ fu) (M0 N0 : jm_M) (iM : bI bx1 M0) (iN : bI bx2 N0) (t c lap a b : Int) (hc : 0 ≤ c ∧ c < 6) (hlap : 0 ≤ lap ∧ lap < 12) (L : LTR 0 M0 N0) (tx : TXT 0 M0 N0 t a b) : J2 (fX4_firstTrue fu M0 t) (fX12_asks_27 fu fu N0 c lap a b 0) (QA M0 N0 t c lap) := by
  obtain ⟨tb, P, pa, pe, hP⟩ := tx
  have := j_asks_l fu hfu M0 N0 t c lap a b hc hlap L tb P pe hP fu M0 N0 0 iM iN Kp.rf Kp.rf (Int.le_refl _) tb.1 (by omega)
  rw [pa] at this
  exact this
def KF (c lap : Int) (f : Nat) (i k : Int) : Prop := ¬ (f = 31 ∧ i = c ∧ k = lap) ∧ ¬ (f = 9 ∧ i = c ∧ (k = 13 ∨ k = 14))
theorem c_follow (fu : Nat) (M : jm_M) (iM : bI bx1 M) (t v c lap : Int) (hv : -1 ≤ v ∧ v ≤ 20) (hlap : 0 ≤ lap ∧ lap < 12) : wp (fX2_follow fu M t v c lap) (fun b M1 => (v = -1 ∧ b = -1 ∧ M1 = M) ∨ (0 ≤ v ∧ b = M 24 t v ∧ bI bx1 M1 ∧ Kp (KF c lap) M M1 ∧ M1 31 c lap = v ∧ M1 9 c 13 = (if M 22 t v = 9 then M 9 c 13 else M 22 t v) ∧ M1 9 c 14 = (if M 23 t v = 9 then M 9 c 14 else M 23 t v))) := by
  unfold fX2_follow
  refine wp_bp (x_isIndex M v 21) (fun z hz => ?_)
  by_cases q : v = -1
  · exact wp_T (by omega) (wp_ret (Or.inl ⟨q, rfl, rfl⟩))
  · have h21 : 0 ≤ v ∧ v < 21 := ⟨by omega, by omega⟩
    refine wp_F (by omega) (wp_bp (x_isIndex M lap 12) (fun z2 hz2 => wp_F (by omega) (wp_T hlap ?_)))
    refine wp_si iM (jm_inL (by omega) (by omega)) (fun M1 u1 i1 => wp_T h21 ?_)
    have g : ∀ (f : Nat) (i k : Int), f ≠ 31 → M1 f i k = M f i k := fun f i k y => by rw [u1]; exact jm_une_f y
    rw [g 22 t v (by decide)]
    have fin : ∀ M2 : jm_M, bI bx1 M2 → (∀ (f : Nat) (i k : Int), ¬ (f = 9 ∧ i = c ∧ k = 13) → M2 f i k = M1 f i k) → M2 9 c 13 = (if M 22 t v = 9 then M 9 c 13 else M 22 t v) → wp (gX2_follow_48 fu M2 t v c) (fun b M1 => (v = -1 ∧ b = -1 ∧ M1 = M) ∨ (0 ≤ v ∧ b = M 24 t v ∧ bI bx1 M1 ∧ Kp (KF c lap) M M1 ∧ M1 31 c lap = v ∧ M1 9 c 13 = (if M 22 t v = 9 then M 9 c 13 else M 22 t v) ∧ M1 9 c 14 = (if M 23 t v = 9 then M 9 c 14 else M 23 t v))) := fun M2 i2 k2 e2 => by
      have k3 : ∀ (f : Nat) (i k : Int), ¬ (f = 9 ∧ i = c ∧ k = 13) → f ≠ 31 → M2 f i k = M f i k := fun f i k y1 y2 => (k2 f i k y1).trans (g f i k y2)
      unfold gX2_follow_48
      rw [k3 23 t v (fun z => absurd z.1 (by decide)) (by decide)]
      have m31 : M2 31 c lap = v := by rw [k2 31 c lap (fun z => absurd z.1 (by decide)), u1]; exact jm_ueq
      refine wp_T h21 (wp_ite (fun y => wp_T h21 (wp_ret (Or.inr ⟨by omega, k3 24 t v (fun z => absurd z.1 (by decide)) (by decide), i2, fun f i k z => ?_, m31, e2, ?_⟩))) (fun y => wp_T h21 ?_))
      · unfold KF at z
        by_cases y2 : f = 31
        · rw [k2 f i k (by omega), u1, jm_une (by omega)]
        · exact k3 f i k (by omega) y2
      · rw [if_pos y]
        exact k3 9 c 14 (by omega) (by decide)
      · refine wp_si i2 (bx1_in (iM 23 t v)) (fun M3 u3 i3 => wp_T h21 (wp_ret (Or.inr ⟨by omega, ?_, i3, fun f i k z => ?_, ?_, ?_, ?_⟩)))
        · rw [u3, jm_une_f (by decide)]
          exact k3 24 t v (fun z => absurd z.1 (by decide)) (by decide)
        · unfold KF at z
          rw [u3, jm_une (by omega)]
          by_cases y2 : f = 31
          · rw [k2 f i k (by omega), u1, jm_une (by omega)]
          · exact k3 f i k (by omega) y2
        · rw [u3, jm_une_f (by decide)]; exact m31
        · rw [u3, jm_une_k (by decide)]; exact e2
        · rw [u3, jm_ueq, if_neg y]
    refine wp_ite (fun y => fin M1 i1 (fun _ _ _ _ => rfl) ?_) (fun y => wp_T h21 ?_)
    · rw [if_pos y]
      exact g 9 c 13 (by decide)
    · refine wp_si i1 (bx1_in (iM 22 t v)) (fun M2 u2 i2 => fin M2 i2 (fun f i k z => by rw [u2]; exact jm_une z) ?_)
      rw [u2, jm_ueq, if_neg y]
