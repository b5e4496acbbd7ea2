/-! the race asked: equal answers -/
theorem q_pre {fu : Nat} {M N N1 : jm_M} (iN : bI bx2 N) (it : IT M N) (ca : CA fu M N) (u1 : N1 = jm_u N 0 0 0 0) : bI bx2 N1 ∧ TLD M N1 ∧ CA fu M N1 ∧ N1 0 0 1 = N 0 0 1 ∧ N1 0 0 2 = N 0 0 2 ∧ N1 0 0 17 = N 0 0 17 := by
  have k : Kp RL2 N N1 := by rw [u1]; exact RL2.r0
  refine ⟨by rw [u1]; exact bI_u iN (jm_inL (by decide) (by decide)), it.1.kk iN Kp.rf (fun _ _ _ _ _ _ _ => rfl) k, ca.keep iN Kp.rf k, ?_, ?_, ?_⟩
  · rw [u1]; exact jm_une_k (by decide)
  · rw [u1]; exact jm_une_k (by decide)
  · rw [u1]; exact jm_une_k (by decide)
/-- the cell of a car at a line's end -/
theorem c_tAt {M N : jm_M} (iM : bI bx1 M) (rt : RTm M N) {c g : Int} (hc : 0 ≤ c ∧ c < N 0 0 17) (hg : 0 ≤ g ∧ g < 60) : wp (fX6_timeAt M c g) (fun v M1 => M1 = M ∧ v = N 55 0 (60 * c + g) ∧ -1 ≤ v) := by
  obtain ⟨⟨r1, r2, r3⟩, r4⟩ := rt c hc.1 hc.2
  obtain ⟨r5, r6⟩ := r4 g hg.1 hg.2
  unfold fX6_timeAt
  refine wp_bp (x_isIndex M g (M 9 c 2)) (fun v2 g2 => wp_ite (fun z => wp_ret ⟨rfl, ?_⟩) (fun z => wp_T ⟨by omega, by omega⟩ (wp_ret ⟨rfl, ?_⟩)))
  · have := r6 (by omega)
    omega
  · have := r5 (by omega)
    omega
/-- how many of the first n are ahead of car c, that came at t -/
def cntA (T : Int → Int) (c t : Int) : Nat → Int
  | 0 => 0
  | n + 1 => cntA T c t n + (if T (n : Int) < 0 then 0 else if T (n : Int) < t then 1 else if T (n : Int) = t ∧ (n : Int) < c then 1 else 0)
theorem cntA_s (T : Int → Int) (c t l : Int) (h : 0 ≤ l) : cntA T c t (l + 1).toNat = cntA T c t l.toNat + (if T l < 0 then 0 else if T l < t then 1 else if T l = t ∧ l < c then 1 else 0) := by
  obtain ⟨n, rfl⟩ := Int.eq_ofNat_of_zero_le h
  rw [show ((n : Int) + 1).toNat = n + 1 by omega, Int.toNat_natCast]
  rfl
theorem cntA_n (T : Int → Int) (c t : Int) : ∀ n : Nat, 0 ≤ cntA T c t n ∧ cntA T c t n ≤ (n : Int) := by
  intro n
  induction n with
  | zero => exact ⟨Int.le_refl 0, Int.le_refl 0⟩
  | succ n ih =>
    have e := cntA_s T c t (n : Int) (by omega)
    rw [show ((n : Int) + 1).toNat = n + 1 by omega, Int.toNat_natCast] at e
    rw [e]
    split
    · omega
    · split
      · omega
      · split <;> omega
theorem cntA_lt (T : Int → Int) (c t : Int) (hc : 0 ≤ c) (ht : T c = t) : ∀ n : Nat, c < (n : Int) → cntA T c t n ≤ (n : Int) - 1 := by
  intro n
  induction n with
  | zero => intro h; exfalso; omega
  | succ n ih =>
    intro h
    have e := cntA_s T c t (n : Int) (by omega)
    rw [show ((n : Int) + 1).toNat = n + 1 by omega, Int.toNat_natCast] at e
    rw [e]
    by_cases q : c = (n : Int)
    · have b := (cntA_n T c t n).2
      rw [← q, ht]
      split
      · omega
      · split
        · omega
        · split <;> omega
    · have b := ih (by omega)
      split
      · omega
      · split
        · omega
        · split <;> omega
theorem cntA_0 (T : Int → Int) (c : Int) : ∀ n : Nat, (∀ o : Int, 0 ≤ o → o < (n : Int) → T o < 0 ∨ T c < T o ∨ (T c = T o ∧ c ≤ o)) → cntA T c (T c) n = 0 := by
  intro n
  induction n with
  | zero => intro _; rfl
  | succ n ih =>
    intro h
    have e := cntA_s T c (T c) (n : Int) (by omega)
    rw [show ((n : Int) + 1).toNat = n + 1 by omega, Int.toNat_natCast] at e
    rw [e, ih (fun o y1 y2 => h o y1 (by omega))]
    have z := h (n : Int) (by omega) (by omega)
    split
    · rfl
    · split
      · omega
      · split <;> omega
theorem min_ex (T : Int → Int) : ∀ n : Nat, (∀ o : Int, 0 ≤ o → o < (n : Int) → T o < 0) ∨ ∃ c : Int, 0 ≤ c ∧ c < (n : Int) ∧ 0 ≤ T c ∧ ∀ o : Int, 0 ≤ o → o < (n : Int) → T o < 0 ∨ T c < T o ∨ (T c = T o ∧ c ≤ o) := by
  intro n
  induction n with
  | zero => exact Or.inl (fun o y1 y2 => by exfalso; omega)
  | succ n ih =>
    by_cases q : T (n : Int) < 0
    · rcases ih with ih | ⟨c, c0, c1, c2, c3⟩
      · refine Or.inl (fun o y1 y2 => ?_)
        by_cases e : o = (n : Int)
        · rw [e]; exact q
        · exact ih o y1 (by omega)
      · refine Or.inr ⟨c, c0, by omega, c2, fun o y1 y2 => ?_⟩
        by_cases e : o = (n : Int)
        · rw [e]; exact Or.inl q
        · exact c3 o y1 (by omega)
    · rcases ih with ih | ⟨c, c0, c1, c2, c3⟩
      · refine Or.inr ⟨(n : Int), by omega, by omega, by omega, fun o y1 y2 => ?_⟩
        by_cases e : o = (n : Int)
        · rw [e]; exact Or.inr (Or.inr ⟨rfl, Int.le_refl _⟩)
        · exact Or.inl (ih o y1 (by omega))
      · by_cases q2 : T (n : Int) < T c
        · refine Or.inr ⟨(n : Int), by omega, by omega, by omega, fun o y1 y2 => ?_⟩
          by_cases e : o = (n : Int)
          · rw [e]; exact Or.inr (Or.inr ⟨rfl, Int.le_refl _⟩)
          · have := c3 o y1 (by omega)
            omega
        · refine Or.inr ⟨c, c0, by omega, c2, fun o y1 y2 => ?_⟩
          by_cases e : o = (n : Int)
          · rw [e]; omega
          · exact c3 o y1 (by omega)
def TT (N : jm_M) (g : Int) : Int → Int := fun o => N 55 0 (60 * o + g)
theorem c_ahead6 (fu : Nat) {M N : jm_M} (iM : bI bx1 M) (rt : RTm M N) (s5 : M 2 0 5 = N 0 0 17) (b17 : N 0 0 17 ≤ 6) {g : Int} (hg : 0 ≤ g ∧ g < 60) (c t : Int) : ∀ (n : Nat) (l5 : Int), 0 ≤ l5 → l5 ≤ N 0 0 17 → N 0 0 17 - l5 < (n : Int) → wp (fX2_aheadAt_6 fu n M g c t (cntA (TT N g) c t l5.toNat) l5) (fun v M1 => M1 = M ∧ v = cntA (TT N g) c t (N 0 0 17).toNat) := by
  intro n
  induction n with
  | zero => intro l5 _ h1 hm; exfalso; omega
  | succ n ih =>
    intro l5 h0 h1 hm
    show wp (gX2_aheadAt_6 fu (fX2_aheadAt_6 fu n) M g c t (cntA (TT N g) c t l5.toNat) l5) _
    unfold gX2_aheadAt_6
    have bc := cntA_n (TT N g) c t l5.toNat
    have w1 : jm_w (l5 + 1) = l5 + 1 := jm_wid (by omega) (by omega)
    have w2 : jm_w (cntA (TT N g) c t l5.toNat + 1) = cntA (TT N g) c t l5.toNat + 1 := jm_wid (by omega) (by omega)
    have e := cntA_s (TT N g) c t l5 h0
    rw [s5, w1, w2]
    refine wp_ite (fun z => wp_ret ⟨rfl, by rw [show l5 = N 0 0 17 by omega]⟩) (fun z => wp_F (by omega) (wp_T ⟨by omega, by omega⟩ ?_))
    refine wp_bp (P := fun v => v = N 55 0 (60 * l5 + g) ∧ -1 ≤ v) (c_tAt iM rt ⟨h0, by omega⟩ hg) (fun v q => ?_)
    have x := ih (l5 + 1) (by omega) (by omega) (by omega)
    rw [e] at x
    have tv : TT N g l5 = v := q.1.symm
    rw [tv] at x
    refine wp_ite (fun y => ?_) (fun y => ?_)
    · rw [if_pos (by omega), Int.add_zero] at x
      exact x
    · rw [if_neg (by omega)] at x
      refine wp_ite (fun y2 => ?_) (fun y2 => ?_)
      · rw [if_pos y2] at x
        exact x
      · rw [if_neg y2] at x
        refine wp_ite (fun y3 => wp_ite (fun y4 => ?_) (fun y4 => ?_)) (fun y3 => ?_)
        · rw [if_neg (by omega), Int.add_zero] at x
          exact x
        · rw [if_pos ⟨y3, by omega⟩] at x
          exact x
        · rw [if_neg (fun z => y3 z.1), Int.add_zero] at x
          exact x
theorem c_ahead (fu : Nat) (hfu : 4000 ≤ fu) {M N : jm_M} (iM : bI bx1 M) (rt : RTm M N) (s5 : M 2 0 5 = N 0 0 17) (b17 : 0 ≤ N 0 0 17 ∧ N 0 0 17 ≤ 6) {g : Int} (hg : 0 ≤ g ∧ g < 60) (c t : Int) : wp (fX2_aheadAt fu M g c t) (fun v M1 => M1 = M ∧ v = cntA (TT N g) c t (N 0 0 17).toNat) := c_ahead6 fu iM rt s5 b17.2 hg c t fu 0 (by decide) b17.1 (by omega)
theorem d_led43 (fu : Nat) (k14 : jm_M → Int → Int → Int → jm_R) {N : jm_M} (b17 : N 0 0 17 ≤ 6) {g : Int} (hg : 0 ≤ g ∧ g < 60) (c t i : Int) : ∀ (n : Nat) (l7 : Int), 0 ≤ l7 → l7 ≤ N 0 0 17 → N 0 0 17 - l7 < (n : Int) → fX12_ledBy_43 fu k14 n N i g c t (cntA (TT N g) c t l7.toNat) l7 = (if t < 0 then k14 N i g (jm_w (c + 1)) else if cntA (TT N g) c t (N 0 0 17).toNat = i then some (c, N) else k14 N i g (jm_w (c + 1))) := by
  intro n
  induction n with
  | zero => intro l7 _ h1 hm; exfalso; omega
  | succ n ih =>
    intro l7 h0 h1 hm
    show gX12_ledBy_43 fu k14 (fX12_ledBy_43 fu k14 n) N i g c t (cntA (TT N g) c t l7.toNat) l7 = _
    unfold gX12_ledBy_43
    have bc := cntA_n (TT N g) c t l7.toNat
    have w1 : jm_w (l7 + 1) = l7 + 1 := jm_wid (by omega) (by omega)
    have w2 : jm_w (cntA (TT N g) c t l7.toNat + 1) = cntA (TT N g) c t l7.toNat + 1 := jm_wid (by omega) (by omega)
    have w0 : jm_w (cntA (TT N g) c t l7.toNat + 0) = cntA (TT N g) c t l7.toNat := by rw [Int.add_zero]; exact jm_wid (by omega) (by omega)
    have e := cntA_s (TT N g) c t l7 h0
    have x := ih (l7 + 1) (by omega)
    by_cases z : N 0 0 17 ≤ l7
    · rw [if_pos z, show l7 = N 0 0 17 by omega]
      rfl
    · have x := x (by omega) (by omega)
      rw [if_neg z]
      have ix : jm_w (jm_w (60 * l7) + g) = 60 * l7 + g := by rw [jm_wid (x := 60 * l7) (by omega) (by omega)]; exact jm_wid (by omega) (by omega)
      rw [ix, if_pos ⟨by omega, by omega⟩, jm_ee, w0, w1, w2]
      rw [e] at x
      have tv : TT N g l7 = N 55 0 (60 * l7 + g) := rfl
      rw [tv] at x
      by_cases y : N 55 0 (60 * l7 + g) < 0
      · rw [if_pos y, Int.add_zero] at x
        rw [if_pos y]
        exact x
      · rw [if_neg y] at x
        rw [if_neg y]
        by_cases y2 : N 55 0 (60 * l7 + g) < t
        · rw [if_pos y2] at x
          rw [if_pos y2]
          exact x
        · rw [if_neg y2] at x
          rw [if_neg y2]
          by_cases y3 : N 55 0 (60 * l7 + g) = t
          · rw [if_pos y3]
            by_cases y4 : c ≤ l7
            · rw [if_neg (by omega), Int.add_zero] at x
              rw [if_pos y4]
              exact x
            · rw [if_pos ⟨y3, by omega⟩] at x
              rw [if_neg y4]
              exact x
          · rw [if_neg (fun q => y3 q.1), Int.add_zero] at x
            rw [if_neg y3]
            exact x
/-- who leads: nothing found only where nobody is i-th -/
theorem j_order (fu : Nat) (hfu : 4000 ≤ fu) {M N : jm_M} (iM : bI bx1 M) (rt : RTm M N) (s5 : M 2 0 5 = N 0 0 17) (b17 : 0 ≤ N 0 0 17 ∧ N 0 0 17 ≤ 6) {g : Int} (hg : 0 ≤ g ∧ g < 60) (i : Int) : ∀ (n : Nat) (c : Int), 0 ≤ c → c ≤ N 0 0 17 → N 0 0 17 - c < (n : Int) → J2 (fX2_inOrder_2 fu n M g i c) (fX12_ledBy_14 fu n N i g c) (fun v M1 w N1 => M1 = M ∧ N1 = N ∧ v = w ∧ -1 ≤ v ∧ (v = -1 → ∀ o : Int, c ≤ o → o < N 0 0 17 → 0 ≤ TT N g o → cntA (TT N g) o (TT N g o) (N 0 0 17).toNat ≠ i) ∧ (0 ≤ v → v < N 0 0 17 ∧ 0 ≤ TT N g v ∧ cntA (TT N g) v (TT N g v) (N 0 0 17).toNat = i)) := by
  intro n
  induction n with
  | zero => intro c _ h1 hm; exfalso; omega
  | succ n ih =>
    intro c h0 h1 hm
    show J2 (gX2_inOrder_2 fu (fX2_inOrder_2 fu n) M g i c) (gX12_ledBy_14 fu (fX12_ledBy_14 fu n) N i g c) _
    unfold gX2_inOrder_2 gX12_ledBy_14
    have w1 : jm_w (c + 1) = c + 1 := jm_wid (by omega) (by omega)
    have ix : jm_w (jm_w (60 * c) + g) = 60 * c + g := by rw [jm_wid (x := 60 * c) (by omega) (by omega)]; exact jm_wid (by omega) (by omega)
    rw [s5, w1, ix]
    by_cases z : N 0 0 17 ≤ c
    · exact J2.lT z (J2.rT z (J2.ret ⟨rfl, rfl, rfl, by decide, fun _ o y1 y2 _ => by exfalso; omega, fun y => absurd y (by decide)⟩))
    · refine J2.lF z (J2.lF (by omega) (J2.lT ⟨h0, by omega⟩ (J2.rF z (J2.rT ⟨by omega, by omega⟩ ?_))))
      refine J2.lq (P := fun v => v = N 55 0 (60 * c + g) ∧ -1 ≤ v) (c_tAt iM rt ⟨h0, by omega⟩ hg) (fun v q => ?_)
      rw [jm_ee]
      refine J2.re ?_
      have e43 := d_led43 fu (fX12_ledBy_14 fu n) b17.2 hg c (N 55 0 (60 * c + g)) i fu 0 (by decide) b17.1 (by omega)
      rw [show cntA (TT N g) c (N 55 0 (60 * c + g)) (0 : Int).toNat = 0 from rfl, w1] at e43
      rw [e43, ← q.1]
      have x := ih (c + 1) (by omega) (by omega) (by omega)
      have tc : TT N g c = v := q.1.symm
      by_cases y : v = -1
      · refine J2.lT y (J2.rT (by omega) (x.mono (fun v' M1 w' N1 p => ?_)))
        obtain ⟨p1, p2, p3, p4, p5, p6⟩ := p
        refine ⟨p1, p2, p3, p4, fun y1 o y2 y3 y4 => ?_, p6⟩
        by_cases eo : o = c
        · rw [eo, tc] at y4
          exfalso; omega
        · exact p5 y1 o (by omega) y3 y4
      · refine J2.lF y (J2.rF (by omega) ?_)
        refine J2.lq (P := fun a => a = cntA (TT N g) c v (N 0 0 17).toNat) (c_ahead fu hfu iM rt s5 b17 hg c v) (fun a ea => ?_)
        rw [ea]
        by_cases y2 : cntA (TT N g) c v (N 0 0 17).toNat = i
        · refine J2.lT y2 (J2.rT y2 (J2.ret ⟨rfl, rfl, rfl, by omega, fun y3 => by exfalso; omega, fun _ => ⟨by omega, by rw [tc]; omega, by rw [tc]; exact y2⟩⟩))
        · refine J2.lF y2 (J2.rF y2 (x.mono (fun v' M1 w' N1 p => ?_)))
          obtain ⟨p1, p2, p3, p4, p5, p6⟩ := p
          refine ⟨p1, p2, p3, p4, fun y1 o y5 y3 y4 => ?_, p6⟩
          by_cases eo : o = c
          · rw [eo, tc]; exact y2
          · exact p5 y1 o (by omega) y3 y4
theorem lin_lt {s n l x : Int} (hs : 2 ≤ s ∧ s ≤ 5) (hn : 1 ≤ n ∧ n ≤ 12) (hl : 0 ≤ l ∧ l < n) (hx : 0 ≤ x ∧ x < s) : 0 ≤ l * s ∧ l * s + x < s * n ∧ s * n ≤ 60 := by
  have h1 : 0 ≤ l * s := Int.mul_nonneg hl.1 (by omega)
  have h2 : (l + 1) * s ≤ n * s := Int.mul_le_mul_of_nonneg_right (by omega) (by omega)
  have h3 : s * n ≤ 5 * 12 := by
    have a : s * n ≤ 5 * n := Int.mul_le_mul_of_nonneg_right hs.2 (by omega)
    omega
  rw [Int.add_mul, Int.one_mul, Int.mul_comm n s] at h2
  omega
/-- the last line of lap l -/
theorem j_ledL (fu : Nat) (hfu : 4000 ≤ fu) {M N : jm_M} (iM : bI bx1 M) (iN : bI bx2 N) (tl : TLD M N) (run : RUN M N) (l i : Int) (hl : 0 ≤ l ∧ l < N 0 0 2) : J2 (jm_b (fX9_lineOf M l (N 0 0 1 - 1)) fun v4 M5 => fX2_inOrder fu M5 v4 i) (fX12_ledBy fu N l i) (fun v M1 w N1 => M1 = M ∧ N1 = N ∧ v = w ∧ -1 ≤ v ∧ (v = -1 → ∀ o : Int, 0 ≤ o → o < N 0 0 17 → 0 ≤ TT N (l * N 0 0 1 + (N 0 0 1 - 1)) o → cntA (TT N (l * N 0 0 1 + (N 0 0 1 - 1))) o (TT N (l * N 0 0 1 + (N 0 0 1 - 1)) o) (N 0 0 17).toNat ≠ i) ∧ (0 ≤ v → v < N 0 0 17 ∧ 0 ≤ TT N (l * N 0 0 1 + (N 0 0 1 - 1)) v ∧ cntA (TT N (l * N 0 0 1 + (N 0 0 1 - 1))) v (TT N (l * N 0 0 1 + (N 0 0 1 - 1)) v) (N 0 0 17).toNat = i)) := by
  obtain ⟨⟨s0, s1, s5⟩, -, -, -⟩ := id tl.2.1
  have b17 : 0 ≤ N 0 0 17 ∧ N 0 0 17 ≤ 6 := iN 0 0 17
  have bs : 2 ≤ N 0 0 1 ∧ N 0 0 1 ≤ 5 := iN 0 0 1
  have bn : 1 ≤ N 0 0 2 ∧ N 0 0 2 ≤ 12 := iN 0 0 2
  obtain ⟨z1, z2, z3⟩ := lin_lt bs bn hl (x := N 0 0 1 - 1) ⟨by omega, by omega⟩
  have e1 : jm_w (jm_w (l * M 1 0 0) + (N 0 0 1 - 1)) = l * N 0 0 1 + (N 0 0 1 - 1) := by rw [s0, jm_wid (x := l * N 0 0 1) (by omega) (by omega)]; exact jm_wid (by omega) (by omega)
  have e2 : jm_w (jm_w (N 0 0 1 * jm_w (l + 1)) - 1) = l * N 0 0 1 + (N 0 0 1 - 1) := by
    rw [jm_wid (x := l + 1) (by omega) (by omega), Int.mul_comm (N 0 0 1) (l + 1), Int.add_mul, Int.one_mul, jm_wid (x := l * N 0 0 1 + N 0 0 1) (by omega) (by omega), jm_wid (by omega) (by omega)]
    omega
  unfold fX9_lineOf fX12_ledBy
  rw [jm_bsm, e1, e2, jm_ee]
  exact j_order fu hfu iM run.2.2.1 s5 b17 ⟨by omega, by omega⟩ i fu 0 (by decide) b17.1 (by omega)
theorem a_waited (fu : Nat) (hfu : 4000 ≤ fu) (M N : jm_M) (iv : IW M N) (it : IT M N) (ca : CA fu M N) (l1 : Int) (h1 : jm_in l1) : J2 (fX11_waited fu M l1) (fX12_waited fu N l1) (fun v _ w _ => v = w) := by
  have iM := iv.1.1
  have iN := iv.1.2.1
  obtain ⟨⟨s0, s1, s5⟩, -, -, -⟩ := id it.1.2.1
  have b17 : 0 ≤ N 0 0 17 ∧ N 0 0 17 ≤ 6 := iN 0 0 17
  have bs : 2 ≤ N 0 0 1 ∧ N 0 0 1 ≤ 5 := iN 0 0 1
  have bn : 1 ≤ N 0 0 2 ∧ N 0 0 2 ≤ 12 := iN 0 0 2
  unfold fX11_waited fX12_waited
  refine J2.rs (fun N1 u1 => ?_)
  obtain ⟨j1, tl1, ca1, d1, d2, d17⟩ := q_pre iN it ca u1
  refine J2.lq (s_fX2_has M iM l1 h1) (fun v1 g1 => J2.rq (s_fX12_isCar N1 j1 l1 h1) (fun v2 g2 => ?_))
  rw [d17] at g2
  refine J2.bi (by omega) (fun _ => J2.ret rfl) (fun z1 => ?_)
  refine J2.bb (j_reckon fu hfu iM j1 tl1 ca1) (fun v M6 w N7 q => ?_)
  obtain ⟨⟨i6, j7⟩, ⟨k6, k7⟩, -, tl6, run⟩ := q
  have x1 : N7 0 0 1 = N 0 0 1 := (k7 0 0 1 (by unfold KR2; omega)).trans d1
  have x2 : N7 0 0 2 = N 0 0 2 := (k7 0 0 2 (by unfold KR2; omega)).trans d2
  have x17 : N7 0 0 17 = N 0 0 17 := (k7 0 0 17 (by unfold KR2; omega)).trans d17
  refine J2.lT ⟨by omega, by omega⟩ (J2.rT ⟨by omega, by omega⟩ (J2.ret ?_))
  exact (run.2.2.2 l1 (by omega) (by omega)).1.2.1.2.2.2.2.2.2.2.1
theorem a_at (fu : Nat) (hfu : 4000 ≤ fu) (M N : jm_M) (iv : IW M N) (it : IT M N) (ca : CA fu M N) (l1 l2 l3 : Int) (h1 : jm_in l1) (h2 : jm_in l2) (h3 : jm_in l3) : J2 (fX11_at fu M l1 l2 l3) (fX12_at fu N l1 l2 l3) (fun v _ w _ => v = w) := by
  have iM := iv.1.1
  have iN := iv.1.2.1
  obtain ⟨⟨s0, s1, s5⟩, -, -, -⟩ := id it.1.2.1
  have b17 : 0 ≤ N 0 0 17 ∧ N 0 0 17 ≤ 6 := iN 0 0 17
  have bs : 2 ≤ N 0 0 1 ∧ N 0 0 1 ≤ 5 := iN 0 0 1
  have bn : 1 ≤ N 0 0 2 ∧ N 0 0 2 ≤ 12 := iN 0 0 2
  unfold fX11_at fX12_at
  refine J2.rs (fun N1 u1 => ?_)
  obtain ⟨j1, tl1, ca1, d1, d2, d17⟩ := q_pre iN it ca u1
  refine J2.lq (s_fX2_has M iM l1 h1) (fun v1 g1 => J2.rq (s_fX12_isCar N1 j1 l1 h1) (fun v2 g2 => ?_))
  rw [d17] at g2
  refine J2.bi (by omega) (fun _ => J2.ret rfl) (fun z1 => ?_)
  refine J2.lq (s_fX9_hasLine M iM l2 l3 h2 h3) (fun v3 g3 => ?_)
  refine J2.rq (s_fX12_isLap N1 j1 l2 h2) (fun v4 g4 => ?_)
  by_cases z4 : v4 = 0
  · exact J2.lT (by omega) (J2.rT z4 (J2.ret rfl))
  · refine J2.rF z4 (J2.rq (s_fX12_isSector N1 j1 l3 h3) (fun v5 g5 => ?_))
    refine J2.bi (by omega) (fun _ => J2.ret rfl) (fun z5 => ?_)
    refine J2.bb (j_reckon fu hfu iM j1 tl1 ca1) (fun v M6 w N7 q => ?_)
    obtain ⟨⟨i6, j7⟩, ⟨k6, k7⟩, -, tl6, run⟩ := q
    have x1 : N7 0 0 1 = N 0 0 1 := (k7 0 0 1 (by unfold KR2; omega)).trans d1
    have x2 : N7 0 0 2 = N 0 0 2 := (k7 0 0 2 (by unfold KR2; omega)).trans d2
    have x17 : N7 0 0 17 = N 0 0 17 := (k7 0 0 17 (by unfold KR2; omega)).trans d17
    obtain ⟨y1, y2, y3⟩ := lin_lt bs bn (l := l2) (x := l3) ⟨by omega, by omega⟩ ⟨by omega, by omega⟩
    have m1 : M6 1 0 0 = N 0 0 1 := tl6.2.1.1.1.trans x1
    refine J2.lT ⟨by omega, by omega⟩ ?_
    unfold fX9_lineOf
    have e1 : jm_w (jm_w (l2 * M6 1 0 0) + l3) = l2 * N 0 0 1 + l3 := by rw [m1, jm_wid (x := l2 * N 0 0 1) (by omega) (by omega)]; exact jm_wid (by omega) (by omega)
    have e2 : jm_w (jm_w (jm_w (60 * l1) + jm_w (N7 0 0 1 * l2)) + l3) = 60 * l1 + (l2 * N 0 0 1 + l3) := by
      rw [x1, Int.mul_comm (N 0 0 1) l2, jm_wid (x := l2 * N 0 0 1) (by omega) (by omega), jm_wid (x := 60 * l1) (by omega) (by omega), jm_wid (x := 60 * l1 + l2 * N 0 0 1) (by omega) (by omega), jm_wid (by omega) (by omega)]
      omega
    rw [jm_bsm, e1, e2]
    refine J2.lq (P := fun v => v = N7 55 0 (60 * l1 + (l2 * N 0 0 1 + l3)) ∧ -1 ≤ v) (c_tAt i6 run.2.2.1 ⟨by omega, by omega⟩ ⟨by omega, by omega⟩) (fun v6 g6 => ?_)
    exact J2.rT ⟨by omega, by omega⟩ (J2.ret g6.1)
theorem a_why (fu : Nat) (hfu : 4000 ≤ fu) (M N : jm_M) (iv : IW M N) (it : IT M N) (ca : CA fu M N) (l1 l2 : Int) (h1 : jm_in l1) (h2 : jm_in l2) : J2 (fX11_why fu M l1 l2) (fX12_why fu N l1 l2) (fun v _ w _ => v = w) := by
  have iM := iv.1.1
  have iN := iv.1.2.1
  obtain ⟨⟨s0, s1, s5⟩, -, -, -⟩ := id it.1.2.1
  have b17 : 0 ≤ N 0 0 17 ∧ N 0 0 17 ≤ 6 := iN 0 0 17
  have bs : 2 ≤ N 0 0 1 ∧ N 0 0 1 ≤ 5 := iN 0 0 1
  have bn : 1 ≤ N 0 0 2 ∧ N 0 0 2 ≤ 12 := iN 0 0 2
  unfold fX11_why fX12_why
  refine J2.rs (fun N1 u1 => ?_)
  obtain ⟨j1, tl1, ca1, d1, d2, d17⟩ := q_pre iN it ca u1
  refine J2.lq (s_fX2_has M iM l1 h1) (fun v1 g1 => J2.rq (s_fX12_isCar N1 j1 l1 h1) (fun v2 g2 => ?_))
  rw [d17] at g2
  refine J2.bi (by omega) (fun _ => J2.ret rfl) (fun z1 => ?_)
  refine J2.lq (x_isIndex M l2 (M 1 0 1)) (fun v3 g3 => J2.rq (s_fX12_isLap N1 j1 l2 h2) (fun v4 g4 => ?_))
  refine J2.bi (by omega) (fun _ => J2.ret rfl) (fun z4 => ?_)
  refine J2.bb (j_reckon fu hfu iM j1 tl1 ca1) (fun v M6 w N7 q => ?_)
  obtain ⟨⟨i6, j7⟩, ⟨k6, k7⟩, -, tl6, run⟩ := q
  have x1 : N7 0 0 1 = N 0 0 1 := (k7 0 0 1 (by unfold KR2; omega)).trans d1
  have x2 : N7 0 0 2 = N 0 0 2 := (k7 0 0 2 (by unfold KR2; omega)).trans d2
  have x17 : N7 0 0 17 = N 0 0 17 := (k7 0 0 17 (by unfold KR2; omega)).trans d17
  have e2 : jm_w (jm_w (12 * l1) + l2) = 12 * l1 + l2 := by rw [jm_wid (x := 12 * l1) (by omega) (by omega)]; exact jm_wid (by omega) (by omega)
  rw [e2]
  refine J2.lT ⟨by omega, by omega⟩ (J2.lT ⟨by omega, by omega⟩ (J2.rT ⟨by omega, by omega⟩ (J2.ret ?_)))
  exact (run.2.2.2 l1 (by omega) (by omega)).1.2.2.2.2 l2 (by omega) (by omega)
theorem a_led (fu : Nat) (hfu : 4000 ≤ fu) (M N : jm_M) (iv : IW M N) (it : IT M N) (ca : CA fu M N) (l1 l2 : Int) (h1 : jm_in l1) (h2 : jm_in l2) : J2 (fX11_led fu M l1 l2) (fX12_led fu N l1 l2) (fun v _ w _ => v = w) := by
  have iM := iv.1.1
  have iN := iv.1.2.1
  obtain ⟨⟨s0, s1, s5⟩, -, -, -⟩ := id it.1.2.1
  have b17 : 0 ≤ N 0 0 17 ∧ N 0 0 17 ≤ 6 := iN 0 0 17
  have bs : 2 ≤ N 0 0 1 ∧ N 0 0 1 ≤ 5 := iN 0 0 1
  have bn : 1 ≤ N 0 0 2 ∧ N 0 0 2 ≤ 12 := iN 0 0 2
  unfold fX11_led fX12_led
  refine J2.rs (fun N1 u1 => ?_)
  obtain ⟨j1, tl1, ca1, d1, d2, d17⟩ := q_pre iN it ca u1
  refine J2.lq (x_isIndex M l1 (M 1 0 1)) (fun v1 g1 => J2.rq (s_fX12_isLap N1 j1 l1 h1) (fun v2 g2 => ?_))
  refine J2.bi (by omega) (fun _ => J2.ret rfl) (fun z1 => ?_)
  refine J2.lq (x_isIndex M l2 (M 2 0 5)) (fun v3 g3 => ?_)
  by_cases z2 : 0 ≤ l2
  · refine J2.rT z2 ?_
    by_cases z3 : v3 = 0
    · refine J2.lT z3 ?_
      obtain ⟨v, M6, w, N7, -, e7, q⟩ := j_reckon fu hfu iM j1 tl1 ca1
      obtain ⟨⟨i6, j7⟩, ⟨k6, k7⟩, -, tl6, run⟩ := q
      have x1 : N7 0 0 1 = N 0 0 1 := (k7 0 0 1 (by unfold KR2; omega)).trans d1
      have x2 : N7 0 0 2 = N 0 0 2 := (k7 0 0 2 (by unfold KR2; omega)).trans d2
      have x17 : N7 0 0 17 = N 0 0 17 := (k7 0 0 17 (by unfold KR2; omega)).trans d17
      rw [e7, jm_bsm]
      obtain ⟨a, A1, b, B1, -, eb, -, eB, eab, e5, -, e6⟩ := j_ledL fu hfu i6 j7 tl6 run l1 l2 ⟨by omega, by omega⟩
      rw [eb, jm_bsm]
      refine J2.ret ?_
      rw [← eab]
      by_cases y : 0 ≤ a
      · obtain ⟨y1, y2, y3⟩ := e6 y
        have y4 := cntA_lt (TT N7 (l1 * N7 0 0 1 + (N7 0 0 1 - 1))) a _ y rfl (N7 0 0 17).toNat (by omega)
        exfalso; omega
      · omega
    · refine J2.lF z3 ?_
      refine J2.bb (j_reckon fu hfu iM j1 tl1 ca1) (fun v M6 w N7 q => ?_)
      obtain ⟨⟨i6, j7⟩, ⟨k6, k7⟩, -, tl6, run⟩ := q
      have x1 : N7 0 0 1 = N 0 0 1 := (k7 0 0 1 (by unfold KR2; omega)).trans d1
      have x2 : N7 0 0 2 = N 0 0 2 := (k7 0 0 2 (by unfold KR2; omega)).trans d2
      have x17 : N7 0 0 17 = N 0 0 17 := (k7 0 0 17 (by unfold KR2; omega)).trans d17
      have m1 : jm_w (M6 1 0 0 - 1) = N7 0 0 1 - 1 := by rw [tl6.2.1.1.1]; exact jm_wid (by omega) (by omega)
      rw [m1]
      obtain ⟨a, A1, b, B1, ea, eb, eA, eB, eab, -⟩ := j_ledL fu hfu i6 j7 tl6 run l1 l2 ⟨by omega, by omega⟩
      unfold fX9_lineOf at ea ⊢
      rw [jm_bsm] at ea ⊢
      rw [ea, eb, jm_bsm, jm_bsm]
      exact J2.ret eab
  · exact J2.rF z2 (J2.lT (by omega) (J2.ret rfl))
theorem lead_no {M N : jm_M} (iN : bI bx2 N) (run : RUN M N) {g h : Int} (hg : 0 ≤ g ∧ g ≤ h ∧ h < 60) (n1 : ∀ o : Int, 0 ≤ o → o < N 0 0 17 → 0 ≤ TT N g o → cntA (TT N g) o (TT N g o) (N 0 0 17).toNat ≠ 0) : ∀ o : Int, 0 ≤ o → o < N 0 0 17 → TT N h o < 0 := by
  have b17 : 0 ≤ N 0 0 17 ∧ N 0 0 17 ≤ 6 := iN 0 0 17
  have all : ∀ o : Int, 0 ≤ o → o < N 0 0 17 → TT N g o < 0 := by
    rcases min_ex (TT N g) (N 0 0 17).toNat with m | ⟨c, c0, c1, c2, c3⟩
    · exact fun o y1 y2 => m o y1 (by omega)
    · exact absurd (cntA_0 (TT N g) c (N 0 0 17).toNat c3) (n1 c c0 (by omega) c2)
  intro o y1 y2
  obtain ⟨⟨-, r2, r3⟩, r4⟩ := run.2.2.1 o y1 y2
  have z := all o y1 y2
  unfold TT at z ⊢
  by_cases q : g < N 43 0 o
  · have := (r4 g hg.1 (by omega)).1 q
    exfalso; omega
  · have := (r4 h (by omega) hg.2.2).2 (by omega)
    omega
theorem j_leads37 (fu : Nat) (hfu : 4000 ≤ fu) {M N : jm_M} (iM : bI bx1 M) (iN : bI bx2 N) (tl : TLD M N) (run : RUN M N) : ∀ (n : Nat) (l1 l2 l3 : Int), 1 ≤ l3 → l3 ≤ N 0 0 2 → 0 ≤ l1 → l1 < l3 → N 0 0 2 - l3 < (n : Int) → (∃ N1 : jm_M, fX12_ledBy fu N (l3 - 1) 0 = some (l2, N1)) → (l2 = -1 → ∀ o : Int, 0 ≤ o → o < N 0 0 17 → 0 ≤ TT N ((l3 - 1) * N 0 0 1 + (N 0 0 1 - 1)) o → cntA (TT N ((l3 - 1) * N 0 0 1 + (N 0 0 1 - 1))) o (TT N ((l3 - 1) * N 0 0 1 + (N 0 0 1 - 1)) o) (N 0 0 17).toNat ≠ 0) → J2 (fX11_leads_37 fu n M l1 l2 l3) (fX12_leads_13 fu n N l1 l3) (fun v _ w _ => v = w) := by
  have bs : 2 ≤ N 0 0 1 ∧ N 0 0 1 ≤ 5 := iN 0 0 1
  have bn : 1 ≤ N 0 0 2 ∧ N 0 0 2 ≤ 12 := iN 0 0 2
  have b17 : 0 ≤ N 0 0 17 ∧ N 0 0 17 ≤ 6 := iN 0 0 17
  obtain ⟨⟨s0, s1, s5⟩, -, -, -⟩ := id tl.2.1
  -- nobody leads: nothing more is counted
  have rest : ∀ (n : Nat) (l1 l3 : Int), 1 ≤ l3 → l3 ≤ N 0 0 2 → 0 ≤ l1 → l1 ≤ 12 → N 0 0 2 - l3 < (n : Int) → (l3 < N 0 0 2 → ∀ o : Int, 0 ≤ o → o < N 0 0 17 → TT N (l3 * N 0 0 1 + (N 0 0 1 - 1)) o < 0) → wp (fX12_leads_13 fu n N l1 l3) (fun w _ => w = l1) := by
    intro n
    induction n with
    | zero => intro l1 l3 _ h2 _ _ hm _; exfalso; omega
    | succ n ih =>
      intro l1 l3 h1 h2 h3 h4 hm no
      show wp (gX12_leads_13 fu (fX12_leads_13 fu n) N l1 l3) _
      unfold gX12_leads_13
      refine wp_ite (fun _ => wp_ret rfl) (fun z => ?_)
      have no := no (by omega)
      obtain ⟨a, A1, b, B1, -, eb, -, eB, eab, e5, -, e6⟩ := j_ledL fu hfu iM iN tl run l3 0 ⟨by omega, by omega⟩
      rw [eb, jm_bsm, eB]
      have bneg : b < 0 := by
        by_cases y : 0 ≤ a
        · obtain ⟨y1, y2, y3⟩ := e6 y
          have := no a y y1
          exfalso; omega
        · omega
      refine wp_T bneg ?_
      have w1 : jm_w (l1 + 0) = l1 := by rw [Int.add_zero]; exact jm_wid (by omega) (by omega)
      have w2 : jm_w (l3 + 1) = l3 + 1 := jm_wid (by omega) (by omega)
      rw [jm_ee, jm_ee, w1, w2]
      refine ih l1 (l3 + 1) (by omega) (by omega) h3 h4 (by omega) (fun y => ?_)
      obtain ⟨z1, z2, z3⟩ := lin_lt bs bn (l := l3) (x := N 0 0 1 - 1) ⟨by omega, by omega⟩ ⟨by omega, by omega⟩
      obtain ⟨z4, z5, z6⟩ := lin_lt bs bn (l := l3 + 1) (x := N 0 0 1 - 1) ⟨by omega, by omega⟩ ⟨by omega, by omega⟩
      refine lead_no iN run (g := l3 * N 0 0 1 + (N 0 0 1 - 1)) ⟨by omega, ?_, by omega⟩ (fun o y1 y2 y3 => by have := no o y1 y2; exfalso; omega)
      rw [Int.add_mul, Int.one_mul]
      omega
  intro n
  induction n with
  | zero => intro l1 l2 l3 _ h2 _ _ hm _ _; exfalso; omega
  | succ n ih =>
    intro l1 l2 l3 h1 h2 h3 h4 hm hl no
    show J2 (gX11_leads_37 fu (fX11_leads_37 fu n) M l1 l2 l3) (gX12_leads_13 fu (fX12_leads_13 fu n) N l1 l3) _
    unfold gX11_leads_37 gX12_leads_13
    have w0 : jm_w (M 1 0 0 - 1) = N 0 0 1 - 1 := by rw [s0]; exact jm_wid (by omega) (by omega)
    have w1 : jm_w (l1 + 0) = l1 := by rw [Int.add_zero]; exact jm_wid (by omega) (by omega)
    have w2 : jm_w (l3 + 1) = l3 + 1 := jm_wid (by omega) (by omega)
    have w3 : jm_w (l1 + 1) = l1 + 1 := jm_wid (by omega) (by omega)
    have w4 : jm_w (l3 - 1) = l3 - 1 := jm_wid (by omega) (by omega)
    rw [s1, w0, w1, w2, w3]
    by_cases z : N 0 0 2 ≤ l3
    · exact J2.lT z (J2.rT z (J2.ret rfl))
    · refine J2.lF z (J2.rF z ?_)
      obtain ⟨z1, z2, z3⟩ := lin_lt bs bn (l := l3) (x := N 0 0 1 - 1) ⟨by omega, by omega⟩ ⟨by omega, by omega⟩
      obtain ⟨a, A1, b, B1, ea, eb, eA, eB, eab, e5, en, e6⟩ := j_ledL fu hfu iM iN tl run l3 0 ⟨by omega, by omega⟩
      unfold fX9_lineOf at ea ⊢
      rw [jm_bsm] at ea ⊢
      rw [ea, eb, jm_bsm, jm_bsm, eA, eB]
      obtain ⟨N9, e9⟩ := hl
      by_cases y : a = -1
      · have bm : b < 0 := by omega
        refine J2.lT y (J2.rT bm ?_)
        rw [jm_ee, jm_ee]
        obtain ⟨w, N2, ew, er⟩ := rest n l1 (l3 + 1) (by omega) (by omega) h3 (by omega) (by omega) (fun y9 => by
          obtain ⟨z4, z5, z6⟩ := lin_lt bs bn (l := l3 + 1) (x := N 0 0 1 - 1) ⟨by omega, by omega⟩ ⟨by omega, by omega⟩
          refine lead_no iN run (g := l3 * N 0 0 1 + (N 0 0 1 - 1)) ⟨by omega, ?_, by omega⟩ (en y)
          rw [Int.add_mul, Int.one_mul]
          omega)
        rw [ew]
        exact J2.ret er.symm
      · have bm : ¬ b < 0 := by omega
        refine J2.lF y (J2.rF bm ?_)
        rw [eb, jm_bsm, eB, w4, e9, jm_bsm]
        have N9N : N9 = N := by
          obtain ⟨a9, A9, b9, B9, -, f9, -, g9, -⟩ := j_ledL fu hfu iM iN tl run (l3 - 1) 0 ⟨by omega, by omega⟩
          rw [e9] at f9
          obtain ⟨-, q⟩ := Prod.mk.inj (Option.some.inj f9)
          exact q.trans g9
        rw [N9N, jm_ee, jm_ee, jm_ee, jm_ee, jm_ee, jm_ee, jm_ee]
        have hl' : ∃ N1 : jm_M, fX12_ledBy fu N (l3 + 1 - 1) 0 = some (a, N1) := ⟨B1, by rw [show l3 + 1 - 1 = l3 by omega, eb, eab]⟩
        have no' : a = -1 → ∀ o : Int, 0 ≤ o → o < N 0 0 17 → 0 ≤ TT N ((l3 + 1 - 1) * N 0 0 1 + (N 0 0 1 - 1)) o → cntA (TT N ((l3 + 1 - 1) * N 0 0 1 + (N 0 0 1 - 1))) o (TT N ((l3 + 1 - 1) * N 0 0 1 + (N 0 0 1 - 1)) o) (N 0 0 17).toNat ≠ 0 := fun q => absurd q y
        by_cases q : a = l2
        · refine J2.lT q (J2.rT (by omega) ?_)
          exact ih l1 a (l3 + 1) (by omega) (by omega) h3 (by omega) (by omega) hl' no'
        · refine J2.lF q (J2.rF (by omega) ?_)
          exact ih (l1 + 1) a (l3 + 1) (by omega) (by omega) (by omega) (by omega) (by omega) hl' no'
theorem a_leads (fu : Nat) (hfu : 4000 ≤ fu) (M N : jm_M) (iv : IW M N) (it : IT M N) (ca : CA fu M N) : J2 (fX11_leads fu M) (fX12_leads fu N) (fun v _ w _ => v = w) := by
  have iM := iv.1.1
  have iN := iv.1.2.1
  obtain ⟨⟨s0, s1, s5⟩, -, -, -⟩ := id it.1.2.1
  have b17 : 0 ≤ N 0 0 17 ∧ N 0 0 17 ≤ 6 := iN 0 0 17
  have bs : 2 ≤ N 0 0 1 ∧ N 0 0 1 ≤ 5 := iN 0 0 1
  have bn : 1 ≤ N 0 0 2 ∧ N 0 0 2 ≤ 12 := iN 0 0 2
  unfold fX11_leads fX12_leads
  refine J2.rs (fun N1 u1 => ?_)
  obtain ⟨j1, tl1, ca1, d1, d2, d17⟩ := q_pre iN it ca u1
  refine J2.bb (j_reckon fu hfu iM j1 tl1 ca1) (fun v M6 w N7 q => ?_)
  obtain ⟨⟨i6, j7⟩, ⟨k6, k7⟩, -, tl6, run⟩ := q
  have x1 : N7 0 0 1 = N 0 0 1 := (k7 0 0 1 (by unfold KR2; omega)).trans d1
  have x2 : N7 0 0 2 = N 0 0 2 := (k7 0 0 2 (by unfold KR2; omega)).trans d2
  have x17 : N7 0 0 17 = N 0 0 17 := (k7 0 0 17 (by unfold KR2; omega)).trans d17
  have m1 : jm_w (M6 1 0 0 - 1) = N7 0 0 1 - 1 := by rw [tl6.2.1.1.1]; exact jm_wid (by omega) (by omega)
  rw [m1]
  obtain ⟨a, A1, b, B1, ea, eb, eA, eB, eab, e5, en, e6⟩ := j_ledL fu hfu i6 j7 tl6 run 0 0 ⟨by decide, by omega⟩
  unfold fX9_lineOf at ea ⊢
  rw [jm_bsm] at ea ⊢
  rw [ea, jm_bsm, eA]
  exact j_leads37 fu hfu i6 j7 tl6 run fu 0 a 1 (by decide) (by omega) (by decide) (by decide) (by omega) ⟨B1, by rw [show (1 : Int) - 1 = 0 from rfl, eb, eab]⟩ (fun y o y1 y2 y3 => by rw [show (1 : Int) - 1 = 0 from rfl] at y3 ⊢; exact en y o y1 y2 y3)
