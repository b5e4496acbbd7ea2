/-! what of the lines is known; the wall -/
theorem c_tells {M N : jm_M} (lx : LX M N) (s0 : M 1 0 0 = N 0 0 1) (bs : 2 ≤ N 0 0 1 ∧ N 0 0 1 ≤ 5) (g : Int) (hg : 0 ≤ g) : wp (fX9_tells M g) (fun v M1 => M1 = M ∧ ((v = 1 ∧ N 3 0 (jm_mod g (N 0 0 1)) = 0) ∨ (v = 0 ∧ N 3 0 (jm_mod g (N 0 0 1)) ≠ 0))) := by
  have f := jm_mod_f (a := g) (b := N 0 0 1) hg (by omega)
  unfold fX9_tells
  refine wp_bp (c_sectorOf M g (by omega)) (fun v1 h1 => ?_)
  rw [s0] at h1
  rw [h1]
  refine wp_T ⟨by omega, by omega⟩ ?_
  rw [lx.1 _ (by omega) (by omega)]
  exact wp_ite (fun z => wp_ret ⟨rfl, Or.inl ⟨rfl, z⟩⟩) (fun z => wp_ret ⟨rfl, Or.inr ⟨rfl, z⟩⟩)
theorem lost_next {M N : jm_M} (lx : LX M N) (bs : 2 ≤ N 0 0 1 ∧ N 0 0 1 ≤ 5) (bn : 1 ≤ N 0 0 2 ∧ N 0 0 2 ≤ 12) {g : Int} (h0 : 0 ≤ g) (h1 : g < N 0 0 1 * N 0 0 2) (hl : N 3 0 (jm_mod g (N 0 0 1)) ≠ 0) : g + 1 < N 0 0 1 * N 0 0 2 := by
  obtain ⟨-, -, -, -, a, -⟩ := jm_last bs bn h0 h1
  refine a (fun e => hl ?_)
  rw [e]
  exact lx.2
theorem sn_60 {s n : Int} (hs : 2 ≤ s ∧ s ≤ 5) (hn : 1 ≤ n ∧ n ≤ 12) : 2 ≤ s * n ∧ s * n ≤ 60 := by
  have a : s * 1 ≤ s * n := Int.mul_le_mul_of_nonneg_left (by omega) (by omega)
  have b : s * n ≤ 5 * n := Int.mul_le_mul_of_nonneg_right (by omega) (by omega)
  omega
theorem ix_line {c g : Int} (hc : 0 ≤ c ∧ c < 6) (hg : 0 ≤ g ∧ g < 60) : jm_w (jm_w (60 * c) + g) = 60 * c + g ∧ 0 ≤ 60 * c + g ∧ 60 * c + g < 360 := by
  rw [jm_wid (x := 60 * c) (by omega) (by omega)]
  exact ⟨jm_wid (by omega) (by omega), by omega, by omega⟩
/-- the lower bound, once the line before is found -/
theorem j_160 (fu : Nat) {M N : jm_M} (iM : bI bx1 M) (rt : RTm M N) (s18 : M 18 0 6 = N 5 0 6) {c : Int} (hc : 0 ≤ c ∧ c < N 0 0 17) (b17 : N 0 0 17 ≤ 6) (l2 l8 : Int) (h8 : -1 ≤ l8 ∧ l8 < 60) : J2 (gX2_spanAt_137 fu M c l2 c l8) (gX12_knownOf_160 fu N c l2 l8) (fun v M1 w N1 => M1 = M ∧ N1 = N ∧ v = w) := by
  unfold gX2_spanAt_137 gX12_knownOf_160 gX2_spanAt_164
  refine J2.bi Iff.rfl (fun z => ?_) (fun z => ?_)
  · obtain ⟨e, e0, e1⟩ := ix_line (c := c) (g := l8) ⟨hc.1, by omega⟩ ⟨z, h8.2⟩
    rw [e]
    refine J2.lq (P := fun v => v = N 55 0 (60 * c + l8) ∧ -1 ≤ v) (c_tAt iM rt hc ⟨z, h8.2⟩) (fun v q => ?_)
    rw [q.1]
    exact J2.rT ⟨e0, e1⟩ (J2.ret ⟨rfl, rfl, rfl⟩)
  · rw [s18]
    exact J2.lT ⟨by decide, by decide⟩ (J2.rT ⟨by decide, by decide⟩ (J2.ret ⟨rfl, rfl, rfl⟩))
theorem j_134 (fu : Nat) {M N : jm_M} (iM : bI bx1 M) (rt : RTm M N) (lx : LX M N) (s0 : M 1 0 0 = N 0 0 1) (bs : 2 ≤ N 0 0 1 ∧ N 0 0 1 ≤ 5) (s18 : M 18 0 6 = N 5 0 6) {c : Int} (hc : 0 ≤ c ∧ c < N 0 0 17) (b17 : N 0 0 17 ≤ 6) (l2 : Int) : ∀ (n m : Nat) (l8 : Int), -1 ≤ l8 → l8 < 60 → l8 + 1 < (n : Int) → l8 + 1 < (m : Int) → J2 (fX2_spanAt_114 fu n M c l2 c l8) (fX12_knownOf_134 fu m N c l2 l8) (fun v M1 w N1 => M1 = M ∧ N1 = N ∧ v = w) := by
  intro n
  induction n with
  | zero => intro m l8 _ _ hm; exfalso; omega
  | succ n ih =>
    intro m l8 h0 h1 hn hm
    cases m with
    | zero => exfalso; omega
    | succ m =>
      show J2 (gX2_spanAt_114 fu (fX2_spanAt_114 fu n) M c l2 c l8) (gX12_knownOf_134 fu (fX12_knownOf_134 fu m) N c l2 l8) _
      unfold gX2_spanAt_114 gX12_knownOf_134
      refine J2.bi Iff.rfl (fun z => j_160 fu iM rt s18 hc b17 l2 l8 ⟨h0, h1⟩) (fun z => ?_)
      have f := jm_mod_f (a := l8) (b := N 0 0 1) (by omega) (by omega)
      have w1 : jm_w (l8 + -1) = l8 + -1 := jm_wid (by omega) (by omega)
      refine J2.lq (c_tells lx s0 bs l8 (by omega)) (fun v q => J2.rT (by omega) (J2.rT ⟨by omega, by omega⟩ ?_))
      rw [w1]
      rcases q with ⟨q1, q2⟩ | ⟨q1, q2⟩
      · exact J2.lF (by omega) (J2.rT q2 (j_160 fu iM rt s18 hc b17 l2 l8 ⟨h0, h1⟩))
      · exact J2.lT q1 (J2.rF q2 (J2.le (J2.re (ih m (l8 + -1) (by omega) (by omega) (by omega) (by omega)))))
theorem k134_s (fu m : Nat) (h : 0 < m) : fX12_knownOf_134 fu m = gX12_knownOf_134 fu (fX12_knownOf_134 fu (m - 1)) := by
  cases m with
  | zero => omega
  | succ m => rfl
theorem k38_s (fu m : Nat) (h : 0 < m) : fX12_knownOf_38 fu m = gX12_knownOf_38 fu (fX12_knownOf_38 fu (m - 1)) := by
  cases m with
  | zero => omega
  | succ m => rfl
theorem j_73 (fu : Nat) (hfu : 4000 ≤ fu) {M N : jm_M} (iM : bI bx1 M) (rt : RTm M N) (lx : LX M N) (s0 : M 1 0 0 = N 0 0 1) (bs : 2 ≤ N 0 0 1 ∧ N 0 0 1 ≤ 5) (bn : 1 ≤ N 0 0 2 ∧ N 0 0 2 ≤ 12) (s18 : M 18 0 6 = N 5 0 6) {c : Int} (hc : 0 ≤ c ∧ c < N 0 0 17) (b17 : N 0 0 17 ≤ 6) {x y : Int} (hxy : x = 0 ↔ y = 1) {l2 : Int} (h2 : 0 ≤ l2 ∧ l2 < 60) (hl : N 3 0 (jm_mod l2 (N 0 0 1)) ≠ 0) {l6 : Int} (h6 : 0 ≤ l6 ∧ l6 < N 0 0 1 * N 0 0 2) : J2 (gX2_spanAt_76 fu M c l2 x c l6) (gX12_knownOf_73 fu N c l2 y l6) (fun v M1 w N1 => M1 = M ∧ N1 = N ∧ v = w) := by
  have b60 := sn_60 bs bn
  unfold gX2_spanAt_76 gX12_knownOf_73
  have w60 : jm_w (N 0 0 1 * N 0 0 2) = N 0 0 1 * N 0 0 2 := jm_wid (by omega) (by omega)
  obtain ⟨e, e0, e1⟩ := ix_line (c := c) (g := l6) ⟨hc.1, by omega⟩ ⟨h6.1, by omega⟩
  have w1 : jm_w (l2 - 1) = l2 - 1 := jm_wid (by omega) (by omega)
  rw [w60, e, w1]
  refine J2.lq (P := fun v => v = N 55 0 (60 * c + l6) ∧ -1 ≤ v) (c_tAt iM rt hc ⟨h6.1, by omega⟩) (fun v q => J2.rF (by omega) (J2.rT ⟨e0, e1⟩ ?_))
  by_cases z : v = -1
  · exact J2.lT z (J2.rF (by omega) (J2.ret ⟨rfl, rfl, rfl⟩))
  · refine J2.lF z (J2.rT (by omega) ?_)
    refine J2.bi hxy (fun _ => J2.rT ⟨e0, e1⟩ (J2.ret ⟨rfl, rfl, by rw [q.1]⟩)) (fun _ => ?_)
    have f := jm_mod_f (a := l2) (b := N 0 0 1) (by omega) (by omega)
    have w2 : jm_w (l2 + -1) = l2 - 1 := jm_wid (by omega) (by omega)
    refine J2.le ?_
    rw [k134_s fu fu (by omega)]
    unfold gX12_knownOf_134
    rw [w2]
    exact J2.rF (by omega) (J2.rT (by omega) (J2.rT ⟨by omega, by omega⟩ (J2.rF hl (J2.re (j_134 fu iM rt lx s0 bs s18 hc b17 l2 fu (fu - 1) (l2 - 1) (by omega) (by omega) (by omega) (by omega))))))
theorem j_38 (fu : Nat) (hfu : 4000 ≤ fu) {M N : jm_M} (iM : bI bx1 M) (rt : RTm M N) (lx : LX M N) (s0 : M 1 0 0 = N 0 0 1) (bs : 2 ≤ N 0 0 1 ∧ N 0 0 1 ≤ 5) (bn : 1 ≤ N 0 0 2 ∧ N 0 0 2 ≤ 12) (s18 : M 18 0 6 = N 5 0 6) {c : Int} (hc : 0 ≤ c ∧ c < N 0 0 17) (b17 : N 0 0 17 ≤ 6) {x y : Int} (hxy : x = 0 ↔ y = 1) {l2 : Int} (h2 : 0 ≤ l2 ∧ l2 < 60) (hl : N 3 0 (jm_mod l2 (N 0 0 1)) ≠ 0) : ∀ (n m : Nat) (l6 : Int), 0 ≤ l6 → l6 < N 0 0 1 * N 0 0 2 → 60 - l6 < (n : Int) → 60 - l6 < (m : Int) → J2 (fX2_spanAt_51 fu n M c l2 x c l6) (fX12_knownOf_38 fu m N c l2 y l6) (fun v M1 w N1 => M1 = M ∧ N1 = N ∧ v = w) := by
  have b60 := sn_60 bs bn
  intro n
  induction n with
  | zero => intro m l6 _ _ hm; exfalso; omega
  | succ n ih =>
    intro m l6 h0 h1 hn hm
    cases m with
    | zero => exfalso; omega
    | succ m =>
      show J2 (gX2_spanAt_51 fu (fX2_spanAt_51 fu n) M c l2 x c l6) (gX12_knownOf_38 fu (fX12_knownOf_38 fu m) N c l2 y l6) _
      unfold gX2_spanAt_51 gX12_knownOf_38
      have w60 : jm_w (N 0 0 1 * N 0 0 2) = N 0 0 1 * N 0 0 2 := jm_wid (by omega) (by omega)
      have f := jm_mod_f (a := l6) (b := N 0 0 1) (by omega) (by omega)
      have w1 : jm_w (l6 + 1) = l6 + 1 := jm_wid (by omega) (by omega)
      rw [w60, w1]
      refine J2.lF (by omega) (J2.lq (c_tells lx s0 bs l6 (by omega)) (fun v q => J2.rF (by omega) (J2.rT (by omega) (J2.rT ⟨by omega, by omega⟩ ?_))))
      rcases q with ⟨q1, q2⟩ | ⟨q1, q2⟩
      · exact J2.lF (by omega) (J2.rT q2 (j_73 fu hfu iM rt lx s0 bs bn s18 hc b17 hxy h2 hl ⟨h0, h1⟩))
      · exact J2.lT q1 (J2.rF q2 (J2.le (J2.re (ih m (l6 + 1) (by omega) (lost_next lx bs bn h0 h1 q2) (by omega) (by omega)))))
/-- what is known of a car at a line: at the earliest (1), at the latest (0) -/
theorem j_span (fu : Nat) (hfu : 4000 ≤ fu) {M N : jm_M} (iM : bI bx1 M) (rt : RTm M N) (lx : LX M N) (s0 : M 1 0 0 = N 0 0 1) (s5 : M 2 0 5 = N 0 0 17) (bs : 2 ≤ N 0 0 1 ∧ N 0 0 1 ≤ 5) (bn : 1 ≤ N 0 0 2 ∧ N 0 0 2 ≤ 12) (s18 : M 18 0 6 = N 5 0 6) {c : Int} (hc : 0 ≤ c ∧ c < N 0 0 17) (b17 : N 0 0 17 ≤ 6) {x y : Int} (hxy : x = 0 ↔ y = 1) {l2 : Int} (h2 : 0 ≤ l2 ∧ l2 < N 0 0 1 * N 0 0 2) : J2 (fX2_spanAt fu M c l2 x) (fX12_knownOf fu N c l2 y) (fun v M1 w N1 => M1 = M ∧ N1 = N ∧ v = w) := by
  have b60 := sn_60 bs bn
  unfold fX2_spanAt fX12_knownOf
  obtain ⟨e, e0, e1⟩ := ix_line (c := c) (g := l2) ⟨hc.1, by omega⟩ ⟨h2.1, by omega⟩
  have w1 : jm_w (l2 + 1) = l2 + 1 := jm_wid (by omega) (by omega)
  have f := jm_mod_f (a := l2) (b := N 0 0 1) (by omega) (by omega)
  rw [e, w1]
  refine J2.lq (c_has M c (by omega)) (fun v1 q1 => J2.lF (by omega) (J2.lT ⟨hc.1, by omega⟩ (J2.rT ⟨e0, e1⟩ (J2.re ?_))))
  refine J2.lq (P := fun v => v = N 55 0 (60 * c + l2) ∧ -1 ≤ v) (c_tAt iM rt hc ⟨h2.1, by omega⟩) (fun v q => ?_)
  rw [← q.1]
  by_cases z : v = -1
  · exact J2.lT z (J2.rT (by omega) (J2.ret ⟨rfl, rfl, rfl⟩))
  · refine J2.lF z (J2.rF (by omega) (J2.rT (by omega) (J2.rT ⟨by omega, by omega⟩ ?_)))
    refine J2.lq (c_tells lx s0 bs l2 (by omega)) (fun v q3 => ?_)
    rcases q3 with ⟨q1, q2⟩ | ⟨q1, q2⟩
    · exact J2.lF (by omega) (J2.rT q2 (J2.ret ⟨rfl, rfl, rfl⟩))
    · refine J2.lT q1 (J2.rF q2 (J2.le ?_))
      rw [k38_s fu fu (by omega)]
      unfold gX12_knownOf_38
      have w60 : jm_w (N 0 0 1 * N 0 0 2) = N 0 0 1 * N 0 0 2 := jm_wid (by omega) (by omega)
      rw [w60, w1]
      exact J2.rF (by omega) (J2.rT (by omega) (J2.rT ⟨by omega, by omega⟩ (J2.rF q2 (J2.re (j_38 fu hfu iM rt lx s0 bs bn s18 hc b17 hxy ⟨h2.1, by omega⟩ q2 fu (fu - 1) (l2 + 1) (by omega) (lost_next lx bs bn h2.1 h2.2 q2) (by omega) (by omega))))))
theorem a_known (fu : Nat) (hfu : 4000 ≤ fu) (M N : jm_M) (iv : IW M N) (it : IT M N) (ca : CA fu M N) (ir : IR M N) (l1 l2 l3 l4 : Int) (h1 : jm_in l1) (h2 : jm_in l2) (h3 : jm_in l3) (h4 : jm_in l4) : J2 (fX11_known fu M l1 l2 l3 l4) (fX12_known fu N l1 l2 l3 l4) (fun v _ w _ => v = w) := by
  have iM := iv.1.1
  have iN := iv.1.2.1
  obtain ⟨⟨s0, s1, s5⟩, -, -, -⟩ := id it.1.2.1
  have b17 : 0 ≤ N 0 0 17 ∧ N 0 0 17 ≤ 6 := iN 0 0 17
  have bs : 2 ≤ N 0 0 1 ∧ N 0 0 1 ≤ 5 := iN 0 0 1
  have bn : 1 ≤ N 0 0 2 ∧ N 0 0 2 ≤ 12 := iN 0 0 2
  unfold fX11_known fX12_known
  refine J2.rs (fun N1 u1 => ?_)
  obtain ⟨j1, tl1, ca1, d1, d2, d17⟩ := q_pre iN it ca u1
  refine J2.lq (s_fX2_has M iM l1 h1) (fun v1 g1 => J2.rq (s_fX12_isCar N1 j1 l1 h1) (fun v2 g2 => ?_))
  rw [d17] at g2
  refine J2.bi (by omega) (fun _ => J2.ret rfl) (fun z1 => ?_)
  refine J2.lq (s_fX9_hasLine M iM l2 l3 h2 h3) (fun v3 g3 => ?_)
  refine J2.rq (s_fX12_isLap N1 j1 l2 h2) (fun v4 g4 => ?_)
  by_cases z4 : v4 = 0
  · exact J2.lT (by omega) (J2.rT z4 (J2.ret rfl))
  · refine J2.rF z4 (J2.rq (s_fX12_isSector N1 j1 l3 h3) (fun v5 g5 => ?_))
    refine J2.bi (by omega) (fun _ => J2.ret rfl) (fun z5 => ?_)
    refine J2.lq (s_fX11_isWithin M iM l4 0 1 h4 (jm_inL (by decide) (by decide)) (jm_inL (by decide) (by decide))) (fun v6 g6 => ?_)
    refine J2.rq (s_fX12_in N1 j1 l4 0 1 h4 ⟨by decide, by decide⟩ ⟨by decide, by decide⟩) (fun v7 g7 => ?_)
    refine J2.bi (by omega) (fun _ => J2.ret rfl) (fun z6 => ?_)
    refine J2.bb (j_reckon fu hfu iM j1 tl1 ca1) (fun v M6 w N7 q => ?_)
    obtain ⟨⟨i6, j7⟩, ⟨k6, k7⟩, -, tl6, run⟩ := q
    have k17 : Kp X2 N1 N7 := k7.weak (fun f i k y => by unfold X2 at y; unfold KR2; omega)
    have ir1 : IR M N1 := ir.m7 iN (Or.inl rfl) (by rw [u1]; exact X2.r0)
    have ir7 : IR M6 N7 := ir1.ta j1 k6 k17
    have x1 : N7 0 0 1 = N 0 0 1 := (k7 0 0 1 (by unfold KR2; omega)).trans d1
    have x2 : N7 0 0 2 = N 0 0 2 := (k7 0 0 2 (by unfold KR2; omega)).trans d2
    have x17 : N7 0 0 17 = N 0 0 17 := (k7 0 0 17 (by unfold KR2; omega)).trans d17
    obtain ⟨y1, y2, y3⟩ := lin_lt bs bn (l := l2) (x := l3) ⟨by omega, by omega⟩ ⟨by omega, by omega⟩
    have m1 : M6 1 0 0 = N7 0 0 1 := tl6.2.1.1.1
    unfold fX9_lineOf
    have e1 : jm_w (jm_w (l2 * M6 1 0 0) + l3) = l2 * N 0 0 1 + l3 := by rw [m1, x1, jm_wid (x := l2 * N 0 0 1) (by omega) (by omega)]; exact jm_wid (by omega) (by omega)
    have e2 : jm_w (jm_w (N7 0 0 1 * l2) + l3) = l2 * N 0 0 1 + l3 := by rw [x1, Int.mul_comm (N 0 0 1) l2, jm_wid (x := l2 * N 0 0 1) (by omega) (by omega)]; exact jm_wid (by omega) (by omega)
    rw [jm_bsm, e1, e2]
    have sp : ∀ x y : Int, (x = 0 ↔ y = 1) → J2 (fX2_spanAt fu M6 l1 (l2 * N 0 0 1 + l3) x) (fX12_knownOf fu N7 l1 (l2 * N 0 0 1 + l3) y) (fun v M1 w N1 => M1 = M6 ∧ N1 = N7 ∧ v = w) := fun x y hxy => j_span fu hfu i6 run.2.2.1 ir7.1 m1 tl6.2.1.1.2.2 (j7 0 0 1) (j7 0 0 2) (tl6.2.1.2.1 6 (by decide) (by decide)) ⟨by omega, by omega⟩ (by omega) hxy ⟨by omega, by rw [x1, x2]; omega⟩
    by_cases z : l4 = 0
    · exact J2.lT z (J2.bb (sp 1 l4 (by omega)) (fun v8 M8 w8 N8 q8 => J2.ret q8.2.2))
    · exact J2.lF z (J2.bb (sp 0 l4 (by omega)) (fun v8 M8 w8 N8 q8 => J2.ret q8.2.2))
/-- the last line told at which car c had come by t -/
def TLs (N : jm_M) (c t w : Int) : Prop := (-1 ≤ w ∧ w < N 0 0 1 * N 0 0 2) ∧ (0 ≤ w → N 3 0 (jm_mod w (N 0 0 1)) = 0 ∧ 0 ≤ N 55 0 (60 * c + w) ∧ N 55 0 (60 * c + w) ≤ t) ∧ ∀ g : Int, w < g → 0 ≤ g → g < N 0 0 1 * N 0 0 2 → ¬ (N 3 0 (jm_mod g (N 0 0 1)) = 0 ∧ 0 ≤ N 55 0 (60 * c + g) ∧ N 55 0 (60 * c + g) ≤ t)
theorem TLs.eq {N : jm_M} {c t v w : Int} (h1 : TLs N c t v) (h2 : TLs N c t w) : v = w := by
  obtain ⟨⟨a1, a2⟩, a3, a4⟩ := h1
  obtain ⟨⟨b1, b2⟩, b3, b4⟩ := h2
  by_cases q : v < w
  · exact absurd (b3 (by omega)) (a4 w q (by omega) b2)
  · by_cases q2 : w < v
    · exact absurd (a3 (by omega)) (b4 v q2 (by omega) a2)
    · omega
theorem d_told5 (fu : Nat) {N : jm_M} (bs : 2 ≤ N 0 0 1 ∧ N 0 0 1 ≤ 5) (bn : 1 ≤ N 0 0 2 ∧ N 0 0 2 ≤ 12) {c : Int} (hc : 0 ≤ c ∧ c < 6) (t : Int) : ∀ (n : Nat) (l3 l4 : Int), 0 ≤ l4 → l4 ≤ N 0 0 1 * N 0 0 2 → (-1 ≤ l3 ∧ l3 < l4) → (0 ≤ l3 → N 3 0 (jm_mod l3 (N 0 0 1)) = 0 ∧ 0 ≤ N 55 0 (60 * c + l3) ∧ N 55 0 (60 * c + l3) ≤ t) → (∀ g : Int, l3 < g → 0 ≤ g → g < l4 → ¬ (N 3 0 (jm_mod g (N 0 0 1)) = 0 ∧ 0 ≤ N 55 0 (60 * c + g) ∧ N 55 0 (60 * c + g) ≤ t)) → 60 - l4 < (n : Int) → wp (fX12_toldLine_5 fu n N c t l3 l4) (fun w N1 => N1 = N ∧ TLs N c t w) := by
  have b60 := sn_60 bs bn
  intro n
  induction n with
  | zero => intro l3 l4 _ _ _ _ _ hm; exfalso; omega
  | succ n ih =>
    intro l3 l4 h0 h1 h3 hT hN hm
    show wp (gX12_toldLine_5 fu (fX12_toldLine_5 fu n) N c t l3 l4) _
    unfold gX12_toldLine_5
    have w60 : jm_w (N 0 0 1 * N 0 0 2) = N 0 0 1 * N 0 0 2 := jm_wid (by omega) (by omega)
    rw [w60]
    refine wp_ite (fun z => wp_ret ⟨rfl, ⟨h3.1, by omega⟩, hT, fun g y1 y2 y3 => hN g y1 y2 (by omega)⟩) (fun z => ?_)
    obtain ⟨e, e0, e1⟩ := ix_line (c := c) (g := l4) hc ⟨h0, by omega⟩
    have w1 : jm_w (l4 + 1) = l4 + 1 := jm_wid (by omega) (by omega)
    have f := jm_mod_f (a := l4) (b := N 0 0 1) (by omega) (by omega)
    rw [e, w1]
    refine wp_T ⟨e0, e1⟩ ?_
    rw [jm_ee]
    have no : ¬ (N 3 0 (jm_mod l4 (N 0 0 1)) = 0 ∧ 0 ≤ N 55 0 (60 * c + l4) ∧ N 55 0 (60 * c + l4) ≤ t) → wp (fX12_toldLine_5 fu n N c t l3 (l4 + 1)) (fun w N1 => N1 = N ∧ TLs N c t w) := fun q => ih l3 (l4 + 1) (by omega) (by omega) (by omega) hT (fun g y1 y2 y3 => by
      by_cases eg : g = l4
      · rw [eg]; exact q
      · exact hN g y1 y2 (by omega)) (by omega)
    refine wp_ite (fun y => ?_) (fun y => ?_)
    · rw [jm_ee]
      exact no (fun q => by have := q.2.1; omega)
    · refine wp_ite (fun y2 => ?_) (fun y2 => ?_)
      · rw [jm_ee]
        exact no (fun q => by have := q.2.2; omega)
      · refine wp_T (by omega) (wp_T ⟨by omega, by omega⟩ (wp_ite (fun y3 => ?_) (fun y3 => ?_)))
        · rw [jm_ee]
          exact ih l4 (l4 + 1) (by omega) (by omega) (by omega) (fun _ => ⟨y3, by omega, by omega⟩) (fun g y1 _ y5 => by exfalso; omega) (by omega)
        · rw [jm_ee]
          exact no (fun q => y3 q.1)
theorem d_told (fu : Nat) (hfu : 4000 ≤ fu) {N : jm_M} (bs : 2 ≤ N 0 0 1 ∧ N 0 0 1 ≤ 5) (bn : 1 ≤ N 0 0 2 ∧ N 0 0 2 ≤ 12) {c : Int} (hc : 0 ≤ c ∧ c < 6) (t : Int) : wp (fX12_toldLine fu N c t) (fun w N1 => N1 = N ∧ TLs N c t w) := by
  have b60 := sn_60 bs bn
  exact d_told5 fu bs bn hc t fu (-1) 0 (by decide) (by omega) ⟨by decide, by decide⟩ (fun y => absurd y (by decide)) (fun g y1 y2 y3 => by exfalso; omega) (by omega)
theorem c_wall22 (fu : Nat) {M N : jm_M} (iM : bI bx1 M) (rt : RTm M N) (lx : LX M N) (s0 : M 1 0 0 = N 0 0 1) (bs : 2 ≤ N 0 0 1 ∧ N 0 0 1 ≤ 5) {c : Int} (hc : 0 ≤ c ∧ c < N 0 0 17) (b17 : N 0 0 17 ≤ 6) (t : Int) (bl : N 43 0 c ≤ N 0 0 1 * N 0 0 2) : ∀ (n : Nat) (l3 : Int), -1 ≤ l3 → l3 < N 43 0 c → (∀ g : Int, l3 < g → 0 ≤ g → g < N 0 0 1 * N 0 0 2 → ¬ (N 3 0 (jm_mod g (N 0 0 1)) = 0 ∧ 0 ≤ N 55 0 (60 * c + g) ∧ N 55 0 (60 * c + g) ≤ t)) → l3 + 1 < (n : Int) → wp (fX2_endedByWall_22 fu n M c t l3) (fun v M1 => M1 = M ∧ TLs N c t (v - 1)) := by
  obtain ⟨⟨r1, r2, r3⟩, r4⟩ := rt c hc.1 hc.2
  intro n
  induction n with
  | zero => intro l3 _ _ _ hm; exfalso; omega
  | succ n ih =>
    intro l3 h0 h1 hN hm
    show wp (gX2_endedByWall_22 fu (fX2_endedByWall_22 fu n) M c t l3) _
    unfold gX2_endedByWall_22
    refine wp_ite (fun z => wp_ret ⟨rfl, ⟨by decide, by omega⟩, fun y => absurd y (by decide), fun g y1 y2 y3 => hN g (by omega) y2 y3⟩) (fun z => ?_)
    have w1 : jm_w (l3 + -1) = l3 + -1 := jm_wid (by omega) (by omega)
    have w2 : jm_w (l3 + 1) = l3 + 1 := jm_wid (by omega) (by omega)
    rw [w1, w2]
    have no : ¬ (N 3 0 (jm_mod l3 (N 0 0 1)) = 0 ∧ 0 ≤ N 55 0 (60 * c + l3) ∧ N 55 0 (60 * c + l3) ≤ t) → wp (fX2_endedByWall_22 fu n M c t (l3 + -1)) (fun v M1 => M1 = M ∧ TLs N c t (v - 1)) := fun q => ih (l3 + -1) (by omega) (by omega) (fun g y1 y2 y3 => by
      by_cases eg : g = l3
      · rw [eg]; exact q
      · exact hN g (by omega) y2 y3) (by omega)
    refine wp_bp (c_tells lx s0 bs l3 (by omega)) (fun v q => ?_)
    refine wp_ite (fun y => ?_) (fun y => ?_)
    · rw [jm_ee]
      exact no (fun q2 => by have := q2.1; omega)
    · refine wp_T ⟨hc.1, by omega⟩ (wp_bp (P := fun v => v = N 55 0 (60 * c + l3) ∧ -1 ≤ v) (c_tAt iM rt hc ⟨by omega, by omega⟩) (fun v9 q9 => ?_))
      have pos : 0 ≤ N 55 0 (60 * c + l3) := by
        have := (r4 l3 (by omega) (by omega)).1 h1
        omega
      refine wp_ite (fun y2 => ?_) (fun y2 => wp_ret ⟨rfl, ?_⟩)
      · rw [jm_ee]
        exact no (fun q2 => by have := q2.2.2; omega)
      · rw [show l3 + 1 - 1 = l3 by omega]
        exact ⟨⟨h0, by omega⟩, fun _ => ⟨by omega, pos, by omega⟩, hN⟩
theorem c_wall (fu : Nat) (hfu : 4000 ≤ fu) {M N : jm_M} (iM : bI bx1 M) (rt : RTm M N) (lx : LX M N) (s0 : M 1 0 0 = N 0 0 1) (s5 : M 2 0 5 = N 0 0 17) (bs : 2 ≤ N 0 0 1 ∧ N 0 0 1 ≤ 5) {c : Int} (hc : 0 ≤ c ∧ c < N 0 0 17) (b17 : N 0 0 17 ≤ 6) (t : Int) (bl : N 43 0 c ≤ N 0 0 1 * N 0 0 2) (b60 : N 0 0 1 * N 0 0 2 ≤ 60) : wp (fX2_endedByWall fu M c t) (fun v M1 => M1 = M ∧ TLs N c t (v - 1)) := by
  obtain ⟨⟨r1, r2, r3⟩, r4⟩ := rt c hc.1 hc.2
  unfold fX2_endedByWall
  refine wp_bp (c_has M c (by omega)) (fun v1 q1 => wp_F (by omega) (wp_T ⟨hc.1, by omega⟩ ?_))
  have w1 : jm_w (M 9 c 2 - 1) = N 43 0 c - 1 := by rw [r1]; exact jm_wid (by omega) (by omega)
  rw [w1, jm_ee]
  refine c_wall22 fu iM rt lx s0 bs hc b17 t bl fu (N 43 0 c - 1) (by omega) (by omega) (fun g y1 y2 y3 q => ?_) (by omega)
  have := (r4 g y2 (by omega)).2 (by omega)
  omega
theorem grw_bl {N : jm_M} (h : GRW N) {c : Int} (hc : 0 ≤ c ∧ c < N 0 0 17) : N 43 0 c ≤ N 0 0 1 * N 0 0 2 := (h c hc.1 hc.2).1.1.1
theorem c_orStart {M N : jm_M} (rt : RTm M N) {c w : Int} (hc : 0 ≤ c ∧ c < N 0 0 17) (hw : -1 ≤ w ∧ w < 60) (h : 0 ≤ w → 0 ≤ N 55 0 (60 * c + w)) : wp (fX6_timeOrStart M c w) (fun v M1 => M1 = M ∧ v = if 0 ≤ w then N 55 0 (60 * c + w) else 0) := by
  obtain ⟨⟨r1, r2, r3⟩, r4⟩ := rt c hc.1 hc.2
  unfold fX6_timeOrStart
  refine wp_bp (x_isIndex M w (M 9 c 2)) (fun v2 g2 => wp_ite (fun z => wp_ret ⟨rfl, ?_⟩) (fun z => wp_T ⟨by omega, by omega⟩ (wp_ret ⟨rfl, ?_⟩)))
  · by_cases q : 0 ≤ w
    · have a := h q
      have b := (r4 w q (by omega)).2 (by omega)
      exfalso; omega
    · rw [if_neg q]
  · rw [if_pos (by omega)]
    exact ((r4 w (by omega) (by omega)).1 (by omega)).1.symm
/-- who is behind the wall -/
def wal (l1 l3 l4 l6 v7 t : Int) : Int := if l3 < v7 then 1 else if v7 = l3 then (if t < l4 then 1 else if t = l4 then (if l1 ≤ l6 then 0 else 1) else 0) else 0
theorem wal_01 (l1 l3 l4 l6 v7 t : Int) : wal l1 l3 l4 l6 v7 t = 0 ∨ wal l1 l3 l4 l6 v7 t = 1 := by
  unfold wal
  by_cases a : l3 < v7
  · exact Or.inr (if_pos a)
  · rw [if_neg a]
    by_cases b : v7 = l3
    · rw [if_pos b]
      by_cases c : t < l4
      · exact Or.inr (if_pos c)
      · rw [if_neg c]
        by_cases d : t = l4
        · rw [if_pos d]
          by_cases e : l1 ≤ l6
          · exact Or.inl (if_pos e)
          · exact Or.inr (if_neg e)
        · exact Or.inl (if_neg d)
    · exact Or.inl (if_neg b)
theorem j_wall57 (fu : Nat) (hfu : 4000 ≤ fu) {M N : jm_M} (iM : bI bx1 M) (rt : RTm M N) (lx : LX M N) (s0 : M 1 0 0 = N 0 0 1) (s5 : M 2 0 5 = N 0 0 17) (bs : 2 ≤ N 0 0 1 ∧ N 0 0 1 ≤ 5) (bn : 1 ≤ N 0 0 2 ∧ N 0 0 2 ≤ 12) (b17 : N 0 0 17 ≤ 6) (gw : GRW N) (l1 t l3 l4 : Int) (h3 : 0 ≤ l3 ∧ l3 ≤ 60) : ∀ (n m : Nat) (l5 l6 : Int), 0 ≤ l6 → l6 ≤ N 0 0 17 → (0 ≤ l5 ∧ l5 ≤ l6) → 6 - l6 < (n : Int) → 6 - l6 < (m : Int) → J2 (fX11_wall_57 fu n M l1 t l3 l4 l5 l6) (fX12_wall_57 fu m N l1 t (l3 - 1) l4 l5 l6) (fun v _ w _ => v = w) := by
  have b60 := sn_60 bs bn
  intro n
  induction n with
  | zero => intro m l5 l6 _ h1 _ hm; exfalso; omega
  | succ n ih =>
    intro m l5 l6 h0 h1 h5 hn hm
    cases m with
    | zero => exfalso; omega
    | succ m =>
      show J2 (gX11_wall_57 fu (fX11_wall_57 fu n) M l1 t l3 l4 l5 l6) (gX12_wall_57 fu (fX12_wall_57 fu m) N l1 t (l3 - 1) l4 l5 l6) _
      unfold gX11_wall_57 gX12_wall_57
      rw [s5]
      refine J2.bi Iff.rfl (fun z => J2.ret rfl) (fun z => ?_)
      have hc : 0 ≤ l6 ∧ l6 < N 0 0 17 := ⟨h0, by omega⟩
      refine J2.lF (by omega) ?_
      refine J2.lq (c_wall fu hfu iM rt lx s0 s5 bs hc b17 t (grw_bl gw hc) b60.2) (fun v4 q4 => ?_)
      refine J2.rq (d_told fu hfu bs bn ⟨hc.1, by omega⟩ t) (fun w q3 => ?_)
      have ew : w = v4 - 1 := q3.eq q4
      rw [ew]
      obtain ⟨⟨a1, a2⟩, a3, -⟩ := q4
      have wv : jm_w (v4 - 1) = v4 - 1 := jm_wid (by omega) (by omega)
      have w5 : jm_w (l5 + 1) = l5 + 1 := jm_wid (by omega) (by omega)
      have w50 : jm_w (l5 + 0) = l5 := by rw [Int.add_zero]; exact jm_wid (by omega) (by omega)
      have w6 : jm_w (l6 + 1) = l6 + 1 := jm_wid (by omega) (by omega)
      rw [wv]
      refine J2.lT ⟨h0, by omega⟩ ?_
      refine J2.lq (c_orStart rt hc ⟨a1, by omega⟩ (fun y => (a3 y).2.1)) (fun v8 q8 => ?_)
      have step : ∀ l5' : Int, l5' = l5 ∨ l5' = l5 + 1 → J2 (fX11_wall_57 fu n M l1 t l3 l4 l5' (l6 + 1)) (fX12_wall_57 fu m N l1 t (l3 - 1) l4 l5' (l6 + 1)) (fun v _ w _ => v = w) := fun l5' y => ih m l5' (l6 + 1) (by omega) (by omega) (by omega) (by omega) (by omega)
      -- the reference's branch
      have ref : J2 (fX11_wall_57 fu n M l1 t l3 l4 (l5 + wal l1 l3 l4 l6 v4 v8) (l6 + 1)) (gX12_wall_97 fu (fX12_wall_57 fu m) N l1 t (l3 - 1) l4 l5 l6 (v4 - 1) v8) (fun v _ w _ => v = w) := by
        unfold gX12_wall_97 wal
        rw [w5, w50, w6]
        by_cases y1 : l3 < v4
        · rw [if_pos y1, if_pos (show l3 - 1 < v4 - 1 by omega)]
          exact J2.re (J2.re (step _ (Or.inr rfl)))
        · rw [if_neg y1, if_neg (show ¬ l3 - 1 < v4 - 1 by omega)]
          by_cases y2 : v4 = l3
          · rw [if_pos y2, if_pos (show v4 - 1 = l3 - 1 by omega)]
            by_cases y3 : v8 < l4
            · rw [if_pos y3, if_pos y3]
              exact J2.re (J2.re (step _ (Or.inr rfl)))
            · rw [if_neg y3, if_neg y3]
              by_cases y4 : v8 = l4
              · rw [if_pos y4, if_pos y4]
                by_cases y5 : l1 ≤ l6
                · rw [if_pos y5, if_pos y5, Int.add_zero]
                  exact J2.re (J2.re (step _ (Or.inl rfl)))
                · rw [if_neg y5, if_neg y5]
                  exact J2.re (J2.re (step _ (Or.inr rfl)))
              · rw [if_neg y4, if_neg y4, Int.add_zero]
                exact J2.re (J2.re (step _ (Or.inl rfl)))
          · rw [if_neg y2, if_neg (show ¬ v4 - 1 = l3 - 1 by omega), Int.add_zero]
            exact J2.re (J2.re (step _ (Or.inl rfl)))
      have cls : ∀ s0 : Int, (s0 = 0 ∨ s0 = 1) → (v4 = l3 → (s0 = 1 ↔ wal l1 l3 l4 l6 v4 v8 = 1)) → gX11_wall_132 fu (fX11_wall_57 fu n) M l1 t l3 l4 l5 l6 v4 s0 = fX11_wall_57 fu n M l1 t l3 l4 (l5 + wal l1 l3 l4 l6 v4 v8) (l6 + 1) := fun s0 hs he => by
        unfold gX11_wall_132
        rw [w5, w6]
        by_cases y1 : l3 < v4
        · have ew : wal l1 l3 l4 l6 v4 v8 = 1 := by unfold wal; rw [if_pos y1]
          rw [if_pos y1, ew]
          rfl
        · rw [if_neg y1]
          by_cases y2 : v4 = l3
          · rw [if_pos y2]
            have he := he y2
            have w01 := wal_01 l1 l3 l4 l6 v4 v8
            by_cases y3 : s0 = 0
            · rw [if_pos y3, show wal l1 l3 l4 l6 v4 v8 = 0 by omega, Int.add_zero]
              rfl
            · rw [if_neg y3, show wal l1 l3 l4 l6 v4 v8 = 1 by omega]
              rfl
          · have ew : wal l1 l3 l4 l6 v4 v8 = 0 := by unfold wal; rw [if_neg y1, if_neg y2]
            rw [if_neg y2, ew, Int.add_zero]
            rfl
      have rf2 : J2 (fX11_wall_57 fu n M l1 t l3 l4 (l5 + wal l1 l3 l4 l6 v4 v8) (l6 + 1)) (if 0 ≤ v4 - 1 then (if 0 ≤ (jm_w ((jm_w (60 * l6)) + (v4 - 1))) ∧ (jm_w ((jm_w (60 * l6)) + (v4 - 1))) < 360 then (gX12_wall_97 fu (fX12_wall_57 fu m) N l1 t (l3 - 1) l4 l5 l6 (v4 - 1) (N 55 0 (jm_w ((jm_w (60 * l6)) + (v4 - 1))))) else none) else (gX12_wall_97 fu (fX12_wall_57 fu m) N l1 t (l3 - 1) l4 l5 l6 (v4 - 1) 0)) (fun v _ w _ => v = w) := by
        by_cases y : 0 ≤ v4 - 1
        · rw [if_pos y] at q8
          obtain ⟨e, e0, e1⟩ := ix_line (c := l6) (g := v4 - 1) ⟨h0, by omega⟩ ⟨y, by omega⟩
          rw [e, ← q8]
          exact J2.rT y (J2.rT ⟨e0, e1⟩ ref)
        · rw [if_neg y] at q8
          rw [q8] at ref ⊢
          exact J2.rF y ref
      by_cases y1 : v8 < l4
      · refine J2.lT y1 ?_
        rw [cls 1 (Or.inr rfl) (fun y2 => ⟨fun _ => by unfold wal; rw [if_neg (by omega), if_pos y2, if_pos y1], fun _ => rfl⟩)]
        exact rf2
      · refine J2.lF y1 ?_
        by_cases y2 : v8 = l4
        · refine J2.lT y2 ?_
          by_cases y3 : l1 ≤ l6
          · refine J2.lT y3 ?_
            rw [cls 0 (Or.inl rfl) (fun y4 => ⟨fun y => absurd y (by decide), fun y => by
              unfold wal at y
              rw [if_neg (by omega), if_pos y4, if_neg y1, if_pos y2, if_pos y3] at y
              exact y⟩)]
            exact rf2
          · refine J2.lF y3 ?_
            rw [cls 1 (Or.inr rfl) (fun y4 => ⟨fun _ => by unfold wal; rw [if_neg (by omega), if_pos y4, if_neg y1, if_pos y2, if_neg y3], fun _ => rfl⟩)]
            exact rf2
        · refine J2.lF y2 ?_
          rw [cls 0 (Or.inl rfl) (fun y4 => ⟨fun y => absurd y (by decide), fun y => by
            unfold wal at y
            rw [if_neg (by omega), if_pos y4, if_neg y1, if_neg y2] at y
            exact y⟩)]
          exact rf2
theorem a_wall (fu : Nat) (hfu : 4000 ≤ fu) (M N : jm_M) (iv : IW M N) (it : IT M N) (ca : CA fu M N) (ir : IR M N) (l1 l2 : Int) (h1 : jm_in l1) (h2 : jm_in l2) : J2 (fX11_wall fu M l1 l2) (fX12_wall fu N l1 l2) (fun v _ w _ => v = w) := by
  have iM := iv.1.1
  have iN := iv.1.2.1
  obtain ⟨⟨s0, s1, s5⟩, -, -, -⟩ := id it.1.2.1
  have b17 : 0 ≤ N 0 0 17 ∧ N 0 0 17 ≤ 6 := iN 0 0 17
  unfold fX11_wall fX12_wall
  refine J2.rs (fun N1 u1 => ?_)
  obtain ⟨j1, tl1, ca1, d1, d2, d17⟩ := q_pre iN it ca u1
  refine J2.lq (s_fX2_has M iM l1 h1) (fun v1 g1 => J2.rq (s_fX12_isCar N1 j1 l1 h1) (fun v2 g2 => ?_))
  rw [d17] at g2
  refine J2.bi (by omega) (fun _ => J2.ret rfl) (fun z1 => ?_)
  refine J2.bi Iff.rfl (fun z2 => ?_) (fun _ => J2.ret rfl)
  refine J2.bb (j_reckon2 fu hfu iM j1 tl1 ca1) (fun v M6 w N7 q => ?_)
  obtain ⟨⟨⟨i6, j7⟩, ⟨k6, k7⟩, -, tl6, run⟩, gw, -⟩ := q
  have k17 : Kp X2 N1 N7 := k7.weak (fun f i k y => by unfold X2 at y; unfold KR2; omega)
  have ir1 : IR M N1 := ir.m7 iN (Or.inl rfl) (by rw [u1]; exact X2.r0)
  have ir7 : IR M6 N7 := ir1.ta j1 k6 k17
  have x17 : N7 0 0 17 = N 0 0 17 := (k7 0 0 17 (by unfold KR2; omega)).trans d17
  have bs : 2 ≤ N7 0 0 1 ∧ N7 0 0 1 ≤ 5 := j7 0 0 1
  have bn : 1 ≤ N7 0 0 2 ∧ N7 0 0 2 ≤ 12 := j7 0 0 2
  have b60 := sn_60 bs bn
  have m1 : M6 1 0 0 = N7 0 0 1 := tl6.2.1.1.1
  have m5 : M6 2 0 5 = N7 0 0 17 := tl6.2.1.1.2.2
  have hc : 0 ≤ l1 ∧ l1 < N7 0 0 17 := ⟨by omega, by omega⟩
  refine J2.lq (c_wall fu hfu i6 run.2.2.1 ir7.1 m1 m5 bs hc (by omega) l2 (grw_bl gw hc) b60.2) (fun v8 q8 => ?_)
  refine J2.rq (d_told fu hfu bs bn ⟨hc.1, by omega⟩ l2) (fun w9 q9 => ?_)
  have ew : w9 = v8 - 1 := q9.eq q8
  rw [ew]
  obtain ⟨⟨a1, a2⟩, a3, -⟩ := q8
  have wv : jm_w (v8 - 1) = v8 - 1 := jm_wid (by omega) (by omega)
  rw [wv]
  refine J2.lT ⟨hc.1, by omega⟩ (J2.lq (c_orStart run.2.2.1 hc ⟨a1, by omega⟩ (fun y => (a3 y).2.1)) (fun v12 q12 => ?_))
  have fin : J2 (fX11_wall_57 fu fu M6 l1 l2 v8 v12 0 0) (fX12_wall_57 fu fu N7 l1 l2 (v8 - 1) v12 0 0) (fun v _ w _ => v = w) := j_wall57 fu hfu i6 run.2.2.1 ir7.1 m1 m5 bs bn (by omega) gw l1 l2 v8 v12 ⟨by omega, by omega⟩ fu fu 0 0 (by decide) (by omega) ⟨by decide, by decide⟩ (by omega) (by omega)
  by_cases y : 0 ≤ v8 - 1
  · rw [if_pos y] at q12
    obtain ⟨e, e0, e1⟩ := ix_line (c := l1) (g := v8 - 1) ⟨hc.1, by omega⟩ ⟨y, by omega⟩
    rw [e, ← q12]
    exact J2.rT y (J2.rT ⟨e0, e1⟩ (J2.re fin))
  · rw [if_neg y] at q12
    rw [q12] at fin
    rw [q12]
    exact J2.rF y fin
/-- what is known is never before the start -/
theorem pk_160 (fu : Nat) {N : jm_M} {c l2 l6 : Int} (hc : 0 ≤ c ∧ c < 6) (h2 : 0 ≤ l2 ∧ l2 < 60) (h6 : -1 ≤ l6 ∧ l6 ≤ l2) (b6 : 0 ≤ N 5 0 6 ∧ N 5 0 6 ≤ 2000) (hT : 0 ≤ l6 → 0 ≤ N 55 0 (60 * c + l6) ∧ N 55 0 (60 * c + l6) ≤ 150000000) : pv (gX12_knownOf_160 fu N c l2 l6) (fun w => w = -1 ∨ 0 ≤ w) := by
  unfold gX12_knownOf_160
  have wl : jm_w (l2 - l6) = l2 - l6 := jm_wid (by omega) (by omega)
  have wm : jm_w (1000 * (l2 - l6)) = 1000 * (l2 - l6) := jm_wid (by omega) (by omega)
  rw [wl, wm]
  refine pv_i (fun z => ?_) (fun z => pv_i (fun _ => pv_ret (Or.inr ?_)) (fun _ => pv_none))
  · obtain ⟨e, e0, e1⟩ := ix_line (c := c) (g := l6) hc ⟨z, by omega⟩
    have t := hT z
    rw [e]
    refine pv_i (fun _ => pv_ret (Or.inr ?_)) (fun _ => pv_none)
    rw [jm_wid (by omega) (by omega)]
    omega
  · have m := jm_mulb (C := 10000) b6.1 b6.2 hc.1 (show c ≤ 5 by omega) rfl
    rw [jm_wid (x := N 5 0 6 * c) (by omega) (by omega), jm_wid (by omega) (by omega)]
    omega
theorem pk_134 (fu : Nat) {N : jm_M} {c l2 : Int} (hc : 0 ≤ c ∧ c < 6) (h2 : 0 ≤ l2 ∧ l2 < 60) (b6 : 0 ≤ N 5 0 6 ∧ N 5 0 6 ≤ 2000) (hT : ∀ g : Int, 0 ≤ g → g ≤ l2 → 0 ≤ N 55 0 (60 * c + g) ∧ N 55 0 (60 * c + g) ≤ 150000000) : ∀ (n : Nat) (l6 : Int), -1 ≤ l6 → l6 ≤ l2 → pv (fX12_knownOf_134 fu n N c l2 l6) (fun w => w = -1 ∨ 0 ≤ w) := by
  intro n
  induction n with
  | zero => intro l6 _ _; exact pv_none
  | succ n ih =>
    intro l6 h0 h1
    show pv (gX12_knownOf_134 fu (fX12_knownOf_134 fu n) N c l2 l6) _
    unfold gX12_knownOf_134
    have w1 : jm_w (l6 + -1) = l6 + -1 := jm_wid (by omega) (by omega)
    rw [w1]
    have a := pk_160 fu (N := N) hc h2 ⟨h0, h1⟩ b6 (fun z => hT l6 z h1)
    exact pv_i (fun _ => a) (fun z => pv_i (fun _ => pv_i (fun _ => pv_i (fun _ => a) (fun _ => pv_e (fun x hx => by rw [hx]; exact ih (l6 + -1) (by omega) (by omega)))) (fun _ => pv_none)) (fun _ => pv_none))
theorem pk_73 (fu : Nat) {N : jm_M} {c l2 l5 : Int} (l3 : Int) (hc : 0 ≤ c ∧ c < 6) (h2 : 0 ≤ l2 ∧ l2 < 60) (h5 : l2 ≤ l5 ∧ l5 ≤ N 0 0 1 * N 0 0 2) (b60 : N 0 0 1 * N 0 0 2 ≤ 60) (b6 : 0 ≤ N 5 0 6 ∧ N 5 0 6 ≤ 2000) (hT : ∀ g : Int, 0 ≤ g → g ≤ l2 → 0 ≤ N 55 0 (60 * c + g) ∧ N 55 0 (60 * c + g) ≤ 150000000) (hU : ∀ g : Int, 0 ≤ g → g < 60 → 0 ≤ N 55 0 (60 * c + g) → 1000 * (g + 1) ≤ N 55 0 (60 * c + g) ∧ N 55 0 (60 * c + g) ≤ 150000000) : pv (gX12_knownOf_73 fu N c l2 l3 l5) (fun w => w = -1 ∨ 0 ≤ w) := by
  unfold gX12_knownOf_73
  have w60 : jm_w (N 0 0 1 * N 0 0 2) = N 0 0 1 * N 0 0 2 := jm_wid (by omega) (by omega)
  rw [w60]
  refine pv_i (fun _ => pv_ret (Or.inl rfl)) (fun z => ?_)
  obtain ⟨e, e0, e1⟩ := ix_line (c := c) (g := l5) hc ⟨by omega, by omega⟩
  rw [e]
  refine pv_i (fun _ => pv_i (fun y => ?_) (fun _ => pv_ret (Or.inl rfl))) (fun _ => pv_none)
  have u := hU l5 (by omega) (by omega) y
  refine pv_i (fun _ => pv_i (fun _ => pv_ret (Or.inr ?_)) (fun _ => pv_none)) (fun _ => pk_134 fu hc h2 b6 hT fu l2 (by omega) (Int.le_refl _))
  rw [jm_wid (x := l5 - l2) (by omega) (by omega), jm_wid (x := 1000 * (l5 - l2)) (by omega) (by omega), jm_wid (by omega) (by omega)]
  omega
theorem pk_38 (fu : Nat) {N : jm_M} {c l2 : Int} (l3 : Int) (hc : 0 ≤ c ∧ c < 6) (h2 : 0 ≤ l2 ∧ l2 < 60) (b60 : N 0 0 1 * N 0 0 2 ≤ 60) (p60 : 0 ≤ N 0 0 1 * N 0 0 2) (b6 : 0 ≤ N 5 0 6 ∧ N 5 0 6 ≤ 2000) (hT : ∀ g : Int, 0 ≤ g → g ≤ l2 → 0 ≤ N 55 0 (60 * c + g) ∧ N 55 0 (60 * c + g) ≤ 150000000) (hU : ∀ g : Int, 0 ≤ g → g < 60 → 0 ≤ N 55 0 (60 * c + g) → 1000 * (g + 1) ≤ N 55 0 (60 * c + g) ∧ N 55 0 (60 * c + g) ≤ 150000000) : ∀ (n : Nat) (l5 : Int), l2 ≤ l5 → l5 ≤ N 0 0 1 * N 0 0 2 → pv (fX12_knownOf_38 fu n N c l2 l3 l5) (fun w => w = -1 ∨ 0 ≤ w) := by
  intro n
  induction n with
  | zero => intro l5 _ _; exact pv_none
  | succ n ih =>
    intro l5 h0 h1
    show pv (gX12_knownOf_38 fu (fX12_knownOf_38 fu n) N c l2 l3 l5) _
    unfold gX12_knownOf_38
    have w60 : jm_w (N 0 0 1 * N 0 0 2) = N 0 0 1 * N 0 0 2 := jm_wid (by omega) (by omega)
    have w1 : jm_w (l5 + 1) = l5 + 1 := jm_wid (by omega) (by omega)
    rw [w60, w1]
    have a := pk_73 fu (N := N) l3 hc h2 ⟨h0, h1⟩ b60 b6 hT hU
    exact pv_i (fun _ => a) (fun z => pv_i (fun _ => pv_i (fun _ => pv_i (fun _ => a) (fun _ => pv_e (fun x hx => by rw [hx]; exact ih (l5 + 1) (by omega) (by omega)))) (fun _ => pv_none)) (fun _ => pv_none))
theorem pk_known (fu : Nat) {M N : jm_M} {c l2 : Int} (l3 : Int) (iN : bI bx2 N) (lim : LIM N) (run : RUN M N) (gw : GRW N) (hc : 0 ≤ c ∧ c < N 0 0 17) (h2 : 0 ≤ l2 ∧ l2 < N 0 0 1 * N 0 0 2) : pv (fX12_knownOf fu N c l2 l3) (fun w => w = -1 ∨ 0 ≤ w) := by
  have b17 : 0 ≤ N 0 0 17 ∧ N 0 0 17 ≤ 6 := iN 0 0 17
  have bs : 2 ≤ N 0 0 1 ∧ N 0 0 1 ≤ 5 := iN 0 0 1
  have bn : 1 ≤ N 0 0 2 ∧ N 0 0 2 ≤ 12 := iN 0 0 2
  have b70 : 0 ≤ N 0 0 70 ∧ N 0 0 70 ≤ 361 := iN 0 0 70
  have b60 := sn_60 bs bn
  obtain ⟨⟨-, -, -, -, -, -, -, -, -, -, -, -, l6a, l6b, -⟩, -⟩ := lim
  obtain ⟨⟨r1, r2, r3⟩, r4⟩ := run.2.2.1 c hc.1 hc.2
  have b41 := (run.2.2.2 c hc.1 hc.2).2.1
  have bb : BB N ≤ 145000000 := by unfold BB; omega
  obtain ⟨-, g2⟩ := gw c hc.1 hc.2
  have hU : ∀ g : Int, 0 ≤ g → g < 60 → 0 ≤ N 55 0 (60 * c + g) → 1000 * (g + 1) ≤ N 55 0 (60 * c + g) ∧ N 55 0 (60 * c + g) ≤ 150000000 := fun g y1 y2 y3 => by
    by_cases q : g < N 43 0 c
    · have := g2 g y1 q
      omega
    · have := (r4 g y1 y2).2 (by omega)
      exfalso; omega
  obtain ⟨e, e0, e1⟩ := ix_line (c := c) (g := l2) ⟨hc.1, by omega⟩ ⟨h2.1, by omega⟩
  unfold fX12_knownOf
  rw [e]
  refine pv_i (fun _ => pv_e (fun v3 e3 => pv_i (fun z => pv_ret (Or.inl ?_)) (fun z => ?_))) (fun _ => pv_none)
  · by_cases q : l2 < N 43 0 c
    · have := (r4 l2 h2.1 (by omega)).1 q
      exfalso; omega
    · have := (r4 l2 h2.1 (by omega)).2 (by omega)
      omega
  · have hl : l2 < N 43 0 c := by
      by_cases q : l2 < N 43 0 c
      · exact q
      · have := (r4 l2 h2.1 (by omega)).2 (by omega)
        exfalso; omega
    have hT : ∀ g : Int, 0 ≤ g → g ≤ l2 → 0 ≤ N 55 0 (60 * c + g) ∧ N 55 0 (60 * c + g) ≤ 150000000 := fun g y1 y2 => by
      have := g2 g y1 (by omega)
      omega
    exact pv_i (fun _ => pv_i (fun _ => pv_i (fun _ => pv_ret (Or.inr (by omega))) (fun _ => pk_38 fu l3 ⟨hc.1, by omega⟩ ⟨h2.1, by omega⟩ b60.2 (by omega) ⟨l6a, l6b⟩ hT hU fu l2 (Int.le_refl _) (by omega))) (fun _ => pv_none)) (fun _ => pv_none)
theorem a_ahead (fu : Nat) (hfu : 4000 ≤ fu) (M N : jm_M) (iv : IW M N) (it : IT M N) (ca : CA fu M N) (ir : IR M N) (l1 l2 l3 l4 : Int) (h1 : jm_in l1) (h2 : jm_in l2) (h3 : jm_in l3) (h4 : jm_in l4) : J2 (fX11_ahead fu M l1 l2 l3 l4) (fX12_ahead fu N l1 l2 l3 l4) (fun v _ w _ => v = w) := by
  have iM := iv.1.1
  have iN := iv.1.2.1
  obtain ⟨⟨s0, s1, s5⟩, -, -, -⟩ := id it.1.2.1
  have b17 : 0 ≤ N 0 0 17 ∧ N 0 0 17 ≤ 6 := iN 0 0 17
  have bs : 2 ≤ N 0 0 1 ∧ N 0 0 1 ≤ 5 := iN 0 0 1
  have bn : 1 ≤ N 0 0 2 ∧ N 0 0 2 ≤ 12 := iN 0 0 2
  unfold fX11_ahead fX12_ahead
  refine J2.rs (fun N1 u1 => ?_)
  obtain ⟨j1, tl1, ca1, d1, d2, d17⟩ := q_pre iN it ca u1
  refine J2.lq (s_fX2_has M iM l1 h1) (fun v1 g1 => J2.rq (s_fX12_isCar N1 j1 l1 h1) (fun v2 g2 => ?_))
  rw [d17] at g2
  refine J2.bi (by omega) (fun _ => J2.ret rfl) (fun z1 => ?_)
  refine J2.lq (s_fX2_has M iM l2 h2) (fun v3 g3 => J2.rq (s_fX12_isCar N1 j1 l2 h2) (fun v4 g4 => ?_))
  rw [d17] at g4
  refine J2.bi (by omega) (fun _ => J2.ret rfl) (fun z2 => ?_)
  refine J2.bi Iff.rfl (fun _ => J2.ret rfl) (fun z3 => ?_)
  refine J2.lq (s_fX9_hasLine M iM l3 l4 h3 h4) (fun v5 g5 => ?_)
  refine J2.rq (s_fX12_isLap N1 j1 l3 h3) (fun v6 g6 => ?_)
  by_cases z4 : v6 = 0
  · exact J2.lT (by omega) (J2.rT z4 (J2.ret rfl))
  · refine J2.rF z4 (J2.rq (s_fX12_isSector N1 j1 l4 h4) (fun v7 g7 => ?_))
    refine J2.bi (by omega) (fun _ => J2.ret rfl) (fun z5 => ?_)
    refine J2.bb (j_reckon2 fu hfu iM j1 tl1 ca1) (fun v M6 w N7 q => ?_)
    obtain ⟨⟨⟨i6, j7⟩, ⟨k6, k7⟩, -, tl6, run⟩, gw, -⟩ := q
    have k17 : Kp X2 N1 N7 := k7.weak (fun f i k y => by unfold X2 at y; unfold KR2; omega)
    have ir1 : IR M N1 := ir.m7 iN (Or.inl rfl) (by rw [u1]; exact X2.r0)
    have ir7 : IR M6 N7 := ir1.ta j1 k6 k17
    have x1 : N7 0 0 1 = N 0 0 1 := (k7 0 0 1 (by unfold KR2; omega)).trans d1
    have x2 : N7 0 0 2 = N 0 0 2 := (k7 0 0 2 (by unfold KR2; omega)).trans d2
    have x17 : N7 0 0 17 = N 0 0 17 := (k7 0 0 17 (by unfold KR2; omega)).trans d17
    obtain ⟨y1, y2, y3⟩ := lin_lt bs bn (l := l3) (x := l4) ⟨by omega, by omega⟩ ⟨by omega, by omega⟩
    have m1 : M6 1 0 0 = N7 0 0 1 := tl6.2.1.1.1
    unfold fX9_lineOf
    have e1 : jm_w (jm_w (l3 * M6 1 0 0) + l4) = l3 * N 0 0 1 + l4 := by rw [m1, x1, jm_wid (x := l3 * N 0 0 1) (by omega) (by omega)]; exact jm_wid (by omega) (by omega)
    have e2 : jm_w (jm_w (N7 0 0 1 * l3) + l4) = l3 * N 0 0 1 + l4 := by rw [x1, Int.mul_comm (N 0 0 1) l3, jm_wid (x := l3 * N 0 0 1) (by omega) (by omega)]; exact jm_wid (by omega) (by omega)
    rw [jm_bsm, e1, e2]
    have hg : 0 ≤ l3 * N 0 0 1 + l4 ∧ l3 * N 0 0 1 + l4 < N7 0 0 1 * N7 0 0 2 := ⟨by omega, by rw [x1, x2]; omega⟩
    have sp : ∀ c x y : Int, 0 ≤ c → c < N7 0 0 17 → (x = 0 ↔ y = 1) → J2 (fX2_spanAt fu M6 c (l3 * N 0 0 1 + l4) x) (fX12_knownOf fu N7 c (l3 * N 0 0 1 + l4) y) (fun v M1 w N1 => (M1 = M6 ∧ N1 = N7 ∧ v = w) ∧ (w = -1 ∨ 0 ≤ w)) := fun c x y c0 c1 hxy => (j_span fu hfu i6 run.2.2.1 ir7.1 m1 tl6.2.1.1.2.2 (j7 0 0 1) (j7 0 0 2) (tl6.2.1.2.1 6 (by decide) (by decide)) ⟨c0, c1⟩ (by omega) hxy hg).arv (pk_known fu y j7 tl6.2.2.2 run gw ⟨c0, c1⟩ hg)
    refine J2.bb (sp l1 0 1 (by omega) (by omega) (by decide)) (fun va Ma wa Na qa => ?_)
    obtain ⟨⟨ea, eb, ec⟩, ed⟩ := qa
    have x1' : N7 0 0 1 = N 0 0 1 := x1
    rw [ea, eb, ec, e2]
    refine J2.bb (sp l2 1 0 (by omega) (by omega) (by decide)) (fun vb Mb wb Nb qb => ?_)
    obtain ⟨⟨fa, fb, fc⟩, fd⟩ := qb
    rw [fa, fb, fc]
    by_cases n1 : wa = -1
    · exact J2.lT n1 (J2.rT (by omega) (J2.ret rfl))
    · refine J2.lF n1 (J2.rF (by omega) ?_)
      by_cases n2 : wb = -1
      · exact J2.lT n2 (J2.rF (by omega) (J2.ret rfl))
      · refine J2.lF n2 (J2.rT (by omega) ?_)
        refine J2.bi Iff.rfl (fun _ => J2.rq (d_truth N7 0 (Or.inl rfl)) (fun r q => J2.ret q.symm)) (fun _ => J2.rq (d_truth N7 1 (Or.inr rfl)) (fun r q => J2.ret q.symm))
