/-! a way tried: other stops for a car or two -/
def SF1 (a b : Int) (f : Nat) (i k : Int) : Prop := ¬ (f = 5 ∨ f = 9 ∨ (27 ≤ f ∧ f ≤ 34) ∨ (36 ≤ f ∧ f ≤ 45) ∨ (f = 2 ∧ (k = 6 ∨ k = 7))) ∧ ¬ (f = 10 ∧ (i = a + 24 ∨ i = b + 24) ∧ k = 3) ∧ ¬ (f = 19 ∧ (i = a + 24 ∨ i = b + 24)) ∧ ¬ (f = 8 ∧ (i = a ∨ i = b) ∧ k = 13)
def SF2 (a b : Int) (f : Nat) (i k : Int) : Prop := ¬ ((37 ≤ f ∧ f ≤ 59) ∨ f = 67 ∨ f = 68 ∨ (70 ≤ f ∧ f ≤ 79) ∨ (f = 0 ∧ (k = 0 ∨ k = 47 ∨ k = 70 ∨ (88 ≤ k ∧ k ≤ 90)))) ∧ ¬ (i = 0 ∧ (f = 26 ∨ f = 60) ∧ (k = a ∨ k = b)) ∧ ¬ (i = 0 ∧ (27 ≤ f ∧ f ≤ 29) ∧ ((5 * a ≤ k ∧ k < 5 * a + 5) ∨ (5 * b ≤ k ∧ k < 5 * b + 5)))
def STP (M N : jm_M) (a b : Int) : Prop := ∀ o : Int, (o = a ∨ o = b) → (M 8 o 13 = 1 ∧ N 60 0 o = 1) ∧ M 10 (o + 24) 3 = N 26 0 o ∧ ∀ j : Int, 0 ≤ j → j < N 26 0 o → M 19 (o + 24) (3 * j) = N 27 0 (5 * o + j) ∧ M 19 (o + 24) (3 * j + 1) = N 28 0 (5 * o + j) ∧ M 19 (o + 24) (3 * j + 2) = N 29 0 (5 * o + j) ∧ -1 ≤ N 28 0 (5 * o + j) ∧ N 28 0 (5 * o + j) ≤ 3 ∧ 0 ≤ N 29 0 (5 * o + j) ∧ N 29 0 (5 * o + j) ≤ 200
theorem TLD.way {M0 N0 M N : jm_M} {a b : Int} (tl : TLD M0 N0) (i0 : bI bx2 N0) (ha : 0 ≤ a ∧ a < N0 0 0 17) (hb : 0 ≤ b ∧ b < N0 0 0 17) (z : ∀ o : Int, 0 ≤ o → o < N0 0 0 17 → M0 8 o 13 = 0) (kM : Kp (SF1 a b) M0 M) (kN : Kp (SF2 a b) N0 N) (st : STP M N a b) : TLD M N := by
  obtain ⟨⟨t1, t2, t3, t4, t5⟩, t6, t7, t8⟩ := tl
  have b17 : 0 ≤ N0 0 0 17 ∧ N0 0 0 17 ≤ 6 := i0 0 0 17
  have n17 : N 0 0 17 = N0 0 0 17 := kN 0 0 17 (by unfold SF2; omega)
  have new : TDp M N := by
    intro c y1 y2
    rw [n17] at y2
    by_cases e : c = a ∨ c = b
    · obtain ⟨⟨s1, s2⟩, s3, s4⟩ := st c e
      have sT : stT M c = c + 24 := by unfold stT; exact if_neg (by omega)
      rw [sT]
      exact ⟨s3, s4⟩
    · have z' : M 8 c 13 = 0 := (kM 8 c 13 (by unfold SF1; omega)).trans (z c y1 y2)
      have sT : stT M c = c + 12 := by unfold stT; exact if_pos z'
      have sT0 : stT M0 c = c + 12 := by unfold stT; exact if_pos (z c y1 y2)
      obtain ⟨p, q⟩ := t4 c y1 y2
      rw [sT0] at p q
      have bc : N0 26 0 c ≤ 5 := (i0 26 0 c).2
      rw [sT, kM 10 (c + 12) 3 (by unfold SF1; omega), kN 26 0 c (by unfold SF2; omega)]
      refine ⟨p, fun j y3 y4 => ?_⟩
      rw [kM 19 (c + 12) (3 * j) (by unfold SF1; omega), kM 19 (c + 12) (3 * j + 1) (by unfold SF1; omega), kM 19 (c + 12) (3 * j + 2) (by unfold SF1; omega), kN 27 0 (5 * c + j) (by unfold SF2; omega), kN 28 0 (5 * c + j) (by unfold SF2; omega), kN 29 0 (5 * c + j) (by unfold SF2; omega)]
      exact q j y3 y4
  have car : TCAR M N := by
    intro c y1 y2
    rw [n17] at y2
    obtain ⟨⟨d0, d1, d2, d3, d4, d5⟩, ⟨g0, g1⟩, tt⟩ := t7 c y1 y2
    refine ⟨⟨?_, ?_, ?_, ?_, ?_, ?_⟩, ⟨?_, ?_⟩, fun y => ?_⟩
    · rw [kM 8 c 0 (by unfold SF1; omega), kN 13 0 c (by unfold SF2; omega)]; exact d0
    · rw [kM 8 c 1 (by unfold SF1; omega), kN 14 0 c (by unfold SF2; omega)]; exact d1
    · rw [kM 8 c 2 (by unfold SF1; omega), kN 15 0 c (by unfold SF2; omega)]; exact d2
    · rw [kM 8 c 3 (by unfold SF1; omega), kN 16 0 c (by unfold SF2; omega)]; exact d3
    · rw [kM 8 c 4 (by unfold SF1; omega), kN 17 0 c (by unfold SF2; omega)]; exact d4
    · rw [kM 8 c 5 (by unfold SF1; omega), kN 18 0 c (by unfold SF2; omega)]; exact d5
    · rw [kM 8 c 12 (by unfold SF1; omega), kN 30 0 c (by unfold SF2; omega)]; exact g0
    · by_cases e : c = a ∨ c = b
      · obtain ⟨⟨s1, s2⟩, -⟩ := st c e
        rw [s1, s2]
      · rw [kM 8 c 13 (by unfold SF1; omega), kN 60 0 c (by unfold SF2; omega)]; exact g1
    · rw [kN 30 0 c (by unfold SF2; omega)] at y
      have b36 : N0 36 0 c ≤ 100 := (i0 36 0 c).2
      rw [kM 8 c 11 (by unfold SF1; omega), kN 36 0 c (by unfold SF2; omega)]
      exact (tt y).kk (fun f k q => kM f _ k (by unfold CTX at q; unfold SF1; omega)) (fun k q1 q2 => kN 35 0 k (by unfold SF2; omega))
  exact ⟨⟨t1.kk (fun f i k y => kM f i k (by unfold C1r at y; unfold SF1; omega)) (fun f i k y => kN f i k (by unfold C2r at y; unfold SF2; omega)), t2.kk (fun f i k y => kM f i k (by unfold C1f at y; unfold SF1; omega)) (fun f i k y => kN f i k (by unfold C2f at y; unfold SF2; omega)), t3.kk b17.2 (fun f i k y => kM f i k (by unfold C1s at y; unfold SF1; omega)) (fun f i k y => kN f i k (by unfold C2s at y; unfold SF2; omega)), new, t5.kk b17.2 (fun f i k y => kM f i k (by unfold C1o at y; unfold SF1; omega)) (fun f i k y => kN f i k (by unfold C2o at y; unfold SF2; omega))⟩, t6.kk (fun f i k y => kM f i k (by unfold C1n at y; unfold SF1; omega)) (fun f i k y => kN f i k (by unfold C2n at y; unfold SF2; omega)), car, t8.kk (fun f i k y => kN f i k (by unfold C2l at y; unfold SF2; omega))⟩
theorem IR.way {M0 N0 M N : jm_M} {a b : Int} (h : IR M0 N0) (i0 : bI bx2 N0) (ha : 0 ≤ a ∧ a < 6) (hb : 0 ≤ b ∧ b < 6) (kM : Kp (SF1 a b) M0 M) (kN : Kp (SF2 a b) N0 N) : IR M N := h.kk i0 (fun f i k y => kM f i k (by unfold X1 at y; unfold SF1; omega)) (fun i f k _ _ y => kM f _ k (by unfold CTX at y; unfold SF1; omega)) (fun f i k y => kN f i k (by unfold X2 at y; unfold SF2; omega))
/-- run and judged, both -/
theorem j_ran (fu : Nat) (hfu : 4000 ≤ fu) {M N : jm_M} (iM : bI bx1 M) (iN : bI bx2 N) (tl : TLD M N) (ir : IR M N) (n75 : M 10 32 3 = N 0 0 75) (n3 : M 3 0 3 = N 0 0 72) (day : Int) {ka kb : Int → jm_M → jm_R} {Q : Int → jm_M → Int → jm_M → Prop} (k : ∀ (v : Int) (M9 : jm_M) (w : Int) (N9 : jm_M), (bI bx1 M9 ∧ bI bx2 N9) → JG M9 N9 (N9 0 0 17) → (M9 2 0 5 = N9 0 0 17 ∧ N9 0 0 17 = N 0 0 17) → (∀ o : Int, 0 ≤ o → o < N9 0 0 17 → M9 8 o 4 = N9 17 0 o) → (∀ (f : Nat) (i k : Int), KR1 f i k → KJ1 f i k → M9 f i k = M f i k) → (∀ (f : Nat) (i k : Int), KR2 f i k → KJ2 f i k → N9 f i k = N f i k) → J2 (ka v M9) (kb w N9) Q) : J2 (jm_b (fX2_run fu M) fun _ M8 => jm_b (fX5_reckonFor fu M8 day) ka) (jm_b (fX12_judges fu N day) kb) Q := by
  unfold fX12_judges
  rw [jm_ba]
  refine J2.bb (j_run fu hfu M N iM iN tl) (fun va M28 wa N28 q => ?_)
  obtain ⟨⟨i28, j28, tl28, run28, kr1, kr2⟩, -, gw, dn⟩ := q
  have ir3 : IR M28 N28 := ir.kk iN (fun f i k y => kr1 f i k (by unfold X1 at y; unfold KR1; omega)) (fun i f k _ _ y => kr1 f _ k (by unfold CTX at y; unfold KR1; omega)) (fun f i k y => kr2 f i k (by unfold X2 at y; unfold KR2; omega))
  have jc : JC M28 N28 := ⟨tl28, run28, ir3, ⟨by rw [kr1 10 32 3 (by unfold KR1; omega), kr2 0 0 75 (by unfold KR2; omega)]; exact n75, by rw [kr1 3 0 3 (by unfold KR1; omega), kr2 0 0 72 (by unfold KR2; omega)]; exact n3⟩, gw, dn⟩
  refine J2.bb (j_judge fu hfu i28 j28 jc day) (fun vb M29 wb N29 g => ?_)
  obtain ⟨ib, g1, g2, jg⟩ := g
  have n17 : N29 0 0 17 = N28 0 0 17 := g2 0 0 17 (by unfold KJ2; omega)
  refine k vb M29 wb N29 ib (by rw [n17]; exact jg) ⟨by rw [n17, g1 2 0 5 (by unfold KJ1; decide)]; exact tl28.2.1.1.2.2, n17.trans (kr2 0 0 17 (by unfold KR2; omega))⟩ (fun o y1 y2 => ?_) (fun f i k y1 y2 => (g1 f i k y2).trans (kr1 f i k y1)) (fun f i k y1 y2 => (g2 f i k y2).trans (kr2 f i k y1))
  rw [n17] at y2
  rw [g1 8 o 4 (by unfold KJ1; decide), g2 17 0 o (by unfold KJ2; omega)]
  exact (tl28.2.2.1 o y1 y2).1.2.2.2.2.1
theorem pv_placeLt (fu : Nat) {N : jm_M} (iN : bI bx2 N) {l1 : Int} (h1 : 0 ≤ l1 ∧ l1 < N 0 0 17) (y : Int) : ∀ (n : Nat) (l3 l4 : Int), 0 ≤ l4 → l4 ≤ N 0 0 17 → 0 ≤ l3 → l3 ≤ l4 → (l1 < l4 → l3 ≤ l4 - 1) → pv (fX12_placeOf_5 fu n N l1 y l3 l4) (fun w => w < N 0 0 17) := by
  have b17 : 0 ≤ N 0 0 17 ∧ N 0 0 17 ≤ 6 := iN 0 0 17
  intro n
  induction n with
  | zero => intro l3 l4 _ _ _ _ _; exact pv_none
  | succ n ih =>
    intro l3 l4 h0 h6 g0 g1 g2
    show pv (gX12_placeOf_5 fu (fX12_placeOf_5 fu n) N l1 y l3 l4) _
    unfold gX12_placeOf_5
    refine pv_i (fun z => pv_i (fun _ => pv_i (fun _ => pv_ret (by omega)) (fun _ => pv_ret (by omega))) (fun _ => pv_none)) (fun z => ?_)
    have w1 : jm_w (l4 + 1) = l4 + 1 := jm_wid (by omega) (by omega)
    have w0 : jm_w (l3 + 0) = l3 := by rw [Int.add_zero]; exact jm_wid (by omega) (by omega)
    have w3 : jm_w (l3 + 1) = l3 + 1 := jm_wid (by omega) (by omega)
    rw [w1, w0, w3]
    have nx : ∀ x : Int, 0 ≤ x → x ≤ l4 + 1 → (l1 < l4 + 1 → x ≤ l4) → pv (jm_e x fun v7 => jm_e (l4 + 1) fun v9 => fX12_placeOf_5 fu n N l1 y v7 v9) (fun w => w < N 0 0 17) := fun x x1 x2 x3 => pv_e (fun a ha => pv_e (fun b hb => by rw [hb, ha]; exact ih x (l4 + 1) (by omega) (by omega) x1 x2 (fun q => by have := x3 q; omega)))
    refine pv_i (fun e => nx l3 g0 (by omega) (fun _ => g1)) (fun ne => ?_)
    have n0 : pv (jm_e l3 fun v7 => jm_e (l4 + 1) fun v9 => fX12_placeOf_5 fu n N l1 y v7 v9) (fun w => w < N 0 0 17) := nx l3 g0 (by omega) (fun _ => g1)
    have n1 : pv (jm_e (l3 + 1) fun v7 => jm_e (l4 + 1) fun v9 => fX12_placeOf_5 fu n N l1 y v7 v9) (fun w => w < N 0 0 17) := nx (l3 + 1) (by omega) (by omega) (fun q => by have := g2 (by omega); omega)
    refine pv_i (fun _ => pv_i (fun _ => n0) (fun _ => ?_)) (fun _ => pv_none)
    refine pv_bq (s_fX12_isBetter N iN l4 l1 ⟨h0, by omega⟩ ⟨h1.1, by omega⟩) (fun v _ => ?_)
    exact pv_i (fun _ => n0) (fun _ => pv_i (fun _ => n1) (fun _ => pv_i (fun _ => pv_i (fun _ => pv_i (fun _ => n1) (fun _ => n0)) (fun _ => pv_none)) (fun _ => pv_none)))
/-- how a car stands in a way: its place (99: none) and its sum -/
theorem c_triedPlace (fu : Nat) (hfu : 4000 ≤ fu) {M N : jm_M} (iN : bI bx2 N) (s5 : M 2 0 5 = N 0 0 17) (m84 : ∀ o : Int, 0 ≤ o → o < N 0 0 17 → M 8 o 4 = N 17 0 o) (jg : JG M N (N 0 0 17)) {c : Int} (hc : 0 ≤ c ∧ c < N 0 0 17) : ∃ v : Int, fX12_placeOf fu N c 0 = some (v, N) ∧ (-1 ≤ v ∧ v ≤ 5) ∧ (v = -1 ↔ N 67 0 c = 0) ∧ fX5_triedPlace fu M c = some ((if v = -1 then 99 else v), M) ∧ v < N 0 0 17 := by
  obtain ⟨v, Ma, w, Na, ea, eb, ⟨p1, p2, p3⟩, p4, p5⟩ := j_place fu hfu iN s5 m84 jg hc (x := -1) (y := 0) (Or.inl ⟨rfl, rfl⟩)
  have b17 : 0 ≤ N 0 0 17 ∧ N 0 0 17 ≤ 6 := iN 0 0 17
  refine ⟨v, by rw [eb, p2, p3], p4, p5, ?_, by rw [p3]; exact pv_placeLt fu iN hc 0 fu 0 0 (by decide) b17.1 (by decide) (by decide) (fun _ => by omega) w Na eb⟩
  unfold fX5_triedPlace
  rw [ea, jm_bsm, p1]
  by_cases q : v = -1
  · rw [if_pos q, if_pos q]
  · rw [if_neg q, if_neg q]
theorem c_triedSum {M N : jm_M} (jg : JG M N (N 0 0 17)) {c : Int} (hc : 0 ≤ c ∧ c < N 0 0 17) (b17 : N 0 0 17 ≤ 6) : fX5_triedSum M c = some ((if N 67 0 c = 0 then 0 else N 68 0 c), M) := by
  obtain ⟨⟨e1, e2, e3⟩, -⟩ := jg c hc.1 hc.2
  obtain ⟨v, M1, e, rfl, q⟩ := x_isIndex M c 6
  unfold fX5_triedSum
  rw [e, jm_bsm, if_neg (by omega), if_pos (show 0 ≤ c ∧ c < 6 by omega), e1]
  by_cases z : N 67 0 c = 0
  · rw [if_pos z, if_pos z]
  · rw [if_neg z, if_pos (show 0 ≤ c ∧ c < 6 by omega), if_neg z, e3 (by rw [e1]; exact z)]
theorem c_takeWay10 (fu : Nat) (M0 : jm_M) {c k : Int} (hc : 0 ≤ c ∧ c < 6) (hk : 0 ≤ k ∧ k ≤ 2) : ∀ (n : Nat) (M : jm_M) (l3 : Int), bI bx1 M → M 10 (c + 24) 3 = l3 → (∀ i : Int, 0 ≤ i → i < l3 → M 19 (c + 24) (3 * i) = M0 39 0 i ∧ M 19 (c + 24) (3 * i + 1) = M0 40 0 i ∧ M 19 (c + 24) (3 * i + 2) = 200) → (∀ (f : Nat) (i j : Int), ¬ (f = 10 ∧ i = c + 24 ∧ j = 3) → ¬ (f = 19 ∧ i = c + 24) → M f i j = M0 f i j) → 0 ≤ l3 → l3 ≤ k → k - l3 < (n : Int) → wp (fX10_takeWay_10 fu n M c k l3) (fun _ M1 => bI bx1 M1 ∧ M1 10 (c + 24) 3 = k ∧ (∀ i : Int, 0 ≤ i → i < k → M1 19 (c + 24) (3 * i) = M0 39 0 i ∧ M1 19 (c + 24) (3 * i + 1) = M0 40 0 i ∧ M1 19 (c + 24) (3 * i + 2) = 200) ∧ ∀ (f : Nat) (i j : Int), ¬ (f = 10 ∧ i = c + 24 ∧ j = 3) → ¬ (f = 19 ∧ i = c + 24) → M1 f i j = M0 f i j) := by
  intro n
  induction n with
  | zero => intro M l3 _ _ _ _ _ h1 hm; exfalso; omega
  | succ n ih =>
    intro M l3 iM e10 rows fr h0 h1 hm
    show wp (gX10_takeWay_10 fu (fX10_takeWay_10 fu n) M c k l3) _
    unfold gX10_takeWay_10
    refine wp_ite (fun z => wp_ret ⟨iM, by rw [e10]; omega, fun i y1 y2 => rows i y1 (by omega), fr⟩) (fun z => wp_F (by omega) (wp_T ⟨h0, by omega⟩ (wp_T ⟨h0, by omega⟩ ?_)))
    have w1 : jm_w (l3 + 1) = l3 + 1 := jm_wid (by omega) (by omega)
    have hw : wid1 (c + 24) = 3 := wid1_24 (by omega) (by omega)
    have hl : lim1 (c + 24) = 2 := lim1_24 (by omega) (by omega)
    have i200 : jm_in 200 := jm_inL (by decide) (by decide)
    have i0 : jm_in 0 := jm_inL (by decide) (by decide)
    rw [w1]
    refine wp_b (wp_and (s_fX7_push M iM (c + 24) (M 39 0 l3) (M 40 0 l3) 200 0 ⟨by omega, by omega⟩ (bx1_in (iM 39 0 l3)) (bx1_in (iM 40 0 l3)) i200 i0) (c_push3 iM (r := c + 24) ⟨by omega, by omega⟩ hw (M 39 0 l3) (M 40 0 l3) 200 0)) (fun v M8 q => ?_)
    obtain ⟨⟨i8, -, -⟩, q⟩ := q
    rcases q with ⟨-, -, p1, p2, p3⟩ | ⟨q1, -, -⟩
    · rw [e10] at p1 p2 p3
      rw [jm_ee]
      refine ih M8 (l3 + 1) i8 p1 (fun i y1 y2 => ?_) (fun f i j y1 y2 => (p3 f i j y1 (by omega)).trans (fr f i j y1 y2)) (by omega) (by omega) (by omega)
      by_cases e : i = l3
      · rw [e, p2.1, p2.2.1, p2.2.2, fr 39 0 l3 (by omega) (by omega), fr 40 0 l3 (by omega) (by omega)]
        exact ⟨rfl, rfl, rfl⟩
      · rw [p3 19 (c + 24) (3 * i) (by omega) (by omega), p3 19 (c + 24) (3 * i + 1) (by omega) (by omega), p3 19 (c + 24) (3 * i + 2) (by omega) (by omega)]
        exact rows i y1 (by omega)
    · exfalso; omega
theorem c_takeWay (fu : Nat) (hfu : 4000 ≤ fu) {M : jm_M} (iM : bI bx1 M) {c k : Int} (hc : 0 ≤ c ∧ c < 6) (hk : 0 ≤ k ∧ k ≤ 2) : wp (fX10_takeWay fu M c k) (fun _ M1 => bI bx1 M1 ∧ M1 10 (c + 24) 3 = k ∧ (∀ i : Int, 0 ≤ i → i < k → M1 19 (c + 24) (3 * i) = M 39 0 i ∧ M1 19 (c + 24) (3 * i + 1) = M 40 0 i ∧ M1 19 (c + 24) (3 * i + 2) = 200) ∧ ∀ (f : Nat) (i j : Int), ¬ (f = 10 ∧ i = c + 24 ∧ j = 3) → ¬ (f = 19 ∧ i = c + 24) → M1 f i j = M f i j) := by
  have hl : lim1 (c + 24) = 2 := lim1_24 (by omega) (by omega)
  unfold fX10_takeWay
  refine wp_si iM (show 0 ≤ (0 : Int) ∧ (0 : Int) ≤ lim1 (c + 24) by omega) (fun M1 u1 i1 => ?_)
  have fr : ∀ (f : Nat) (i j : Int), ¬ (f = 10 ∧ i = c + 24 ∧ j = 3) → ¬ (f = 19 ∧ i = c + 24) → M1 f i j = M f i j := fun f i j y1 _ => by rw [u1]; exact jm_une y1
  refine wp_mono (c_takeWay10 fu M1 hc hk fu M1 0 i1 (by rw [u1]; exact jm_ueq) (fun i y1 y2 => by exfalso; omega) (fun _ _ _ _ _ => rfl) (by decide) hk.1 (by omega)) (fun v M2 q => ⟨q.1, q.2.1, fun i y1 y2 => ?_, fun f i j y1 y2 => (q.2.2.2 f i j y1 y2).trans (fr f i j y1 y2)⟩)
  rw [← fr 39 0 i (by omega) (by omega), ← fr 40 0 i (by omega) (by omega)]
  exact q.2.2.1 i y1 y2
/-- the reference's stops of a way -/
theorem d_way (fu : Nat) {N : jm_M} (iN : bI bx2 N) {c k a b sa sb : Int} (day : Int) (hc : 0 ≤ c ∧ c < 6) (hk : 0 ≤ k ∧ k ≤ 2) (ia : jm_in a) (ib : jm_in b) (isa : jm_in sa) (isb : jm_in sb) {x : jm_R} {Q : Int → jm_M → Int → jm_M → Prop} {K : Int → jm_M → jm_R} (h : ∀ N1 : jm_M, bI bx2 N1 → N1 26 0 c = k → (0 < k → N1 27 0 (5 * c) = a ∧ N1 28 0 (5 * c) = sa ∧ N1 29 0 (5 * c) = 200) → (1 < k → N1 27 0 (5 * c + 1) = b ∧ N1 28 0 (5 * c + 1) = sb ∧ N1 29 0 (5 * c + 1) = 200) → (∀ (f : Nat) (i j : Int), ¬ (i = 0 ∧ f = 26 ∧ j = c) → ¬ (i = 0 ∧ (27 ≤ f ∧ f ≤ 29) ∧ 5 * c ≤ j ∧ j < 5 * c + 2) → N1 f i j = N f i j) → J2 x (jm_b (gX12_tries_40 fu N1 c day a b sa sb) K) Q) : J2 x (jm_b (fX12_tries fu N c day k a b sa sb) K) Q := by
  have i200 : jm_in 200 := jm_inL (by decide) (by decide)
  unfold fX12_tries
  rw [if_pos hc]
  show J2 x (jm_b (jm_s (jm_u N 26 0 c 0) _) K) Q
  unfold jm_s
  obtain ⟨N2, u2⟩ : ∃ N2 : jm_M, N2 = jm_u N 26 0 c 0 := ⟨_, rfl⟩
  rw [← u2]
  dsimp only
  have i2 : bI bx2 N2 := by rw [u2]; exact bI_u iN (show (0 : Int) ≤ 0 ∧ (0 : Int) ≤ 5 by omega)
  have f2 : ∀ (f : Nat) (i j : Int), ¬ (i = 0 ∧ f = 26 ∧ j = c) → N2 f i j = N f i j := fun f i j y => by rw [u2]; exact jm_une (by omega)
  have e2 : N2 26 0 c = 0 := by rw [u2]; exact jm_ueq
  by_cases k0 : k ≤ 0
  · rw [if_pos k0]
    unfold gX12_tries_23
    rw [if_pos (show k ≤ 1 by omega)]
    exact h N2 i2 (by rw [e2]; omega) (fun y => by exfalso; omega) (fun y => by exfalso; omega) (fun f i j y _ => f2 f i j y)
  · rw [if_neg k0]
    obtain ⟨v4, N5, e5, ⟨i5, -, -⟩, p1, p2, p3⟩ := wp_and (s_fX12_puts N2 i2 c a sa 200 ⟨hc.1, by omega⟩ ia isa i200 (by omega)) (dd_puts c a sa 200 hc e2 ⟨by decide, by decide⟩)
    rw [e5, jm_bsm]
    unfold gX12_tries_23
    have f5 : ∀ (f : Nat) (i j : Int), ¬ (i = 0 ∧ f = 26 ∧ j = c) → ¬ (i = 0 ∧ (27 ≤ f ∧ f ≤ 29) ∧ 5 * c ≤ j ∧ j < 5 * c + 2) → N5 f i j = N f i j := fun f i j y1 y2 => (p3 f i j (by omega)).trans (f2 f i j y1)
    rw [show 5 * c + 0 = 5 * c from Int.add_zero _] at p2
    by_cases k1 : k ≤ 1
    · rw [if_pos k1]
      exact h N5 i5 (by omega) (fun _ => p2) (fun y => by exfalso; omega) f5
    · rw [if_neg k1]
      have p1' : N5 26 0 c = 1 := by omega
      obtain ⟨v6, N6, e6, ⟨i6, -, -⟩, r1, r2, r3⟩ := wp_and (s_fX12_puts N5 i5 c b sb 200 ⟨hc.1, by omega⟩ ib isb i200 (by omega)) (dd_puts c b sb 200 hc p1' ⟨by decide, by decide⟩)
      rw [e6, jm_bsm]
      exact h N6 i6 (by omega) (fun _ => by rw [r3 27 0 (5 * c) (by omega), r3 28 0 (5 * c) (by omega), r3 29 0 (5 * c) (by omega)]; exact p2) (fun _ => r2) (fun f i j y1 y2 => (r3 f i j (by omega)).trans (f5 f i j y1 y2))
/-- the class keeps a way -/
theorem c_keep26 (fu : Nat) (M0 : jm_M) {k : Int} (hk : 0 ≤ k ∧ k ≤ 2) : ∀ (n : Nat) (M : jm_M) (l3 : Int), bI bx1 M → (∀ i : Int, 0 ≤ i → i < l3 → M 41 0 (2 * i) = M0 39 0 i ∧ M 41 0 (2 * i + 1) = M0 40 0 i) → (∀ (f : Nat) (i j : Int), f ≠ 41 → M f i j = M0 f i j) → 0 ≤ l3 → l3 ≤ k → k - l3 < (n : Int) → wp (fX10_keepWay_26 fu n M k l3) (fun _ M1 => bI bx1 M1 ∧ (∀ i : Int, 0 ≤ i → i < k → M1 41 0 (2 * i) = M0 39 0 i ∧ M1 41 0 (2 * i + 1) = M0 40 0 i) ∧ ∀ (f : Nat) (i j : Int), f ≠ 41 → M1 f i j = M0 f i j) := by
  intro n
  induction n with
  | zero => intro M l3 _ _ _ _ h1 hm; exfalso; omega
  | succ n ih =>
    intro M l3 iM rows fr h0 h1 hm
    show wp (gX10_keepWay_26 fu (fX10_keepWay_26 fu n) M k l3) _
    unfold gX10_keepWay_26
    refine wp_ite (fun z => wp_ret ⟨iM, fun i y1 y2 => rows i y1 (by omega), fr⟩) (fun z => wp_F (by omega) (wp_T ⟨h0, by omega⟩ ?_))
    have w2 : jm_w (2 * l3) = 2 * l3 := jm_wid (by omega) (by omega)
    have w3 : jm_w (2 * l3 + 1) = 2 * l3 + 1 := jm_wid (by omega) (by omega)
    have w1 : jm_w (l3 + 1) = l3 + 1 := jm_wid (by omega) (by omega)
    rw [w2, w3, w1]
    refine wp_T ⟨by omega, by omega⟩ (wp_sv (fun M6 u6 => wp_T ⟨h0, by omega⟩ (wp_T ⟨by omega, by omega⟩ (wp_sv (fun M10 u10 => ?_)))))
    have i6 : bI bx1 M6 := by rw [u6]; exact bI_u iM (bx1_in (iM 39 0 l3))
    have i10 : bI bx1 M10 := by rw [u10]; exact bI_u i6 (bx1_in (i6 40 0 l3))
    rw [jm_ee]
    refine ih M10 (l3 + 1) i10 (fun i y1 y2 => ?_) (fun f i j y => by rw [u10, jm_une_f y, u6, jm_une_f y]; exact fr f i j y) (by omega) (by omega) (by omega)
    by_cases e : i = l3
    · rw [e]
      refine ⟨?_, ?_⟩
      · rw [u10, jm_une_k (by omega), u6, jm_ueq]; exact fr 39 0 l3 (by decide)
      · rw [u10, jm_ueq, u6, jm_une_f (by decide)]; exact fr 40 0 l3 (by decide)
    · rw [u10, jm_une_k (by omega), jm_une_k (by omega), u6, jm_une_k (by omega), jm_une_k (by omega)]
      exact rows i y1 (by omega)
theorem c_keepWay (fu : Nat) (hfu : 4000 ≤ fu) {M : jm_M} (iM : bI bx1 M) {c k tp ts : Int} (hk : 0 ≤ k ∧ k ≤ 2) (ip : jm_in tp) (is : jm_in ts) (ep : fX5_triedPlace fu M c = some (tp, M)) (es : fX5_triedSum (jm_u M 5 0 5 tp) c = some (ts, jm_u M 5 0 5 tp)) : wp (fX10_keepWay fu M c k) (fun _ M1 => bI bx1 M1 ∧ (M1 5 0 5 = tp ∧ M1 5 0 6 = ts) ∧ (∀ i : Int, 0 ≤ i → i < k → M1 41 0 (2 * i) = M 39 0 i ∧ M1 41 0 (2 * i + 1) = M 40 0 i) ∧ ∀ (f : Nat) (i j : Int), f ≠ 41 → f ≠ 5 → M1 f i j = M f i j) := by
  unfold fX10_keepWay
  rw [ep, jm_bsm]
  refine wp_sv (fun M4 u4 => ?_)
  have i4 : bI bx1 M4 := by rw [u4]; exact bI_u iM ip
  rw [u4, es, ← u4, jm_bsm]
  refine wp_sv (fun M8 u8 => ?_)
  have i8 : bI bx1 M8 := by rw [u8]; exact bI_u i4 is
  refine wp_mono (c_keep26 fu M8 hk fu M8 0 i8 (fun i y1 y2 => by exfalso; omega) (fun _ _ _ _ => rfl) (by decide) hk.1 (by omega)) (fun v M1 q => ⟨q.1, ⟨?_, ?_⟩, fun i y1 y2 => ?_, fun f i j y1 y2 => ?_⟩)
  · rw [q.2.2 5 0 5 (by decide), u8, jm_une_k (by decide), u4]; exact jm_ueq
  · rw [q.2.2 5 0 6 (by decide), u8]; exact jm_ueq
  · have z := q.2.1 i y1 y2
    rw [u8, jm_une_f (by decide), jm_une_f (by decide), u4, jm_une_f (by decide), jm_une_f (by decide)] at z
    exact z
  · rw [q.2.2 f i j y1, u8, jm_une_f y2, u4, jm_une_f y2]
/-- the reference keeps a way -/
theorem d_keep82 (fu : Nat) {N : jm_M} (iN : bI bx2 N) {c a b sa sb v : Int} (hc : 0 ≤ c ∧ c < 6) (ia : jm_in a) (ib : jm_in b) (isa : jm_in sa) (isb : jm_in sb) (iv : jm_in v) : wp (gX12_tries_82 fu N c a b sa sb v) (fun _ N1 => bI bx2 N1 ∧ (N1 0 0 88 = 1 ∧ N1 0 0 89 = v ∧ N1 0 0 90 = N 68 0 c) ∧ (N1 74 0 0 = a ∧ N1 74 0 1 = b ∧ N1 75 0 0 = sa ∧ N1 75 0 1 = sb) ∧ ∀ (f : Nat) (i j : Int), f ≠ 74 → f ≠ 75 → ¬ (f = 0 ∧ 88 ≤ j ∧ j ≤ 90) → N1 f i j = N f i j) := by
  unfold gX12_tries_82
  refine wp_sv (fun P1 w1 => wp_sv (fun P2 w2 => wp_T hc (wp_sv (fun P3 w3 => wp_T (by decide) (wp_sv (fun P4 w4 => wp_T (by decide) (wp_sv (fun P5 w5 => wp_T (by decide) (wp_sv (fun P6 w6 => wp_T (by decide) (wp_sv (fun P7 w7 => wp_ret ⟨?_, ⟨?_, ?_, ?_⟩, ⟨?_, ?_, ?_, ?_⟩, fun f i j y1 y2 y3 => ?_⟩))))))))))))
  · have j1 : bI bx2 P1 := by rw [w1]; exact bI_u iN (by first | exact jm_inL (by decide) (by decide) | exact ⟨by decide, by decide⟩)
    have j2 : bI bx2 P2 := by rw [w2]; exact bI_u j1 iv
    have j3 : bI bx2 P3 := by rw [w3]; exact bI_u j2 (bx2_in (j2 68 0 c))
    have j4 : bI bx2 P4 := by rw [w4]; exact bI_u j3 ia
    have j5 : bI bx2 P5 := by rw [w5]; exact bI_u j4 ib
    have j6 : bI bx2 P6 := by rw [w6]; exact bI_u j5 isa
    rw [w7]; exact bI_u j6 isb
  · rw [w7, jm_une_f (by decide), w6, jm_une_f (by decide), w5, jm_une_f (by decide), w4, jm_une_f (by decide), w3, jm_une_k (by decide), w2, jm_une_k (by decide), w1]; exact jm_ueq
  · rw [w7, jm_une_f (by decide), w6, jm_une_f (by decide), w5, jm_une_f (by decide), w4, jm_une_f (by decide), w3, jm_une_k (by decide), w2]; exact jm_ueq
  · rw [w7, jm_une_f (by decide), w6, jm_une_f (by decide), w5, jm_une_f (by decide), w4, jm_une_f (by decide), w3, jm_ueq, w2, jm_une_f (by decide), w1]; exact jm_une_f (by decide)
  · rw [w7, jm_une_f (by decide), w6, jm_une_f (by decide), w5, jm_une_k (by decide), w4]; exact jm_ueq
  · rw [w7, jm_une_f (by decide), w6, jm_une_f (by decide), w5]; exact jm_ueq
  · rw [w7, jm_une_k (by decide), w6]; exact jm_ueq
  · rw [w7]; exact jm_ueq
  · rw [w7, jm_une_f y2, w6, jm_une_f y2, w5, jm_une_f y1, w4, jm_une_f y1, w3, jm_une (by omega), w2, jm_une (by omega), w1, jm_une (by omega)]
def BAS (M0 N0 : jm_M) : Prop := TLD M0 N0 ∧ IR M0 N0 ∧ (M0 10 32 3 = N0 0 0 75 ∧ M0 3 0 3 = N0 0 0 72) ∧ bI bx2 N0 ∧ ∀ o : Int, 0 ≤ o → o < N0 0 0 17 → M0 8 o 13 = 0
def SRL (M0 N0 M N : jm_M) (c : Int) : Prop := (bI bx1 M ∧ bI bx2 N) ∧ Kp (SF1 c c) M0 M ∧ Kp (SF2 c c) N0 N ∧ M 8 c 13 = 1 ∧ N 60 0 c = 1
/-- the best way so far -/
def KBR (M N : jm_M) (k : Int) : Prop := ((M 5 0 5 = 99 ∧ N 0 0 89 = -1 ∧ M 5 0 6 = 0) ∨ (M 5 0 5 = N 0 0 89 ∧ 0 ≤ N 0 0 89 ∧ N 0 0 89 ≤ 5 ∧ M 5 0 6 = N 0 0 90 ∧ N 0 0 89 < N 0 0 17)) ∧ ∀ i : Int, 0 ≤ i → i < k → M 41 0 (2 * i) = N 74 0 i ∧ M 41 0 (2 * i + 1) = N 75 0 i
theorem j_ahead5 {M N : jm_M} {pv s : Int} {B5 B6 N89 N90 : Int} (hp : -1 ≤ pv ∧ pv ≤ 5) (hb : (B5 = 99 ∧ N89 = -1 ∧ B6 = 0) ∨ (B5 = N89 ∧ 0 ≤ N89 ∧ N89 ≤ 5 ∧ B6 = N90)) : J2 (fX10_isBetter M (if pv = -1 then 99 else pv) (if pv = -1 then 0 else s) B5 B6) (fX12_isAhead N pv s N89 N90) (fun v M1 w N1 => M1 = M ∧ N1 = N ∧ v = w) := by
  unfold fX10_isBetter fX12_isAhead
  by_cases q : pv = -1
  · rw [if_pos q, if_pos q]
    refine J2.rT (by omega) (J2.rT (by omega) (J2.lF (by omega) ?_))
    by_cases e : B5 = 99
    · exact J2.lT e.symm (J2.lT (by omega) (J2.ret ⟨rfl, rfl, rfl⟩))
    · exact J2.lF (fun h => e h.symm) (J2.ret ⟨rfl, rfl, rfl⟩)
  · rw [if_neg q, if_neg q]
    refine J2.rF (by omega) ?_
    rcases hb with ⟨b1, b2, b3⟩ | ⟨b1, b2, b3, b4⟩
    · exact J2.lT (by omega) (J2.rF (by omega) (J2.rF (by omega) (J2.ret ⟨rfl, rfl, rfl⟩)))
    · refine J2.rT b2 ?_
      rw [b1, b4]
      refine J2.bi Iff.rfl (fun _ => J2.ret ⟨rfl, rfl, rfl⟩) (fun _ => J2.bi Iff.rfl (fun _ => J2.bi Iff.rfl (fun _ => J2.ret ⟨rfl, rfl, rfl⟩) (fun _ => J2.ret ⟨rfl, rfl, rfl⟩)) (fun _ => J2.ret ⟨rfl, rfl, rfl⟩))
theorem JG.mv {M M1 N : jm_M} {n : Int} (h : JG M N n) (k : ∀ (f : Nat) (i j : Int), f ≠ 5 → M1 f i j = M f i j) : JG M1 N n := fun c y1 y2 => by
  rw [k 36 0 c (by decide), k 37 0 c (by decide), k 38 0 c (by decide)]
  exact h c y1 y2
/-- one way, tried by both -/
theorem j_try (fu : Nat) (hfu : 4000 ≤ fu) {M0 N0 M N : jm_M} (bas : BAS M0 N0) {c k day : Int} (hc : 0 ≤ c ∧ c < N0 0 0 17) (hk : 0 ≤ k ∧ k ≤ 2) (sr : SRL M0 N0 M N c) {a b sa sb l7 : Int} (ia : jm_in a) (ib : jm_in b) (isa : 0 ≤ sa ∧ sa ≤ 3) (isb : 0 ≤ sb ∧ sb ≤ 3) (w0 : 0 < k → M 39 0 0 = a ∧ M 40 0 0 = sa) (w1 : 1 < k → M 39 0 1 = b ∧ M 40 0 1 = sb) (fl : l7 = 0 ↔ N 0 0 88 = 0) (kb : N 0 0 88 ≠ 0 → KBR M N k) {S K : jm_M → jm_R} {Q : Int → jm_M → Int → jm_M → Prop} (h : ∀ M' N' : jm_M, SRL M0 N0 M' N' c → N' 0 0 88 = 1 → KBR M' N' k → (∀ i : Int, M' 39 0 i = M 39 0 i ∧ M' 40 0 i = M 40 0 i) → J2 (S M') (K N') Q) : J2 (jm_b (fX10_takeWay fu M c k) fun _ M6 => jm_b (fX2_run fu M6) fun _ M8 => jm_b (fX5_reckonFor fu M8 day) fun _ M10 => if l7 = 0 then (jm_b (fX10_keepWay fu M10 c k) fun _ M13 => S M13) else (jm_b (fX5_triedPlace fu M10 c) fun v14 M15 => jm_b (fX5_triedSum M15 c) fun v17 M18 => jm_b (fX10_isBetter M18 v14 v17 (M18 5 0 5) (M18 5 0 6)) fun v22 M23 => if v22 = 0 then (S M23) else (jm_b (fX10_keepWay fu M23 c k) fun _ M27 => S M27))) (jm_b (fX12_tries fu N c day k a b sa sb) fun _ N' => K N') Q := by
  obtain ⟨tl0, ir0, ⟨n75, n3⟩, i0, z⟩ := bas
  obtain ⟨⟨iM, iN⟩, kM, kN, e13, e60⟩ := sr
  have b17 : 0 ≤ N0 0 0 17 ∧ N0 0 0 17 ≤ 6 := i0 0 0 17
  have b88 : 0 ≤ N 0 0 88 ∧ N 0 0 88 ≤ 1 := iN 0 0 88
  have hc6 : 0 ≤ c ∧ c < 6 := ⟨hc.1, by omega⟩
  refine J2.lb (c_takeWay fu hfu iM hc6 hk) (fun _ M6 q => ?_)
  obtain ⟨i6, q10, q19, qf⟩ := q
  refine d_way fu iN day hc6 hk ia ib (jm_inL (by omega) (by omega)) (jm_inL (by omega) (by omega)) (fun N1 j1 r26 ra rb rf => ?_)
  have kM6 : Kp (SF1 c c) M0 M6 := fun f i k y => (qf f i k (by unfold SF1 at y; omega) (by unfold SF1 at y; omega)).trans (kM f i k y)
  have kN1 : Kp (SF2 c c) N0 N1 := fun f i k y => (rf f i k (by unfold SF2 at y; omega) (by unfold SF2 at y; omega)).trans (kN f i k y)
  have st : STP M6 N1 c c := by
    intro o ho
    have eo : o = c := by omega
    rw [eo]
    refine ⟨⟨by rw [qf 8 c 13 (by omega) (by omega)]; exact e13, by rw [rf 60 0 c (by omega) (by omega)]; exact e60⟩, q10.trans r26.symm, fun j y1 y2 => ?_⟩
    rw [r26] at y2
    obtain ⟨s1, s2, s3⟩ := q19 j y1 y2
    rw [s1, s2, s3]
    rcases (by omega : j = 0 ∨ j = 1) with e | e
    · rw [e] at y2 ⊢
      obtain ⟨p1, p2, p3⟩ := ra y2
      obtain ⟨g1, g2⟩ := w0 y2
      rw [show 5 * c + 0 = 5 * c from Int.add_zero _, p1, p2, p3, g1, g2]
      exact ⟨rfl, rfl, rfl, by omega, by omega, by decide, by decide⟩
    · rw [e] at y2 ⊢
      obtain ⟨p1, p2, p3⟩ := rb y2
      obtain ⟨g1, g2⟩ := w1 y2
      rw [p1, p2, p3, g1, g2]
      exact ⟨rfl, rfl, rfl, by omega, by omega, by decide, by decide⟩
  have tl : TLD M6 N1 := tl0.way i0 hc hc z kM6 kN1 st
  have ir : IR M6 N1 := ir0.way i0 hc6 hc6 kM6 kN1
  have m75 : M6 10 32 3 = N1 0 0 75 := by rw [kM6 10 32 3 (by unfold SF1; omega), kN1 0 0 75 (by unfold SF2; omega)]; exact n75
  have m3 : M6 3 0 3 = N1 0 0 72 := by rw [kM6 3 0 3 (by unfold SF1; omega), kN1 0 0 72 (by unfold SF2; omega)]; exact n3
  unfold gX12_tries_40
  rw [jm_ba]
  refine j_ran fu hfu i6 j1 tl ir m75 m3 day (fun v M9 w N9 ibb jg n17 m84 fM fN => ?_)
  have n17' : N9 0 0 17 = N0 0 0 17 := n17.2.trans (kN1 0 0 17 (by unfold SF2; omega))
  have hc9 : 0 ≤ c ∧ c < N9 0 0 17 := ⟨hc.1, by rw [n17']; exact hc.2⟩
  obtain ⟨pv, ep, bp, pn, et, plt⟩ := c_triedPlace fu hfu ibb.2 n17.1 m84 jg hc9
  have es : ∀ M10 : jm_M, JG M10 N9 (N9 0 0 17) → fX5_triedSum M10 c = some ((if pv = -1 then 0 else N9 68 0 c), M10) := fun M10 j => by
    rw [c_triedSum j hc9 (by omega)]
    by_cases o : N9 67 0 c = 0
    · rw [if_pos o, if_pos (pn.2 o)]
    · rw [if_neg o, if_neg (fun y => o (pn.1 y))]
  have n88 : N9 0 0 88 = N 0 0 88 := (fN 0 0 88 (by unfold KR2; omega) (by unfold KJ2; omega)).trans (rf 0 0 88 (by omega) (by omega))
  have kM9 : Kp (SF1 c c) M0 M9 := fun f i j y => (fM f i j (by unfold SF1 at y; unfold KR1; omega) (by unfold SF1 at y; unfold KJ1; omega)).trans (kM6 f i j y)
  have kN9 : Kp (SF2 c c) N0 N9 := fun f i j y => (fN f i j (by unfold SF2 at y; unfold KR2; omega) (by unfold SF2 at y; unfold KJ2; omega)).trans (kN1 f i j y)
  have m39 : ∀ i : Int, M9 39 0 i = M 39 0 i ∧ M9 40 0 i = M 40 0 i := fun i => ⟨(fM 39 0 i (by unfold KR1; omega) (by unfold KJ1; decide)).trans (qf 39 0 i (by omega) (by omega)), (fM 40 0 i (by unfold KR1; omega) (by unfold KJ1; decide)).trans (qf 40 0 i (by omega) (by omega))⟩
  have e13' : M9 8 c 13 = 1 := (fM 8 c 13 (by unfold KR1; omega) (by unfold KJ1; decide)).trans (st c (Or.inl rfl)).1.1
  have e60' : N9 60 0 c = 1 := (fN 60 0 c (by unfold KR2; omega) (by unfold KJ2; omega)).trans (st c (Or.inl rfl)).1.2
  have ip : jm_in (if pv = -1 then 99 else pv) := by
    by_cases y : pv = -1
    · rw [if_pos y]; exact jm_inL (by decide) (by decide)
    · rw [if_neg y]; exact jm_inL (by omega) (by omega)
  have is : jm_in (if pv = -1 then 0 else N9 68 0 c) := by
    by_cases y : pv = -1
    · rw [if_pos y]; exact jm_inL (by decide) (by decide)
    · rw [if_neg y]; exact bx2_in (ibb.2 68 0 c)
  rw [ep, jm_bsm]
  -- both keep it
  have keep : J2 (jm_b (fX10_keepWay fu M9 c k) fun _ M13 => S M13) (jm_b (gX12_tries_82 fu N9 c a b sa sb pv) fun _ N' => K N') Q := by
    refine J2.lb (c_keepWay fu hfu ibb.1 hk ip is et (es _ (jg.mv (fun f i j y => jm_une_f y)))) (fun _ M' qk => ?_)
    obtain ⟨ik, ⟨k5, k6⟩, k41, kf⟩ := qk
    refine J2.rb (d_keep82 fu ibb.2 hc6 ia ib (jm_inL (by omega) (by omega)) (jm_inL (by omega) (by omega)) (jm_inL (by omega) (by omega))) (fun _ N' qd => ?_)
    obtain ⟨jd, ⟨d88, d89, d90⟩, ⟨da, db, dsa, dsb⟩, df⟩ := qd
    refine h M' N' ⟨⟨ik, jd⟩, fun f i j y => (kf f i j (by unfold SF1 at y; omega) (by unfold SF1 at y; omega)).trans (kM9 f i j y), fun f i j y => (df f i j (by unfold SF2 at y; omega) (by unfold SF2 at y; omega) (by unfold SF2 at y; omega)).trans (kN9 f i j y), (kf 8 c 13 (by decide) (by decide)).trans e13', (df 60 0 c (by decide) (by decide) (by omega)).trans e60'⟩ d88 ⟨?_, fun i y1 y2 => ?_⟩ (fun i => ⟨(kf 39 0 i (by decide) (by decide)).trans (m39 i).1, (kf 40 0 i (by decide) (by decide)).trans (m39 i).2⟩)
    · rw [k5, k6, d89, d90, df 0 0 17 (by decide) (by decide) (by omega)]
      by_cases y : pv = -1
      · rw [if_pos y, if_pos y]; exact Or.inl ⟨rfl, y, rfl⟩
      · rw [if_neg y, if_neg y]; exact Or.inr ⟨rfl, by omega, by omega, rfl, plt⟩
    · obtain ⟨x1, x2⟩ := k41 i y1 y2
      rw [x1, x2, (m39 i).1, (m39 i).2]
      rcases (by omega : i = 0 ∨ i = 1) with e | e
      · rw [e] at y2 ⊢
        rw [(w0 y2).1, (w0 y2).2, da, dsa]
        exact ⟨rfl, rfl⟩
      · rw [e] at y2 ⊢
        rw [(w1 y2).1, (w1 y2).2, db, dsb]
        exact ⟨rfl, rfl⟩
  by_cases first : N 0 0 88 = 0
  · rw [n88, if_pos first]
    exact J2.lT (fl.2 first) keep
  · rw [n88, if_neg first, if_pos hc6]
    refine J2.lF (fun y => first (fl.1 y)) ?_
    rw [et, jm_bsm, es M9 jg, jm_bsm]
    obtain ⟨kb1, kb2⟩ := kb first
    have m5 : ∀ j : Int, M9 5 0 j = M 5 0 j := fun j => (fM 5 0 j (by unfold KR1; omega) (by unfold KJ1; decide)).trans (qf 5 0 j (by omega) (by omega))
    have n8 : ∀ j : Int, j = 89 ∨ j = 90 → N9 0 0 j = N 0 0 j := fun j y => (fN 0 0 j (by unfold KR2; omega) (by unfold KJ2; omega)).trans (rf 0 0 j (by omega) (by omega))
    rw [m5 5, m5 6, n8 89 (Or.inl rfl), n8 90 (Or.inr rfl)]
    obtain ⟨vb, Mb, wb, Nb, eb1, eb2, eb3, eb4, eb5⟩ := j_ahead5 (M := M9) (N := N9) (s := N9 68 0 c) bp (kb1.imp id (fun y => ⟨y.1, y.2.1, y.2.2.1, y.2.2.2.1⟩))
    rw [eb1, jm_bsm, eb2, jm_bsm, eb3, eb4, ← eb5]
    by_cases nb : vb = 0
    · rw [if_pos nb, if_pos nb, jm_bsm]
      refine h M9 N9 ⟨ibb, kM9, kN9, e13', e60'⟩ (by rw [n88]; omega) ⟨by rw [m5 5, m5 6, n8 89 (Or.inl rfl), n8 90 (Or.inr rfl), n17', ← kN 0 0 17 (by unfold SF2; omega)]; exact kb1, fun i y1 y2 => ?_⟩ m39
      rw [fM 41 0 _ (by unfold KR1; omega) (by unfold KJ1; decide), fM 41 0 _ (by unfold KR1; omega) (by unfold KJ1; decide), qf 41 0 _ (by omega) (by omega), qf 41 0 _ (by omega) (by omega), fN 74 0 i (by unfold KR2; omega) (by unfold KJ2; omega), fN 75 0 i (by unfold KR2; omega) (by unfold KJ2; omega), rf 74 0 i (by omega) (by omega), rf 75 0 i (by omega) (by omega)]
      exact kb2 i y1 y2
    · rw [if_neg nb, if_neg nb]
      exact keep
/-! the next way -/
theorem ns_s (fu m : Nat) (h : 0 < m) : fX10_nextSets_4 fu m = gX10_nextSets_4 fu (fX10_nextSets_4 fu (m - 1)) := by
  cases m with
  | zero => omega
  | succ m => rfl
theorem nl_s (fu m : Nat) (h : 0 < m) : fX10_nextLaps_4 fu m = gX10_nextLaps_4 fu (fX10_nextLaps_4 fu (m - 1)) := by
  cases m with
  | zero => omega
  | succ m => rfl
theorem n38_s (fu m : Nat) (h : 0 < m) : fX10_nextLaps_38 fu m = gX10_nextLaps_38 fu (fX10_nextLaps_38 fu (m - 1)) := by
  cases m with
  | zero => omega
  | succ m => rfl
theorem c_ns (fu : Nat) (K : jm_M → Int → Int → jm_R) {M : jm_M} (iM : bI bx1 M) {s l3 : Int} (hl : 0 ≤ l3 ∧ l3 < 2) (hb : 0 ≤ M 40 0 l3 ∧ M 40 0 l3 < s ∧ s ≤ 4) {Q : Int → jm_M → Prop} (h1 : ∀ M1 : jm_M, bI bx1 M1 → M1 40 0 l3 = M 40 0 l3 + 1 → M 40 0 l3 + 1 < s → (∀ (f : Nat) (i j : Int), ¬ (f = 40 ∧ i = 0 ∧ j = l3) → M1 f i j = M f i j) → Q 1 M1) (h2 : ∀ M1 : jm_M, bI bx1 M1 → M1 40 0 l3 = 0 → M 40 0 l3 + 1 = s → (∀ (f : Nat) (i j : Int), ¬ (f = 40 ∧ i = 0 ∧ j = l3) → M1 f i j = M f i j) → wp (K M1 s (l3 + -1)) Q) : wp (gX10_nextSets_4 fu K M s l3) Q := by
  unfold gX10_nextSets_4
  have w1 : jm_w (M 40 0 l3 + 1) = M 40 0 l3 + 1 := jm_wid (by omega) (by omega)
  have w2 : jm_w (l3 + -1) = l3 + -1 := jm_wid (by omega) (by omega)
  rw [w1, w2]
  refine wp_F (by omega) (wp_F (by omega) (wp_T hl (wp_T hl (wp_sv (fun M6 u6 => wp_T hl ?_)))))
  have i6 : bI bx1 M6 := by rw [u6]; exact bI_u iM (jm_inL (by omega) (by omega))
  have e6 : M6 40 0 l3 = M 40 0 l3 + 1 := by rw [u6]; exact jm_ueq
  refine wp_ite (fun c => wp_T hl (wp_sv (fun M11 u11 => ?_))) (fun c => wp_ret (h1 M6 i6 e6 (by omega) (fun f i j y => by rw [u6]; exact jm_une y)))
  rw [jm_ee]
  exact h2 M11 (by rw [u11]; exact bI_u i6 (jm_inL (by decide) (by decide))) (by rw [u11]; exact jm_ueq) (by omega) (fun f i j y => by rw [u11, jm_une y, u6]; exact jm_une y)
theorem c_nextSets (fu : Nat) (hfu : 4000 ≤ fu) {M : jm_M} (iM : bI bx1 M) {k s : Int} (hk : 0 ≤ k ∧ k ≤ 2) (hs : s ≤ 4) (b40 : ∀ i : Int, 0 ≤ i → i < k → 0 ≤ M 40 0 i ∧ M 40 0 i < s) : wp (fX10_nextSets fu M k s) (fun v M1 => (bI bx1 M1 ∧ ∀ (f : Nat) (i j : Int), f ≠ 40 → M1 f i j = M f i j) ∧ ((k = 0 ∧ v = 0) ∨ (k = 1 ∧ ((M 40 0 0 + 1 < s ∧ v = 1 ∧ M1 40 0 0 = M 40 0 0 + 1) ∨ (M 40 0 0 + 1 = s ∧ v = 0 ∧ M1 40 0 0 = 0))) ∨ (k = 2 ∧ ((M 40 0 1 + 1 < s ∧ v = 1 ∧ M1 40 0 1 = M 40 0 1 + 1 ∧ M1 40 0 0 = M 40 0 0) ∨ (M 40 0 1 + 1 = s ∧ M 40 0 0 + 1 < s ∧ v = 1 ∧ M1 40 0 1 = 0 ∧ M1 40 0 0 = M 40 0 0 + 1) ∨ (M 40 0 1 + 1 = s ∧ M 40 0 0 + 1 = s ∧ v = 0 ∧ M1 40 0 1 = 0 ∧ M1 40 0 0 = 0))))) := by
  have wk : jm_w (k - 1) = k - 1 := jm_wid (by omega) (by omega)
  unfold fX10_nextSets
  rw [wk, jm_ee, ns_s fu fu (by omega)]
  rcases (by omega : k = 0 ∨ k = 1 ∨ k = 2) with e | e | e
  · rw [e]
    unfold gX10_nextSets_4
    exact wp_T (by decide) (wp_ret ⟨⟨iM, fun _ _ _ _ => rfl⟩, Or.inl ⟨rfl, rfl⟩⟩)
  · rw [e] at b40 ⊢
    have b0 := b40 0 (by decide) (by decide)
    rw [show (1 : Int) - 1 = 0 by decide]
    refine c_ns fu _ iM (l3 := 0) ⟨by decide, by decide⟩ ⟨b0.1, b0.2, hs⟩ (fun M1 i1 e1 e2 f1 => ⟨⟨i1, fun f i j y => f1 f i j (fun z => y z.1)⟩, Or.inr (Or.inl ⟨rfl, Or.inl ⟨e2, rfl, e1⟩⟩)⟩) (fun M1 i1 e1 e2 f1 => ?_)
    rw [ns_s fu (fu - 1) (by omega)]
    unfold gX10_nextSets_4
    exact wp_T (by decide) (wp_ret ⟨⟨i1, fun f i j y => f1 f i j (fun z => y z.1)⟩, Or.inr (Or.inl ⟨rfl, Or.inr ⟨e2, rfl, e1⟩⟩)⟩)
  · rw [e] at b40 ⊢
    have b0 := b40 0 (by decide) (by decide)
    have b1 := b40 1 (by decide) (by decide)
    rw [show (2 : Int) - 1 = 1 by decide]
    refine c_ns fu _ iM (l3 := 1) ⟨by decide, by decide⟩ ⟨b1.1, b1.2, hs⟩ (fun M1 i1 e1 e2 f1 => ⟨⟨i1, fun f i j y => f1 f i j (fun z => y z.1)⟩, Or.inr (Or.inr ⟨rfl, Or.inl ⟨e2, rfl, e1, f1 40 0 0 (by decide)⟩⟩)⟩) (fun M1 i1 e1 e2 f1 => ?_)
    have e0 : M1 40 0 0 = M 40 0 0 := f1 40 0 0 (by decide)
    rw [ns_s fu (fu - 1) (by omega)]
    refine c_ns fu _ i1 (l3 := 1 + -1) ⟨by decide, by decide⟩ ⟨by rw [show (1 : Int) + -1 = 0 by decide, e0]; exact b0.1, by rw [show (1 : Int) + -1 = 0 by decide, e0]; exact b0.2, hs⟩ (fun M2 i2 g1 g2 f2 => ?_) (fun M2 i2 g1 g2 f2 => ?_)
    · rw [show (1 : Int) + -1 = 0 by decide] at g1 g2 f2
      rw [e0] at g1 g2
      exact ⟨⟨i2, fun f i j y => (f2 f i j (fun z => y z.1)).trans (f1 f i j (fun z => y z.1))⟩, Or.inr (Or.inr ⟨rfl, Or.inr (Or.inl ⟨e2, g2, rfl, (f2 40 0 1 (by decide)).trans e1, g1⟩)⟩)⟩
    · rw [show (1 : Int) + -1 = 0 by decide] at g1 g2 f2
      rw [e0] at g2
      rw [ns_s fu (fu - 1 - 1) (by omega)]
      unfold gX10_nextSets_4
      exact wp_T (by decide) (wp_ret ⟨⟨i2, fun f i j y => (f2 f i j (fun z => y z.1)).trans (f1 f i j (fun z => y z.1))⟩, Or.inr (Or.inr ⟨rfl, Or.inr (Or.inr ⟨e2, g2, rfl, (f2 40 0 1 (by decide)).trans e1, g1⟩)⟩)⟩)
/-- laps of a way, one on -/
theorem c_nextLaps (fu : Nat) (hfu : 4000 ≤ fu) {M : jm_M} (iM : bI bx1 M) {k L : Int} (hk : 0 ≤ k ∧ k ≤ 2) (hL : -1 ≤ L ∧ L ≤ 10) (b39 : ∀ i : Int, 0 ≤ i → i < k → 0 ≤ M 39 0 i ∧ M 39 0 i ≤ L) : wp (fX10_nextLaps fu M k L) (fun v M1 => (bI bx1 M1 ∧ ∀ (f : Nat) (i j : Int), f ≠ 39 → M1 f i j = M f i j) ∧ ((k = 0 ∧ v = 0) ∨ (k = 1 ∧ ((M 39 0 0 + 1 ≤ L ∧ v = 1 ∧ M1 39 0 0 = M 39 0 0 + 1) ∨ (L < M 39 0 0 + 1 ∧ v = 0))) ∨ (k = 2 ∧ ((M 39 0 1 + 1 ≤ L ∧ v = 1 ∧ M1 39 0 1 = M 39 0 1 + 1 ∧ M1 39 0 0 = M 39 0 0) ∨ (L < M 39 0 1 + 1 ∧ M 39 0 0 + 2 ≤ L ∧ v = 1 ∧ M1 39 0 0 = M 39 0 0 + 1 ∧ M1 39 0 1 = M 39 0 0 + 2) ∨ (L < M 39 0 1 + 1 ∧ L < M 39 0 0 + 2 ∧ v = 0))))) := by
  have wk : jm_w (k - 1) = k - 1 := jm_wid (by omega) (by omega)
  unfold fX10_nextLaps
  rw [wk, jm_ee, nl_s fu fu (by omega)]
  rcases (by omega : k = 0 ∨ k = 1 ∨ k = 2) with e | e | e
  · rw [e]
    unfold gX10_nextLaps_4
    exact wp_T (by decide) (wp_ret ⟨⟨iM, fun _ _ _ _ => rfl⟩, Or.inl ⟨rfl, rfl⟩⟩)
  · rw [e] at b39 ⊢
    have b0 := b39 0 (by decide) (by decide)
    show wp (gX10_nextLaps_4 fu (fX10_nextLaps_4 fu (fu - 1)) M 1 L 0) _
    unfold gX10_nextLaps_4
    refine wp_F (by decide) (wp_F (by decide) (wp_T ⟨by decide, by decide⟩ ?_))
    have w0 : jm_w (M 39 0 0 + 1) = M 39 0 0 + 1 := jm_wid (by omega) (by omega)
    rw [w0, jm_ee]
    have w1 : jm_w (jm_w (jm_w (M 39 0 0 + 1 + 1) - 1) - 0) = M 39 0 0 + 1 := by
      rw [jm_wid (x := M 39 0 0 + 1 + 1) (by omega) (by omega), jm_wid (x := M 39 0 0 + 1 + 1 - 1) (by omega) (by omega), jm_wid (by omega) (by omega)]
      omega
    rw [w1]
    refine wp_ite (fun c => ?_) (fun c => ?_)
    · rw [show jm_w ((0 : Int) + -1) = -1 by decide, jm_ee, nl_s fu (fu - 1) (by omega)]
      unfold gX10_nextLaps_4
      exact wp_T (by decide) (wp_ret ⟨⟨iM, fun _ _ _ _ => rfl⟩, Or.inr (Or.inl ⟨rfl, Or.inr ⟨c, rfl⟩⟩)⟩)
    · rw [n38_s fu fu (by omega)]
      unfold gX10_nextLaps_38
      have w2 : jm_w (jm_w (M 39 0 0 + 1 + 0) - 0) = M 39 0 0 + 1 := by
        rw [jm_wid (x := M 39 0 0 + 1 + 0) (by omega) (by omega), jm_wid (by omega) (by omega)]
        omega
      rw [w2, show jm_w ((0 : Int) + 1) = 1 by decide]
      refine wp_F (by decide) (wp_F (by decide) (wp_T ⟨by decide, by decide⟩ (wp_sv (fun M4 u4 => ?_))))
      rw [jm_ee, n38_s fu (fu - 1) (by omega)]
      unfold gX10_nextLaps_38
      exact wp_T (by decide) (wp_ret ⟨⟨by rw [u4]; exact bI_u iM (jm_inL (by omega) (by omega)), fun f i j y => by rw [u4]; exact jm_une_f y⟩, Or.inr (Or.inl ⟨rfl, Or.inl ⟨by omega, rfl, by rw [u4]; exact jm_ueq⟩⟩)⟩)
  · rw [e] at b39 ⊢
    have b0 := b39 0 (by decide) (by decide)
    have b1 := b39 1 (by decide) (by decide)
    show wp (gX10_nextLaps_4 fu (fX10_nextLaps_4 fu (fu - 1)) M 2 L 1) _
    unfold gX10_nextLaps_4
    refine wp_F (by decide) (wp_F (by decide) (wp_T ⟨by decide, by decide⟩ ?_))
    have w0 : jm_w (M 39 0 1 + 1) = M 39 0 1 + 1 := jm_wid (by omega) (by omega)
    rw [w0, jm_ee]
    have w1 : jm_w (jm_w (jm_w (M 39 0 1 + 1 + 2) - 1) - 1) = M 39 0 1 + 1 := by
      rw [jm_wid (x := M 39 0 1 + 1 + 2) (by omega) (by omega), jm_wid (x := M 39 0 1 + 1 + 2 - 1) (by omega) (by omega), jm_wid (by omega) (by omega)]
      omega
    rw [w1]
    refine wp_ite (fun c => ?_) (fun c => ?_)
    · rw [show jm_w ((1 : Int) + -1) = 0 by decide, jm_ee, nl_s fu (fu - 1) (by omega)]
      unfold gX10_nextLaps_4
      refine wp_F (by decide) (wp_F (by decide) (wp_T ⟨by decide, by decide⟩ ?_))
      have v0 : jm_w (M 39 0 0 + 1) = M 39 0 0 + 1 := jm_wid (by omega) (by omega)
      rw [v0, jm_ee]
      have v1 : jm_w (jm_w (jm_w (M 39 0 0 + 1 + 2) - 1) - 0) = M 39 0 0 + 2 := by
        rw [jm_wid (x := M 39 0 0 + 1 + 2) (by omega) (by omega), jm_wid (x := M 39 0 0 + 1 + 2 - 1) (by omega) (by omega), jm_wid (by omega) (by omega)]
        omega
      rw [v1]
      refine wp_ite (fun c2 => ?_) (fun c2 => ?_)
      · rw [show jm_w ((0 : Int) + -1) = -1 by decide, jm_ee, nl_s fu (fu - 1 - 1) (by omega)]
        unfold gX10_nextLaps_4
        exact wp_T (by decide) (wp_ret ⟨⟨iM, fun _ _ _ _ => rfl⟩, Or.inr (Or.inr ⟨rfl, Or.inr (Or.inr ⟨c, c2, rfl⟩)⟩)⟩)
      · rw [n38_s fu fu (by omega)]
        unfold gX10_nextLaps_38
        have v2 : jm_w (jm_w (M 39 0 0 + 1 + 0) - 0) = M 39 0 0 + 1 := by
          rw [jm_wid (x := M 39 0 0 + 1 + 0) (by omega) (by omega), jm_wid (by omega) (by omega)]
          omega
        rw [v2, show jm_w ((0 : Int) + 1) = 1 by decide]
        refine wp_F (by decide) (wp_F (by decide) (wp_T ⟨by decide, by decide⟩ (wp_sv (fun M4 u4 => ?_))))
        rw [jm_ee, n38_s fu (fu - 1) (by omega)]
        unfold gX10_nextLaps_38
        have v3 : jm_w (jm_w (M 39 0 0 + 1 + 1) - 0) = M 39 0 0 + 2 := by
          rw [jm_wid (x := M 39 0 0 + 1 + 1) (by omega) (by omega), jm_wid (by omega) (by omega)]
          omega
        rw [v3, show jm_w ((1 : Int) + 1) = 2 by decide]
        refine wp_F (by decide) (wp_F (by decide) (wp_T ⟨by decide, by decide⟩ (wp_sv (fun M5 u5 => ?_))))
        rw [jm_ee, n38_s fu (fu - 1 - 1) (by omega)]
        unfold gX10_nextLaps_38
        refine wp_T (by decide) (wp_ret ⟨⟨?_, fun f i j y => by rw [u5, jm_une_f y, u4]; exact jm_une_f y⟩, Or.inr (Or.inr ⟨rfl, Or.inr (Or.inl ⟨c, by omega, rfl, by rw [u5, jm_une_k (by decide), u4]; exact jm_ueq, by rw [u5]; exact jm_ueq⟩)⟩)⟩)
        rw [u5]
        exact bI_u (by rw [u4]; exact bI_u iM (jm_inL (by omega) (by omega))) (jm_inL (by omega) (by omega))
    · rw [n38_s fu fu (by omega)]
      unfold gX10_nextLaps_38
      have w2 : jm_w (jm_w (M 39 0 1 + 1 + 1) - 1) = M 39 0 1 + 1 := by
        rw [jm_wid (x := M 39 0 1 + 1 + 1) (by omega) (by omega), jm_wid (by omega) (by omega)]
        omega
      rw [w2, show jm_w ((1 : Int) + 1) = 2 by decide]
      refine wp_F (by decide) (wp_F (by decide) (wp_T ⟨by decide, by decide⟩ (wp_sv (fun M4 u4 => ?_))))
      rw [jm_ee, n38_s fu (fu - 1) (by omega)]
      unfold gX10_nextLaps_38
      exact wp_T (by decide) (wp_ret ⟨⟨by rw [u4]; exact bI_u iM (jm_inL (by omega) (by omega)), fun f i j y => by rw [u4]; exact jm_une_f y⟩, Or.inr (Or.inr ⟨rfl, Or.inl ⟨by omega, rfl, by rw [u4]; exact jm_ueq, by rw [u4]; exact jm_une_k (by decide)⟩⟩)⟩)
/-! all the ways, one after another -/
theorem b92_s (fu : Nat) (k13 : jm_M → Int → Int → Int → Int → jm_R) (k47 : jm_M → Int → Int → Int → Int → Int → jm_R) (k70 : jm_M → Int → Int → Int → Int → Int → Int → jm_R) (m : Nat) (h : 0 < m) : fX12_bests_92 fu k13 k47 k70 m = gX12_bests_92 fu k13 k47 k70 (fX12_bests_92 fu k13 k47 k70 (m - 1)) := by
  cases m with
  | zero => omega
  | succ m => rfl
theorem b70_s (fu : Nat) (k13 : jm_M → Int → Int → Int → Int → jm_R) (k47 : jm_M → Int → Int → Int → Int → Int → jm_R) (m : Nat) (h : 0 < m) : fX12_bests_70 fu k13 k47 m = gX12_bests_70 fu k13 k47 (fX12_bests_70 fu k13 k47 (m - 1)) := by
  cases m with
  | zero => omega
  | succ m => rfl
theorem b47_s (fu : Nat) (k13 : jm_M → Int → Int → Int → Int → jm_R) (m : Nat) (h : 0 < m) : fX12_bests_47 fu k13 m = gX12_bests_47 fu k13 (fX12_bests_47 fu k13 (m - 1)) := by
  cases m with
  | zero => omega
  | succ m => rfl
theorem b13_s (fu m : Nat) (h : 0 < m) : fX12_bests_13 fu m = gX12_bests_13 fu (fX12_bests_13 fu (m - 1)) := by
  cases m with
  | zero => omega
  | succ m => rfl
theorem s116_s (fu m : Nat) (h : 0 < m) : fX10_search_116 fu m = gX10_search_116 fu (fX10_search_116 fu (m - 1)) := by
  cases m with
  | zero => omega
  | succ m => rfl
def FIN (fu : Nat) (N : jm_M) (c : Int) : jm_R := jm_b (fX12_putsBack fu N c) fun _ M3 => if (M3 0 0 88) = 0 ∨ (M3 0 0 88) = 1 then some ((M3 0 0 88), M3) else none
def AT (fu n13 n47 n70 n92 : Nat) (N : jm_M) (c k day a b sa sb : Int) : jm_R := fX12_bests_92 fu (fX12_bests_13 fu n13) (fX12_bests_47 fu (fX12_bests_13 fu n13) n47) (fX12_bests_70 fu (fX12_bests_13 fu n13) (fX12_bests_47 fu (fX12_bests_13 fu n13) n47) n70) n92 N c k day a b sa sb
def FU (n13 n47 n70 n92 : Nat) (a b sa sb : Int) : Prop := 100 ≤ (n13 : Int) + a ∧ 100 ≤ (n47 : Int) + b ∧ 100 ≤ (n70 : Int) + sa ∧ 100 ≤ (n92 : Int) + sb
section
variable {fu : Nat} {k13 : jm_M → Int → Int → Int → Int → jm_R} {k47 : jm_M → Int → Int → Int → Int → Int → jm_R} {k70 : jm_M → Int → Int → Int → Int → Int → Int → jm_R} {m : Nat} {N : jm_M} {c k day a b sa sb : Int}
theorem b92_try (h : 0 < m) (hc : 0 ≤ c ∧ c < 6) (hb : 0 ≤ sb ∧ sb ≤ 3) (v : (k ≤ 1 ∧ sb < 1) ∨ (1 < k ∧ sb < N 19 0 c)) : fX12_bests_92 fu k13 k47 k70 m N c k day a b sa sb = jm_b (fX12_tries fu N c day k a b sa sb) fun _ N' => fX12_bests_92 fu k13 k47 k70 (m - 1) N' c k day a b sa (sb + 1) := by
  have w : jm_w (sb + 1) = sb + 1 := jm_wid (by omega) (by omega)
  rw [b92_s fu k13 k47 k70 m h]
  unfold gX12_bests_92 gX12_bests_109
  rcases v with ⟨v1, v2⟩ | ⟨v1, v2⟩
  · rw [if_pos v1, if_neg (by omega), w]; rfl
  · rw [if_neg (by omega), if_pos hc, if_neg (by omega), w]; rfl
theorem b92_end (h : 0 < m) (hc : 0 ≤ c ∧ c < 6) (ha : 0 ≤ sa ∧ sa ≤ 3) (v : (k ≤ 1 ∧ 1 ≤ sb) ∨ (1 < k ∧ N 19 0 c ≤ sb)) : fX12_bests_92 fu k13 k47 k70 m N c k day a b sa sb = k70 N c k day a b (sa + 1) := by
  have w : jm_w (sa + 1) = sa + 1 := jm_wid (by omega) (by omega)
  rw [b92_s fu k13 k47 k70 m h]
  unfold gX12_bests_92 gX12_bests_109
  rcases v with ⟨v1, v2⟩ | ⟨v1, v2⟩
  · rw [if_pos v1, if_pos v2, w]; rfl
  · rw [if_neg (by omega), if_pos hc, if_pos v2, w]; rfl
theorem b70_in (h : 0 < m) (hc : 0 ≤ c ∧ c < 6) (v : (k ≤ 0 ∧ sa < 1) ∨ (0 < k ∧ sa < N 19 0 c)) : fX12_bests_70 fu k13 k47 m N c k day a b sa = fX12_bests_92 fu k13 k47 (fX12_bests_70 fu k13 k47 (m - 1)) fu N c k day a b sa 0 := by
  rw [b70_s fu k13 k47 m h]
  unfold gX12_bests_70
  rcases v with ⟨v1, v2⟩ | ⟨v1, v2⟩
  · rw [if_pos v1, if_neg (by omega)]
  · rw [if_neg (by omega), if_pos hc, if_neg (by omega)]
theorem b70_end (h : 0 < m) (hc : 0 ≤ c ∧ c < 6) (hb : 0 ≤ b ∧ b ≤ 100) (v : (k ≤ 0 ∧ 1 ≤ sa) ∨ (0 < k ∧ N 19 0 c ≤ sa)) : fX12_bests_70 fu k13 k47 m N c k day a b sa = k47 N c k day a (b + 1) := by
  have w : jm_w (b + 1) = b + 1 := jm_wid (by omega) (by omega)
  rw [b70_s fu k13 k47 m h]
  unfold gX12_bests_70
  rcases v with ⟨v1, v2⟩ | ⟨v1, v2⟩
  · rw [if_pos v1, if_pos v2, w]; rfl
  · rw [if_neg (by omega), if_pos hc, if_pos v2, w]; rfl
theorem b47_in (h : 0 < m) (h2 : 0 ≤ N 0 0 2 ∧ N 0 0 2 ≤ 100) (v : (k ≤ 1 ∧ b < 1) ∨ (1 < k ∧ b < N 0 0 2 - 1)) : fX12_bests_47 fu k13 m N c k day a b = fX12_bests_70 fu k13 (fX12_bests_47 fu k13 (m - 1)) fu N c k day a b 0 := by
  have w : jm_w (N 0 0 2 - 1) = N 0 0 2 - 1 := jm_wid (by omega) (by omega)
  rw [b47_s fu k13 m h]
  unfold gX12_bests_47
  rcases v with ⟨v1, v2⟩ | ⟨v1, v2⟩
  · rw [if_pos v1, if_neg (by omega)]
  · rw [if_neg (by omega), w, if_neg (by omega)]
theorem b47_end (h : 0 < m) (h2 : 0 ≤ N 0 0 2 ∧ N 0 0 2 ≤ 100) (ha : 0 ≤ a ∧ a ≤ 100) (v : (k ≤ 1 ∧ 1 ≤ b) ∨ (1 < k ∧ N 0 0 2 - 1 ≤ b)) : fX12_bests_47 fu k13 m N c k day a b = k13 N c k day (a + 1) := by
  have w : jm_w (N 0 0 2 - 1) = N 0 0 2 - 1 := jm_wid (by omega) (by omega)
  have w' : jm_w (a + 1) = a + 1 := jm_wid (by omega) (by omega)
  rw [b47_s fu k13 m h]
  unfold gX12_bests_47
  rcases v with ⟨v1, v2⟩ | ⟨v1, v2⟩
  · rw [if_pos v1, if_pos v2, w']; rfl
  · rw [if_neg (by omega), w, if_pos v2, w']; rfl
theorem b13_in1 (h : 0 < m) (h2 : 0 ≤ N 0 0 2 ∧ N 0 0 2 ≤ 100) (k1 : k ≤ 1) (v : (k ≤ 0 ∧ a < 1) ∨ (0 < k ∧ a < N 0 0 2 - 1)) : fX12_bests_13 fu m N c k day a = fX12_bests_47 fu (fX12_bests_13 fu (m - 1)) fu N c k day a 0 := by
  have w : jm_w (N 0 0 2 - 1) = N 0 0 2 - 1 := jm_wid (by omega) (by omega)
  rw [b13_s fu m h]
  unfold gX12_bests_13 gX12_bests_29
  rcases v with ⟨v1, v2⟩ | ⟨v1, v2⟩
  · rw [if_pos v1, if_neg (by omega), if_pos k1]
  · rw [if_neg (by omega), w, if_neg (by omega), if_pos k1]
theorem b13_in2 (h : 0 < m) (h2 : 0 ≤ N 0 0 2 ∧ N 0 0 2 ≤ 100) (ha : 0 ≤ a ∧ a ≤ 100) (k1 : 1 < k) (v : a < N 0 0 2 - 1) : fX12_bests_13 fu m N c k day a = fX12_bests_47 fu (fX12_bests_13 fu (m - 1)) fu N c k day a (a + 1) := by
  have w : jm_w (N 0 0 2 - 1) = N 0 0 2 - 1 := jm_wid (by omega) (by omega)
  have w' : jm_w (a + 1) = a + 1 := jm_wid (by omega) (by omega)
  rw [b13_s fu m h]
  unfold gX12_bests_13 gX12_bests_29
  rw [if_neg (by omega), w, if_neg (by omega), if_neg (by omega), w']
  rfl
theorem b13_end (h : 0 < m) (h2 : 0 ≤ N 0 0 2 ∧ N 0 0 2 ≤ 100) (v : (k ≤ 0 ∧ 1 ≤ a) ∨ (0 < k ∧ N 0 0 2 - 1 ≤ a)) : fX12_bests_13 fu m N c k day a = FIN fu N c := by
  have w : jm_w (N 0 0 2 - 1) = N 0 0 2 - 1 := jm_wid (by omega) (by omega)
  rw [b13_s fu m h]
  unfold gX12_bests_13 gX12_bests_29
  rcases v with ⟨v1, v2⟩ | ⟨v1, v2⟩
  · rw [if_pos v1, if_pos v2]; rfl
  · rw [if_neg (by omega), w, if_pos v2]; rfl
end
theorem SRL.mv {M0 N0 M M1 N : jm_M} {c : Int} (h : SRL M0 N0 M N c) (im : bI bx1 M1) (km : ∀ (f : Nat) (i j : Int), f ≠ 39 → f ≠ 40 → M1 f i j = M f i j) : SRL M0 N0 M1 N c :=
  ⟨⟨im, h.1.2⟩, fun f i j y => (km f i j (by unfold SF1 at y; omega) (by unfold SF1 at y; omega)).trans (h.2.1 f i j y), h.2.2.1, (km 8 c 13 (by decide) (by decide)).trans h.2.2.2.1, h.2.2.2.2⟩
theorem KBR.mv {M M1 N : jm_M} {k : Int} (h : KBR M N k) (km : ∀ (f : Nat) (i j : Int), f ≠ 39 → f ≠ 40 → M1 f i j = M f i j) : KBR M1 N k := by
  unfold KBR at h ⊢
  rw [km 5 0 5 (by decide) (by decide), km 5 0 6 (by decide) (by decide)]
  refine ⟨h.1, fun i y1 y2 => ?_⟩
  rw [km 41 0 _ (by decide) (by decide), km 41 0 _ (by decide) (by decide)]
  exact h.2 i y1 y2
theorem c_s116 (fu : Nat) {m : Nat} (h : 0 < m) {M : jm_M} {c k day L l7 : Int} (l : l7 < 1000) : fX10_search_116 fu m M c k day c L 0 l7 = jm_s (jm_u M 8 c 13 0) fun M2 => some (1, M2) := by
  rw [s116_s fu m h]
  unfold gX10_search_116
  rw [if_neg (by omega), if_pos rfl]
/-- no stops: one way -/
theorem j_ways0 (fu : Nat) (hfu : 4000 ≤ fu) {M0 N0 : jm_M} (bas : BAS M0 N0) {c day S L : Int} (hc : 0 ≤ c ∧ c < N0 0 0 17) (s1 : M0 10 c 3 = S) (hS : S ≤ 4) (l2 : N0 0 0 2 = L + 2) (hL : -1 ≤ L ∧ L ≤ 10) {Q : Int → jm_M → Int → jm_M → Prop} (fin : ∀ M' N' : jm_M, SRL M0 N0 M' N' c → N' 0 0 88 = 1 → KBR M' N' 0 → J2 (jm_s (jm_u M' 8 c 13 0) fun M2 => some (1, M2)) (FIN fu N' c) Q) {M N : jm_M} (sr : SRL M0 N0 M N c) (n88 : N 0 0 88 = 0) : J2 (fX10_search_116 fu fu M c 0 day c L 1 0) (fX12_bests_13 fu fu N c 0 day 0) Q := by
  have b17 : 0 ≤ N0 0 0 17 ∧ N0 0 0 17 ≤ 6 := bas.2.2.2.1 0 0 17
  have hc6 : 0 ≤ c ∧ c < 6 := ⟨hc.1, by omega⟩
  have n2 : ∀ N' : jm_M, Kp (SF2 c c) N0 N' → 0 ≤ N' 0 0 2 ∧ N' 0 0 2 ≤ 100 := fun N' kN => by rw [kN 0 0 2 (by unfold SF2; omega), l2]; omega
  have in0 : jm_in 0 := jm_inL (by decide) (by decide)
  rw [s116_s fu fu (by omega), b13_in1 (by omega) (n2 N sr.2.2.1) (by decide) (Or.inl ⟨by decide, by decide⟩), b47_in (by omega) (n2 N sr.2.2.1) (Or.inl ⟨by decide, by decide⟩), b70_in (by omega) hc6 (Or.inl ⟨by decide, by decide⟩), b92_try (by omega) hc6 ⟨by decide, by decide⟩ (Or.inl ⟨by decide, by decide⟩)]
  unfold gX10_search_116
  refine J2.lF (by decide) (J2.lF (by decide) ?_)
  refine j_try fu hfu bas hc ⟨by decide, by decide⟩ sr in0 in0 ⟨by decide, by decide⟩ ⟨by decide, by decide⟩ (fun y => absurd y (by decide)) (fun y => absurd y (by decide)) ⟨fun _ => n88, fun _ => rfl⟩ (fun y => absurd n88 y) (fun M' N' sr' e88 kb' ww => ?_)
  have h2 := n2 N' sr'.2.2.1
  rw [b92_end (by omega) hc6 ⟨by decide, by decide⟩ (Or.inl ⟨by decide, by decide⟩), b70_end (by omega) hc6 ⟨by decide, by decide⟩ (Or.inl ⟨by decide, by decide⟩), b47_end (by omega) h2 ⟨by decide, by decide⟩ (Or.inl ⟨by decide, by decide⟩), b13_end (by omega) h2 (Or.inl ⟨by decide, by decide⟩)]
  have S' : M' 10 c 3 = S := (sr'.2.1 10 c 3 (by unfold SF1; omega)).trans s1
  unfold gX10_search_192
  rw [S']
  refine J2.lb (c_nextSets fu hfu sr'.1.1 ⟨by decide, by decide⟩ hS (fun i y1 y2 => absurd y2 (by omega))) (fun v M3 q => ?_)
  obtain ⟨⟨i3, f3⟩, q⟩ := q
  have v0 : v = 0 := by omega
  refine J2.lT v0 ?_
  refine J2.lb (c_nextLaps fu hfu i3 ⟨by decide, by decide⟩ hL (fun i y1 y2 => absurd y2 (by omega))) (fun u M7 p => ?_)
  obtain ⟨⟨i7, f7⟩, p⟩ := p
  have u0 : u = 0 := by omega
  refine J2.lT u0 ?_
  rw [show jm_w ((0 : Int) + 1) = 1 by decide, jm_ee, c_s116 fu (by omega) (by decide)]
  have km : ∀ (f : Nat) (i j : Int), f ≠ 39 → f ≠ 40 → M7 f i j = M' f i j := fun f i j y1 y2 => (f7 f i j y1).trans (f3 f i j y2)
  exact fin M7 N' (sr'.mv i7 km) e88 (kb'.mv km)
/-- one stop -/
theorem j_ways1 (fu : Nat) (hfu : 4000 ≤ fu) {M0 N0 : jm_M} (bas : BAS M0 N0) {c day S L : Int} (hc : 0 ≤ c ∧ c < N0 0 0 17) (s1 : M0 10 c 3 = S) (s2 : N0 19 0 c = S) (hS : S ≤ 4) (l2 : N0 0 0 2 = L + 2) (hL : -1 ≤ L ∧ L ≤ 10) {Q : Int → jm_M → Int → jm_M → Prop} (fin : ∀ M' N' : jm_M, SRL M0 N0 M' N' c → N' 0 0 88 = 1 → KBR M' N' 1 → J2 (jm_s (jm_u M' 8 c 13 0) fun M2 => some (1, M2)) (FIN fu N' c) Q) : ∀ (n : Nat) (M N : jm_M) (a sa l7 : Int) (n13 n47 n70 n92 : Nat), SRL M0 N0 M N c → (M 39 0 0 = a ∧ M 40 0 0 = sa) → (0 ≤ a ∧ a ≤ L ∧ 0 ≤ sa ∧ sa < S) → (l7 = 0 ↔ N 0 0 88 = 0) → (N 0 0 88 ≠ 0 → KBR M N 1) → (0 ≤ l7 ∧ l7 ≤ 4 * a + sa) → FU n13 n47 n70 n92 a 0 sa 0 → 2000 ≤ l7 + (n : Int) → J2 (fX10_search_116 fu n M c 1 day c L 1 l7) (AT fu n13 n47 n70 n92 N c 1 day a 0 sa 0) Q := by
  have b17 : 0 ≤ N0 0 0 17 ∧ N0 0 0 17 ≤ 6 := bas.2.2.2.1 0 0 17
  have hc6 : 0 ≤ c ∧ c < 6 := ⟨hc.1, by omega⟩
  have n2 : ∀ N' : jm_M, Kp (SF2 c c) N0 N' → N' 0 0 2 = L + 2 := fun N' kN => by rw [kN 0 0 2 (by unfold SF2; omega), l2]
  have n19 : ∀ N' : jm_M, Kp (SF2 c c) N0 N' → N' 19 0 c = S := fun N' kN => by rw [kN 19 0 c (by unfold SF2; omega), s2]
  have in0 : jm_in 0 := jm_inL (by decide) (by decide)
  intro n
  induction n with
  | zero => intro M N a sa l7 n13 n47 n70 n92 sr w0 rg fl kb bd hf hn; exfalso; omega
  | succ n ih =>
    intro M N a sa l7 n13 n47 n70 n92 sr w0 rg fl kb bd hf hn
    obtain ⟨f13, f47, f70, f92⟩ := hf
    have w7 : jm_w (l7 + 1) = l7 + 1 := jm_wid (by omega) (by omega)
    unfold AT
    rw [s116_s fu (n + 1) (by omega), b92_try (by omega) hc6 ⟨by decide, by decide⟩ (Or.inl ⟨by decide, by decide⟩), show n + 1 - 1 = n from rfl]
    unfold gX10_search_116
    refine J2.lF (by omega) (J2.lF (by decide) ?_)
    refine j_try fu hfu bas hc ⟨by decide, by decide⟩ sr (jm_inL (by omega) (by omega)) in0 ⟨by omega, by omega⟩ ⟨by decide, by decide⟩ (fun _ => w0) (fun y => absurd y (by decide)) fl kb (fun M' N' sr' e88 kb' ww => ?_)
    have h2 := n2 N' sr'.2.2.1
    have h2' : 0 ≤ N' 0 0 2 ∧ N' 0 0 2 ≤ 100 := by omega
    have h19 := n19 N' sr'.2.2.1
    have S' : M' 10 c 3 = S := (sr'.2.1 10 c 3 (by unfold SF1; omega)).trans s1
    have e0 : M' 39 0 0 = a ∧ M' 40 0 0 = sa := ⟨(ww 0).1.trans w0.1, (ww 0).2.trans w0.2⟩
    rw [b92_end (by omega) hc6 ⟨by omega, by omega⟩ (Or.inl ⟨by decide, by decide⟩)]
    unfold gX10_search_192
    rw [S']
    refine J2.lb (c_nextSets fu hfu sr'.1.1 ⟨by decide, by decide⟩ hS (fun i y1 y2 => by rw [show i = 0 by omega, e0.2]; omega)) (fun v M3 q => ?_)
    obtain ⟨⟨i3, f3⟩, q⟩ := q
    rw [e0.2] at q
    have km3 : ∀ (f : Nat) (i j : Int), f ≠ 39 → f ≠ 40 → M3 f i j = M' f i j := fun f i j _ y2 => f3 f i j y2
    rcases q with ⟨e, -⟩ | ⟨-, q⟩ | ⟨e, -⟩
    · exact absurd e (by decide)
    · rcases q with ⟨q1, q2, q3⟩ | ⟨q1, q2, q3⟩
      · refine J2.lF (by omega) ?_
        rw [w7, jm_ee, b70_in (by omega) hc6 (Or.inr ⟨by decide, by omega⟩)]
        exact ih M3 N' a (sa + 1) (l7 + 1) n13 n47 (n70 - 1) fu (sr'.mv i3 km3) ⟨(f3 39 0 0 (by decide)).trans e0.1, q3⟩ ⟨by omega, by omega, by omega, by omega⟩ ⟨fun y => by omega, fun y => by omega⟩ (fun _ => kb'.mv km3) ⟨by omega, by omega⟩ ⟨by omega, by omega, by omega, by omega⟩ (by omega)
      · refine J2.lT q2 ?_
        have e3 : M3 39 0 0 = a := (f3 39 0 0 (by decide)).trans e0.1
        rw [b70_end (by omega) hc6 ⟨by decide, by decide⟩ (Or.inr ⟨by decide, by omega⟩), b47_end (by omega) h2' ⟨by omega, by omega⟩ (Or.inl ⟨by decide, by decide⟩)]
        refine J2.lb (c_nextLaps fu hfu i3 ⟨by decide, by decide⟩ hL (fun i y1 y2 => by rw [show i = 0 by omega, e3]; omega)) (fun u M7 p => ?_)
        obtain ⟨⟨i7, f7⟩, p⟩ := p
        rw [e3] at p
        have km : ∀ (f : Nat) (i j : Int), f ≠ 39 → f ≠ 40 → M7 f i j = M' f i j := fun f i j y1 y2 => (f7 f i j y1).trans (f3 f i j y2)
        rcases p with ⟨e, -⟩ | ⟨-, p⟩ | ⟨e, -⟩
        · exact absurd e (by decide)
        · rcases p with ⟨p1, p2, p3⟩ | ⟨p1, p2⟩
          · refine J2.lF (by omega) ?_
            rw [w7, jm_ee, b13_in1 (by omega) h2' (by decide) (Or.inr ⟨by decide, by omega⟩), b47_in (by omega) h2' (Or.inl ⟨by decide, by decide⟩), b70_in (by omega) hc6 (Or.inr ⟨by decide, by omega⟩)]
            exact ih M7 N' (a + 1) 0 (l7 + 1) (n13 - 1) (fu - 1) (fu - 1) fu (sr'.mv i7 km) ⟨p3, (f7 40 0 0 (by decide)).trans q3⟩ ⟨by omega, by omega, by omega, by omega⟩ ⟨fun y => by omega, fun y => by omega⟩ (fun _ => kb'.mv km) ⟨by omega, by omega⟩ ⟨by omega, by omega, by omega, by omega⟩ (by omega)
          · refine J2.lT p2 ?_
            rw [w7, jm_ee, c_s116 fu (by omega) (by omega), b13_end (by omega) h2' (Or.inr ⟨by decide, by omega⟩)]
            exact fin M7 N' (sr'.mv i7 km) e88 (kb'.mv km)
        · exact absurd e (by decide)
    · exact absurd e (by decide)
/-! two stops: ways counted -/
def FT (a f : Int) : Prop := (a = 0 ∧ f = 0) ∨ (a = 1 ∧ f = 10) ∨ (a = 2 ∧ f = 19) ∨ (a = 3 ∧ f = 27) ∨ (a = 4 ∧ f = 34) ∨ (a = 5 ∧ f = 40) ∨ (a = 6 ∧ f = 45) ∨ (a = 7 ∧ f = 49) ∨ (a = 8 ∧ f = 52) ∨ (a = 9 ∧ f = 54)
theorem FT.b {a f : Int} (h : FT a f) : 0 ≤ a ∧ a ≤ 9 ∧ 0 ≤ f ∧ f + 9 - a ≤ 54 := by
  rcases h with h | h | h | h | h | h | h | h | h | h <;> omega
theorem FT.up {a f : Int} (h : FT a f) (ha : a ≤ 8) : FT (a + 1) (f + 10 - a) := by
  unfold FT
  rcases h with h | h | h | h | h | h | h | h | h | h
  · exact Or.inr (Or.inl (by omega))
  · exact Or.inr (Or.inr (Or.inl (by omega)))
  · exact Or.inr (Or.inr (Or.inr (Or.inl (by omega))))
  · exact Or.inr (Or.inr (Or.inr (Or.inr (Or.inl (by omega)))))
  · exact Or.inr (Or.inr (Or.inr (Or.inr (Or.inr (Or.inl (by omega))))))
  · exact Or.inr (Or.inr (Or.inr (Or.inr (Or.inr (Or.inr (Or.inl (by omega)))))))
  · exact Or.inr (Or.inr (Or.inr (Or.inr (Or.inr (Or.inr (Or.inr (Or.inl (by omega))))))))
  · exact Or.inr (Or.inr (Or.inr (Or.inr (Or.inr (Or.inr (Or.inr (Or.inr (Or.inl (by omega)))))))))
  · exact Or.inr (Or.inr (Or.inr (Or.inr (Or.inr (Or.inr (Or.inr (Or.inr (Or.inr (by omega)))))))))
  · omega
theorem j_ways2 (fu : Nat) (hfu : 4000 ≤ fu) {M0 N0 : jm_M} (bas : BAS M0 N0) {c day S L : Int} (hc : 0 ≤ c ∧ c < N0 0 0 17) (s1 : M0 10 c 3 = S) (s2 : N0 19 0 c = S) (hS : S ≤ 4) (l2 : N0 0 0 2 = L + 2) (hL : -1 ≤ L ∧ L ≤ 10) {Q : Int → jm_M → Int → jm_M → Prop} (fin : ∀ M' N' : jm_M, SRL M0 N0 M' N' c → N' 0 0 88 = 1 → KBR M' N' 2 → J2 (jm_s (jm_u M' 8 c 13 0) fun M2 => some (1, M2)) (FIN fu N' c) Q) : ∀ (n : Nat) (M N : jm_M) (a b sa sb l7 : Int) (n13 n47 n70 n92 : Nat), SRL M0 N0 M N c → (M 39 0 0 = a ∧ M 40 0 0 = sa) → (M 39 0 1 = b ∧ M 40 0 1 = sb) → (0 ≤ a ∧ a < b ∧ b ≤ L) → (0 ≤ sa ∧ sa < S ∧ 0 ≤ sb ∧ sb < S) → (l7 = 0 ↔ N 0 0 88 = 0) → (N 0 0 88 ≠ 0 → KBR M N 2) → (0 ≤ l7 ∧ ∃ f : Int, FT a f ∧ l7 ≤ 16 * (f + b - a - 1) + 4 * sa + sb) → FU n13 n47 n70 n92 a b sa sb → 2000 ≤ l7 + (n : Int) → J2 (fX10_search_116 fu n M c 2 day c L 1 l7) (AT fu n13 n47 n70 n92 N c 2 day a b sa sb) Q := by
  have b17 : 0 ≤ N0 0 0 17 ∧ N0 0 0 17 ≤ 6 := bas.2.2.2.1 0 0 17
  have hc6 : 0 ≤ c ∧ c < 6 := ⟨hc.1, by omega⟩
  have n2 : ∀ N' : jm_M, Kp (SF2 c c) N0 N' → N' 0 0 2 = L + 2 := fun N' kN => by rw [kN 0 0 2 (by unfold SF2; omega), l2]
  have n19 : ∀ N' : jm_M, Kp (SF2 c c) N0 N' → N' 19 0 c = S := fun N' kN => by rw [kN 19 0 c (by unfold SF2; omega), s2]
  intro n
  induction n with
  | zero =>
    intro M N a b sa sb l7 n13 n47 n70 n92 sr w0 w1 rg sg fl kb bd hf hn
    obtain ⟨bd0, f, ft, bd1⟩ := bd
    have fb := ft.b
    exfalso; omega
  | succ n ih =>
    intro M N a b sa sb l7 n13 n47 n70 n92 sr w0 w1 rg sg fl kb bd hf hn
    obtain ⟨bd0, f, ft, bd1⟩ := bd
    have fb := ft.b
    obtain ⟨f13, f47, f70, f92⟩ := hf
    have lt : l7 < 900 := by omega
    have w7 : jm_w (l7 + 1) = l7 + 1 := jm_wid (by omega) (by omega)
    have hN19 := n19 N sr.2.2.1
    unfold AT
    rw [s116_s fu (n + 1) (by omega), b92_try (by omega) hc6 ⟨by omega, by omega⟩ (Or.inr ⟨by decide, by omega⟩), show n + 1 - 1 = n from rfl]
    unfold gX10_search_116
    refine J2.lF (by omega) (J2.lF (by decide) ?_)
    refine j_try fu hfu bas hc ⟨by decide, by decide⟩ sr (jm_inL (by omega) (by omega)) (jm_inL (by omega) (by omega)) ⟨by omega, by omega⟩ ⟨by omega, by omega⟩ (fun _ => w0) (fun _ => w1) fl kb (fun M' N' sr' e88 kb' ww => ?_)
    have h2 := n2 N' sr'.2.2.1
    have h2' : 0 ≤ N' 0 0 2 ∧ N' 0 0 2 ≤ 100 := by omega
    have h19 := n19 N' sr'.2.2.1
    have S' : M' 10 c 3 = S := (sr'.2.1 10 c 3 (by unfold SF1; omega)).trans s1
    have e0 : M' 39 0 0 = a ∧ M' 40 0 0 = sa := ⟨(ww 0).1.trans w0.1, (ww 0).2.trans w0.2⟩
    have e1 : M' 39 0 1 = b ∧ M' 40 0 1 = sb := ⟨(ww 1).1.trans w1.1, (ww 1).2.trans w1.2⟩
    unfold gX10_search_192
    rw [S']
    refine J2.lb (c_nextSets fu hfu sr'.1.1 ⟨by decide, by decide⟩ hS (fun i y1 y2 => by
      rcases (by omega : i = 0 ∨ i = 1) with e | e
      · rw [e, e0.2]; omega
      · rw [e, e1.2]; omega)) (fun v M3 q => ?_)
    obtain ⟨⟨i3, f3⟩, q⟩ := q
    rw [e0.2, e1.2] at q
    have km3 : ∀ (f : Nat) (i j : Int), f ≠ 39 → f ≠ 40 → M3 f i j = M' f i j := fun f i j _ y2 => f3 f i j y2
    have g0 : M3 39 0 0 = a := (f3 39 0 0 (by decide)).trans e0.1
    have g1 : M3 39 0 1 = b := (f3 39 0 1 (by decide)).trans e1.1
    rcases q with ⟨e, -⟩ | ⟨e, -⟩ | ⟨-, q⟩
    · exact absurd e (by decide)
    · exact absurd e (by decide)
    rcases q with ⟨q1, q2, q3, q4⟩ | ⟨q1, q2, q3, q4, q5⟩ | ⟨q1, q2, q3, q4, q5⟩
    · refine J2.lF (by omega) ?_
      rw [w7, jm_ee]
      exact ih M3 N' a b sa (sb + 1) (l7 + 1) n13 n47 n70 (n92 - 1) (sr'.mv i3 km3) ⟨g0, q4⟩ ⟨g1, q3⟩ rg ⟨by omega, by omega, by omega, by omega⟩ ⟨fun y => by omega, fun y => by omega⟩ (fun _ => kb'.mv km3) ⟨by omega, f, ft, by omega⟩ ⟨by omega, by omega, by omega, by omega⟩ (by omega)
    · refine J2.lF (by omega) ?_
      rw [w7, jm_ee, b92_end (by omega) hc6 ⟨by omega, by omega⟩ (Or.inr ⟨by decide, by omega⟩), b70_in (by omega) hc6 (Or.inr ⟨by decide, by omega⟩)]
      exact ih M3 N' a b (sa + 1) 0 (l7 + 1) n13 n47 (n70 - 1) fu (sr'.mv i3 km3) ⟨g0, q5⟩ ⟨g1, q4⟩ rg ⟨by omega, by omega, by omega, by omega⟩ ⟨fun y => by omega, fun y => by omega⟩ (fun _ => kb'.mv km3) ⟨by omega, f, ft, by omega⟩ ⟨by omega, by omega, by omega, by omega⟩ (by omega)
    · refine J2.lT q3 ?_
      rw [b92_end (by omega) hc6 ⟨by omega, by omega⟩ (Or.inr ⟨by decide, by omega⟩), b70_end (by omega) hc6 ⟨by omega, by omega⟩ (Or.inr ⟨by decide, by omega⟩)]
      refine J2.lb (c_nextLaps fu hfu i3 ⟨by decide, by decide⟩ hL (fun i y1 y2 => by
        rcases (by omega : i = 0 ∨ i = 1) with e | e
        · rw [e, g0]; omega
        · rw [e, g1]; omega)) (fun u M7 p => ?_)
      obtain ⟨⟨i7, f7⟩, p⟩ := p
      rw [g0, g1] at p
      have km : ∀ (f : Nat) (i j : Int), f ≠ 39 → f ≠ 40 → M7 f i j = M' f i j := fun f i j y1 y2 => (f7 f i j y1).trans (f3 f i j y2)
      have s0 : M7 40 0 0 = 0 := (f7 40 0 0 (by decide)).trans q5
      have s1' : M7 40 0 1 = 0 := (f7 40 0 1 (by decide)).trans q4
      rcases p with ⟨e, -⟩ | ⟨e, -⟩ | ⟨-, p⟩
      · exact absurd e (by decide)
      · exact absurd e (by decide)
      rcases p with ⟨p1, p2, p3, p4⟩ | ⟨p1, p2, p3, p4, p5⟩ | ⟨p1, p2, p3⟩
      · refine J2.lF (by omega) ?_
        rw [w7, jm_ee, b47_in (by omega) h2' (Or.inr ⟨by decide, by omega⟩), b70_in (by omega) hc6 (Or.inr ⟨by decide, by omega⟩)]
        exact ih M7 N' a (b + 1) 0 0 (l7 + 1) n13 (n47 - 1) (fu - 1) fu (sr'.mv i7 km) ⟨p4, s0⟩ ⟨p3, s1'⟩ ⟨by omega, by omega, by omega⟩ ⟨by omega, by omega, by omega, by omega⟩ ⟨fun y => by omega, fun y => by omega⟩ (fun _ => kb'.mv km) ⟨by omega, f, ft, by omega⟩ ⟨by omega, by omega, by omega, by omega⟩ (by omega)
      · refine J2.lF (by omega) ?_
        rw [w7, jm_ee, b47_end (by omega) h2' ⟨by omega, by omega⟩ (Or.inr ⟨by decide, by omega⟩), b13_in2 (by omega) h2' ⟨by omega, by omega⟩ (by decide) (by omega), show a + 1 + 1 = a + 2 by omega, b47_in (by omega) h2' (Or.inr ⟨by decide, by omega⟩), b70_in (by omega) hc6 (Or.inr ⟨by decide, by omega⟩)]
        exact ih M7 N' (a + 1) (a + 2) 0 0 (l7 + 1) (n13 - 1) (fu - 1) (fu - 1) fu (sr'.mv i7 km) ⟨p4, s0⟩ ⟨p5, s1'⟩ ⟨by omega, by omega, by omega⟩ ⟨by omega, by omega, by omega, by omega⟩ ⟨fun y => by omega, fun y => by omega⟩ (fun _ => kb'.mv km) ⟨by omega, f + 10 - a, ft.up (by omega), by omega⟩ ⟨by omega, by omega, by omega, by omega⟩ (by omega)
      · refine J2.lT p3 ?_
        rw [w7, jm_ee, c_s116 fu (by omega) (by omega), b47_end (by omega) h2' ⟨by omega, by omega⟩ (Or.inr ⟨by decide, by omega⟩), b13_in2 (by omega) h2' ⟨by omega, by omega⟩ (by decide) (by omega), b47_end (by omega) h2' ⟨by omega, by omega⟩ (Or.inr ⟨by decide, by omega⟩), b13_end (by omega) h2' (Or.inr ⟨by decide, by omega⟩)]
        exact fin M7 N' (sr'.mv i7 km) e88 (kb'.mv km)
/-! no ways at all -/
theorem r_none1 (fu : Nat) (hfu : 4000 ≤ fu) {N : jm_M} {c day L : Int} (hc : 0 ≤ c ∧ c < 6) (l2 : N 0 0 2 = L + 2) (hL : -1 ≤ L ∧ L ≤ 10) (h19 : N 19 0 c ≤ 0) : ∀ (d n13 : Nat) (a : Int), 0 ≤ a → L + 1 - a = (d : Int) → 50 ≤ (n13 : Int) + a → fX12_bests_13 fu n13 N c 1 day a = FIN fu N c := by
  have h2 : 0 ≤ N 0 0 2 ∧ N 0 0 2 ≤ 100 := by omega
  intro d
  induction d with
  | zero => intro n13 a h0 h1 hf; exact b13_end (by omega) h2 (Or.inr ⟨by decide, by omega⟩)
  | succ d ih =>
    intro n13 a h0 h1 hf
    rw [b13_in1 (by omega) h2 (by decide) (Or.inr ⟨by decide, by omega⟩), b47_in (by omega) h2 (Or.inl ⟨by decide, by decide⟩), b70_end (by omega) hc ⟨by decide, by decide⟩ (Or.inr ⟨by decide, h19⟩), b47_end (by omega) h2 ⟨by omega, by omega⟩ (Or.inl ⟨by decide, by decide⟩)]
    exact ih (n13 - 1) (a + 1) (by omega) (by omega) (by omega)
theorem r_none2b (fu : Nat) (hfu : 4000 ≤ fu) (k13 : jm_M → Int → Int → Int → Int → jm_R) {N : jm_M} {c day a L : Int} (hc : 0 ≤ c ∧ c < 6) (l2 : N 0 0 2 = L + 2) (hL : -1 ≤ L ∧ L ≤ 10) (ha : 0 ≤ a ∧ a ≤ 100) (h19 : N 19 0 c ≤ 0) : ∀ (d n47 : Nat) (b : Int), 0 ≤ b → L + 1 - b = (d : Int) → 50 ≤ (n47 : Int) + b → fX12_bests_47 fu k13 n47 N c 2 day a b = k13 N c 2 day (a + 1) := by
  have h2 : 0 ≤ N 0 0 2 ∧ N 0 0 2 ≤ 100 := by omega
  intro d
  induction d with
  | zero => intro n47 b h0 h1 hf; exact b47_end (by omega) h2 ha (Or.inr ⟨by decide, by omega⟩)
  | succ d ih =>
    intro n47 b h0 h1 hf
    rw [b47_in (by omega) h2 (Or.inr ⟨by decide, by omega⟩), b70_end (by omega) hc ⟨by omega, by omega⟩ (Or.inr ⟨by decide, h19⟩)]
    exact ih (n47 - 1) (b + 1) (by omega) (by omega) (by omega)
theorem r_none2 (fu : Nat) (hfu : 4000 ≤ fu) {N : jm_M} {c day L : Int} (hc : 0 ≤ c ∧ c < 6) (l2 : N 0 0 2 = L + 2) (hL : -1 ≤ L ∧ L ≤ 10) (h19 : N 19 0 c ≤ 0) : ∀ (d n13 : Nat) (a : Int), 0 ≤ a → L + 1 - a = (d : Int) → 50 ≤ (n13 : Int) + a → fX12_bests_13 fu n13 N c 2 day a = FIN fu N c := by
  have h2 : 0 ≤ N 0 0 2 ∧ N 0 0 2 ≤ 100 := by omega
  intro d
  induction d with
  | zero => intro n13 a h0 h1 hf; exact b13_end (by omega) h2 (Or.inr ⟨by decide, by omega⟩)
  | succ d ih =>
    intro n13 a h0 h1 hf
    rw [b13_in2 (by omega) h2 ⟨by omega, by omega⟩ (by decide) (by omega), r_none2b fu hfu _ hc l2 hL ⟨by omega, by omega⟩ h19 d fu (a + 1) (by omega) (by omega) (by omega)]
    exact ih (n13 - 1) (a + 1) (by omega) (by omega) (by omega)
/-! the search, both -/
theorem s75_s (fu m : Nat) (h : 0 < m) : fX10_search_75 fu m = gX10_search_75 fu (fX10_search_75 fu (m - 1)) := by
  cases m with
  | zero => omega
  | succ m => rfl
theorem c_75s {fu : Nat} {K : jm_M → Int → Int → Int → Int → Int → Int → jm_R} {M : jm_M} {c k day L l6 : Int} (h0 : 0 ≤ l6 ∧ l6 < 2) (h1 : l6 < k) {y : jm_R} {Q : Int → jm_M → Int → jm_M → Prop} (h : J2 (K (jm_u (jm_u M 39 0 l6 l6) 40 0 l6 0) c k day c L (l6 + 1)) y Q) : J2 (gX10_search_75 fu K M c k day c L l6) y Q := by
  have w : jm_w (l6 + 1) = l6 + 1 := jm_wid (by omega) (by omega)
  unfold gX10_search_75
  refine J2.lF (by omega) (J2.lT h0 (J2.ls (fun M4 u4 => J2.lT h0 (J2.ls (fun M6 u6 => ?_)))))
  rw [w, jm_ee, u6, u4]
  exact h
theorem c_75e {fu : Nat} {K : jm_M → Int → Int → Int → Int → Int → Int → jm_R} {M : jm_M} {c k day L l6 : Int} (h1 : k ≤ l6) {y : jm_R} {Q : Int → jm_M → Int → jm_M → Prop} (h : J2 (fX10_search_116 fu fu (jm_u M 8 c 13 1) c k day c L 1 0) y Q) : J2 (gX10_search_75 fu K M c k day c L l6) y Q := by
  unfold gX10_search_75
  refine J2.lT h1 (J2.ls (fun M2 u2 => ?_))
  rw [u2]
  exact h
theorem c_75 (fu : Nat) (hfu : 4000 ≤ fu) {M : jm_M} (iM : bI bx1 M) {c k day L : Int} (hk : 0 ≤ k ∧ k ≤ 2) {y : jm_R} {Q : Int → jm_M → Int → jm_M → Prop} (h : ∀ M2 : jm_M, bI bx1 M2 → M2 8 c 13 = 1 → (0 < k → M2 39 0 0 = 0 ∧ M2 40 0 0 = 0) → (1 < k → M2 39 0 1 = 1 ∧ M2 40 0 1 = 0) → (∀ (f : Nat) (i j : Int), f ≠ 39 → f ≠ 40 → ¬ (f = 8 ∧ i = c ∧ j = 13) → M2 f i j = M f i j) → J2 (fX10_search_116 fu fu M2 c k day c L 1 0) y Q) : J2 (fX10_search_75 fu fu M c k day c L 0) y Q := by
  rw [s75_s fu fu (by omega)]
  rcases (by omega : k = 0 ∨ k = 1 ∨ k = 2) with e | e | e
  · rw [e] at h ⊢
    refine c_75e (by decide) (h _ (bI_u iM (jm_inL (by decide) (by decide))) jm_ueq (fun y => absurd y (by decide)) (fun y => absurd y (by decide)) (fun f i j y1 y2 y3 => jm_une y3))
  · rw [e] at h ⊢
    refine c_75s ⟨by decide, by decide⟩ (by decide) ?_
    rw [s75_s fu (fu - 1) (by omega)]
    refine c_75e (by decide) (h _ (bI_u (bI_u (bI_u iM (jm_inL (by decide) (by decide))) (jm_inL (by decide) (by decide))) (jm_inL (by decide) (by decide))) jm_ueq (fun _ => ⟨?_, ?_⟩) (fun y => absurd y (by decide)) (fun f i j y1 y2 y3 => ?_))
    · rw [jm_une_f (by decide), jm_une_f (by decide)]; exact jm_ueq
    · rw [jm_une_f (by decide)]; exact jm_ueq
    · rw [jm_une y3, jm_une_f y2, jm_une_f y1]
  · rw [e] at h ⊢
    refine c_75s ⟨by decide, by decide⟩ (by decide) ?_
    rw [s75_s fu (fu - 1) (by omega), show (0 : Int) + 1 = 1 by decide]
    refine c_75s ⟨by decide, by decide⟩ (by decide) ?_
    rw [s75_s fu (fu - 1 - 1) (by omega)]
    refine c_75e (by decide) (h _ (bI_u (bI_u (bI_u (bI_u (bI_u iM (jm_inL (by decide) (by decide))) (jm_inL (by decide) (by decide))) (jm_inL (by decide) (by decide))) (jm_inL (by decide) (by decide))) (jm_inL (by decide) (by decide))) jm_ueq (fun _ => ⟨?_, ?_⟩) (fun _ => ⟨?_, ?_⟩) (fun f i j y1 y2 y3 => ?_))
    · rw [jm_une_f (by decide), jm_une_f (by decide), jm_une_k (by decide), jm_une_f (by decide)]; exact jm_ueq
    · rw [jm_une_f (by decide), jm_une_k (by decide), jm_une_f (by decide)]; exact jm_ueq
    · rw [jm_une_f (by decide), jm_une_f (by decide)]; exact jm_ueq
    · rw [jm_une_f (by decide)]; exact jm_ueq
    · rw [jm_une y3, jm_une_f y2, jm_une_f y1, jm_une_f y2, jm_une_f y1]
theorem KBR.to {M N M1 N1 : jm_M} {k : Int} (h : KBR M N k) (km : ∀ (f : Nat) (i j : Int), f = 5 ∨ f = 41 → M1 f i j = M f i j) (kn : ∀ (f : Nat) (i j : Int), (f = 74 ∨ f = 75 ∨ (f = 0 ∧ (j = 89 ∨ j = 90 ∨ j = 17))) → N1 f i j = N f i j) : KBR M1 N1 k := by
  unfold KBR at h ⊢
  rw [km 5 0 5 (Or.inl rfl), km 5 0 6 (Or.inl rfl), kn 0 0 89 (by omega), kn 0 0 90 (by omega), kn 0 0 17 (by omega)]
  refine ⟨h.1, fun i y1 y2 => ?_⟩
  rw [km 41 0 _ (Or.inr rfl), km 41 0 _ (Or.inr rfl), kn 74 0 _ (by omega), kn 75 0 _ (by omega)]
  exact h.2 i y1 y2
def SEA (M0 N0 : jm_M) (c k : Int) (v : Int) (M1 : jm_M) (w : Int) (N1 : jm_M) : Prop := v = w ∧ (bI bx1 M1 ∧ bI bx2 N1) ∧ (Kp (SF1 c c) M0 M1 ∧ M1 8 c 13 = 0) ∧ Kp (SF2 c c) N0 N1 ∧ (v = 0 ∨ (v = 1 ∧ KBR M1 N1 k))
theorem j_search (fu : Nat) (hfu : 4000 ≤ fu) {M0 N0 : jm_M} (bas : BAS M0 N0) (iM : bI bx1 M0) {c k day : Int} (hc : 0 ≤ c ∧ c < N0 0 0 17) (hk : 0 ≤ k ∧ k ≤ 2) : J2 (fX10_search fu M0 c k day) (fX12_bests fu N0 c k day) (SEA M0 N0 c k) := by
  obtain ⟨tl, ir, n, i0, z⟩ := id bas
  have b17 : 0 ≤ N0 0 0 17 ∧ N0 0 0 17 ≤ 6 := i0 0 0 17
  have b2 : 1 ≤ N0 0 0 2 ∧ N0 0 0 2 ≤ 12 := i0 0 0 2
  have b19 : 0 ≤ N0 19 0 c ∧ N0 19 0 c ≤ 4 := i0 19 0 c
  have hc6 : 0 ≤ c ∧ c < 6 := ⟨hc.1, by omega⟩
  have s5 : M0 2 0 5 = N0 0 0 17 := tl.2.1.1.2.2
  have s1 : M0 1 0 1 = N0 0 0 2 := tl.2.1.1.2.1
  have sS : M0 10 c 3 = N0 19 0 c := (tl.1.2.2.1 c hc.1 hc.2).1
  have wL : jm_w (M0 1 0 1 - 2) = N0 0 0 2 - 2 := by rw [s1]; exact jm_wid (by omega) (by omega)
  have l2 : N0 0 0 2 = (N0 0 0 2 - 2) + 2 := by omega
  have hL : -1 ≤ N0 0 0 2 - 2 ∧ N0 0 0 2 - 2 ≤ 10 := by omega
  unfold fX10_search fX12_bests
  refine J2.lq (s_fX2_has M0 iM c (jm_inL (by omega) (by omega))) (fun v1 g1 => J2.lF (by omega) ?_)
  refine J2.lq (s_fX11_isWithin M0 iM k 0 2 (jm_inL (by omega) (by omega)) (jm_inL (by decide) (by decide)) (jm_inL (by decide) (by decide))) (fun v5 g5 => J2.lF (by omega) (J2.lT hc6 ?_))
  rw [wL, jm_ee]
  refine J2.rs (fun N1 u1 => ?_)
  have i1 : bI bx2 N1 := by rw [u1]; exact bI_u i0 (show (0 : Int) ≤ 0 ∧ (0 : Int) ≤ 1 by decide)
  refine J2.rb (wp_pw (s_fX12_clears fu hfu N1 i1 c ⟨by omega, by omega⟩) (h_clears fu c hc6)) (fun _ N3 q3 => ?_)
  obtain ⟨⟨i3, -, -⟩, ⟨x73, x26, x60⟩, -, x3⟩ := q3
  have kN3 : Kp (SF2 c c) N0 N3 := fun f i j y => by
    rw [x3 f i j (by unfold SF2 at y; omega) (by unfold SF2 at y; omega), u1]
    exact jm_une (by unfold SF2 at y; omega)
  have n88 : N3 0 0 88 = 0 := by rw [x3 0 0 88 (by omega) (by omega), u1]; exact jm_ueq
  have n2 : N3 0 0 2 = (N0 0 0 2 - 2) + 2 := by rw [kN3 0 0 2 (by unfold SF2; omega)]; exact l2
  have n2' : 0 ≤ N3 0 0 2 ∧ N3 0 0 2 ≤ 100 := by omega
  have n19 : N3 19 0 c = N0 19 0 c := kN3 19 0 c (by unfold SF2; omega)
  have pbk : ∀ N' : jm_M, bI bx2 N' → wp (fX12_putsBack fu N' c) (fun _ N4 => bI bx2 N4 ∧ PBK c N' N4) := fun N' i' => by
    obtain ⟨v, N4, e, p, q⟩ := wp_pw (s_fX12_putsBack fu hfu N' i' c ⟨by omega, by omega⟩) (h_putsBack fu c hc6)
    exact ⟨v, N4, e, p.1, q⟩
  have fin0 : J2 (some (0, M0)) (FIN fu N3 c) (SEA M0 N0 c k) := by
    unfold FIN
    refine J2.rb (pbk N3 i3) (fun _ N4 q => ?_)
    have e88 : N4 0 0 88 = 0 := (q.2.2.2 0 0 88 (by omega) (by omega)).trans n88
    exact J2.rT (Or.inl e88) (J2.ret ⟨e88.symm, ⟨iM, q.1⟩, ⟨Kp.rf, z c hc.1 hc.2⟩, fun f i j y => (q.2.2.2 f i j (by unfold SF2 at y; omega) (by unfold SF2 at y; omega)).trans (kN3 f i j y), Or.inl rfl⟩)
  have fin : ∀ M' N' : jm_M, SRL M0 N0 M' N' c → N' 0 0 88 = 1 → KBR M' N' k → J2 (jm_s (jm_u M' 8 c 13 0) fun M2 => some (1, M2)) (FIN fu N' c) (SEA M0 N0 c k) := fun M' N' sr e1 kb => by
    refine J2.ls (fun M2 u2 => ?_)
    unfold FIN
    refine J2.rb (pbk N' sr.1.2) (fun _ N4 q => ?_)
    have e88 : N4 0 0 88 = 1 := (q.2.2.2 0 0 88 (by omega) (by omega)).trans e1
    refine J2.rT (Or.inr e88) (J2.ret ⟨e88.symm, ⟨by rw [u2]; exact bI_u sr.1.1 (jm_inL (by decide) (by decide)), q.1⟩, ⟨fun f i j y => ?_, by rw [u2]; exact jm_ueq⟩, fun f i j y => (q.2.2.2 f i j (by unfold SF2 at y; omega) (by unfold SF2 at y; omega)).trans (sr.2.2.1 f i j y), Or.inr ⟨rfl, kb.to (fun f i j y => by rw [u2]; exact jm_une_f (by omega)) (fun f i j y => q.2.2.2 f i j (by omega) (by omega))⟩⟩)
    rw [u2, jm_une (by unfold SF1 at y; omega)]
    exact sr.2.1 f i j y
  have srl : ∀ M2 : jm_M, bI bx1 M2 → M2 8 c 13 = 1 → (∀ (f : Nat) (i j : Int), f ≠ 39 → f ≠ 40 → ¬ (f = 8 ∧ i = c ∧ j = 13) → M2 f i j = M0 f i j) → SRL M0 N0 M2 N3 c := fun M2 i2 e fr => ⟨⟨i2, i3⟩, fun f i j y => fr f i j (by unfold SF1 at y; omega) (by unfold SF1 at y; omega) (by unfold SF1 at y; omega), kN3, e, x60⟩
  rcases (by omega : k = 0 ∨ k = 1 ∨ k = 2) with e | e | e
  · rw [e] at fin ⊢
    exact J2.lT (by decide) (c_75 fu hfu iM ⟨by decide, by decide⟩ (fun M2 i2 e13 w0 w1 fr => j_ways0 fu hfu bas hc sS b19.2 l2 hL fin (srl M2 i2 e13 fr) n88))
  · rw [e] at fin fin0 ⊢
    refine J2.lF (by decide) (J2.li (fun s0 => ?_) (fun s0 => ?_))
    · rw [r_none1 fu hfu hc6 n2 hL (by omega) (N0 0 0 2 - 2 + 1).toNat fu 0 (by decide) (by omega) (by omega)]
      exact fin0
    · rw [show jm_w ((1 : Int) - 1) = 0 by decide]
      refine J2.li (fun c0 => ?_) (fun c0 => ?_)
      · rw [b13_in1 (by omega) n2' (by decide) (Or.inr ⟨by decide, by omega⟩), b47_in (by omega) n2' (Or.inl ⟨by decide, by decide⟩), b70_in (by omega) hc6 (Or.inr ⟨by decide, by omega⟩)]
        exact c_75 fu hfu iM ⟨by decide, by decide⟩ (fun M2 i2 e13 w0 w1 fr => j_ways1 fu hfu bas hc sS rfl b19.2 l2 hL fin fu M2 N3 0 0 0 (fu - 1) (fu - 1) (fu - 1) fu (srl M2 i2 e13 fr) (w0 (by decide)) ⟨by decide, by omega, by decide, by omega⟩ ⟨fun _ => n88, fun _ => rfl⟩ (fun y => absurd n88 y) ⟨by decide, by decide⟩ ⟨by omega, by omega, by omega, by omega⟩ (by omega))
      · rw [b13_end (by omega) n2' (Or.inr ⟨by decide, by omega⟩)]
        exact fin0
  · rw [e] at fin fin0 ⊢
    refine J2.lF (by decide) (J2.li (fun s0 => ?_) (fun s0 => ?_))
    · rw [r_none2 fu hfu hc6 n2 hL (by omega) (N0 0 0 2 - 2 + 1).toNat fu 0 (by decide) (by omega) (by omega)]
      exact fin0
    · rw [show jm_w ((2 : Int) - 1) = 1 by decide]
      refine J2.li (fun c0 => ?_) (fun c0 => ?_)
      · rw [b13_in2 (by omega) n2' ⟨by decide, by decide⟩ (by decide) (by omega), show (0 : Int) + 1 = 1 by decide, b47_in (by omega) n2' (Or.inr ⟨by decide, by omega⟩), b70_in (by omega) hc6 (Or.inr ⟨by decide, by omega⟩)]
        exact c_75 fu hfu iM ⟨by decide, by decide⟩ (fun M2 i2 e13 w0 w1 fr => j_ways2 fu hfu bas hc sS rfl b19.2 l2 hL fin fu M2 N3 0 1 0 0 0 (fu - 1) (fu - 1) (fu - 1) fu (srl M2 i2 e13 fr) (w0 (by decide)) (w1 (by decide)) ⟨by decide, by decide, c0⟩ ⟨by decide, by omega, by decide, by omega⟩ ⟨fun _ => n88, fun _ => rfl⟩ (fun y => absurd n88 y) ⟨by decide, 0, Or.inl ⟨rfl, rfl⟩, by decide⟩ ⟨by omega, by omega, by omega, by omega⟩ (by omega))
      · rcases (by omega : N0 0 0 2 = 1 ∨ N0 0 0 2 = 2) with y | y
        · rw [b13_end (by omega) n2' (Or.inr ⟨by decide, by omega⟩)]
          exact fin0
        · rw [b13_in2 (by omega) n2' ⟨by decide, by decide⟩ (by decide) (by omega), b47_end (by omega) n2' ⟨by decide, by decide⟩ (Or.inr ⟨by decide, by omega⟩), b13_end (by omega) n2' (Or.inr ⟨by decide, by omega⟩)]
          exact fin0
/-! the best way told -/
theorem b47c_s (fu m : Nat) (h : 0 < m) : fX11_best_47 fu m = gX11_best_47 fu (fX11_best_47 fu (m - 1)) := by
  cases m with
  | zero => omega
  | succ m => rfl
theorem b37_s (fu m : Nat) (h : 0 < m) : fX12_best_37 fu m = gX12_best_37 fu (fX12_best_37 fu (m - 1)) := by
  cases m with
  | zero => omega
  | succ m => rfl
theorem c_b47 (fu : Nat) (M0 : jm_M) {k : Int} (hk : 0 ≤ k ∧ k ≤ 2) : ∀ (n : Nat) (M : jm_M) (l4 : Int), Kp (fun f _ _ => f ≠ 13) M0 M → (∀ j : Int, 0 ≤ j → j < l4 → M 13 0 j = M0 41 0 j) → (∀ j : Int, l4 ≤ j → M 13 0 j = M0 13 0 j) → 0 ≤ l4 → l4 ≤ 2 * k → 2 * k - l4 < (n : Int) → wp (fX11_best_47 fu n M k l4) (fun v M1 => v = (if M0 5 0 5 = 99 then -2 else M0 5 0 5) ∧ M1 0 0 9 = 2 * k ∧ (∀ j : Int, 0 ≤ j → j < 2 * k → M1 13 0 j = M0 41 0 j) ∧ ∀ j : Int, 2 * k ≤ j → M1 13 0 j = M0 13 0 j) := by
  have wk : jm_w (2 * k) = 2 * k := jm_wid (by omega) (by omega)
  intro n
  induction n with
  | zero => intro M l4 _ _ _ _ _ hm; exfalso; omega
  | succ n ih =>
    intro M l4 kM a1 a2 h0 h1 hm
    rw [b47c_s fu (n + 1) (by omega), show n + 1 - 1 = n from rfl]
    unfold gX11_best_47
    rw [wk]
    refine wp_ite (fun c => ?_) (fun c => ?_)
    · have e : l4 = 2 * k := by omega
      unfold gX11_best_85
      rw [wk]
      refine wp_sv (fun M1 u1 => ?_)
      have e5 : M1 5 0 5 = M0 5 0 5 := by rw [u1, jm_une_f (by decide)]; exact kM 5 0 5 (by decide)
      have r : M1 0 0 9 = 2 * k ∧ (∀ j : Int, 0 ≤ j → j < 2 * k → M1 13 0 j = M0 41 0 j) ∧ ∀ j : Int, 2 * k ≤ j → M1 13 0 j = M0 13 0 j := ⟨by rw [u1]; exact jm_ueq, fun j y1 y2 => by rw [u1, jm_une_f (by decide)]; exact a1 j y1 (by omega), fun j y1 => by rw [u1, jm_une_f (by decide)]; exact a2 j (by omega)⟩
      rw [e5]
      refine wp_ite (fun c => wp_ret ⟨(if_pos c).symm, r⟩) (fun c => wp_ret ⟨(if_neg c).symm, r⟩)
    · refine wp_F (by omega) (wp_T ⟨h0, by omega⟩ (wp_T ⟨h0, by omega⟩ (wp_sv (fun M6 u6 => ?_))))
      have w : jm_w (l4 + 1) = l4 + 1 := jm_wid (by omega) (by omega)
      rw [w, jm_ee]
      refine ih M6 (l4 + 1) (fun f i j y => ?_) (fun j y1 y2 => ?_) (fun j y1 => ?_) (by omega) (by omega) (by omega)
      · rw [u6, jm_une_f y]; exact kM f i j y
      · by_cases e : j = l4
        · rw [e, u6, jm_ueq]; exact kM 41 0 l4 (show (41 : Nat) ≠ 13 by decide)
        · rw [u6, jm_une_k e]; exact a1 j y1 (by omega)
      · rw [u6, jm_une_k (by omega)]; exact a2 j (by omega)
theorem d_b37 (fu : Nat) (N0 : jm_M) {k : Int} (hk : 0 ≤ k ∧ k ≤ 2) : ∀ (n : Nat) (N : jm_M) (l4 : Int), Kp (fun f _ _ => f ≠ 69) N0 N → (∀ i : Int, 0 ≤ i → i < l4 → N 69 0 (2 * i) = N0 74 0 i ∧ N 69 0 (2 * i + 1) = N0 75 0 i) → (∀ j : Int, 2 * l4 ≤ j → N 69 0 j = N0 69 0 j) → 0 ≤ l4 → l4 ≤ k → k - l4 < (n : Int) → wp (fX12_best_37 fu n N k l4) (fun w N1 => w = (if 0 ≤ N0 0 0 89 then N0 0 0 89 else -2) ∧ N1 0 0 82 = N0 0 0 82 ∧ (∀ i : Int, 0 ≤ i → i < k → N1 69 0 (2 * i) = N0 74 0 i ∧ N1 69 0 (2 * i + 1) = N0 75 0 i) ∧ ∀ j : Int, 2 * k ≤ j → N1 69 0 j = N0 69 0 j) := by
  intro n
  induction n with
  | zero => intro N l4 _ _ _ _ _ hm; exfalso; omega
  | succ n ih =>
    intro N l4 kN a1 a2 h0 h1 hm
    rw [b37_s fu (n + 1) (by omega), show n + 1 - 1 = n from rfl]
    unfold gX12_best_37
    have e89 : N 0 0 89 = N0 0 0 89 := kN 0 0 89 (by decide)
    rw [e89]
    refine wp_ite (fun c => ?_) (fun c => ?_)
    · have e : l4 = k := by omega
      rw [e] at a1 a2
      exact wp_ite (fun c => wp_ret ⟨(if_pos c).symm, kN 0 0 82 (by decide), a1, a2⟩) (fun c => wp_ret ⟨(if_neg c).symm, kN 0 0 82 (by decide), a1, a2⟩)
    · have w2 : jm_w (2 * l4) = 2 * l4 := jm_wid (by omega) (by omega)
      have w3 : jm_w (2 * l4 + 1) = 2 * l4 + 1 := jm_wid (by omega) (by omega)
      have w : jm_w (l4 + 1) = l4 + 1 := jm_wid (by omega) (by omega)
      rw [w2, w3, w]
      refine wp_T ⟨h0, by omega⟩ (wp_T ⟨by omega, by omega⟩ (wp_sv (fun M8 u8 => wp_T ⟨h0, by omega⟩ (wp_T ⟨by omega, by omega⟩ (wp_sv (fun M12 u12 => ?_))))))
      rw [jm_ee]
      have f12 : ∀ (f : Nat) (i j : Int), f ≠ 69 → M12 f i j = N f i j := fun f i j y => by rw [u12, jm_une_f y, u8, jm_une_f y]
      have e8 : M8 75 0 l4 = N0 75 0 l4 := by rw [u8, jm_une_f (by decide)]; exact kN 75 0 l4 (show (75 : Nat) ≠ 69 by decide)
      refine ih M12 (l4 + 1) (fun f i j y => (f12 f i j y).trans (kN f i j y)) (fun i y1 y2 => ?_) (fun j y1 => ?_) (by omega) (by omega) (by omega)
      · by_cases e : i = l4
        · rw [e]
          refine ⟨?_, ?_⟩
          · rw [u12, jm_une_k (by omega), u8, jm_ueq]; exact kN 74 0 l4 (show (74 : Nat) ≠ 69 by decide)
          · rw [u12, jm_ueq]; exact e8
        · obtain ⟨x1, x2⟩ := a1 i y1 (by omega)
          refine ⟨?_, ?_⟩
          · rw [u12, jm_une_k (by omega), u8, jm_une_k (by omega)]; exact x1
          · rw [u12, jm_une_k (by omega), u8, jm_une_k (by omega)]; exact x2
      · rw [u12, jm_une_k (by omega), u8, jm_une_k (by omega)]; exact a2 j (by omega)
theorem bas_of {fu : Nat} {M N N1 : jm_M} (iv : IW M N) (it : IT M N) (ca : CA fu M N) (ir : IR M N) (u1 : N1 = jm_u N 0 0 0 0) : BAS M N1 := by
  have iN := iv.1.2.1
  obtain ⟨j1, tl1, ca1, d1, d2, d17⟩ := q_pre iN it ca u1
  have b17 : 0 ≤ N 0 0 17 ∧ N 0 0 17 ≤ 6 := iN 0 0 17
  have ir1 : IR M N1 := ir.m7 iN (Or.inl rfl) (by rw [u1]; exact X2.r0)
  have n75 : M 10 32 3 = N 0 0 75 := iv.1.2.2.2.1.2.2.2.2.2.1
  have n3 : M 3 0 3 = N 0 0 72 := iv.2.2.2
  refine ⟨tl1, ir1, ⟨?_, ?_⟩, j1, fun o y1 y2 => ?_⟩
  · rw [u1, jm_une_k (by decide)]; exact n75
  · rw [u1, jm_une_k (by decide)]; exact n3
  · rw [d17] at y2
    exact (it.1.2.2.1 o y1 y2).2.1.2.trans (it.2 o y1 (by omega))
theorem aw_best (fu : Nat) (hfu : 4000 ≤ fu) (M N : jm_M) (iv : IW M N) (it : IT M N) (ca : CA fu M N) (ir : IR M N) (l1 l2 l3 : Int) (h1 : jm_in l1) (h2 : jm_in l2) (h3 : jm_in l3) : J2 (fX11_best fu M l1 l2 l3) (fX12_best fu N l1 l2 l3) (fun v M1 w N1 => v = w ∧ (M 0 0 9 = N 0 0 82 ∧ RW6 M N → M1 0 0 9 = N1 0 0 82 ∧ RW6 M1 N1)) := by
  have iM := iv.1.1
  have iN := iv.1.2.1
  obtain ⟨⟨s0, s1, s5⟩, -, -, -⟩ := id it.1.2.1
  have b17 : 0 ≤ N 0 0 17 ∧ N 0 0 17 ≤ 6 := iN 0 0 17
  unfold fX11_best fX12_best
  refine J2.rs (fun N1 u1 => ?_)
  obtain ⟨j1, -, -, d1, d2, d17⟩ := q_pre iN it ca u1
  have keep : M 0 0 9 = N 0 0 82 ∧ RW6 M N → M 0 0 9 = N1 0 0 82 ∧ RW6 M N1 := fun h => ⟨by rw [u1, jm_une_k (by decide)]; exact h.1, fun j y1 y2 => by rw [u1, jm_une_f (by decide)]; exact h.2 j y1 y2⟩
  refine J2.rq (s_fX12_isAsked N1 j1 l1 l2 l3 h1 h2 h3) (fun v2 g2 => ?_)
  rw [d17] at g2
  refine J2.lq (s_fX2_has M iM l1 h1) (fun v1 g1 => J2.li (fun z1 => J2.rT (by omega) (J2.ret ⟨rfl, keep⟩)) (fun z1 => ?_))
  refine J2.lq (s_fX11_isWithin M iM l2 0 2 h2 (jm_inL (by decide) (by decide)) (jm_inL (by decide) (by decide))) (fun v5 g5 => J2.li (fun z5 => J2.rT (by omega) (J2.ret ⟨rfl, keep⟩)) (fun z5 => ?_))
  refine J2.lq (s_fX11_isDay M iM l3 h3) (fun v9 g9 => J2.li (fun z9 => J2.rT (by omega) (J2.ret ⟨rfl, keep⟩)) (fun z9 => J2.rF (by omega) ?_))
  have hk : 0 ≤ l2 ∧ l2 ≤ 2 := by omega
  refine J2.bb (j_search fu hfu (bas_of iv it ca ir u1) iM (c := l1) (k := l2) ⟨by omega, by omega⟩ hk) (fun v M7 w N7 q => ?_)
  obtain ⟨ev, ⟨i7, j7⟩, ⟨kM, -⟩, kN, q⟩ := q
  have keep7 : M 0 0 9 = N 0 0 82 ∧ RW6 M N → M7 0 0 9 = N7 0 0 82 ∧ RW6 M7 N7 := fun h => by
    obtain ⟨g1, g2⟩ := keep h
    refine ⟨by rw [kM 0 0 9 (by unfold SF1; omega), kN 0 0 82 (by unfold SF2; omega)]; exact g1, fun j y1 y2 => ?_⟩
    rw [kM 13 0 j (by unfold SF1; omega), kN 69 0 j (by unfold SF2; omega)]
    exact g2 j y1 y2
  refine J2.bi (by omega) (fun _ => J2.ret ⟨rfl, keep7⟩) (fun z => ?_)
  rcases q with q | ⟨-, kb⟩
  · exact absurd q z
  obtain ⟨kb1, kb2⟩ := kb
  have w2 : jm_w (2 * l2) = 2 * l2 := jm_wid (by omega) (by omega)
  obtain ⟨va, Ma, ea, a1, a2, a3, a4⟩ := c_b47 fu M7 hk fu M7 0 Kp.rf (fun j y1 y2 => absurd y2 (by omega)) (fun _ _ => rfl) (by decide) (by omega) (by omega)
  rw [ea, w2]
  refine J2.rs (fun N8 u8 => ?_)
  obtain ⟨wb, Nb, eb, b1, b2, b3, b4⟩ := d_b37 fu N8 hk fu N8 0 Kp.rf (fun j y1 y2 => absurd y2 (by omega)) (fun _ _ => rfl) (by decide) (by omega) (by omega)
  rw [eb]
  have e89 : N8 0 0 89 = N7 0 0 89 := by rw [u8]; exact jm_une_k (by decide)
  have e8 : ∀ (f : Nat) (i j : Int), f ≠ 0 → N8 f i j = N7 f i j := fun f i j y => by rw [u8]; exact jm_une_f y
  refine J2.ret ⟨?_, fun h => ⟨?_, fun j y1 y2 => ?_⟩⟩
  · rcases kb1 with ⟨x1, x2, -⟩ | ⟨x1, x2, x3, -⟩
    · rw [a1, b1, if_pos x1, if_neg (by omega)]
    · rw [a1, b1, if_neg (by omega), if_pos (by omega), e89, x1]
  · rw [a2, b2, u8]; exact jm_ueq.symm
  · by_cases y : j < 2 * l2
    · obtain ⟨i, hi⟩ : ∃ i : Int, j = 2 * i ∨ j = 2 * i + 1 := ⟨j / 2, by omega⟩
      obtain ⟨x1, x2⟩ := kb2 i (by omega) (by omega)
      rcases hi with e | e
      · rw [e, a3 _ (by omega) (by omega), (b3 i (by omega) (by omega)).1, e8 74 0 i (by decide)]; exact x1
      · rw [e, a3 _ (by omega) (by omega), (b3 i (by omega) (by omega)).2, e8 75 0 i (by decide)]; exact x2
    · rw [a4 j (by omega), b4 j (by omega), e8 69 0 j (by decide)]
      exact (keep7 h).2 j y1 y2
theorem a_best (fu : Nat) (hfu : 4000 ≤ fu) (M N : jm_M) (iv : IW M N) (it : IT M N) (ca : CA fu M N) (ir : IR M N) (l1 l2 l3 : Int) (h1 : jm_in l1) (h2 : jm_in l2) (h3 : jm_in l3) : J2 (fX11_best fu M l1 l2 l3) (fX12_best fu N l1 l2 l3) (fun v _ w _ => v = w) := (aw_best fu hfu M N iv it ca ir l1 l2 l3 h1 h2 h3).mono (fun _ _ _ _ q => q.1)
/-! the gain -/
theorem j_jud2 (fu : Nat) (hfu : 4000 ≤ fu) {M N : jm_M} (iM : bI bx1 M) (iN : bI bx2 N) (tl : TLD M N) (ca : CA fu M N) (ir : IR M N) (n75 : M 10 32 3 = N 0 0 75) (n3 : M 3 0 3 = N 0 0 72) (day : Int) : J2 (jm_b (fX2_reckon fu M) fun _ M6 => fX5_reckonFor fu M6 day) (fX12_judges fu N day) (fun _ M9 _ N9 => (bI bx1 M9 ∧ bI bx2 N9) ∧ JG M9 N9 (N9 0 0 17) ∧ (M9 2 0 5 = N9 0 0 17 ∧ N9 0 0 17 = N 0 0 17) ∧ (∀ o : Int, 0 ≤ o → o < N9 0 0 17 → M9 8 o 4 = N9 17 0 o) ∧ Kp TA M M9) := by
  unfold fX12_judges
  refine J2.bb (j_reckon2 fu hfu iM iN tl ca) (fun v M6 w N7 q => ?_)
  obtain ⟨⟨⟨i6, j7⟩, ⟨k6, k7⟩, c6, tl6, run⟩, gw, dn⟩ := q
  have k17 : Kp X2 N N7 := k7.weak (fun f i k y => by unfold X2 at y; unfold KR2; omega)
  have jc : JC M6 N7 := ⟨tl6, run, ir.ta iN k6 k17, ⟨by rw [k6 10 32 3 (by unfold TA; omega), k7 0 0 75 (by unfold KR2; omega)]; exact n75, by rw [k6 3 0 3 (by unfold TA; omega), k7 0 0 72 (by unfold KR2; omega)]; exact n3⟩, gw, dn⟩
  refine (j_judge fu hfu i6 j7 jc day).mono (fun va M9 wa N9 g => ?_)
  obtain ⟨ib, g1, g2, jg⟩ := g
  have n17 : N9 0 0 17 = N7 0 0 17 := g2 0 0 17 (by unfold KJ2; omega)
  refine ⟨ib, by rw [n17]; exact jg, ⟨by rw [n17, g1 2 0 5 (by unfold KJ1; decide)]; exact tl6.2.1.1.2.2, n17.trans (k7 0 0 17 (by unfold KR2; omega))⟩, fun o y1 y2 => ?_, fun f i k y => (g1 f i k (by unfold TA at y; unfold KJ1; omega)).trans (k6 f i k y)⟩
  rw [n17] at y2
  rw [g1 8 o 4 (by unfold KJ1; decide), g2 17 0 o (by unfold KJ2; omega)]
  exact (tl6.2.2.1 o y1 y2).1.2.2.2.2.1
theorem a_gain (fu : Nat) (hfu : 4000 ≤ fu) (M N : jm_M) (iv : IW M N) (it : IT M N) (ca : CA fu M N) (ir : IR M N) (l1 l2 l3 : Int) (h1 : jm_in l1) (h2 : jm_in l2) (h3 : jm_in l3) : J2 (fX11_gain fu M l1 l2 l3) (fX12_gain fu N l1 l2 l3) (fun v _ w _ => v = w) := by
  have iM := iv.1.1
  have iN := iv.1.2.1
  obtain ⟨⟨s0, s1, s5⟩, -, -, -⟩ := id it.1.2.1
  have b17 : 0 ≤ N 0 0 17 ∧ N 0 0 17 ≤ 6 := iN 0 0 17
  unfold fX11_gain fX12_gain
  refine J2.rs (fun N1 u1 => ?_)
  obtain ⟨j1, tl1, ca1, d1, d2, d17⟩ := q_pre iN it ca u1
  refine J2.rq (s_fX12_isAsked N1 j1 l1 l2 l3 h1 h2 h3) (fun v2 g2 => ?_)
  rw [d17] at g2
  refine J2.lq (s_fX2_has M iM l1 h1) (fun v1 g1 => J2.li (fun z1 => J2.rT (by omega) (J2.ret rfl)) (fun z1 => ?_))
  refine J2.lq (s_fX11_isWithin M iM l2 0 2 h2 (jm_inL (by decide) (by decide)) (jm_inL (by decide) (by decide))) (fun v5 g5 => J2.li (fun z5 => J2.rT (by omega) (J2.ret rfl)) (fun z5 => ?_))
  refine J2.lq (s_fX11_isDay M iM l3 h3) (fun v9 g9 => J2.li (fun z9 => J2.rT (by omega) (J2.ret rfl)) (fun z9 => J2.rF (by omega) ?_))
  have hk : 0 ≤ l2 ∧ l2 ≤ 2 := by omega
  have hc1 : 0 ≤ l1 ∧ l1 < N1 0 0 17 := ⟨by omega, by omega⟩
  have hc6 : 0 ≤ l1 ∧ l1 < 6 := ⟨by omega, by omega⟩
  have bas := bas_of iv it ca ir u1
  obtain ⟨va, M9, wa, N9v, ea, -, ⟨i9, -⟩, -, -, -, t9⟩ := j_jud2 fu hfu iM j1 tl1 ca1 bas.2.1 bas.2.2.1.1 bas.2.2.1.2 l3
  have bas9 : BAS M9 N1 := ⟨tl1.kk j1 (RL1.ta t9) (fun c f k _ _ _ y => t9 f _ k (by unfold CTX at y; unfold TA; omega)) Kp.rf, bas.2.1.ta j1 t9 Kp.rf, ⟨(t9 10 32 3 (by unfold TA; omega)).trans bas.2.2.1.1, (t9 3 0 3 (by unfold TA; omega)).trans bas.2.2.1.2⟩, j1, fun o y1 y2 => (t9 8 o 13 (by unfold TA; omega)).trans (bas.2.2.2.2 o y1 y2)⟩
  obtain ⟨v, M7, w, N7, ec, er, q⟩ := j_search fu hfu bas9 i9 (c := l1) (k := l2) (day := l3) hc1 hk
  have kR : Kp RLX N1 N7 := rl_bests fu l1 l2 l3 hc6 (by rw [u1, jm_une_f (by decide)]; exact it.2 l1 hc6.1 hc6.2) w N7 er
  obtain ⟨ev, ⟨i7, j7⟩, ⟨kM, -⟩, kN, q⟩ := q
  have kL := RLX.rl kR
  have tl7 : TLD M N7 := tl1.kk j1 Kp.rf (fun _ _ _ _ _ _ _ => rfl) kL
  have ca7 : CA fu M N7 := ca1.keep j1 Kp.rf kL
  have ir7 : IR M N7 := bas.2.1.kk j1 Kp.rf (fun _ _ _ _ _ _ => rfl) (X2.rl kR)
  obtain ⟨vb, M9', wb, N9, eb1, eb2, ⟨i9', j9⟩, jg, ⟨n5, n17⟩, m84, -⟩ := j_jud2 fu hfu iM j7 tl7 ca7 ir7 (by rw [kR 0 0 75 (by unfold RLX; omega)]; exact bas.2.2.1.1) (by rw [kR 0 0 72 (by unfold RLX; omega)]; exact bas.2.2.1.2) l3
  have eM : M9' = M9 := by
    rw [ea] at eb1
    exact ((Prod.mk.inj (Option.some.inj eb1)).2).symm
  rw [eM] at jg n5 m84
  have n7 : N7 0 0 17 = N1 0 0 17 := kR 0 0 17 (by unfold RLX; omega)
  have hc9 : 0 ≤ l1 ∧ l1 < N9 0 0 17 := ⟨hc1.1, by omega⟩
  have b9 : 0 ≤ N9 0 0 17 ∧ N9 0 0 17 ≤ 6 := j9 0 0 17
  obtain ⟨p, Ma, pz, Na, ep1, ep2, ⟨p1, p2, p3⟩, p4, p5⟩ := j_place fu hfu j9 n5 m84 jg hc9 (x := -1) (y := 0) (Or.inl ⟨rfl, rfl⟩)
  rw [← jm_ba (fX2_reckon fu M) (fun _ M6 => fX5_reckonFor fu M6 l3), ea, jm_bsm, ep1, jm_bsm, p1, ec, jm_bsm, er, jm_bsm]
  refine J2.bi (by omega) (fun _ => J2.ret rfl) (fun z => ?_)
  rcases q with q | ⟨-, kb⟩
  · exact absurd q z
  have m5 : M7 2 0 5 = N9 0 0 17 := (kM 2 0 5 (by unfold SF1; omega)).trans n5
  have ref : ∀ T : Int, gX12_gain_45 fu N7 l1 l3 T = (if 0 ≤ p then some (jm_max 0 (jm_w (p - T)), N9) else some (jm_max 0 (jm_w (N9 0 0 17 - T)), N9)) := fun T => by
    unfold gX12_gain_45
    rw [eb2, jm_bsm, ep2, jm_bsm, p2, p3]
  have cls : ∀ x : Int, gX11_gain_88 fu M7 x = some (jm_max 0 (jm_w (x - jm_min (M7 5 0 5) (M7 2 0 5))), M7) := fun _ => rfl
  have fin : ∀ T : Int, jm_min (M7 5 0 5) (M7 2 0 5) = T → J2 (if p = -1 then gX11_gain_88 fu M7 (M7 2 0 5) else gX11_gain_88 fu M7 p) (gX12_gain_45 fu N7 l1 l3 T) (fun v _ w _ => v = w) := fun T mn => by
    rw [ref, cls, cls, mn, m5]
    by_cases y : p = -1
    · rw [if_pos y, if_neg (by omega)]
      exact J2.ret rfl
    · rw [if_neg y, if_pos (by omega)]
      exact J2.ret rfl
  rcases kb.1 with ⟨x1, x2, -⟩ | ⟨x1, x2, x3, -, x5⟩
  · refine J2.rF (by omega) (fin _ ?_)
    unfold jm_min
    rw [x1, m5, if_pos (by omega)]
    omega
  · refine J2.rT x2 (fin _ ?_)
    unfold jm_min
    rw [m5, if_neg (by omega)]
    exact x1
