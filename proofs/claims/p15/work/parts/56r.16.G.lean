/-! the stops in force -/
def stT (M : jm_M) (c : Int) : Int := if M 8 c 13 = 0 then c + 12 else c + 24
def TDp (M N : jm_M) : Prop := ∀ c : Int, 0 ≤ c → c < N 0 0 17 → M 10 (stT M c) 3 = N 26 0 c ∧ ∀ j : Int, 0 ≤ j → j < N 26 0 c → M 19 (stT M c) (3 * j) = N 27 0 (5 * c + j) ∧ M 19 (stT M c) (3 * j + 1) = N 28 0 (5 * c + j) ∧ M 19 (stT M c) (3 * j + 2) = N 29 0 (5 * c + j) ∧ -1 ≤ N 28 0 (5 * c + j) ∧ N 28 0 (5 * c + j) ≤ 3 ∧ 0 ≤ N 29 0 (5 * c + j) ∧ N 29 0 (5 * c + j) ≤ 200
theorem c_inForce (M : jm_M) (c : Int) : wp (fX1_stopsInForce M c) (fun v M1 => M1 = M ∧ v = stT M c) := by
  unfold fX1_stopsInForce stT
  exact wp_ite (fun q => wp_ret ⟨rfl, by rw [if_pos q]⟩) (fun q => wp_ret ⟨rfl, by rw [if_neg q]⟩)
theorem stT_r (M : jm_M) {c : Int} (hc : 0 ≤ c ∧ c < 6) : (0 ≤ stT M c ∧ stT M c ≤ 32) ∧ wid1 (stT M c) = 3 := by
  unfold stT
  split
  · exact ⟨⟨by omega, by omega⟩, wid1_6 (by omega) (by omega)⟩
  · exact ⟨⟨by omega, by omega⟩, wid1_24 (by omega) (by omega)⟩
theorem c_stop_l (fu : Nat) (M N : jm_M) (iM : bI bx1 M) (iN : bI bx2 N) (td : TDp M N) (c lap : Int) (hc : 0 ≤ c ∧ c < N 0 0 17) : ∀ (n : Nat) (i : Int), -1 ≤ i → i < N 26 0 c → i + 1 < (n : Int) → wp (fX1_stopBehind_12 fu n M lap (stT M c) i) (fun v M1 => M1 = M ∧ ((v = -1 ∧ ∀ j : Int, 0 ≤ j → j ≤ i → N 27 0 (5 * c + j) ≠ lap) ∨ (0 ≤ v ∧ v ≤ i ∧ N 27 0 (5 * c + v) = lap ∧ ∀ j : Int, v < j → j ≤ i → N 27 0 (5 * c + j) ≠ lap))) := by
  intro n
  induction n with
  | zero => intro i _ _ hm; exfalso; omega
  | succ n ih =>
    intro i h0 h1 hm
    show wp (gX1_stopBehind_12 fu (fX1_stopBehind_12 fu n) M lap (stT M c) i) _
    unfold gX1_stopBehind_12
    have b17 : 0 ≤ N 0 0 17 ∧ N 0 0 17 ≤ 6 := iN 0 0 17
    have b26 : 0 ≤ N 26 0 c ∧ N 26 0 c ≤ 5 := iN 26 0 c
    obtain ⟨r1, r2⟩ := stT_r M (c := c) ⟨hc.1, by omega⟩
    obtain ⟨t1, t2⟩ := td c hc.1 hc.2
    refine wp_ite (fun q => wp_ret ⟨rfl, Or.inl ⟨rfl, fun j y1 y2 => by exfalso; omega⟩⟩) (fun q => ?_)
    obtain ⟨e0, -⟩ := t2 i (by omega) h1
    refine wp_bp (cell_in iM (w := 3) (a := 3 * i) r1 r2 ⟨by omega, by omega⟩ ⟨by omega, by omega⟩ (by omega)) (fun v z => ?_)
    refine wp_ite (fun q2 => wp_ret ⟨rfl, Or.inr ⟨by omega, Int.le_refl _, by omega, fun j y1 y2 => by exfalso; omega⟩⟩) (fun q2 => ?_)
    refine wp_e (jm_w_in _) (fun x e _ => ?_)
    rw [e, jm_wid (x := i + (-1)) (by omega) (by omega)]
    refine wp_mono (ih (i + (-1)) (by omega) (by omega) (by omega)) (fun w M1 h => ⟨h.1, ?_⟩)
    rcases h.2 with ⟨y1, y2⟩ | ⟨y1, y2, y3, y4⟩
    · refine Or.inl ⟨y1, fun j y3 y4 => ?_⟩
      by_cases q3 : j = i
      · rw [q3]; omega
      · exact y2 j y3 (by omega)
    · refine Or.inr ⟨y1, by omega, y3, fun j y5 y6 => ?_⟩
      by_cases q3 : j = i
      · rw [q3]; omega
      · exact y4 j y5 (by omega)
theorem c_stop (fu : Nat) (hfu : 4000 ≤ fu) (M N : jm_M) (iM : bI bx1 M) (iN : bI bx2 N) (td : TDp M N) (c lap : Int) (hc : 0 ≤ c ∧ c < N 0 0 17) : wp (fX1_stopBehind fu M c lap) (fun v M1 => M1 = M ∧ ((v = -1 ∧ ∀ j : Int, 0 ≤ j → j < N 26 0 c → N 27 0 (5 * c + j) ≠ lap) ∨ (0 ≤ v ∧ v < N 26 0 c ∧ N 27 0 (5 * c + v) = lap ∧ ∀ j : Int, v < j → j < N 26 0 c → N 27 0 (5 * c + j) ≠ lap))) := by
  have b26 : 0 ≤ N 26 0 c ∧ N 26 0 c ≤ 5 := iN 26 0 c
  obtain ⟨t1, t2⟩ := td c hc.1 hc.2
  unfold fX1_stopBehind
  refine wp_bp (c_inForce M c) (fun v z => ?_)
  rw [z, t1]
  refine wp_e (jm_w_in _) (fun x e _ => ?_)
  rw [e, jm_wid (x := N 26 0 c - 1) (by omega) (by omega)]
  refine wp_mono (c_stop_l fu M N iM iN td c lap hc fu (N 26 0 c - 1) (by omega) (by omega) (by omega)) (fun w M1 h => ⟨h.1, ?_⟩)
  rcases h.2 with ⟨y1, y2⟩ | ⟨y1, y2, y3, y4⟩
  · exact Or.inl ⟨y1, fun j y3 y4 => y2 j y3 (by omega)⟩
  · exact Or.inr ⟨y1, by omega, y3, fun j y5 y6 => y4 j y5 (by omega)⟩
/-- the reference's end of a lap, once the stops are gone through -/
def lapE (fu : Nat) (N : jm_M) (c e s p : Int) : jm_R := if s ≤ (-2) then (some (0, N)) else (jm_b (fX12_boxes fu N c s p (jm_w (e + (N 5 0 3)))) fun _ M8 => some (0, M8))
theorem d_lapA (fu : Nat) (N : jm_M) (iN : bI bx2 N) (c lap e : Int) (hc : 0 ≤ c ∧ c < 6) : ∀ (n : Nat) (x s p : Int), 0 ≤ x → x ≤ N 26 0 c → N 26 0 c - x < (n : Int) → (∀ j : Int, x ≤ j → j < N 26 0 c → N 27 0 (5 * c + j) ≠ lap) → fX12_endsLap_92 fu n N c lap e s p (5 * c + x) = lapE fu N c e s p := by
  intro n
  induction n with
  | zero => intro x s p _ h1 hm; exfalso; omega
  | succ n ih =>
    intro x s p h0 h1 hm hj
    have b26 : 0 ≤ N 26 0 c ∧ N 26 0 c ≤ 5 := iN 26 0 c
    show gX12_endsLap_92 fu (fX12_endsLap_92 fu n) N c lap e s p (5 * c + x) = _
    unfold gX12_endsLap_92
    have w1 : jm_w (jm_w (5 * c) + N 26 0 c) = 5 * c + N 26 0 c := by rw [jm_wid (x := 5 * c) (by omega) (by omega)]; exact jm_wid (by omega) (by omega)
    have w2 : jm_w (5 * c + x + 1) = 5 * c + (x + 1) := by rw [jm_wid (by omega) (by omega)]; omega
    rw [if_pos hc, w1, w2]
    by_cases q : N 26 0 c ≤ x
    · rw [if_pos (by omega)]
      unfold lapE
      by_cases q2 : s ≤ -2
      · rw [if_pos q2, if_pos q2]
      · rw [if_neg q2, if_neg q2, if_pos (by decide)]
    · rw [if_neg (by omega), if_pos ⟨by omega, by omega⟩, if_neg (hj x (Int.le_refl _) (by omega))]
      exact ih (x + 1) s p (by omega) (by omega) (by omega) (fun j y1 y2 => hj j (by omega) y2)
theorem d_lapB (fu : Nat) (N : jm_M) (iN : bI bx2 N) (c lap e : Int) (hc : 0 ≤ c ∧ c < 6) (i : Int) (hi : 0 ≤ i ∧ i < N 26 0 c) (hl : N 27 0 (5 * c + i) = lap) (ha : ∀ j : Int, i < j → j < N 26 0 c → N 27 0 (5 * c + j) ≠ lap) : ∀ (n : Nat) (x s p : Int), 0 ≤ x → x ≤ i → N 26 0 c - x < (n : Int) → fX12_endsLap_92 fu n N c lap e s p (5 * c + x) = lapE fu N c e (N 28 0 (5 * c + i)) (N 29 0 (5 * c + i)) := by
  intro n
  induction n with
  | zero => intro x s p _ h1 hm; exfalso; omega
  | succ n ih =>
    intro x s p h0 h1 hm
    have b26 : 0 ≤ N 26 0 c ∧ N 26 0 c ≤ 5 := iN 26 0 c
    show gX12_endsLap_92 fu (fX12_endsLap_92 fu n) N c lap e s p (5 * c + x) = _
    unfold gX12_endsLap_92
    have w1 : jm_w (jm_w (5 * c) + N 26 0 c) = 5 * c + N 26 0 c := by rw [jm_wid (x := 5 * c) (by omega) (by omega)]; exact jm_wid (by omega) (by omega)
    have w2 : jm_w (5 * c + x + 1) = 5 * c + (x + 1) := by rw [jm_wid (by omega) (by omega)]; omega
    rw [if_pos hc, w1, w2, if_neg (by omega), if_pos ⟨by omega, by omega⟩]
    by_cases q : x = i
    · rw [q, if_pos hl, if_pos ⟨by omega, by omega⟩]
      show (if 0 ≤ 5 * c + i ∧ 5 * c + i < 30 then fX12_endsLap_92 fu n N c lap e (N 28 0 (5 * c + i)) (N 29 0 (5 * c + i)) (5 * c + (i + 1)) else none) = _
      rw [if_pos ⟨by omega, by omega⟩]
      exact d_lapA fu N iN c lap e hc n (i + 1) _ _ (by omega) (by omega) (by omega) (fun j y1 y2 => ha j (by omega) y2)
    · by_cases q2 : N 27 0 (5 * c + x) = lap
      · rw [if_pos q2, if_pos ⟨by omega, by omega⟩]
        show (if 0 ≤ 5 * c + x ∧ 5 * c + x < 30 then fX12_endsLap_92 fu n N c lap e (N 28 0 (5 * c + x)) (N 29 0 (5 * c + x)) (5 * c + (x + 1)) else none) = _
        rw [if_pos ⟨by omega, by omega⟩]
        exact ih (x + 1) _ _ (by omega) (by omega) (by omega)
      · rw [if_neg q2]
        exact ih (x + 1) _ _ (by omega) (by omega) (by omega)
theorem jm_min_r {a b : Int} (h : b ≤ a) : jm_min a b = b := by
  unfold jm_min
  split <;> omega
def QE (M0 N0 : jm_M) (c e : Int) (M N : jm_M) : Prop := (M = M0 ∧ N = N0) ∨ ∃ set put : Int, QB M0 N0 c set put (jm_w (e + N0 5 0 3)) M N ∧ 0 ≤ put ∧ put ≤ 200
theorem j_lapE (fu : Nat) (hfu : 4000 ≤ fu) (M N : jm_M) (iM : bI bx1 M) (iN : bI bx2 N) (td : TDp M N) (n8 : ∀ k : Int, 0 ≤ k → k < 8 → M 18 0 k = N 5 0 k) (c lap e box s p : Int) (hc : 0 ≤ c ∧ c < N 0 0 17) (hb : (box = -1 ∧ s = -2) ∨ (0 ≤ box ∧ box ≤ 3 ∧ s = box ∧ p = N 14 0 c)) (et : M 8 c 3 = N 16 0 c) (ek : M 8 c 1 = N 14 0 c) (bk : 0 ≤ N 14 0 c ∧ N 14 0 c ≤ 200) (bf : 0 ≤ N 44 0 c ∧ N 44 0 c ≤ N 14 0 c) (ebf : ∀ t : Int, 0 ≤ t → t < 4 → M 34 0 t = N 58 0 t) (ez : M 10 c 3 = N 19 0 c) (e9 : M 9 c 9 = N 45 0 c) (e8 : M 9 c 8 = N 44 0 c) (e12 : M 9 c 12 = N 54 0 c) (e5 : M 9 c 5 = N 49 0 c) : J2 (gX2_endLap_76 fu M c c lap e box) (fX12_endsLap_92 fu fu N c lap e s p (5 * c)) (fun _ M1 _ N1 => QE M N c e M1 N1) := by
  have b17 : 0 ≤ N 0 0 17 ∧ N 0 0 17 ≤ 6 := iN 0 0 17
  have b26 : 0 ≤ N 26 0 c ∧ N 26 0 c ≤ 5 := iN 26 0 c
  have hc6 : 0 ≤ c ∧ c < 6 := ⟨hc.1, by omega⟩
  unfold gX2_endLap_76
  refine J2.lq (c_stop fu hfu M N iM iN td c lap hc) (fun v z => ?_)
  rcases z with ⟨rfl, z⟩ | ⟨z1, z2, z3, z4⟩
  · have eq := d_lapA fu N iN c lap e hc6 fu 0 s p (by omega) (by omega) (by omega) (fun j y1 y2 => z j y1 y2)
    rw [show 5 * c + 0 = 5 * c from Int.add_zero _] at eq
    rw [eq]
    unfold lapE
    refine J2.lT rfl ?_
    rcases hb with ⟨rfl, rfl⟩ | ⟨q1, q2, rfl, rfl⟩
    · exact J2.lT rfl (J2.rT (by decide) (J2.ret (Or.inl ⟨rfl, rfl⟩)))
    · refine J2.lF (by omega) (J2.rF (by omega) ?_)
      have w0 : jm_w (N 14 0 c - N 44 0 c) = N 14 0 c - N 44 0 c := jm_wid (by omega) (by omega)
      have hp : jm_min 200 (jm_w (N 14 0 c - N 44 0 c)) = jm_min (N 14 0 c) (jm_w (N 14 0 c - N 44 0 c)) := by
        rw [w0, jm_min_r (by omega), jm_min_r (by omega)]
      obtain ⟨v1, M1, v2, N1, g1, g2, q⟩ := j_box fu M N iM iN n8 c e s 200 (N 14 0 c) hc ⟨by omega, q2⟩ et ek ebf ez e9 e8 e12 e5 hp
      rw [g1, g2]
      exact J2.ret (Or.inr ⟨s, N 14 0 c, q, bk⟩)
  · have eq := d_lapB fu N iN c lap e hc6 v ⟨z1, z2⟩ z3 z4 fu 0 s p (by omega) (by omega) (by omega)
    rw [show 5 * c + 0 = 5 * c from Int.add_zero _] at eq
    rw [eq]
    unfold lapE
    obtain ⟨t1, t2⟩ := td c hc.1 hc.2
    obtain ⟨x0, x1, x2, x3, x4, x5, x6⟩ := t2 v z1 z2
    obtain ⟨r1, r2⟩ := stT_r M (c := c) hc6
    refine J2.lF (by omega) (J2.rF (by omega) ?_)
    refine J2.lq (c_inForce M c) (fun v8 y8 => ?_)
    subst y8
    refine J2.lq (cell_in iM (w := 3) (a := 3 * v + 1) r1 r2 ⟨z1, by omega⟩ ⟨by omega, by omega⟩ (by omega)) (fun v11 y11 => ?_)
    refine J2.lq (cell_in iM (w := 3) (a := 3 * v + 2) r1 r2 ⟨z1, by omega⟩ ⟨by omega, by omega⟩ (by omega)) (fun v14 y14 => ?_)
    rw [y11, y14, x1, x2]
    obtain ⟨v1, M1, v2, N1, g1, g2, q⟩ := j_box fu M N iM iN n8 c e (N 28 0 (5 * c + v)) (N 29 0 (5 * c + v)) (N 29 0 (5 * c + v)) hc ⟨x3, x4⟩ et ek ebf ez e9 e8 e12 e5 rfl
    rw [g1, g2]
    exact J2.ret (Or.inr ⟨_, _, q, x5, x6⟩)
