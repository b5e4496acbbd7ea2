/-! texts of both -/
def ltr (u p : Int) : Int := (if u = 0 then ([11, 17, 15, 0, 5, 13, 14, 10, 22, 21, 24, 19, 7] : List Int) else [18, 10, 15, 11, 22, 2, 14, 5, 19]).getD p.toNat (-1)
theorem jm_ee (v : Int) (K : Int → jm_R) : jm_e v K = K v := rfl
theorem ltr_26 (u p : Int) : ltr u p < 26 := by
  have h : ∀ l : List Int, (∀ x ∈ l, x < 26) → ∀ n : Nat, l.getD n (-1) < 26 := by
    intro l hl n
    by_cases q : n < l.length
    · have e : l.getD n (-1) = l[n] := by simp [List.getD, q]
      rw [e]
      exact hl _ (List.getElem_mem q)
    · have e : l.getD n (-1) = -1 := by
        simp [List.getD, List.getElem?_eq_none (Nat.le_of_not_lt q)]
      rw [e]
      decide
  unfold ltr
  split
  · exact h _ (by decide) _
  · exact h _ (by decide) _
/-- an item of the class's code and a mark: the same, whatever the letters are worth -/
def CS (u x y : Int) : Prop := (0 ≤ x ∧ x < 1000 ∧ y = x) ∨ (∃ p : Int, 0 ≤ p ∧ p ≤ 12 ∧ 0 ≤ ltr u p ∧ x = 1000 + ltr u p ∧ y = -1 - p) ∨ ((x = 2033 ∧ y = -167) ∨ (x = 2126 ∧ y = -74)) ∨ (bop (x - 2000) ∧ y = x - 2200)
def LTR (u : Int) (M N : jm_M) : Prop := ∀ p : Int, 0 ≤ p → p ≤ 12 → 0 ≤ ltr u p → M 27 0 (ltr u p) = N 38 0 p
theorem CS.rel {u x y : Int} {M N : jm_M} (h : CS u x y) (l : LTR u M N) : CRel M N x y := by
  rcases h with h | ⟨p, p0, p1, p2, px, py⟩ | h | h
  · exact Or.inl h
  · have := ltr_26 u p
    refine Or.inr (Or.inl ⟨by omega, by omega, by omega, by omega, ?_⟩)
    rw [px, py, show 1000 + ltr u p - 1000 = ltr u p by omega, show -1 - (-1 - p) = p by omega]
    exact l p p0 p1 p2
  · exact Or.inr (Or.inr (Or.inl h))
  · exact Or.inr (Or.inr (Or.inr h))
theorem LPl.ltr {M N : jm_M} (h : LPl M N) : LTR 0 M N := by
  obtain ⟨h0, h1, h2, h3, h4, h5, h6, h7, h8, h9, h10, h11, h12⟩ := h
  intro p p0 p1 _
  have : p = 0 ∨ p = 1 ∨ p = 2 ∨ p = 3 ∨ p = 4 ∨ p = 5 ∨ p = 6 ∨ p = 7 ∨ p = 8 ∨ p = 9 ∨ p = 10 ∨ p = 11 ∨ p = 12 := by omega
  rcases this with rfl | rfl | rfl | rfl | rfl | rfl | rfl | rfl | rfl | rfl | rfl | rfl | rfl
  · exact h0
  · exact h1
  · exact h2
  · exact h3
  · exact h4
  · exact h5
  · exact h6
  · exact h7
  · exact h8
  · exact h9
  · exact h10
  · exact h11
  · exact h12
/-- what an act does -/
def aStep (m : Int) (s : Int × Int × Int) : Int × Int × Int := (if m = 43 then 1 else if m = 61 then 0 else if m = 45 then -1 else s.1, if m = 103 then 1 else if m = 104 then 0 else s.2.1, if 1000 ≤ m then m - 1000 else s.2.2)
def aF (c : Int → Int) : Nat → Int → Int × Int × Int → Int × Int × Int
  | 0, _, s => s
  | n + 1, a, s => aF c n (a + 1) (aStep (c a) s)
def aR (m0 b0 : Int) (s r : Int × Int × Int) : Prop := r.1 = (if s.1 = 9 then m0 else s.1) ∧ r.2.1 = (if s.2.1 = 9 then b0 else s.2.1) ∧ ((s.2.2 = -1 ∧ r.2.2 = -2) ∨ (0 ≤ s.2.2 ∧ s.2.2 ≤ 3 ∧ r.2.2 = s.2.2))
theorem aF_rel (c : Int → Int) (m0 b0 : Int) : ∀ (n : Nat) (a : Int) (s r : Int × Int × Int), (∀ j : Int, a ≤ j → j < a + (n : Int) → c j ≤ 1003) → aR m0 b0 s r → aR m0 b0 (aF c n a s) (aF c n a r) := by
  intro n
  induction n with
  | zero => intro a s r _ h; exact h
  | succ n ih =>
    intro a s r hb h
    show aR m0 b0 (aF c n (a + 1) (aStep (c a) s)) (aF c n (a + 1) (aStep (c a) r))
    refine ih (a + 1) _ _ (fun j y1 y2 => hb j (by omega) (by omega)) ?_
    have b := hb a (Int.le_refl _) (by omega)
    obtain ⟨h1, h2, h3⟩ := h
    generalize c a = m at *
    unfold aStep aR
    refine ⟨?_, ?_, ?_⟩
    · show (if m = 43 then 1 else if m = 61 then 0 else if m = 45 then -1 else r.1) = (if (if m = 43 then (1 : Int) else if m = 61 then 0 else if m = 45 then -1 else s.1) = 9 then m0 else (if m = 43 then 1 else if m = 61 then 0 else if m = 45 then -1 else s.1))
      by_cases q1 : m = 43
      · rw [if_pos q1, if_pos q1, if_neg (by decide)]
      · rw [if_neg q1, if_neg q1]
        by_cases q2 : m = 61
        · rw [if_pos q2, if_pos q2, if_neg (by decide)]
        · rw [if_neg q2, if_neg q2]
          by_cases q3 : m = 45
          · rw [if_pos q3, if_pos q3, if_neg (by decide)]
          · rw [if_neg q3, if_neg q3]; exact h1
    · show (if m = 103 then 1 else if m = 104 then 0 else r.2.1) = (if (if m = 103 then (1 : Int) else if m = 104 then 0 else s.2.1) = 9 then b0 else (if m = 103 then 1 else if m = 104 then 0 else s.2.1))
      by_cases q1 : m = 103
      · rw [if_pos q1, if_pos q1, if_neg (by decide)]
      · rw [if_neg q1, if_neg q1]
        by_cases q2 : m = 104
        · rw [if_pos q2, if_pos q2, if_neg (by decide)]
        · rw [if_neg q2, if_neg q2]; exact h2
    · show ((if 1000 ≤ m then m - 1000 else s.2.2) = -1 ∧ (if 1000 ≤ m then m - 1000 else r.2.2) = -2) ∨ (0 ≤ (if 1000 ≤ m then m - 1000 else s.2.2) ∧ (if 1000 ≤ m then m - 1000 else s.2.2) ≤ 3 ∧ (if 1000 ≤ m then m - 1000 else r.2.2) = (if 1000 ≤ m then m - 1000 else s.2.2))
      by_cases q : 1000 ≤ m
      · rw [if_pos q, if_pos q]
        exact Or.inr ⟨by omega, by omega, rfl⟩
      · rw [if_neg q, if_neg q]
        exact h3
theorem aF_md (c : Int → Int) : ∀ (n : Nat) (a : Int) (s : Int × Int × Int), (s.1 = 9 ∨ (-1 ≤ s.1 ∧ s.1 ≤ 1)) → ((aF c n a s).1 = 9 ∨ (-1 ≤ (aF c n a s).1 ∧ (aF c n a s).1 ≤ 1)) := by
  intro n
  induction n with
  | zero => intro a s h; exact h
  | succ n ih =>
    intro a s h
    refine ih (a + 1) (aStep (c a) s) ?_
    show (if c a = 43 then (1 : Int) else if c a = 61 then 0 else if c a = 45 then -1 else s.1) = 9 ∨ (-1 ≤ (if c a = 43 then (1 : Int) else if c a = 61 then 0 else if c a = 45 then -1 else s.1) ∧ (if c a = 43 then (1 : Int) else if c a = 61 then 0 else if c a = 45 then -1 else s.1) ≤ 1)
    repeat' split
    all_goals first | omega | exact h
def frm (M : jm_M) (t l : Int) : Int := if l = 0 then 0 else M 21 t (l - 1)
/-- a line of a text: from p to r -/
def LR (u : Int) (M N : jm_M) (t l p q r : Int) : Prop := (0 ≤ frm M t l ∧ frm M t l ≤ M 21 t l ∧ M 21 t l ≤ 60) ∧ ((frm M t l < M 21 t l ∧ q = p + (M 21 t l - frm M t l) ∧ hg (N 35 0) (M 21 t l - frm M t l).toNat p 0 = some 1 ∧ ∀ j : Int, 0 ≤ j → j < M 21 t l - frm M t l → CS u (M 20 t (frm M t l + j)) (N 35 0 (p + j))) ∨ (frm M t l = M 21 t l ∧ q = p + 1 ∧ N 35 0 p = 1)) ∧ (N 35 0 q = -300 ∧ q < r ∧ N 35 0 r = -302 ∧ ∀ j : Int, q < j → j < r → N 35 0 j ≠ -302 ∧ N 35 0 j ≤ 1003) ∧ (M 22 t l, M 23 t l, M 24 t l) = aF (N 35 0) (r - q - 1).toNat (q + 1) (9, 9, -1)
def TXT (u : Int) (M N : jm_M) (t a b : Int) : Prop := (0 ≤ M 11 t 6 ∧ M 11 t 6 ≤ 20 ∧ 0 ≤ a ∧ b ≤ 1700) ∧ ∃ P : Int → Int, P 0 = a ∧ P (M 11 t 6) = b ∧ ∀ l : Int, 0 ≤ l → l < M 11 t 6 → ∃ q r : Int, LR u M N t l (P l) q r ∧ P (l + 1) = r + 1 ∧ a ≤ P l ∧ r < b
/-! the condition of a line -/
theorem j_hold (fu : Nat) (hfu : 4000 ≤ fu) (M N M0 N0 : jm_M) (iM : bI bx1 M) (iN : bI bx2 N) (k1 : Kp K28 M0 M) (k2 : Kp K37 N0 N) (u t l p q r b : Int) (hl : 0 ≤ l ∧ l < 21) (hp : 0 ≤ p) (hb : r < b ∧ b ≤ 1700) (lr : LR u M0 N0 t l p q r) (L : LTR u M0 N0) : J2 (fX4_holds fu M t l) (fX12_gives fu N p b) (QV M0 N0 q) := by
  obtain ⟨⟨f0, f1, f2⟩, cd, ⟨c1, c2, c3, c4⟩, -⟩ := lr
  have m21 : M 21 t l = M0 21 t l := k1 21 t l (by unfold K28; decide)
  have go : J2 (gX4_holds_27 fu M t l (frm M0 t l)) (fX12_gives fu N p b) (QV M0 N0 q) := by
    unfold gX4_holds_27 fX12_gives
    have w : jm_min (M0 21 t l) 60 = M0 21 t l := by
      unfold jm_min
      rw [if_neg (by omega)]
    rw [m21]
    refine J2.lT hl (J2.le' w ?_)
    rcases cd with ⟨d1, d2, d3, d4⟩ | ⟨d1, d2, d3⟩
    · have z := j_ev fu M0 N0 t (frm M0 t l) (M0 21 t l) q b ⟨by omega, by omega⟩ f2 d1 (Or.inr ⟨by omega, by omega, c1⟩) (M0 21 t l - frm M0 t l).toNat fu fu M N 0 (frm M0 t l) p (by omega) (by omega) iM iN k1 k2 (by omega) (by omega) (by omega) hp (by omega) (fun j y1 y2 => by exfalso; omega) (fun j y1 y2 => (d4 j y1 (by omega)).rel L) d3
      exact z
    · obtain ⟨x, hx⟩ : ∃ x, fu = x + 1 + 1 := ⟨fu - 2, by omega⟩
      have n35 : ∀ j : Int, N 35 0 j = N0 35 0 j := fun j => k2 35 0 j (by unfold K37; omega)
      have i1 : bI bx2 (jm_u N 37 0 0 1) := bI_u iN (jm_inL (by decide) (by decide))
      have i2 : bI bx2 (jm_u (jm_u N 37 0 0 1) 0 0 47 q) := bI_u i1 (jm_inL (by omega) (by omega))
      have e1 : ∀ k : jm_M → Int → Int → Int → jm_R, gX12_gives_5 fu k N b 0 p = k (jm_u N 37 0 0 1) b 1 (p + 1) := fun k => by
        unfold gX12_gives_5
        rw [if_neg (by omega), if_pos ⟨by omega, by omega⟩, n35, d3, if_neg (by decide), if_pos ⟨by omega, by omega⟩]
        rw [jm_ee, if_neg (by decide), if_pos (by decide)]
        show k (jm_u N 37 0 0 1) b (jm_w (0 + 1)) (jm_w (p + 1)) = _
        rw [show jm_w (0 + 1) = 1 by decide, jm_wid (x := p + 1) (by omega) (by omega)]
      have e2 : ∀ k : jm_M → Int → Int → Int → jm_R, gX12_gives_5 fu k (jm_u N 37 0 0 1) b 1 (p + 1) = some (1, jm_u (jm_u N 37 0 0 1) 0 0 47 q) := fun k => by
        unfold gX12_gives_5
        rw [if_neg (by omega), if_pos ⟨by omega, by omega⟩, jm_une_f (by decide), n35, ← d2, if_pos c1]
        show (if (0 : Int) ≤ 0 ∧ (0 : Int) < 100 then some ((jm_u (jm_u N 37 0 0 1) 0 0 47 q) 37 0 0, _) else none) = _
        rw [if_pos (by decide), jm_une_f (by decide), jm_ueq]
      have e3 : fX12_gives_5 fu fu N b 0 p = some (1, jm_u (jm_u N 37 0 0 1) 0 0 47 q) := by
        have : ∀ m, m = x + 1 + 1 → fX12_gives_5 fu m N b 0 p = some (1, jm_u (jm_u N 37 0 0 1) 0 0 47 q) := fun m hm => by
          rw [hm]
          show gX12_gives_5 fu (gX12_gives_5 fu (fX12_gives_5 fu x)) N b 0 p = _
          rw [e1, e2]
        exact this fu hx
      have e4 : fX4_holds_47 fu fu M t (frm M0 t l) (M0 21 t l) (-1) (frm M0 t l) = some (1, M) := by
        have : ∀ m, m = x + 1 + 1 → fX4_holds_47 fu m M t (frm M0 t l) (M0 21 t l) (-1) (frm M0 t l) = some (1, M) := fun m hm => by
          rw [hm]
          show gX4_holds_47 fu (fX4_holds_47 fu (x + 1)) M t (frm M0 t l) (M0 21 t l) (-1) (frm M0 t l) = _
          unfold gX4_holds_47
          rw [if_pos (by omega), if_pos d1]
        exact this fu hx
      rw [e3, e4]
      refine J2.ret ⟨iM, i2, k1, fun f i k y => ?_, jm_ueq, Or.inl ⟨rfl, by decide⟩⟩
      rw [jm_une (fun z => y.2 ⟨z.1, z.2.2⟩), jm_une_f y.1]
      exact k2 f i k y
  unfold fX4_holds
  refine J2.lq (x_isIndex M l 21) (fun v z => J2.lF (by omega) ?_)
  by_cases q0 : l = 0
  · have e : frm M0 t l = 0 := if_pos q0
    rw [e] at go
    exact J2.lT q0 go
  · have e : frm M0 t l = M0 21 t (l - 1) := if_neg q0
    have w : jm_w (l - 1) = l - 1 := jm_wid (by omega) (by omega)
    rw [w, k1 21 t (l - 1) (by unfold K28; decide), ← e]
    exact J2.lF q0 (J2.lT ⟨by omega, by omega⟩ go)
/-! the acts of a line -/
theorem d_skip (fu : Nat) (k27 : jm_M → Int → Int → Int → Int → Int → jm_R) (N : jm_M) (c lap b ln s r : Int) (hr : r < 1700) (hN : N 35 0 r = -302) (hln : -1 ≤ ln ∧ ln ≤ 100) : ∀ (n : Nat) (a : Int), 0 ≤ a → a ≤ r → r - a < (n : Int) → (∀ j : Int, a ≤ j → j < r → N 35 0 j ≠ -302) → fX12_asks_64 fu k27 n N c lap a b ln 0 s = k27 N c lap (r + 1) b (ln + 1) := by
  intro n
  induction n with
  | zero => intro a _ _ hm; exfalso; omega
  | succ n ih =>
    intro a h0 h1 hm hj
    show gX12_asks_64 fu k27 (fX12_asks_64 fu k27 n) N c lap a b ln 0 s = _
    unfold gX12_asks_64
    rw [if_pos ⟨h0, by omega⟩]
    have w1 : jm_w (a + 1) = a + 1 := jm_wid (by omega) (by omega)
    have w2 : jm_w (ln + 1) = ln + 1 := jm_wid (by omega) (by omega)
    by_cases q : a = r
    · rw [q, if_pos hN]
      rw [jm_ee, if_pos rfl, jm_ee, w2, ← q, w1]
    · rw [if_neg (hj a (Int.le_refl _) (by omega)), if_pos rfl]
      show fX12_asks_64 fu k27 n N c lap (jm_w (a + 1)) b ln 0 s = _
      rw [w1]
      exact ih (a + 1) (by omega) (by omega) (by omega) (fun j y1 y2 => hj j (by omega) y2)
def KA (c g : Int) (f : Nat) (i k : Int) : Prop := ¬ ((f = 47 ∨ f = 48) ∧ i = 0 ∧ k = c) ∧ ¬ (f = 59 ∧ i = 0 ∧ k = g)
theorem d_acts (fu : Nat) (k27 : jm_M → Int → Int → Int → Int → Int → jm_R) (N0 : jm_M) (c lap b ln r : Int) (hc : 0 ≤ c ∧ c < 6) (hlap : 0 ≤ lap ∧ lap < 12) (hr : r < 1700) (hN : N0 35 0 r = -302) (hln : 0 ≤ ln ∧ ln ≤ 100) : ∀ (n : Nat) (N : jm_M) (a s : Int), bI bx2 N → Kp (KA c (12 * c + lap)) N0 N → 0 ≤ a → a ≤ r → r - a < (n : Int) → jm_in s → (∀ j : Int, a ≤ j → j < r → N0 35 0 j ≠ -302 ∧ N0 35 0 j ≤ 1003) → wp (fX12_asks_64 fu k27 n N c lap a b ln 1 s) (fun w N1 => bI bx2 N1 ∧ Kp (KA c (12 * c + lap)) N0 N1 ∧ N1 59 0 (12 * c + lap) = ln ∧ (N1 47 0 c, N1 48 0 c, w) = aF (N0 35 0) (r - a).toNat a (N 47 0 c, N 48 0 c, s)) := by
  intro n
  induction n with
  | zero => intro N a s _ _ _ _ hm; exfalso; omega
  | succ n ih =>
    intro N a s iN kN h0 h1 hm is hj
    show wp (gX12_asks_64 fu k27 (fX12_asks_64 fu k27 n) N c lap a b ln 1 s) _
    unfold gX12_asks_64
    have w1 : jm_w (a + 1) = a + 1 := jm_wid (by omega) (by omega)
    have w3 : jm_w (jm_w (12 * c) + lap) = 12 * c + lap := by rw [jm_wid (x := 12 * c) (by omega) (by omega)]; exact jm_wid (by omega) (by omega)
    have n35 : N 35 0 a = N0 35 0 a := kN 35 0 a ⟨fun z => by omega, fun z => by omega⟩
    rw [n35]
    refine wp_T ⟨h0, by omega⟩ ?_
    by_cases q : a = r
    · rw [q]
      refine wp_T hN (wp_e (jm_w_in _) (fun v e _ => wp_F (by decide) ?_))
      rw [w3]
      refine wp_T ⟨by omega, by omega⟩ (wp_si iN (jm_inL (by omega) (by omega)) (fun N1 u1 i1 => wp_ret ⟨i1, fun f i k y => ?_, by rw [u1]; exact jm_ueq, ?_⟩))
      · rw [u1, jm_une y.2]
        exact kN f i k y
      · rw [u1, jm_une_f (by decide), jm_une_f (by decide), show (r - r).toNat = 0 by omega]
        rfl
    · obtain ⟨j1, j2⟩ := hj a (Int.le_refl _) (by omega)
      refine wp_F j1 (wp_F (by decide) (wp_T ⟨h0, by omega⟩ ?_))
      have hn : (r - a).toNat = (r - (a + 1)).toNat + 1 := by omega
      rw [hn]
      show wp _ (fun w N1 => bI bx2 N1 ∧ Kp (KA c (12 * c + lap)) N0 N1 ∧ N1 59 0 (12 * c + lap) = ln ∧ (N1 47 0 c, N1 48 0 c, w) = aF (N0 35 0) (r - (a + 1)).toNat (a + 1) (aStep (N0 35 0 a) (N 47 0 c, N 48 0 c, s)))
      refine wp_e (by rw [← n35]; exact bx2_in (iN 35 0 a)) (fun m em im => ?_)
      rw [← em] at j2 ⊢
      -- the writes
      have wr : ∀ (s1 : Int), s1 = (if 1000 ≤ m then m - 1000 else s) → wp (gX12_asks_110 fu k27 (fX12_asks_64 fu k27 n) N c lap a b ln 1 m s1) (fun w N1 => bI bx2 N1 ∧ Kp (KA c (12 * c + lap)) N0 N1 ∧ N1 59 0 (12 * c + lap) = ln ∧ (N1 47 0 c, N1 48 0 c, w) = aF (N0 35 0) (r - (a + 1)).toNat (a + 1) (aStep m (N 47 0 c, N 48 0 c, s))) := fun s1 hs1 => by
        have is1 : jm_in s1 := by
          rw [hs1]
          split
          · exact jm_inL (by have := im.1; omega) (by omega)
          · exact is
        have wr2 : ∀ md : Int, jm_in md → md = (if m = 43 then 1 else if m = 61 then 0 else if m = 45 then -1 else N 47 0 c) → wp (gX12_asks_156 fu k27 (fX12_asks_64 fu k27 n) N c lap a b ln 1 s1 m md c) (fun w N1 => bI bx2 N1 ∧ Kp (KA c (12 * c + lap)) N0 N1 ∧ N1 59 0 (12 * c + lap) = ln ∧ (N1 47 0 c, N1 48 0 c, w) = aF (N0 35 0) (r - (a + 1)).toNat (a + 1) (aStep m (N 47 0 c, N 48 0 c, s))) := fun md imd hmd => by
          unfold gX12_asks_156
          rw [w1]
          refine wp_T hc (wp_si iN imd (fun N2 u2 i2 => ?_))
          have k2 : Kp (KA c (12 * c + lap)) N0 N2 := fun f i k y => by
            rw [u2, jm_une (fun z => y.1 ⟨Or.inl z.1, z.2⟩)]
            exact kN f i k y
          have n48 : N2 48 0 c = N 48 0 c := by rw [u2]; exact jm_une_f (by decide)
          have nx : ∀ bo : Int, jm_in bo → bo = (if m = 103 then 1 else if m = 104 then 0 else N 48 0 c) → wp (jm_s (jm_u N2 48 0 c bo) fun M5 => jm_e (a + 1) fun v6 => fX12_asks_64 fu k27 n M5 c lap v6 b ln 1 s1) (fun w N1 => bI bx2 N1 ∧ Kp (KA c (12 * c + lap)) N0 N1 ∧ N1 59 0 (12 * c + lap) = ln ∧ (N1 47 0 c, N1 48 0 c, w) = aF (N0 35 0) (r - (a + 1)).toNat (a + 1) (aStep m (N 47 0 c, N 48 0 c, s))) := fun bo ibo hbo => by
            refine wp_si i2 ibo (fun N5 u5 i5 => wp_e (jm_inL (by omega) (by omega)) (fun v6 e6 _ => ?_))
            rw [e6]
            have k5 : Kp (KA c (12 * c + lap)) N0 N5 := fun f i k y => by
              rw [u5, jm_une (fun z => y.1 ⟨Or.inr z.1, z.2⟩)]
              exact k2 f i k y
            have z := ih N5 (a + 1) s1 i5 k5 (by omega) (by omega) (by omega) is1 (fun j y1 y2 => hj j (by omega) y2)
            have e47 : N5 47 0 c = md := by rw [u5, jm_une_f (by decide), u2]; exact jm_ueq
            have e48 : N5 48 0 c = bo := by rw [u5]; exact jm_ueq
            rw [e47, e48] at z
            have ea : aStep m (N 47 0 c, N 48 0 c, s) = (md, bo, s1) := by
              subst hmd
              subst hbo
              subst hs1
              rfl
            rw [ea]
            exact z
          refine wp_ite (fun y => wp_T hc (nx 1 (jm_inL (by decide) (by decide)) (by rw [if_pos y]))) (fun y => ?_)
          refine wp_ite (fun y2 => wp_T hc (nx 0 (jm_inL (by decide) (by decide)) (by rw [if_neg y, if_pos y2]))) (fun y2 => wp_T hc (wp_T hc ?_))
          rw [n48]
          exact nx _ (bx2_in (iN 48 0 c)) (by rw [if_neg y, if_neg y2])
        unfold gX12_asks_110
        refine wp_ite (fun y => wr2 1 (jm_inL (by decide) (by decide)) (by rw [if_pos y])) (fun y => ?_)
        refine wp_ite (fun y2 => wr2 0 (jm_inL (by decide) (by decide)) (by rw [if_neg y, if_pos y2])) (fun y2 => ?_)
        refine wp_ite (fun y3 => wr2 (-1) (jm_inL (by decide) (by decide)) (by rw [if_neg y, if_neg y2, if_pos y3])) (fun y3 => wp_T hc ?_)
        exact wr2 _ (bx2_in (iN 47 0 c)) (by rw [if_neg y, if_neg y2, if_neg y3])
      refine wp_ite (fun y => wr s (by rw [if_neg (by omega)])) (fun y => ?_)
      exact wr _ (by rw [if_pos (by omega)]; exact jm_wid (by omega) (by omega))
