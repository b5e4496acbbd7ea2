/-! the Reader by its signs: what it holds, told as lists -/
theorem jm_uf {M : jm_M} {f f2 : Nat} {i k v i2 : Int} (h : ¬ (f2 = f ∧ i2 = i)) : jm_u M f i k v f2 i2 = M f2 i2 := by
  unfold jm_u
  exact if_neg h
theorem jm_us {M : jm_M} {f : Nat} {i k v : Int} : jm_u M f i k v f i = jm_ur (M f i) k v := by
  unfold jm_u
  exact if_pos ⟨rfl, rfl⟩
/-- a pile, its top first, in a row of cells -/
def PLS (f : Int → Int) : List Int → Prop
  | [] => True
  | x :: l => f (l.length : Int) = x ∧ PLS f l
theorem PLS.congr {f g : Int → Int} : ∀ {l : List Int}, PLS f l → (∀ i : Int, 0 ≤ i → i < (l.length : Int) → g i = f i) → PLS g l := by
  intro l
  induction l with
  | nil => intro _ _; trivial
  | cons x l ih =>
    intro h hg
    simp only [List.length_cons] at hg
    exact ⟨(hg (l.length : Int) (by omega) (by omega)).trans h.1, ih h.2 (fun i h1 h2 => hg i h1 (by omega))⟩
theorem PLS.push {f : Int → Int} {l : List Int} (h : PLS f l) (x : Int) : PLS (jm_ur f (l.length : Int) x) (x :: l) := by
  refine ⟨?_, h.congr (fun i h1 h2 => ?_)⟩
  · unfold jm_ur; exact if_pos rfl
  · unfold jm_ur; exact if_neg (by omega)
/-- what a reading leaves alone: all but the Reader and the text into which it reads -/
def TS (r : Int) (f : Nat) (i k : Int) : Prop := ((f = 20 → i ≠ r) ∧ (f = 11 → i ≠ r ∨ k ≠ 1)) ∧ f ≠ 25 ∧ f ≠ 26 ∧ (f = 6 → k = 7 ∨ k = 8)
def TI (r : Int) (f : Nat) (i k : Int) : Prop := ((20 ≤ f ∧ f ≤ 24) ∨ f = 11 → i ≠ r) ∧ f ≠ 25 ∧ f ≠ 26 ∧ (f = 6 → k = 7 ∨ k = 8)
def AB (r : Int) (M : jm_M) (st cmp dg : Int) (stk W C : List Int) : Prop := (M 6 0 6 = st ∧ M 6 0 4 = cmp ∧ M 6 0 5 = dg ∧ M 6 0 8 = r) ∧ (M 6 0 3 = (stk.length : Int) ∧ PLS (M 26 0) stk) ∧ (M 6 0 1 = (W.length : Int) ∧ PLS (M 25 0) W) ∧ (M 11 r 1 = (C.length : Int) ∧ PLS (M 20 r) C)
theorem AB.u6 {r : Int} {M : jm_M} {st cmp dg : Int} {stk W C : List Int} (h : AB r M st cmp dg stk W C) (v : Int) : AB r (jm_u M 6 0 6 v) v cmp dg stk W C := by
  obtain ⟨⟨a1, a2, a3, a4⟩, ⟨b1, b2⟩, ⟨c1, c2⟩, ⟨d1, d2⟩⟩ := h
  refine ⟨⟨?_, ?_, ?_, ?_⟩, ⟨?_, ?_⟩, ⟨?_, ?_⟩, ⟨?_, ?_⟩⟩
  · exact jm_ueq
  · exact ((jm_une_k (by decide)).trans a2)
  · exact ((jm_une_k (by decide)).trans a3)
  · exact ((jm_une_k (by decide)).trans a4)
  · exact ((jm_une_k (by decide)).trans b1)
  · rw [show (jm_u M 6 0 6 v) 26 0 = M 26 0 from (jm_uf (fun q => absurd q.1 (by decide)))]; exact b2
  · exact ((jm_une_k (by decide)).trans c1)
  · rw [show (jm_u M 6 0 6 v) 25 0 = M 25 0 from (jm_uf (fun q => absurd q.1 (by decide)))]; exact c2
  · exact ((jm_une_f (by decide)).trans d1)
  · rw [show (jm_u M 6 0 6 v) 20 r = M 20 r from (jm_uf (fun q => absurd q.1 (by decide)))]; exact d2
theorem AB.u4 {r : Int} {M : jm_M} {st cmp dg : Int} {stk W C : List Int} (h : AB r M st cmp dg stk W C) (v : Int) : AB r (jm_u M 6 0 4 v) st v dg stk W C := by
  obtain ⟨⟨a1, a2, a3, a4⟩, ⟨b1, b2⟩, ⟨c1, c2⟩, ⟨d1, d2⟩⟩ := h
  refine ⟨⟨?_, ?_, ?_, ?_⟩, ⟨?_, ?_⟩, ⟨?_, ?_⟩, ⟨?_, ?_⟩⟩
  · exact ((jm_une_k (by decide)).trans a1)
  · exact jm_ueq
  · exact ((jm_une_k (by decide)).trans a3)
  · exact ((jm_une_k (by decide)).trans a4)
  · exact ((jm_une_k (by decide)).trans b1)
  · rw [show (jm_u M 6 0 4 v) 26 0 = M 26 0 from (jm_uf (fun q => absurd q.1 (by decide)))]; exact b2
  · exact ((jm_une_k (by decide)).trans c1)
  · rw [show (jm_u M 6 0 4 v) 25 0 = M 25 0 from (jm_uf (fun q => absurd q.1 (by decide)))]; exact c2
  · exact ((jm_une_f (by decide)).trans d1)
  · rw [show (jm_u M 6 0 4 v) 20 r = M 20 r from (jm_uf (fun q => absurd q.1 (by decide)))]; exact d2
theorem AB.u5 {r : Int} {M : jm_M} {st cmp dg : Int} {stk W C : List Int} (h : AB r M st cmp dg stk W C) (v : Int) : AB r (jm_u M 6 0 5 v) st cmp v stk W C := by
  obtain ⟨⟨a1, a2, a3, a4⟩, ⟨b1, b2⟩, ⟨c1, c2⟩, ⟨d1, d2⟩⟩ := h
  refine ⟨⟨?_, ?_, ?_, ?_⟩, ⟨?_, ?_⟩, ⟨?_, ?_⟩, ⟨?_, ?_⟩⟩
  · exact ((jm_une_k (by decide)).trans a1)
  · exact ((jm_une_k (by decide)).trans a2)
  · exact jm_ueq
  · exact ((jm_une_k (by decide)).trans a4)
  · exact ((jm_une_k (by decide)).trans b1)
  · rw [show (jm_u M 6 0 5 v) 26 0 = M 26 0 from (jm_uf (fun q => absurd q.1 (by decide)))]; exact b2
  · exact ((jm_une_k (by decide)).trans c1)
  · rw [show (jm_u M 6 0 5 v) 25 0 = M 25 0 from (jm_uf (fun q => absurd q.1 (by decide)))]; exact c2
  · exact ((jm_une_f (by decide)).trans d1)
  · rw [show (jm_u M 6 0 5 v) 20 r = M 20 r from (jm_uf (fun q => absurd q.1 (by decide)))]; exact d2
theorem AB.emit {r : Int} {M : jm_M} {st cmp dg : Int} {stk W C : List Int} (h : AB r M st cmp dg stk W C) (x : Int) : AB r (jm_u (jm_u M 20 r (C.length : Int) x) 11 r 1 ((C.length : Int) + 1)) st cmp dg stk W (x :: C) := by
  obtain ⟨⟨a1, a2, a3, a4⟩, ⟨b1, b2⟩, ⟨c1, c2⟩, ⟨d1, d2⟩⟩ := h
  refine ⟨⟨?_, ?_, ?_, ?_⟩, ⟨?_, ?_⟩, ⟨?_, ?_⟩, ⟨?_, ?_⟩⟩
  · exact ((jm_une_f (by decide)).trans ((jm_une_f (by decide)).trans a1))
  · exact ((jm_une_f (by decide)).trans ((jm_une_f (by decide)).trans a2))
  · exact ((jm_une_f (by decide)).trans ((jm_une_f (by decide)).trans a3))
  · exact ((jm_une_f (by decide)).trans ((jm_une_f (by decide)).trans a4))
  · exact ((jm_une_f (by decide)).trans ((jm_une_f (by decide)).trans b1))
  · rw [show (jm_u (jm_u M 20 r (C.length : Int) x) 11 r 1 ((C.length : Int) + 1)) 26 0 = M 26 0 from ((jm_uf (fun q => absurd q.1 (by decide))).trans (jm_uf (fun q => absurd q.1 (by decide))))]; exact b2
  · exact ((jm_une_f (by decide)).trans ((jm_une_f (by decide)).trans c1))
  · rw [show (jm_u (jm_u M 20 r (C.length : Int) x) 11 r 1 ((C.length : Int) + 1)) 25 0 = M 25 0 from ((jm_uf (fun q => absurd q.1 (by decide))).trans (jm_uf (fun q => absurd q.1 (by decide))))]; exact c2
  · exact jm_ueq.trans (by simp only [List.length_cons]; omega)
  · rw [show (jm_u (jm_u M 20 r (C.length : Int) x) 11 r 1 ((C.length : Int) + 1)) 20 r = jm_ur (M 20 r) (C.length : Int) x from (jm_uf (fun q => absurd q.1 (by decide))).trans jm_us]; exact d2.push x
theorem AB.hold {r : Int} {M : jm_M} {st cmp dg : Int} {stk W C : List Int} (h : AB r M st cmp dg stk W C) (x : Int) : AB r (jm_u (jm_u M 25 0 (W.length : Int) x) 6 0 1 ((W.length : Int) + 1)) st cmp dg stk (x :: W) C := by
  obtain ⟨⟨a1, a2, a3, a4⟩, ⟨b1, b2⟩, ⟨c1, c2⟩, ⟨d1, d2⟩⟩ := h
  refine ⟨⟨?_, ?_, ?_, ?_⟩, ⟨?_, ?_⟩, ⟨?_, ?_⟩, ⟨?_, ?_⟩⟩
  · exact ((jm_une_k (by decide)).trans ((jm_une_f (by decide)).trans a1))
  · exact ((jm_une_k (by decide)).trans ((jm_une_f (by decide)).trans a2))
  · exact ((jm_une_k (by decide)).trans ((jm_une_f (by decide)).trans a3))
  · exact ((jm_une_k (by decide)).trans ((jm_une_f (by decide)).trans a4))
  · exact ((jm_une_k (by decide)).trans ((jm_une_f (by decide)).trans b1))
  · rw [show (jm_u (jm_u M 25 0 (W.length : Int) x) 6 0 1 ((W.length : Int) + 1)) 26 0 = M 26 0 from ((jm_uf (fun q => absurd q.1 (by decide))).trans (jm_uf (fun q => absurd q.1 (by decide))))]; exact b2
  · exact jm_ueq.trans (by simp only [List.length_cons]; omega)
  · rw [show (jm_u (jm_u M 25 0 (W.length : Int) x) 6 0 1 ((W.length : Int) + 1)) 25 0 = jm_ur (M 25 0) (W.length : Int) x from (jm_uf (fun q => absurd q.1 (by decide))).trans jm_us]; exact c2.push x
  · exact ((jm_une_f (by decide)).trans ((jm_une_f (by decide)).trans d1))
  · rw [show (jm_u (jm_u M 25 0 (W.length : Int) x) 6 0 1 ((W.length : Int) + 1)) 20 r = M 20 r from ((jm_uf (fun q => absurd q.1 (by decide))).trans (jm_uf (fun q => absurd q.1 (by decide))))]; exact d2
theorem AB.opn {r : Int} {M : jm_M} {st cmp dg : Int} {stk W C : List Int} (h : AB r M st cmp dg stk W C) (x : Int) : AB r (jm_u (jm_u M 26 0 (stk.length : Int) x) 6 0 3 ((stk.length : Int) + 1)) st cmp dg (x :: stk) W C := by
  obtain ⟨⟨a1, a2, a3, a4⟩, ⟨b1, b2⟩, ⟨c1, c2⟩, ⟨d1, d2⟩⟩ := h
  refine ⟨⟨?_, ?_, ?_, ?_⟩, ⟨?_, ?_⟩, ⟨?_, ?_⟩, ⟨?_, ?_⟩⟩
  · exact ((jm_une_k (by decide)).trans ((jm_une_f (by decide)).trans a1))
  · exact ((jm_une_k (by decide)).trans ((jm_une_f (by decide)).trans a2))
  · exact ((jm_une_k (by decide)).trans ((jm_une_f (by decide)).trans a3))
  · exact ((jm_une_k (by decide)).trans ((jm_une_f (by decide)).trans a4))
  · exact jm_ueq.trans (by simp only [List.length_cons]; omega)
  · rw [show (jm_u (jm_u M 26 0 (stk.length : Int) x) 6 0 3 ((stk.length : Int) + 1)) 26 0 = jm_ur (M 26 0) (stk.length : Int) x from (jm_uf (fun q => absurd q.1 (by decide))).trans jm_us]; exact b2.push x
  · exact ((jm_une_k (by decide)).trans ((jm_une_f (by decide)).trans c1))
  · rw [show (jm_u (jm_u M 26 0 (stk.length : Int) x) 6 0 3 ((stk.length : Int) + 1)) 25 0 = M 25 0 from ((jm_uf (fun q => absurd q.1 (by decide))).trans (jm_uf (fun q => absurd q.1 (by decide))))]; exact c2
  · exact ((jm_une_f (by decide)).trans ((jm_une_f (by decide)).trans d1))
  · rw [show (jm_u (jm_u M 26 0 (stk.length : Int) x) 6 0 3 ((stk.length : Int) + 1)) 20 r = M 20 r from ((jm_uf (fun q => absurd q.1 (by decide))).trans (jm_uf (fun q => absurd q.1 (by decide))))]; exact d2
theorem AB.popW {r : Int} {M : jm_M} {st cmp dg : Int} {stk W C : List Int} {x : Int} (h : AB r M st cmp dg stk (x :: W) C) : AB r (jm_u M 6 0 1 (W.length : Int)) st cmp dg stk W C := by
  obtain ⟨⟨a1, a2, a3, a4⟩, ⟨b1, b2⟩, ⟨c1, c2⟩, ⟨d1, d2⟩⟩ := h
  refine ⟨⟨?_, ?_, ?_, ?_⟩, ⟨?_, ?_⟩, ⟨?_, ?_⟩, ⟨?_, ?_⟩⟩
  · exact ((jm_une_k (by decide)).trans a1)
  · exact ((jm_une_k (by decide)).trans a2)
  · exact ((jm_une_k (by decide)).trans a3)
  · exact ((jm_une_k (by decide)).trans a4)
  · exact ((jm_une_k (by decide)).trans b1)
  · rw [show (jm_u M 6 0 1 (W.length : Int)) 26 0 = M 26 0 from (jm_uf (fun q => absurd q.1 (by decide)))]; exact b2
  · exact jm_ueq
  · rw [show (jm_u M 6 0 1 (W.length : Int)) 25 0 = M 25 0 from (jm_uf (fun q => absurd q.1 (by decide)))]; exact c2.2
  · exact ((jm_une_f (by decide)).trans d1)
  · rw [show (jm_u M 6 0 1 (W.length : Int)) 20 r = M 20 r from (jm_uf (fun q => absurd q.1 (by decide)))]; exact d2
theorem AB.popS {r : Int} {M : jm_M} {st cmp dg : Int} {stk W C : List Int} {x : Int} (h : AB r M st cmp dg (x :: stk) W C) : AB r (jm_u M 6 0 3 (stk.length : Int)) st cmp dg stk W C := by
  obtain ⟨⟨a1, a2, a3, a4⟩, ⟨b1, b2⟩, ⟨c1, c2⟩, ⟨d1, d2⟩⟩ := h
  refine ⟨⟨?_, ?_, ?_, ?_⟩, ⟨?_, ?_⟩, ⟨?_, ?_⟩, ⟨?_, ?_⟩⟩
  · exact ((jm_une_k (by decide)).trans a1)
  · exact ((jm_une_k (by decide)).trans a2)
  · exact ((jm_une_k (by decide)).trans a3)
  · exact ((jm_une_k (by decide)).trans a4)
  · exact jm_ueq
  · rw [show (jm_u M 6 0 3 (stk.length : Int)) 26 0 = M 26 0 from (jm_uf (fun q => absurd q.1 (by decide)))]; exact b2.2
  · exact ((jm_une_k (by decide)).trans c1)
  · rw [show (jm_u M 6 0 3 (stk.length : Int)) 25 0 = M 25 0 from (jm_uf (fun q => absurd q.1 (by decide)))]; exact c2
  · exact ((jm_une_f (by decide)).trans d1)
  · rw [show (jm_u M 6 0 3 (stk.length : Int)) 20 r = M 20 r from (jm_uf (fun q => absurd q.1 (by decide)))]; exact d2
theorem AB.popC {r : Int} {M : jm_M} {st cmp dg : Int} {stk W C : List Int} {x : Int} (h : AB r M st cmp dg stk W (x :: C)) (y : Int) : AB r (jm_u M 20 r (C.length : Int) y) st cmp dg stk W (y :: C) := by
  obtain ⟨⟨a1, a2, a3, a4⟩, ⟨b1, b2⟩, ⟨c1, c2⟩, ⟨d1, d2⟩⟩ := h
  refine ⟨⟨?_, ?_, ?_, ?_⟩, ⟨?_, ?_⟩, ⟨?_, ?_⟩, ⟨?_, ?_⟩⟩
  · exact ((jm_une_f (by decide)).trans a1)
  · exact ((jm_une_f (by decide)).trans a2)
  · exact ((jm_une_f (by decide)).trans a3)
  · exact ((jm_une_f (by decide)).trans a4)
  · exact ((jm_une_f (by decide)).trans b1)
  · rw [show (jm_u M 20 r (C.length : Int) y) 26 0 = M 26 0 from (jm_uf (fun q => absurd q.1 (by decide)))]; exact b2
  · exact ((jm_une_f (by decide)).trans c1)
  · rw [show (jm_u M 20 r (C.length : Int) y) 25 0 = M 25 0 from (jm_uf (fun q => absurd q.1 (by decide)))]; exact c2
  · exact (jm_une_f (by decide)).trans d1
  · rw [show (jm_u M 20 r (C.length : Int) y) 20 r = jm_ur (M 20 r) (C.length : Int) y from jm_us]; exact PLS.push d2.2 y
/-- how much an operator binds -/
def lv (x : Int) : Int := if x = 33 then 6 else if x = 38 then 2 else if x = 42 then 5 else if x = 43 then 4 else if x = 45 then 4 else if x = 60 then 3 else if x = 61 then 3 else if x = 62 then 3 else if x = 124 then 1 else if x = 126 then 6 else 0
theorem lv_any (x : Int) : 0 ≤ lv x ∧ lv x ≤ 6 := by
  unfold lv
  repeat' split
  all_goals omega
theorem y_levelOf (M : jm_M) (x : Int) : fX3_levelOf M x = some (lv x, M) := by
  unfold fX3_levelOf lv
  by_cases h33 : x = 33
  · rw [if_pos h33, if_pos h33]
  rw [if_neg h33, if_neg h33]
  by_cases h38 : x = 38
  · rw [if_pos h38, if_pos h38]
  rw [if_neg h38, if_neg h38]
  by_cases h42 : x = 42
  · rw [if_pos h42, if_pos h42]
  rw [if_neg h42, if_neg h42]
  by_cases h43 : x = 43
  · rw [if_pos h43, if_pos h43]
  rw [if_neg h43, if_neg h43]
  by_cases h45 : x = 45
  · rw [if_pos h45, if_pos h45]
  rw [if_neg h45, if_neg h45]
  by_cases h60 : x = 60
  · rw [if_pos h60, if_pos h60]
  rw [if_neg h60, if_neg h60]
  by_cases h61 : x = 61
  · rw [if_pos h61, if_pos h61]
  rw [if_neg h61, if_neg h61]
  by_cases h62 : x = 62
  · rw [if_pos h62, if_pos h62]
  rw [if_neg h62, if_neg h62]
  by_cases h124 : x = 124
  · rw [if_pos h124, if_pos h124]
  rw [if_neg h124, if_neg h124]
  by_cases h126 : x = 126
  · rw [if_pos h126, if_pos h126]
  rw [if_neg h126, if_neg h126]
theorem y_emit {r : Int} {M : jm_M} {st cmp dg : Int} {stk W C : List Int} (iM : bI bx1 M) (h : AB r M st cmp dg stk W C) (hn : C.length < 60) (x : Int) (hx : jm_in x) : wp (fX8_emit M r x) (fun v M1 => v = 0 ∧ bI bx1 M1 ∧ Kp (TS r) M M1 ∧ AB r M1 st cmp dg stk W (x :: C)) := by
  have d1 : M 11 r 1 = (C.length : Int) := h.2.2.2.1
  unfold fX8_emit
  refine wp_b (s_fX11_isIndex M iM (M 11 r 1) 60 (jm_inL (by omega) (by omega)) ⟨by decide, by decide⟩) (fun v M1 q => ?_)
  obtain ⟨rfl, q⟩ := q
  refine wp_F (by omega) ?_
  refine wp_T ⟨by omega, by omega⟩ ?_
  refine wp_sk (T := TS r) (M0 := M1) iM hx Kp.rf (fun z => z.1.1 rfl rfl) (fun M2 e2 i2 k2 => ?_)
  have e3 : M2 11 r 1 = (C.length : Int) := by rw [e2]; exact (jm_une_f (by decide)).trans d1
  have e4 : jm_w (M2 11 r 1 + 1) = (C.length : Int) + 1 := by rw [e3]; exact jm_wid (by omega) (by omega)
  refine wp_sk (T := TS r) (M0 := M1) i2 (show 0 ≤ jm_w (M2 11 r 1 + 1) ∧ jm_w (M2 11 r 1 + 1) ≤ 60 by omega) k2 (fun z => (z.1.2 rfl).elim (fun e => e rfl) (fun e => e rfl)) (fun M3 e5 i3 k3 => ?_)
  refine wp_ret ⟨rfl, i3, k3, ?_⟩
  rw [e5, e4, e2, d1]
  exact h.emit x
theorem y_hold {r : Int} {M : jm_M} {st cmp dg : Int} {stk W C : List Int} (iM : bI bx1 M) (h : AB r M st cmp dg stk W C) (hn : W.length < 60) (x : Int) (hx : jm_in x) : wp (fX3_hold M x) (fun v M1 => v = 0 ∧ bI bx1 M1 ∧ Kp (TS r) M M1 ∧ AB r M1 st cmp dg stk (x :: W) C) := by
  have d1 : M 6 0 1 = (W.length : Int) := h.2.2.1.1
  unfold fX3_hold
  refine wp_b (s_fX11_isIndex M iM (M 6 0 1) 60 (jm_inL (by omega) (by omega)) ⟨by decide, by decide⟩) (fun v M1 q => ?_)
  obtain ⟨rfl, q⟩ := q
  refine wp_F (by omega) ?_
  refine wp_T ⟨by omega, by omega⟩ ?_
  refine wp_sk (T := TS r) (M0 := M1) iM hx Kp.rf (fun z => z.2.1 rfl) (fun M2 e2 i2 k2 => ?_)
  have e3 : M2 6 0 1 = (W.length : Int) := by rw [e2]; exact (jm_une_f (by decide)).trans d1
  have e4 : jm_w (M2 6 0 1 + 1) = (W.length : Int) + 1 := by rw [e3]; exact jm_wid (by omega) (by omega)
  refine wp_sk (T := TS r) (M0 := M1) i2 (show -1000 ≤ jm_w (M2 6 0 1 + 1) ∧ jm_w (M2 6 0 1 + 1) ≤ 60 by omega) k2 (fun z => absurd (z.2.2.2 rfl) (by decide)) (fun M3 e5 i3 k3 => ?_)
  refine wp_ret ⟨rfl, i3, k3, ?_⟩
  rw [e5, e4, e2, d1]
  exact h.hold x
theorem y_release_7 (fu : Nat) {r : Int} (hr : 0 ≤ r ∧ r ≤ 16) (M0 : jm_M) {st cmp dg l : Int} {stk W : List Int} (hW : ∀ (x : Int) (V : List Int), W = x :: V → lv x < l) : ∀ (P : List Int) (n : Nat) (M : jm_M) (C : List Int) (y : Int), P.length < n → y = ((P ++ W).length : Int) - 1 → bI bx1 M → Kp (TS r) M0 M → AB r M st cmp dg stk (P ++ W) C → (∀ x ∈ P, l ≤ lv x ∧ 0 ≤ x ∧ x ≤ 255) → C.length + P.length ≤ 60 → (P ++ W).length ≤ 60 → wp (fX3_release_7 fu n M l y) (fun v M1 => v = 0 ∧ bI bx1 M1 ∧ Kp (TS r) M0 M1 ∧ AB r M1 st cmp dg stk W ((P.map (fun x => 2000 + x)).reverse ++ C)) := by
  intro P
  induction P with
  | nil =>
    intro n M C y hn hy iM kM h hP hC hL
    obtain ⟨n, rfl⟩ : ∃ m, n = m + 1 := ⟨n - 1, by omega⟩
    show wp (gX3_release_7 fu (fX3_release_7 fu n) M l y) _
    unfold gX3_release_7
    have fin : (0 : Int) = 0 ∧ bI bx1 M ∧ Kp (TS r) M0 M ∧ AB r M st cmp dg stk W ((([] : List Int).map (fun x => 2000 + x)).reverse ++ C) := ⟨rfl, iM, kM, h⟩
    simp only [List.nil_append] at hy hL
    cases W with
    | nil =>
      simp only [List.length_nil] at hy
      exact wp_T (by omega) (wp_ret fin)
    | cons x V =>
      simp only [List.length_cons] at hy hL
      refine wp_F (by omega) ?_
      refine wp_T ⟨by omega, by omega⟩ ?_
      have hx : M 25 0 y = x := by
        have := h.2.2.1.2.1
        rw [show y = (V.length : Int) by omega]
        exact this
      rw [hx, y_levelOf]
      show wp (if lv x < l then some (0, M) else _) _
      exact wp_T (hW x V rfl) (wp_ret fin)
  | cons p P ih =>
    intro n M C y hn hy iM kM h hP hC hL
    obtain ⟨n, rfl⟩ : ∃ m, n = m + 1 := ⟨n - 1, by omega⟩
    show wp (gX3_release_7 fu (fX3_release_7 fu n) M l y) _
    unfold gX3_release_7
    simp only [List.cons_append, List.length_cons] at hy hL hC hn
    have hp := hP p List.mem_cons_self
    refine wp_F (by omega) ?_
    refine wp_T ⟨by omega, by omega⟩ ?_
    have hx : M 25 0 y = p := by
      have := h.2.2.1.2.1
      rw [show y = ((P ++ W).length : Int) by omega]
      exact this
    have h8 : M 6 0 8 = r := h.1.2.2.2
    rw [hx, y_levelOf]
    show wp (if lv p < l then some (0, M) else _) _
    refine wp_F (by omega) ?_
    dsimp only
    refine wp_T ⟨by omega, by omega⟩ ?_
    refine wp_T ⟨by omega, by omega⟩ ?_
    rw [h8, hx, jm_wid (x := 2000 + p) (by omega) (by omega)]
    refine wp_b (y_emit iM h (by omega) (2000 + p) (jm_inL (by omega) (by omega))) (fun v M1 q => ?_)
    obtain ⟨-, i1, k1, h1⟩ := q
    have k1 := kM.tr k1 (fun _ _ _ z => z)
    refine wp_sk (T := TS r) (M0 := M0) i1 (show -1000 ≤ y ∧ y ≤ 60 by omega) k1 (fun z => absurd (z.2.2.2 rfl) (by decide)) (fun M2 e2 i2 k2 => ?_)
    refine wp_e (jm_w_in _) (fun v2 ev2 _ => ?_)
    have ey : y = ((P ++ W).length : Int) := by omega
    have h2 : AB r M2 st cmp dg stk (P ++ W) ((2000 + p) :: C) := by
      rw [e2, ey]
      exact AB.popW h1
    have := ih n M2 ((2000 + p) :: C) v2 (by omega) (by rw [ev2, jm_wid (by omega) (by omega)]; omega) i2 k2 h2 (fun x hx => hP x (List.mem_cons_of_mem _ hx)) (by simp only [List.length_cons]; omega) (by omega)
    simp only [List.map_cons, List.reverse_cons, List.append_assoc, List.cons_append, List.nil_append]
    exact this
theorem y_release (fu : Nat) (hfu : 4000 ≤ fu) {r : Int} (hr : 0 ≤ r ∧ r ≤ 16) {M : jm_M} {st cmp dg l : Int} {stk P W C : List Int} (iM : bI bx1 M) (h : AB r M st cmp dg stk (P ++ W) C) (hW : ∀ (x : Int) (V : List Int), W = x :: V → lv x < l) (hP : ∀ x ∈ P, l ≤ lv x ∧ 0 ≤ x ∧ x ≤ 255) (hC : C.length + P.length ≤ 60) (hL : (P ++ W).length ≤ 60) : wp (fX3_release fu M l) (fun v M1 => v = 0 ∧ bI bx1 M1 ∧ Kp (TS r) M M1 ∧ AB r M1 st cmp dg stk W ((P.map (fun x => 2000 + x)).reverse ++ C)) := by
  have d1 : M 6 0 1 = ((P ++ W).length : Int) := h.2.2.1.1
  unfold fX3_release
  refine wp_e (jm_w_in _) (fun v2 ev2 _ => ?_)
  have hP2 : P.length ≤ (P ++ W).length := by simp only [List.length_append]; omega
  exact y_release_7 fu hr M hW P fu M C v2 (by omega) (by rw [ev2, d1]; exact jm_wid (by omega) (by omega)) iM Kp.rf h hP hC hL
