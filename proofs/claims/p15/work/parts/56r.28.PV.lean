/-! what is answered, if anything is -/
def pv (x : jm_R) (Q : Int → Prop) : Prop := ∀ (v : Int) (M1 : jm_M), x = some (v, M1) → Q v
theorem pv_none {Q : Int → Prop} : pv none Q := fun _ _ h => by cases h
theorem pv_ret {v : Int} {M : jm_M} {Q : Int → Prop} (h : Q v) : pv (some (v, M)) Q := fun _ _ e => by
  obtain ⟨rfl, -⟩ := Prod.mk.inj (Option.some.inj e)
  exact h
theorem pv_i {c : Prop} {inst : Decidable c} {x y : jm_R} {Q : Int → Prop} (h1 : c → pv x Q) (h2 : ¬ c → pv y Q) : pv (@ite jm_R c inst x y) Q := by
  by_cases q : c
  · rw [if_pos q]; exact h1 q
  · rw [if_neg q]; exact h2 q
theorem pv_b {g : jm_R} {K : Int → jm_M → jm_R} {Q : Int → Prop} (k : ∀ (v : Int) (M1 : jm_M), pv (K v M1) Q) : pv (jm_b g K) Q := by
  intro v M1 e
  cases hg : g with
  | none => rw [hg] at e; exact absurd e (by simp [jm_b])
  | some p =>
    obtain ⟨a, b⟩ := p
    rw [hg] at e
    exact k a b v M1 e
theorem pv_e {v : Int} {K : Int → jm_R} {Q : Int → Prop} (h : ∀ x : Int, x = v → pv (K x) Q) : pv (jm_e v K) Q := h v rfl
theorem pv_s {M : jm_M} {K : jm_M → jm_R} {Q : Int → Prop} (h : ∀ M1 : jm_M, M1 = M → pv (K M1) Q) : pv (jm_s M K) Q := h M rfl
theorem J2.arv {x y : jm_R} {Q : Int → jm_M → Int → jm_M → Prop} {P : Int → Prop} (h : J2 x y Q) (g : pv y P) : J2 x y (fun v M1 w N1 => Q v M1 w N1 ∧ P w) := by
  obtain ⟨v, M1, w, N1, e1, e2, q⟩ := h
  exact ⟨v, M1, w, N1, e1, e2, q, g w N1 e2⟩
/-- held: never before the time it came at -/
theorem pv_134 (fu : Nat) (M : jm_M) (l1 l9 e : Int) (h : e < jm_w (l9 + M 5 0 0)) : pv (gX12_held_134 fu M l1 l9) (fun w => e ≤ w) := by
  unfold gX12_held_134
  refine pv_i (fun _ => pv_i (fun _ => pv_s (fun M4 u4 => pv_i (fun _ => pv_ret ?_) (fun _ => pv_none))) (fun _ => pv_none)) (fun _ => pv_none)
  show e ≤ jm_w (l9 + M4 5 0 0)
  rw [u4, jm_une_f (by decide)]
  exact Int.le_of_lt h
theorem pv_181 (fu : Nat) (k37 : jm_M → Int → Int → Int → Int → Int → jm_R) (M : jm_M) (l1 l2 l6 l7 l8 s0 s1 s2 : Int) (hk : ∀ (M : jm_M) (b : Int), pv (k37 M l1 l2 l6 l7 b) (fun w => l6 ≤ w)) : pv (gX12_held_181 fu k37 M l1 l2 l6 l7 l8 s0 s1 s2) (fun w => l6 ≤ w) := by
  unfold gX12_held_181
  exact pv_i (fun _ => pv_s (fun M2 _ => pv_i (fun _ => pv_b (fun v5 M6 => hk M6 v5)) (fun _ => pv_none))) (fun _ => pv_none)
theorem pv_154 (fu : Nat) (k37 : jm_M → Int → Int → Int → Int → Int → jm_R) (M : jm_M) (l1 l2 l6 l7 l8 : Int) (hk : ∀ (M : jm_M) (b : Int), pv (k37 M l1 l2 l6 l7 b) (fun w => l6 ≤ w)) : pv (gX12_held_154 fu k37 M l1 l2 l6 l7 l8) (fun w => l6 ≤ w) := by
  unfold gX12_held_154
  exact pv_i (fun _ => pv_i (fun _ => pv_s (fun M4 _ => pv_i (fun _ => pv_i (fun _ => pv_181 fu k37 M4 l1 l2 l6 l7 l8 _ _ _ hk) (fun _ => pv_181 fu k37 M4 l1 l2 l6 l7 l8 _ _ _ hk)) (fun _ => pv_none))) (fun _ => pv_none)) (fun _ => pv_none)
theorem pv_103 (fu : Nat) (k37 : jm_M → Int → Int → Int → Int → Int → jm_R) (M : jm_M) (l1 l2 l6 l7 l8 l9 s0 : Int) (hk : ∀ (M : jm_M) (b : Int), pv (k37 M l1 l2 l6 l7 b) (fun w => l6 ≤ w)) (h : l6 < jm_w (l9 + M 5 0 0)) : pv (gX12_held_103 fu k37 M l1 l2 l6 l7 l8 l9 s0) (fun w => l6 ≤ w) := by
  unfold gX12_held_103
  have a := pv_134 fu M l1 l9 l6 h
  have b := pv_154 fu k37 M l1 l2 l6 l7 l8 hk
  exact pv_i (fun _ => a) (fun _ => pv_i (fun _ => a) (fun _ => pv_i (fun _ => b) (fun _ => pv_i (fun _ => pv_i (fun _ => a) (fun _ => b)) (fun _ => pv_none))))
theorem pv_37 (fu : Nat) (l1 l2 l6 l7 : Int) : ∀ (n : Nat) (M : jm_M) (b : Int), pv (fX12_held_37 fu n M l1 l2 l6 l7 b) (fun w => l6 ≤ w) := by
  intro n
  induction n with
  | zero => intro M b; exact pv_none
  | succ n ih =>
    intro M b
    show pv (gX12_held_37 fu (fX12_held_37 fu n) M l1 l2 l6 l7 b) _
    unfold gX12_held_37
    refine pv_i (fun _ => pv_ret (Int.le_refl _)) (fun _ => pv_i (fun _ => pv_e (fun v4 _ => pv_i (fun _ => pv_i (fun h => ?_) (fun _ => pv_ret (Int.le_refl _))) (fun _ => pv_none))) (fun _ => pv_none))
    exact pv_i (fun _ => pv_i (fun _ => pv_i (fun _ => pv_i (fun _ => pv_103 fu _ M l1 l2 l6 l7 b v4 _ ih h) (fun _ => pv_none)) (fun _ => pv_103 fu _ M l1 l2 l6 l7 b v4 _ ih h)) (fun _ => pv_none)) (fun _ => pv_none)
theorem pv_held (fu : Nat) (M : jm_M) (l1 l2 l3 l4 l5 : Int) : pv (fX12_held fu M l1 l2 l3 l4 l5) (fun w => l4 ≤ w) := by
  have z : ∀ (M : jm_M) (s0 : Int), pv (gX12_held_23 fu M l1 l2 l4 s0) (fun w => l4 ≤ w) := fun M s0 => by
    unfold gX12_held_23
    exact pv_b (fun v2 M3 => pv_37 fu l1 l2 l4 s0 fu M3 v2)
  unfold fX12_held
  exact pv_i (fun _ => pv_b (fun v2 M3 => pv_i (fun _ => z M3 0) (fun _ => z M3 1))) (fun _ => z M 1)
/-- nobody goes on where the next is nobody -/
theorem nx_4 (fu : Nat) {N : jm_M} (b17 : N 0 0 17 ≤ 6) : ∀ (n : Nat) (l1 l2 : Int), 0 ≤ l2 → (∀ c : Int, 0 ≤ c → c < l2 → N 39 0 c = 0 → 0 ≤ l1) → pv (fX12_next_4 fu n N l1 l2) (fun w => w < 0 → ∀ c : Int, 0 ≤ c → c < N 0 0 17 → N 39 0 c ≠ 0) := by
  intro n
  induction n with
  | zero => intro l1 l2 _ _; exact pv_none
  | succ n ih =>
    intro l1 l2 h0 h
    show pv (gX12_next_4 fu (fX12_next_4 fu n) N l1 l2) _
    unfold gX12_next_4 fX12_goesOn
    refine pv_i (fun z => pv_ret (fun hw c y1 y2 y3 => by have := h c y1 (by omega) y3; omega)) (fun z => ?_)
    have w1 : jm_w (l2 + 1) = l2 + 1 := jm_wid (by omega) (by omega)
    rw [w1, if_pos (show 0 ≤ l2 ∧ l2 < 6 by omega)]
    have nx : ∀ l : Int, 0 ≤ l → pv (jm_e (l2 + 1) fun v => fX12_next_4 fu n N l v) (fun w => w < 0 → ∀ c : Int, 0 ≤ c → c < N 0 0 17 → N 39 0 c ≠ 0) := fun l hl => pv_e (fun x hx => by rw [hx]; exact ih l (l2 + 1) (by omega) (fun _ _ _ _ => hl))
    by_cases q : N 39 0 l2 = 0
    · rw [if_pos q, jm_bsm]
      refine pv_i (fun y => absurd y (by decide)) (fun _ => pv_i (fun _ => nx l2 h0) (fun y => ?_))
      have a := nx l1 (by omega)
      have b := nx l2 h0
      exact pv_i (fun _ => pv_i (fun _ => pv_i (fun _ => b) (fun _ => pv_i (fun _ => pv_i (fun _ => pv_i (fun _ => pv_i (fun _ => pv_i (fun _ => pv_i (fun _ => a) (fun _ => b)) (fun _ => pv_none)) (fun _ => pv_none)) (fun _ => a)) (fun _ => pv_none)) (fun _ => pv_none))) (fun _ => pv_none)) (fun _ => pv_none)
    · rw [if_neg q, jm_bsm]
      refine pv_i (fun _ => pv_e (fun x hx => ?_)) (fun y => absurd rfl y)
      rw [hx]
      refine ih l1 (l2 + 1) (by omega) (fun c y1 y2 y3 => ?_)
      by_cases e : c = l2
      · rw [e] at y3; exact absurd y3 q
      · exact h c y1 (by omega) y3
theorem nx_all (fu : Nat) {N : jm_M} (b17 : N 0 0 17 ≤ 6) : pv (fX12_next fu N) (fun w => w < 0 → ∀ c : Int, 0 ≤ c → c < N 0 0 17 → N 39 0 c ≠ 0) := nx_4 fu b17 fu (-1) 0 (by decide) (fun c y1 y2 _ => by exfalso; omega)
/-- a line ended later than the one before -/
def GRO (N N1 : jm_M) (c : Int) : Prop := (N1 39 0 c = 0 ∨ N1 39 0 c = 1 ∨ N1 39 0 c = 2) ∧ N 41 0 c ≤ N1 41 0 c ∧ ((N1 43 0 c = N 43 0 c ∧ ∀ k : Int, N1 55 0 k = N 55 0 k) ∨ (N1 43 0 c = N 43 0 c + 1 ∧ (N 41 0 c + 1000 ≤ N1 55 0 (60 * c + N 43 0 c) ∧ N1 55 0 (60 * c + N 43 0 c) ≤ N1 41 0 c) ∧ ∀ k : Int, k ≠ 60 * c + N 43 0 c → N1 55 0 k = N 55 0 k))
def GRW (N : jm_M) : Prop := ∀ c : Int, 0 ≤ c → c < N 0 0 17 → ((N 43 0 c ≤ N 0 0 1 * N 0 0 2 ∧ 1000 * N 43 0 c ≤ N 41 0 c) ∧ (N 39 0 c = 0 ∨ N 39 0 c = 1 ∨ N 39 0 c = 2)) ∧ ∀ g : Int, 0 ≤ g → g < N 43 0 c → 1000 * (g + 1) ≤ N 55 0 (60 * c + g) ∧ N 55 0 (60 * c + g) ≤ N 41 0 c
theorem GRW.step {N N1 : jm_M} {c : Int} (h : GRW N) (hb : ∀ o : Int, 0 ≤ o → o < N 0 0 17 → 0 ≤ N 43 0 o ∧ N 43 0 o ≤ 60) (hc : 0 ≤ c ∧ c < N 0 0 17) (g2 : Kp (KG2 c) N N1) (gr : GRO N N1 c) (hl : N 43 0 c < N 0 0 1 * N 0 0 2) : GRW N1 := by
  intro o y1 y2
  rw [g2 0 0 17 (by unfold KG2; omega)] at y2
  rw [g2 0 0 1 (by unfold KG2; omega), g2 0 0 2 (by unfold KG2; omega)]
  obtain ⟨⟨⟨a1, a2⟩, ast⟩, a3⟩ := h o y1 y2
  have b43 := hb o y1 y2
  by_cases q : o = c
  · rw [q] at a1 a2 a3 b43 ⊢
    clear ast
    obtain ⟨st, t, gr⟩ := gr
    rcases gr with ⟨e, k⟩ | ⟨e, ⟨t1, t2⟩, k⟩
    · rw [e]
      exact ⟨⟨⟨a1, by omega⟩, st⟩, fun g z1 z2 => by rw [k]; have := a3 g z1 z2; omega⟩
    · rw [e]
      refine ⟨⟨⟨by omega, by omega⟩, st⟩, fun g z1 z2 => ?_⟩
      by_cases qg : g = N 43 0 c
      · rw [qg]; omega
      · rw [k _ (by omega)]
        have := a3 g z1 (by omega)
        omega
  · rw [g2 43 0 o (by unfold KG2; omega), g2 41 0 o (by unfold KG2; omega), g2 39 0 o (by unfold KG2; omega)]
    exact ⟨⟨⟨a1, a2⟩, ast⟩, fun g z1 z2 => by rw [g2 55 0 (60 * o + g) (by unfold KG2; omega)]; exact a3 g z1 z2⟩
