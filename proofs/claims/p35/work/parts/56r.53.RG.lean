/-! two that choose against one another: an option tried, both -/
def OC1 (M M1 : jm_M) (c k : Int) : Prop := (M 19 (c + 18) (2 * k) = -1 ∧ M1 10 (c + 24) 3 = 0) ∨ (M 19 (c + 18) (2 * k) ≠ -1 ∧ M1 10 (c + 24) 3 = 1 ∧ M1 19 (c + 24) 0 = M 19 (c + 18) (2 * k) ∧ M1 19 (c + 24) 1 = M 19 (c + 18) (2 * k + 1) ∧ M1 19 (c + 24) 2 = 200)
def OC2 (N N1 : jm_M) (c k : Int) : Prop := (N 32 0 (4 * c + k) < 0 ∧ N1 26 0 c = 0) ∨ (0 ≤ N 32 0 (4 * c + k) ∧ N1 26 0 c = 1 ∧ N1 27 0 (5 * c) = N 32 0 (4 * c + k) ∧ N1 28 0 (5 * c) = N 33 0 (4 * c + k) ∧ N1 29 0 (5 * c) = 200)
def ST1 (M N : jm_M) (o : Int) : Prop := M 10 (o + 24) 3 = N 26 0 o ∧ ∀ j : Int, 0 ≤ j → j < N 26 0 o → M 19 (o + 24) (3 * j) = N 27 0 (5 * o + j) ∧ M 19 (o + 24) (3 * j + 1) = N 28 0 (5 * o + j) ∧ M 19 (o + 24) (3 * j + 2) = N 29 0 (5 * o + j) ∧ -1 ≤ N 28 0 (5 * o + j) ∧ N 28 0 (5 * o + j) ≤ 3 ∧ 0 ≤ N 29 0 (5 * o + j) ∧ N 29 0 (5 * o + j) ≤ 200
theorem c_tryOpt {M : jm_M} (iM : bI bx1 M) {c k : Int} (hc : 0 ≤ c ∧ c < 6) (hk : 0 ≤ k ∧ k < M 10 (c + 18) 3) : wp (fX1_tryOption M c k) (fun _ M1 => bI bx1 M1 ∧ M1 8 c 13 = 1 ∧ OC1 M M1 c k ∧ ∀ (f : Nat) (i j : Int), ¬ (f = 8 ∧ i = c ∧ j = 13) → ¬ (f = 10 ∧ i = c + 24 ∧ j = 3) → ¬ (f = 19 ∧ i = c + 24) → M1 f i j = M f i j) := by
  have hw : wid1 (c + 18) = 2 := wid1_18 (by omega) (by omega)
  have hw3 : wid1 (c + 24) = 3 := wid1_24 (by omega) (by omega)
  have hl : lim1 (c + 24) = 2 := lim1_24 (by omega) (by omega)
  have i200 : jm_in 200 := jm_inL (by decide) (by decide)
  have i0 : jm_in 0 := jm_inL (by decide) (by decide)
  unfold fX1_tryOption
  refine wp_si iM (show jm_in 1 from jm_inL (by decide) (by decide)) (fun M1 u1 i1 => wp_si i1 (show (0 : Int) ≤ 0 ∧ (0 : Int) ≤ lim1 (c + 24) by omega) (fun M2 u2 i2 => ?_))
  have f2 : ∀ (f : Nat) (i j : Int), ¬ (f = 8 ∧ i = c ∧ j = 13) → ¬ (f = 10 ∧ i = c + 24 ∧ j = 3) → M2 f i j = M f i j := fun f i j y1 y2 => by rw [u2, jm_une y2, u1, jm_une y1]
  have e10 : M2 10 (c + 24) 3 = 0 := by rw [u2]; exact jm_ueq
  have e13 : M2 8 c 13 = 1 := by rw [u2, jm_une_f (by decide), u1]; exact jm_ueq
  have hk2 : 0 ≤ k ∧ k < M2 10 (c + 18) 3 := by rw [f2 10 (c + 18) 3 (by omega) (by omega)]; exact hk
  have a0 : M2 19 (c + 18) (2 * k) = M 19 (c + 18) (2 * k) := f2 19 (c + 18) (2 * k) (by omega) (by omega)
  have a1 : M2 19 (c + 18) (2 * k + 1) = M 19 (c + 18) (2 * k + 1) := f2 19 (c + 18) (2 * k + 1) (by omega) (by omega)
  refine wp_bp (cell_in i2 (r := c + 18) (i := k) (k := 0) (w := 2) (a := 2 * k) ⟨by omega, by omega⟩ hw hk2 ⟨by decide, by decide⟩ (by omega)) (fun v3 e3 => ?_)
  refine wp_ite (fun z => wp_ret ⟨i2, e13, Or.inl ⟨by rw [← a0, ← e3]; exact z, e10⟩, fun f i j y1 y2 _ => f2 f i j y1 y2⟩) (fun z => ?_)
  refine wp_bp (cell_in i2 (r := c + 18) (i := k) (k := 0) (w := 2) (a := 2 * k) ⟨by omega, by omega⟩ hw hk2 ⟨by decide, by decide⟩ (by omega)) (fun v7 e7 => ?_)
  refine wp_bp (cell_in i2 (r := c + 18) (i := k) (k := 1) (w := 2) (a := 2 * k + 1) ⟨by omega, by omega⟩ hw hk2 ⟨by decide, by decide⟩ (by omega)) (fun v10 e9 => ?_)
  have iv7 : jm_in v7 := by rw [e7]; exact bx1_in (i2 19 (c + 18) (2 * k))
  have iv10 : jm_in v10 := by rw [e9]; exact bx1_in (i2 19 (c + 18) (2 * k + 1))
  refine wp_b (wp_and (s_fX7_push M2 i2 (c + 24) v7 v10 200 0 ⟨by omega, by omega⟩ iv7 iv10 i200 i0) (c_push3 i2 (r := c + 24) ⟨by omega, by omega⟩ hw3 v7 v10 200 0)) (fun v13 M14 q => ?_)
  obtain ⟨⟨i14, -, -⟩, q⟩ := q
  rcases q with ⟨-, -, p1, p2, p3⟩ | ⟨q1, -, -⟩
  · rw [e10] at p1 p2 p3
    rw [show (3 : Int) * 0 = 0 by decide, show (0 : Int) + 1 = 1 by decide, show (0 : Int) + 2 = 2 by decide] at p2
    exact wp_ret ⟨i14, (p3 8 c 13 (by omega) (by omega)).trans e13, Or.inr ⟨by rw [← a0, ← e3]; exact z, by omega, p2.1.trans (e7.trans a0), p2.2.1.trans (e9.trans a1), p2.2.2⟩, fun f i j y1 y2 y3 => (p3 f i j y2 (by omega)).trans (f2 f i j y1 y2)⟩
  · exfalso; omega
theorem d_chooses {N : jm_M} (iN : bI bx2 N) {c k : Int} (hc : 0 ≤ c ∧ c < 6) (hk : 0 ≤ k ∧ k < 4) : wp (fX12_chooses N c k) (fun _ N1 => bI bx2 N1 ∧ OC2 N N1 c k ∧ ∀ (f : Nat) (i j : Int), ¬ (i = 0 ∧ f = 26 ∧ j = c) → ¬ (i = 0 ∧ (27 ≤ f ∧ f ≤ 29) ∧ j = 5 * c) → N1 f i j = N f i j) := by
  have ix : jm_w (jm_w (4 * c) + k) = 4 * c + k := by rw [jm_wid (x := 4 * c) (by omega) (by omega)]; exact jm_wid (by omega) (by omega)
  have r : 0 ≤ 4 * c + k ∧ 4 * c + k < 24 := ⟨by omega, by omega⟩
  unfold fX12_chooses
  rw [ix]
  refine wp_T hc (wp_si iN (show (0 : Int) ≤ 0 ∧ (0 : Int) ≤ 5 by omega) (fun N2 u2 i2 => wp_T r ?_))
  have f2 : ∀ (f : Nat) (i j : Int), ¬ (i = 0 ∧ f = 26 ∧ j = c) → N2 f i j = N f i j := fun f i j y => by rw [u2]; exact jm_une (by omega)
  have e26 : N2 26 0 c = 0 := by rw [u2]; exact jm_ueq
  have x0 : N2 32 0 (4 * c + k) = N 32 0 (4 * c + k) := f2 32 0 (4 * c + k) (by omega)
  have y0 : N2 33 0 (4 * c + k) = N 33 0 (4 * c + k) := f2 33 0 (4 * c + k) (by omega)
  rw [x0, y0]
  refine wp_ite (fun z => wp_ret ⟨i2, Or.inl ⟨z, e26⟩, fun f i j y _ => f2 f i j y⟩) (fun z => wp_T r (wp_T r ?_))
  refine wp_b (wp_and (s_fX12_puts N2 i2 c (N 32 0 (4 * c + k)) (N 33 0 (4 * c + k)) 200 ⟨by omega, by omega⟩ (bx2_in (iN 32 0 (4 * c + k))) (bx2_in (iN 33 0 (4 * c + k))) (jm_inL (by decide) (by decide)) (by omega)) (dd_puts c (N 32 0 (4 * c + k)) (N 33 0 (4 * c + k)) 200 hc e26 ⟨by decide, by decide⟩)) (fun v10 N11 q => ?_)
  obtain ⟨⟨i11, -, -⟩, p1, p2, p3⟩ := q
  rw [show 5 * c + 0 = 5 * c from Int.add_zero _] at p2
  exact wp_ret ⟨i11, Or.inr ⟨by omega, by omega, p2.1, p2.2.1, p2.2.2⟩, fun f i j y1 y2 => (p3 f i j (by omega)).trans (f2 f i j y1)⟩
theorem st1_of {M M1 N N1 : jm_M} {c k : Int} (o1 : OC1 M M1 c k) (o2 : OC2 N N1 c k) (e0 : M 19 (c + 18) (2 * k) = N 32 0 (4 * c + k)) (e1 : M 19 (c + 18) (2 * k + 1) = N 33 0 (4 * c + k)) (b0 : -1 ≤ N 32 0 (4 * c + k)) (b1 : -1 ≤ N 33 0 (4 * c + k) ∧ N 33 0 (4 * c + k) ≤ 3) : ST1 M1 N1 c := by
  unfold OC1 at o1
  unfold OC2 at o2
  rcases o1 with ⟨x1, x2⟩ | ⟨x1, x2, x3, x4, x5⟩
  · rcases o2 with ⟨y1, y2⟩ | ⟨y1, -⟩
    · exact ⟨by omega, fun j z1 z2 => by exfalso; omega⟩
    · exfalso; omega
  · rcases o2 with ⟨y1, -⟩ | ⟨y1, y2, y3, y4, y5⟩
    · exfalso; omega
    · refine ⟨by omega, fun j z1 z2 => ?_⟩
      have ej : j = 0 := by omega
      rw [ej, show (3 : Int) * 0 = 0 by decide, show (0 : Int) + 1 = 1 by decide, show (0 : Int) + 2 = 2 by decide, show 5 * c + 0 = 5 * c from Int.add_zero _, x3, x4, x5, y3, y4, y5]
      exact ⟨e0, e1, rfl, b1.1, b1.2, by decide, by decide⟩
theorem ST1.mv {M N M1 N1 : jm_M} {o : Int} (h : ST1 M N o) (b : N 26 0 o ≤ 5) (m1 : M1 10 (o + 24) 3 = M 10 (o + 24) 3) (m2 : ∀ k : Int, M1 19 (o + 24) k = M 19 (o + 24) k) (n1 : N1 26 0 o = N 26 0 o) (n2 : ∀ (f : Nat) (k : Int), 27 ≤ f → f ≤ 29 → 5 * o ≤ k → k < 5 * o + 5 → N1 f 0 k = N f 0 k) : ST1 M1 N1 o := by
  refine ⟨by rw [m1, n1]; exact h.1, fun j y1 y2 => ?_⟩
  rw [n1] at y2
  rw [m2, m2, m2, n2 27 (5 * o + j) (by decide) (by decide) (by omega) (by omega), n2 28 (5 * o + j) (by decide) (by decide) (by omega) (by omega), n2 29 (5 * o + j) (by decide) (by decide) (by omega) (by omega)]
  exact h.2 j y1 y2
/-! how both stand in a pair of options -/
def PRR (P S p s : Int) : Prop := (P = 99 ∧ p = -1 ∧ S = 0) ∨ (P = p ∧ 0 ≤ p ∧ p ≤ 5 ∧ S = s)
theorem j_ahead6 {M N : jm_M} {P S p s P2 S2 p2 s2 : Int} (h : PRR P S p s) (h2 : PRR P2 S2 p2 s2) : J2 (fX10_isBetter M P S P2 S2) (fX12_isAhead N p s p2 s2) (fun v M1 w N1 => M1 = M ∧ N1 = N ∧ v = w) := by
  unfold PRR at h h2
  have hp : -1 ≤ p ∧ p ≤ 5 := by omega
  have eP : P = (if p = -1 then 99 else p) := by
    rcases h with ⟨a, b, c⟩ | ⟨a, b, c, d⟩
    · rw [if_pos b]; exact a
    · rw [if_neg (by omega)]; exact a
  have eS : S = (if p = -1 then 0 else s) := by
    rcases h with ⟨a, b, c⟩ | ⟨a, b, c, d⟩
    · rw [if_pos b]; exact c
    · rw [if_neg (by omega)]; exact d
  rw [eP, eS]
  exact j_ahead5 hp h2
theorem prr_of {p s : Int} (hp : -1 ≤ p ∧ p ≤ 5) : PRR (if p = -1 then 99 else p) (if p = -1 then 0 else s) p s := by
  unfold PRR
  by_cases y : p = -1
  · rw [if_pos y, if_pos y]; exact Or.inl ⟨rfl, y, rfl⟩
  · rw [if_neg y, if_neg y]; exact Or.inr ⟨rfl, by omega, hp.2, rfl⟩
def PRL (M N : jm_M) (p : Int) : Prop := PRR (M 42 0 p) (M 43 0 p) (N 76 0 p) (N 77 0 p) ∧ PRR (M 44 0 p) (M 45 0 p) (N 78 0 p) (N 79 0 p)
theorem PRL.mv {M N M1 N1 : jm_M} {p : Int} (h : PRL M N p) (km : ∀ f : Nat, 42 ≤ f → f ≤ 45 → M1 f 0 p = M f 0 p) (kn : ∀ f : Nat, 76 ≤ f → f ≤ 79 → N1 f 0 p = N f 0 p) : PRL M1 N1 p := by
  unfold PRL at h ⊢
  rw [km 42 (by decide) (by decide), km 43 (by decide) (by decide), km 44 (by decide) (by decide), km 45 (by decide) (by decide), kn 76 (by decide) (by decide), kn 77 (by decide) (by decide), kn 78 (by decide) (by decide), kn 79 (by decide) (by decide)]
  exact h
def PRA (M N : jm_M) (A B : Int) : Prop := ∀ i j : Int, 0 ≤ i → i < A → 0 ≤ j → j < B → PRL M N (4 * i + j)
theorem is69_s (fu m : Nat) (h : 0 < m) : fX10_isSettled_69 fu m = gX10_isSettled_69 fu (fX10_isSettled_69 fu (m - 1)) := by
  cases m with
  | zero => omega
  | succ m => rfl
theorem is10_s (fu m : Nat) (h : 0 < m) : fX10_isSettled_10 fu m = gX10_isSettled_10 fu (fX10_isSettled_10 fu (m - 1)) := by
  cases m with
  | zero => omega
  | succ m => rfl
theorem is82_s (fu m : Nat) (h : 0 < m) : fX12_isSettled_82 fu m = gX12_isSettled_82 fu (fX12_isSettled_82 fu (m - 1)) := by
  cases m with
  | zero => omega
  | succ m => rfl
theorem is13_s (fu m : Nat) (h : 0 < m) : fX12_isSettled_13 fu m = gX12_isSettled_13 fu (fX12_isSettled_13 fu (m - 1)) := by
  cases m with
  | zero => omega
  | succ m => rfl
theorem r_82z (fu : Nat) (N : jm_M) (i B p : Int) (hB : B ≤ 4) : ∀ (n : Nat) (y : Int), 0 ≤ y → y ≤ B → B - y < (n : Int) → fX12_isSettled_82 fu n N i B p 0 y = some (0, N) := by
  intro n
  induction n with
  | zero => intro y _ h1 hn; exfalso; omega
  | succ n ih =>
    intro y h0 h1 hn
    have w : jm_w (y + 1) = y + 1 := jm_wid (by omega) (by omega)
    rw [is82_s fu (n + 1) (by omega), show n + 1 - 1 = n from rfl]
    unfold gX12_isSettled_82
    by_cases c : B ≤ y
    · rw [if_pos c, if_pos (Or.inl rfl)]
    · rw [if_neg c, if_pos rfl, w, jm_ee]
      exact ih (y + 1) (by omega) (by omega) (by omega)
theorem r_13z (fu : Nat) (hfu : 4000 ≤ fu) (N : jm_M) (i j A B p : Int) (hA : A ≤ 4) (hB : 0 ≤ B ∧ B ≤ 4) : ∀ (n : Nat) (y : Int), 0 ≤ y → y ≤ A → A - y < (n : Int) → fX12_isSettled_13 fu n N i j A B p 0 y = some (0, N) := by
  intro n
  induction n with
  | zero => intro y _ h1 hn; exfalso; omega
  | succ n ih =>
    intro y h0 h1 hn
    have w : jm_w (y + 1) = y + 1 := jm_wid (by omega) (by omega)
    rw [is13_s fu (n + 1) (by omega), show n + 1 - 1 = n from rfl]
    unfold gX12_isSettled_13
    by_cases c : A ≤ y
    · rw [if_pos c]
      exact r_82z fu N i B p hB.2 fu 0 (by decide) hB.1 (by omega)
    · rw [if_neg c, if_pos rfl, w, jm_ee]
      exact ih (y + 1) (by omega) (by omega) (by omega)
theorem j_69 (fu : Nat) {M N : jm_M} {A B i j : Int} (pr : PRA M N A B) (hA : A ≤ 4) (hB : B ≤ 4) (hi : 0 ≤ i ∧ i < A) (hj : 0 ≤ j ∧ j < B) : ∀ (n m : Nat) (y : Int), 0 ≤ y → y ≤ B → B - y < (n : Int) → B - y < (m : Int) → J2 (fX10_isSettled_69 fu n M i B (4 * i + j) y) (fX12_isSettled_82 fu m N i B (4 * i + j) 1 y) (fun v M1 w N1 => M1 = M ∧ N1 = N ∧ v = w) := by
  intro n
  induction n with
  | zero => intro m y _ h1 hn _; exfalso; omega
  | succ n ih =>
    intro m y h0 h1 hn hm
    have w : jm_w (y + 1) = y + 1 := jm_wid (by omega) (by omega)
    have wa : jm_w (jm_w (i * 4) + y) = 4 * i + y := by rw [jm_wid (x := i * 4) (by omega) (by omega), jm_wid (by omega) (by omega)]; omega
    have wb : jm_w (jm_w (4 * i) + y) = 4 * i + y := by rw [jm_wid (x := 4 * i) (by omega) (by omega), jm_wid (by omega) (by omega)]
    rw [is69_s fu (n + 1) (by omega), show n + 1 - 1 = n from rfl, is82_s fu m (by omega)]
    unfold gX10_isSettled_69 gX12_isSettled_82
    rw [w, wa, wb]
    refine J2.bi Iff.rfl (fun c => J2.rT (Or.inr rfl) (J2.ret ⟨rfl, rfl, rfl⟩)) (fun c => ?_)
    have r : 0 ≤ 4 * i + y ∧ 4 * i + y < 16 := ⟨by omega, by omega⟩
    have s : 0 ≤ 4 * i + j ∧ 4 * i + j < 16 := ⟨by omega, by omega⟩
    rw [jm_ee]
    refine J2.rF (by decide) (J2.lT r (J2.lT r (J2.lT s (J2.lT s (J2.rT r (J2.rT r (J2.rT s (J2.rT s ?_))))))))
    refine J2.bq (j_ahead6 (pr i y hi.1 hi.2 h0 (by omega)).2 (pr i j hi.1 hi.2 hj.1 hj.2).2) (fun v x e => ?_)
    refine J2.bi (by omega) (fun z => ?_) (fun z => ?_)
    · rw [jm_ee, jm_ee]
      exact ih (m - 1) (y + 1) (by omega) (by omega) (by omega) (by omega)
    · rw [jm_ee, r_82z fu N i B (4 * i + j) hB (m - 1) (y + 1) (by omega) (by omega) (by omega)]
      exact J2.ret ⟨rfl, rfl, rfl⟩
theorem j_10 (fu : Nat) (hfu : 4000 ≤ fu) {M N : jm_M} {A B i j : Int} (pr : PRA M N A B) (hA : A ≤ 4) (hB : B ≤ 4) (hi : 0 ≤ i ∧ i < A) (hj : 0 ≤ j ∧ j < B) : ∀ (n m : Nat) (y : Int), 0 ≤ y → y ≤ A → A - y < (n : Int) → A - y < (m : Int) → J2 (fX10_isSettled_10 fu n M i j A B (4 * i + j) y) (fX12_isSettled_13 fu m N i j A B (4 * i + j) 1 y) (fun v M1 w N1 => M1 = M ∧ N1 = N ∧ v = w) := by
  intro n
  induction n with
  | zero => intro m y _ h1 hn _; exfalso; omega
  | succ n ih =>
    intro m y h0 h1 hn hm
    have w : jm_w (y + 1) = y + 1 := jm_wid (by omega) (by omega)
    have wa : jm_w (jm_w (y * 4) + j) = 4 * y + j := by rw [jm_wid (x := y * 4) (by omega) (by omega), jm_wid (by omega) (by omega)]; omega
    have wb : jm_w (jm_w (4 * y) + j) = 4 * y + j := by rw [jm_wid (x := 4 * y) (by omega) (by omega), jm_wid (by omega) (by omega)]
    rw [is10_s fu (n + 1) (by omega), show n + 1 - 1 = n from rfl, is13_s fu m (by omega)]
    unfold gX10_isSettled_10 gX12_isSettled_13
    rw [w, wa, wb]
    refine J2.bi Iff.rfl (fun c => j_69 fu pr hA hB hi hj fu fu 0 (by decide) (by omega) (by omega) (by omega)) (fun c => ?_)
    have r : 0 ≤ 4 * y + j ∧ 4 * y + j < 16 := ⟨by omega, by omega⟩
    have s : 0 ≤ 4 * i + j ∧ 4 * i + j < 16 := ⟨by omega, by omega⟩
    rw [jm_ee]
    refine J2.rF (by decide) (J2.lT r (J2.lT r (J2.lT s (J2.lT s (J2.rT r (J2.rT r (J2.rT s (J2.rT s ?_))))))))
    refine J2.bq (j_ahead6 (pr y j h0 (by omega) hj.1 hj.2).1 (pr i j hi.1 hi.2 hj.1 hj.2).1) (fun v x e => ?_)
    refine J2.bi (by omega) (fun z => ?_) (fun z => ?_)
    · rw [jm_ee, jm_ee]
      exact ih (m - 1) (y + 1) (by omega) (by omega) (by omega) (by omega)
    · rw [jm_ee, r_13z fu hfu N i j A B (4 * i + j) hA ⟨by omega, hB⟩ (m - 1) (y + 1) (by omega) (by omega) (by omega)]
      exact J2.ret ⟨rfl, rfl, rfl⟩
theorem j_settled (fu : Nat) (hfu : 4000 ≤ fu) {M N : jm_M} {A B i j : Int} (pr : PRA M N A B) (hA : A ≤ 4) (hB : B ≤ 4) (hi : 0 ≤ i ∧ i < A) (hj : 0 ≤ j ∧ j < B) : J2 (fX10_isSettled fu M i j A B) (fX12_isSettled fu N i j A B) (fun v M1 w N1 => M1 = M ∧ N1 = N ∧ v = w) := by
  have wa : jm_w (jm_w (i * 4) + j) = 4 * i + j := by rw [jm_wid (x := i * 4) (by omega) (by omega), jm_wid (by omega) (by omega)]; omega
  have wb : jm_w (jm_w (4 * i) + j) = 4 * i + j := by rw [jm_wid (x := 4 * i) (by omega) (by omega), jm_wid (by omega) (by omega)]
  unfold fX10_isSettled fX12_isSettled
  rw [wa, wb, jm_ee, jm_ee]
  exact j_10 fu hfu pr hA hB hi hj fu fu 0 (by decide) (by omega) (by omega) (by omega)
/-! the first pair that is settled -/
theorem fs193_s (fu : Nat) (k : jm_M → Int → Int → Int → jm_R) (m : Nat) (h : 0 < m) : fX10_firstSettled_193 fu k m = gX10_firstSettled_193 fu k (fX10_firstSettled_193 fu k (m - 1)) := by
  cases m with
  | zero => omega
  | succ m => rfl
theorem fs183_s (fu m : Nat) (h : 0 < m) : fX10_firstSettled_183 fu m = gX10_firstSettled_183 fu (fX10_firstSettled_183 fu (m - 1)) := by
  cases m with
  | zero => omega
  | succ m => rfl
theorem fs79_s (fu : Nat) (k : jm_M → Int → Int → Int → Int → Int → Int → jm_R) (m : Nat) (h : 0 < m) : fX10_firstSettled_79 fu k m = gX10_firstSettled_79 fu k (fX10_firstSettled_79 fu k (m - 1)) := by
  cases m with
  | zero => omega
  | succ m => rfl
theorem fs69_s (fu m : Nat) (h : 0 < m) : fX10_firstSettled_69 fu m = gX10_firstSettled_69 fu (fX10_firstSettled_69 fu (m - 1)) := by
  cases m with
  | zero => omega
  | succ m => rfl
theorem st221_s (fu : Nat) (k : jm_M → Int → Int → Int → jm_R) (m : Nat) (h : 0 < m) : fX12_settle_221 fu k m = gX12_settle_221 fu k (fX12_settle_221 fu k (m - 1)) := by
  cases m with
  | zero => omega
  | succ m => rfl
theorem st207_s (fu m : Nat) (h : 0 < m) : fX12_settle_207 fu m = gX12_settle_207 fu (fX12_settle_207 fu (m - 1)) := by
  cases m with
  | zero => omega
  | succ m => rfl
theorem st80_s (fu : Nat) (k : jm_M → Int → Int → Int → Int → jm_R) (m : Nat) (h : 0 < m) : fX12_settle_80 fu k m = gX12_settle_80 fu k (fX12_settle_80 fu k (m - 1)) := by
  cases m with
  | zero => omega
  | succ m => rfl
theorem st66_s (fu m : Nat) (h : 0 < m) : fX12_settle_66 fu m = gX12_settle_66 fu (fX12_settle_66 fu (m - 1)) := by
  cases m with
  | zero => omega
  | succ m => rfl
theorem j_193 (fu : Nat) (hfu : 4000 ≤ fu) {M N : jm_M} {A B a b i : Int} (pr : PRA M N A B) (hA : A ≤ 4) (hB : B ≤ 4) (ha : 0 ≤ a ∧ a < 6) (hb : 0 ≤ b ∧ b < 6) (nA : N 31 0 a = A) (nB : N 31 0 b = B) (hi : 0 ≤ i ∧ i < A) (k1 k2 : jm_M → Int → Int → Int → jm_R) (nx : J2 (k1 M A B (i + 1)) (k2 N a b (i + 1)) (fun v _ w _ => v = w)) : ∀ (n m : Nat) (y : Int), 0 ≤ y → y ≤ B → B - y < (n : Int) → B - y < (m : Int) → J2 (fX10_firstSettled_193 fu k1 n M A B i y) (fX12_settle_221 fu k2 m N a b i y) (fun v _ w _ => v = w) := by
  have wi : jm_w (i + 1) = i + 1 := jm_wid (by omega) (by omega)
  intro n
  induction n with
  | zero => intro m y _ h1 hn _; exfalso; omega
  | succ n ih =>
    intro m y h0 h1 hn hm
    have w : jm_w (y + 1) = y + 1 := jm_wid (by omega) (by omega)
    rw [fs193_s fu k1 (n + 1) (by omega), show n + 1 - 1 = n from rfl, st221_s fu k2 m (by omega)]
    unfold gX10_firstSettled_193 gX12_settle_221
    rw [w, wi, nB, nA]
    refine J2.rT hb (J2.bi Iff.rfl (fun c => ?_) (fun c => J2.rT ha (J2.rT hb (J2.bq (j_settled fu hfu pr hA hB hi ⟨h0, by omega⟩) (fun v x e => J2.bi (by omega) (fun z => ?_) (fun z => J2.ret rfl))))))
    · rw [jm_ee, jm_ee]
      exact nx
    · rw [jm_ee, jm_ee]
      exact ih (m - 1) (y + 1) (by omega) (by omega) (by omega) (by omega)
theorem j_183 (fu : Nat) (hfu : 4000 ≤ fu) {M N : jm_M} {A B a b : Int} (pr : PRA M N A B) (hA : A ≤ 4) (hB : 0 ≤ B ∧ B ≤ 4) (ha : 0 ≤ a ∧ a < 6) (hb : 0 ≤ b ∧ b < 6) (nA : N 31 0 a = A) (nB : N 31 0 b = B) : ∀ (n m : Nat) (i : Int), 0 ≤ i → i ≤ A → A - i < (n : Int) → A - i < (m : Int) → J2 (fX10_firstSettled_183 fu n M A B i) (fX12_settle_207 fu m N a b i) (fun v _ w _ => v = w) := by
  intro n
  induction n with
  | zero => intro m i _ h1 hn _; exfalso; omega
  | succ n ih =>
    intro m i h0 h1 hn hm
    rw [fs183_s fu (n + 1) (by omega), show n + 1 - 1 = n from rfl, st207_s fu m (by omega)]
    unfold gX10_firstSettled_183 gX12_settle_207
    rw [nA]
    exact J2.rT ha (J2.bi Iff.rfl (fun c => J2.ret rfl) (fun c => j_193 fu hfu pr hA hB.2 ha hb nA nB ⟨h0, by omega⟩ _ _ (ih (m - 1) (i + 1) (by omega) (by omega) (by omega) (by omega)) fu fu 0 (by decide) hB.1 (by omega) (by omega)))
/-! a pair of options tried, both -/
theorem JG.mw {M M1 N : jm_M} {n : Int} (h : JG M N n) (k : ∀ (f : Nat) (i j : Int), f < 42 ∨ 45 < f → M1 f i j = M f i j) : JG M1 N n := fun c y1 y2 => by
  rw [k 36 0 c (by decide), k 37 0 c (by decide), k 38 0 c (by decide)]
  exact h c y1 y2
theorem JG.nv {M N N1 : jm_M} {n : Int} (h : JG M N n) (k : ∀ (f : Nat) (i j : Int), f < 76 → N1 f i j = N f i j) : JG M N1 n := fun c y1 y2 => by
  rw [k 67 0 c (by decide), k 43 0 c (by decide), k 0 0 1 (by decide), k 68 0 c (by decide)]
  exact h c y1 y2
theorem c_keepPair (fu : Nat) {M : jm_M} (iM : bI bx1 M) {a b p pa sa pb sb : Int} (hp : 0 ≤ p ∧ p < 16) (i1 : jm_in pa) (i2 : jm_in sa) (i3 : jm_in pb) (i4 : jm_in sb) (h : ∀ M' : jm_M, (∀ (f : Nat) (i j : Int), f < 42 ∨ 45 < f → M' f i j = M f i j) → (fX5_triedPlace fu M' a = some (pa, M') ∧ fX5_triedSum M' a = some (sa, M')) ∧ fX5_triedPlace fu M' b = some (pb, M') ∧ fX5_triedSum M' b = some (sb, M')) : wp (fX10_keepPair fu M a b p) (fun _ M1 => bI bx1 M1 ∧ (M1 42 0 p = pa ∧ M1 43 0 p = sa ∧ M1 44 0 p = pb ∧ M1 45 0 p = sb) ∧ ∀ (f : Nat) (i j : Int), ¬ ((42 ≤ f ∧ f ≤ 45) ∧ i = 0 ∧ j = p) → M1 f i j = M f i j) := by
  unfold fX10_keepPair
  refine wp_bp (x_isIndex M p 16) (fun v z => wp_F (by omega) ?_)
  rw [(h M (fun _ _ _ _ => rfl)).1.1, jm_bsm]
  refine wp_T hp (wp_sv (fun P1 w1 => ?_))
  have k1 : ∀ (f : Nat) (i j : Int), f < 42 ∨ 45 < f → P1 f i j = M f i j := fun f i j y => by rw [w1]; exact jm_une_f (by omega)
  rw [(h P1 k1).1.2, jm_bsm]
  refine wp_T hp (wp_sv (fun P2 w2 => ?_))
  have k2 : ∀ (f : Nat) (i j : Int), f < 42 ∨ 45 < f → P2 f i j = M f i j := fun f i j y => by rw [w2, jm_une_f (by omega)]; exact k1 f i j y
  rw [(h P2 k2).2.1, jm_bsm]
  refine wp_T hp (wp_sv (fun P3 w3 => ?_))
  have k3 : ∀ (f : Nat) (i j : Int), f < 42 ∨ 45 < f → P3 f i j = M f i j := fun f i j y => by rw [w3, jm_une_f (by omega)]; exact k2 f i j y
  rw [(h P3 k3).2.2, jm_bsm]
  refine wp_T hp (wp_sv (fun P4 w4 => wp_ret ⟨?_, ⟨?_, ?_, ?_, ?_⟩, fun f i j y => ?_⟩))
  · have j1 : bI bx1 P1 := by rw [w1]; exact bI_u iM i1
    have j2 : bI bx1 P2 := by rw [w2]; exact bI_u j1 i2
    have j3 : bI bx1 P3 := by rw [w3]; exact bI_u j2 i3
    rw [w4]; exact bI_u j3 i4
  · rw [w4, jm_une_f (by decide), w3, jm_une_f (by decide), w2, jm_une_f (by decide), w1]; exact jm_ueq
  · rw [w4, jm_une_f (by decide), w3, jm_une_f (by decide), w2]; exact jm_ueq
  · rw [w4, jm_une_f (by decide), w3]; exact jm_ueq
  · rw [w4]; exact jm_ueq
  · rw [w4, jm_une (by omega), w3, jm_une (by omega), w2, jm_une (by omega), w1, jm_une (by omega)]
def SRP (M0 N0 M N : jm_M) (a b : Int) : Prop := (bI bx1 M ∧ bI bx2 N) ∧ Kp (SF1 a b) M0 M ∧ Kp (SF2 a b) N0 N ∧ N 60 0 a = 1 ∧ N 60 0 b = 1
theorem j_opt2 {M0 N0 M N : jm_M} (bas : BAS M0 N0) {a b i j A B : Int} (ha : 0 ≤ a ∧ a < N0 0 0 17) (hb : 0 ≤ b ∧ b < N0 0 0 17) (ne : a ≠ b) (oA : N0 31 0 a = A) (oB : N0 31 0 b = B) (pA : M0 10 (a + 18) 3 = A) (pB : M0 10 (b + 18) 3 = B) (sr : SRP M0 N0 M N a b) (hi : 0 ≤ i ∧ i < A) (hj : 0 ≤ j ∧ j < B) {ka kb : jm_M → jm_R} {Q : Int → jm_M → Int → jm_M → Prop} (h : ∀ M9 N8 : jm_M, (bI bx1 M9 ∧ bI bx2 N8) → Kp (SF1 a b) M0 M9 → Kp (SF2 a b) N0 N8 → STP M9 N8 a b → (∀ (f : Nat) (q : Int), 42 ≤ f → f ≤ 45 → M9 f 0 q = M f 0 q) → (∀ (f : Nat) (q : Int), 76 ≤ f → f ≤ 79 → N8 f 0 q = N f 0 q) → J2 (ka M9) (kb N8) Q) : J2 (jm_b (fX1_tryOption M a i) fun _ M6 => if 0 ≤ b ∧ b < 6 then jm_b (fX1_tryOption M6 b j) fun _ M9 => ka M9 else none) (jm_b (fX12_chooses N a i) fun _ N7 => jm_b (fX12_chooses N7 b j) fun _ N8 => kb N8) Q := by
  obtain ⟨-, ir0, -, i0, -⟩ := bas
  obtain ⟨⟨iM, iN⟩, kM, kN, e60a, e60b⟩ := sr
  have b17 : 0 ≤ N0 0 0 17 ∧ N0 0 0 17 ≤ 6 := i0 0 0 17
  have bA : 0 ≤ N0 31 0 a ∧ N0 31 0 a ≤ 4 := i0 31 0 a
  have bB : 0 ≤ N0 31 0 b ∧ N0 31 0 b ≤ 4 := i0 31 0 b
  have ha6 : 0 ≤ a ∧ a < 6 := ⟨ha.1, by omega⟩
  have hb6 : 0 ≤ b ∧ b < 6 := ⟨hb.1, by omega⟩
  obtain ⟨oa0, oa1, oa2, oa3⟩ := ir0.2.2.1 a ha.1 ha.2 i hi.1 (by omega)
  obtain ⟨ob0, ob1, ob2, ob3⟩ := ir0.2.2.1 b hb.1 hb.2 j hj.1 (by omega)
  have pMa : M 10 (a + 18) 3 = A := (kM 10 (a + 18) 3 (by unfold SF1; omega)).trans pA
  have pMb : M 10 (b + 18) 3 = B := (kM 10 (b + 18) 3 (by unfold SF1; omega)).trans pB
  refine J2.lb (c_tryOpt iM ha6 (by rw [pMa]; exact hi)) (fun _ M6 q6 => J2.lT hb6 ?_)
  obtain ⟨i6, a13, ac, af⟩ := q6
  refine J2.lb (c_tryOpt i6 hb6 (by rw [af 10 (b + 18) 3 (by omega) (by omega) (by omega), pMb]; exact hj)) (fun _ M9 q9 => ?_)
  obtain ⟨i9, b13, bc, bf⟩ := q9
  refine J2.rb (d_chooses iN ha6 (k := i) ⟨hi.1, by omega⟩) (fun _ N7 q7 => ?_)
  obtain ⟨i7, ad, adf⟩ := q7
  refine J2.rb (d_chooses i7 hb6 (k := j) ⟨hj.1, by omega⟩) (fun _ N8 q8 => ?_)
  obtain ⟨i8, bd, bdf⟩ := q8
  have x32 : N7 32 0 (4 * b + j) = N0 32 0 (4 * b + j) := (adf 32 0 (4 * b + j) (by omega) (by omega)).trans (kN 32 0 (4 * b + j) (by unfold SF2; omega))
  have x33 : N7 33 0 (4 * b + j) = N0 33 0 (4 * b + j) := (adf 33 0 (4 * b + j) (by omega) (by omega)).trans (kN 33 0 (4 * b + j) (by unfold SF2; omega))
  have x19 : ∀ k : Int, M6 19 (b + 18) k = M0 19 (b + 18) k := fun k => (af 19 (b + 18) k (by omega) (by omega) (by omega)).trans (kM 19 (b + 18) k (by unfold SF1; omega))
  have sa : ST1 M6 N7 a := st1_of ac ad (by rw [kM 19 (a + 18) (2 * i) (by unfold SF1; omega), kN 32 0 (4 * a + i) (by unfold SF2; omega)]; exact oa0) (by rw [kM 19 (a + 18) (2 * i + 1) (by unfold SF1; omega), kN 33 0 (4 * a + i) (by unfold SF2; omega)]; exact oa1) (by rw [kN 32 0 (4 * a + i) (by unfold SF2; omega)]; exact oa2.1) (by rw [kN 33 0 (4 * a + i) (by unfold SF2; omega)]; exact oa3)
  have sb : ST1 M9 N8 b := st1_of bc bd (by rw [x19, x32]; exact ob0) (by rw [x19, x33]; exact ob1) (by rw [x32]; exact ob2.1) (by rw [x33]; exact ob3)
  clear ac ad bc bd oa0 oa1 oa2 oa3 ob0 ob1 ob2 ob3 x32 x33 x19
  have b26 : 0 ≤ N7 26 0 a ∧ N7 26 0 a ≤ 5 := i7 26 0 a
  have sa9 : ST1 M9 N8 a := sa.mv b26.2 (bf 10 (a + 24) 3 (by omega) (by omega) (by omega)) (fun k => bf 19 (a + 24) k (by omega) (by omega) (by omega)) (bdf 26 0 a (by omega) (by omega)) (fun f k y1 y2 y3 y4 => bdf f 0 k (by omega) (by omega))
  have kM9 : Kp (SF1 a b) M0 M9 := fun f o k y => (bf f o k (by unfold SF1 at y; omega) (by unfold SF1 at y; omega) (by unfold SF1 at y; omega)).trans ((af f o k (by unfold SF1 at y; omega) (by unfold SF1 at y; omega) (by unfold SF1 at y; omega)).trans (kM f o k y))
  have kN8 : Kp (SF2 a b) N0 N8 := fun f o k y => (bdf f o k (by unfold SF2 at y; omega) (by unfold SF2 at y; omega)).trans ((adf f o k (by unfold SF2 at y; omega) (by unfold SF2 at y; omega)).trans (kN f o k y))
  have st : STP M9 N8 a b := by
    intro o ho
    rcases ho with e | e
    · rw [e]
      exact ⟨⟨(bf 8 a 13 (by omega) (by omega) (by omega)).trans a13, (bdf 60 0 a (by omega) (by omega)).trans ((adf 60 0 a (by omega) (by omega)).trans e60a)⟩, sa9.1, sa9.2⟩
    · rw [e]
      exact ⟨⟨b13, (bdf 60 0 b (by omega) (by omega)).trans ((adf 60 0 b (by omega) (by omega)).trans e60b)⟩, sb.1, sb.2⟩
  exact h M9 N8 ⟨i9, i8⟩ kM9 kN8 st (fun f q y1 y2 => (bf f 0 q (by omega) (by omega) (by omega)).trans (af f 0 q (by omega) (by omega) (by omega))) (fun f q y1 y2 => (bdf f 0 q (by omega) (by omega)).trans (adf f 0 q (by omega) (by omega)))
/-- how a car stands after a run, to both, whatever of the pairs is written meanwhile -/
theorem c_stands (fu : Nat) (hfu : 4000 ≤ fu) {M N : jm_M} (iN : bI bx2 N) (s5 : M 2 0 5 = N 0 0 17) (m84 : ∀ o : Int, 0 ≤ o → o < N 0 0 17 → M 8 o 4 = N 17 0 o) (jg : JG M N (N 0 0 17)) (b6 : N 0 0 17 ≤ 6) {c : Int} (hc : 0 ≤ c ∧ c < N 0 0 17) : ∃ p : Int, (-1 ≤ p ∧ p ≤ 5) ∧ (∀ M' : jm_M, (∀ (f : Nat) (o k : Int), f < 42 ∨ 45 < f → M' f o k = M f o k) → fX5_triedPlace fu M' c = some ((if p = -1 then 99 else p), M') ∧ fX5_triedSum M' c = some ((if p = -1 then 0 else N 68 0 c), M')) ∧ ∀ N' : jm_M, bI bx2 N' → (∀ (f : Nat) (o k : Int), f < 76 → N' f o k = N f o k) → fX12_placeOf fu N' c 0 = some (p, N') := by
  obtain ⟨p, ep, bp, pn, ep2, -⟩ := c_triedPlace fu hfu iN s5 m84 jg hc
  refine ⟨p, bp, fun M' k => ?_, fun N' i' k => ?_⟩
  · have jg' : JG M' N (N 0 0 17) := jg.mw k
    obtain ⟨v, e1, -, -, e2, -⟩ := c_triedPlace fu hfu iN ((k 2 0 5 (by omega)).trans s5) (fun o y1 y2 => (k 8 o 4 (by omega)).trans (m84 o y1 y2)) jg' hc
    have x : p = v := by rw [ep] at e1; exact (Prod.mk.inj (Option.some.inj e1)).1
    rw [x] at pn ⊢
    refine ⟨e2, ?_⟩
    rw [c_triedSum jg' hc b6]
    by_cases o : N 67 0 c = 0
    · rw [if_pos o, if_pos (pn.2 o)]
    · rw [if_neg o, if_neg (fun y => o (pn.1 y))]
  · have e17 : N' 0 0 17 = N 0 0 17 := k 0 0 17 (by decide)
    have q67 : N' 67 0 c = N 67 0 c := k 67 0 c (by decide)
    obtain ⟨v, e1, -, vn, e2, -⟩ := c_triedPlace (M := M) (N := N') fu hfu i' (by rw [e17]; exact s5) (fun o y1 y2 => by rw [e17] at y2; rw [k 17 0 o (by decide)]; exact m84 o y1 y2) (by rw [e17]; exact jg.nv k) (by rw [e17]; exact hc)
    rw [q67] at vn
    rw [ep2] at e2
    have y3 : (if p = -1 then (99 : Int) else p) = (if v = -1 then 99 else v) := (Prod.mk.inj (Option.some.inj e2)).1
    have x : v = p := by
      by_cases o : p = -1
      · rw [o]; exact vn.2 (pn.1 o)
      · have o2 : ¬ v = -1 := fun y => o (pn.2 (vn.1 y))
        rw [if_neg o, if_neg o2] at y3
        exact y3.symm
    rw [e1, x]
/-- the reference keeps a pair -/
theorem d_pair (fu : Nat) {N : jm_M} (iN : bI bx2 N) {a b p pa pb : Int} (hp : 0 ≤ p ∧ p < 16) (ha6 : 0 ≤ a ∧ a < 6) (hb6 : 0 ≤ b ∧ b < 6) (ba : -1 ≤ pa ∧ pa ≤ 5) (bb : -1 ≤ pb ∧ pb ≤ 5) (ea : fX12_placeOf fu N a 0 = some (pa, N)) (eb : ∀ N' : jm_M, bI bx2 N' → (∀ (f : Nat) (o k : Int), f < 76 → N' f o k = N f o k) → fX12_placeOf fu N' b 0 = some (pb, N')) {x : jm_R} {K : jm_M → jm_R} {Q : Int → jm_M → Int → jm_M → Prop} (h : ∀ P4 : jm_M, bI bx2 P4 → (P4 76 0 p = pa ∧ P4 77 0 p = N 68 0 a ∧ P4 78 0 p = pb ∧ P4 79 0 p = N 68 0 b) → (∀ (f : Nat) (o k : Int), ¬ ((76 ≤ f ∧ f ≤ 79) ∧ o = 0 ∧ k = p) → P4 f o k = N f o k) → J2 x (K P4) Q) : J2 x (jm_b (fX12_placeOf fu N a 0) fun v12 M13 => if 0 ≤ p ∧ p < 16 then (jm_s (jm_u M13 76 0 p v12) fun M16 => if 0 ≤ a ∧ a < 6 then (if 0 ≤ p ∧ p < 16 then (jm_s (jm_u M16 77 0 p (M16 68 0 a)) fun M20 => jm_b (fX12_placeOf fu M20 b 0) fun v21 M22 => if 0 ≤ p ∧ p < 16 then (jm_s (jm_u M22 78 0 p v21) fun M25 => if 0 ≤ b ∧ b < 6 then (if 0 ≤ p ∧ p < 16 then (jm_s (jm_u M25 79 0 p (M25 68 0 b)) fun M29 => K M29) else none) else none) else none) else none) else none) else none) Q := by
  rw [ea, jm_bsm]
  refine J2.rT hp (J2.rs (fun P1 u1 => J2.rT ha6 (J2.rT hp (J2.rs (fun P2 u2 => ?_)))))
  have j1 : bI bx2 P1 := by rw [u1]; exact bI_u iN (jm_inL (by omega) (by omega))
  have j2 : bI bx2 P2 := by rw [u2]; exact bI_u j1 (bx2_in (j1 68 0 a))
  have f2 : ∀ (f : Nat) (o k : Int), f < 76 → P2 f o k = N f o k := fun f o k y => by rw [u2, jm_une_f (by omega), u1, jm_une_f (by omega)]
  rw [eb P2 j2 f2, jm_bsm]
  refine J2.rT hp (J2.rs (fun P3 u3 => J2.rT hb6 (J2.rT hp (J2.rs (fun P4 u4 => ?_)))))
  have j3 : bI bx2 P3 := by rw [u3]; exact bI_u j2 (jm_inL (by omega) (by omega))
  have j4 : bI bx2 P4 := by rw [u4]; exact bI_u j3 (bx2_in (j3 68 0 b))
  refine h P4 j4 ⟨?_, ?_, ?_, ?_⟩ (fun f o k y => ?_)
  · rw [u4, jm_une_f (by decide), u3, jm_une_f (by decide), u2, jm_une_f (by decide), u1]; exact jm_ueq
  · rw [u4, jm_une_f (by decide), u3, jm_une_f (by decide), u2, jm_ueq, u1]; exact jm_une_f (by decide)
  · rw [u4, jm_une_f (by decide), u3]; exact jm_ueq
  · rw [u4, jm_ueq, u3, jm_une_f (by decide)]; exact f2 68 0 b (by decide)
  · rw [u4, jm_une (by omega), u3, jm_une (by omega), u2, jm_une (by omega), u1, jm_une (by omega)]
theorem jm_inp {p : Int} (y : -1 ≤ p ∧ p ≤ 5) : jm_in (if p = -1 then 99 else p) := by
  by_cases e : p = -1
  · rw [if_pos e]; exact jm_inL (by decide) (by decide)
  · rw [if_neg e]; exact jm_inL (by omega) (by omega)
theorem jm_ins {p s : Int} (y : jm_in s) : jm_in (if p = -1 then 0 else s) := by
  by_cases e : p = -1
  · rw [if_pos e]; exact jm_inL (by decide) (by decide)
  · rw [if_neg e]; exact y
set_option maxHeartbeats 4000000 in
theorem j_pair (fu : Nat) (hfu : 4000 ≤ fu) {M0 N0 M N : jm_M} (bas : BAS M0 N0) {a b i j day A B : Int} (ha : 0 ≤ a ∧ a < N0 0 0 17) (hb : 0 ≤ b ∧ b < N0 0 0 17) (ne : a ≠ b) (oA : N0 31 0 a = A) (oB : N0 31 0 b = B) (pA : M0 10 (a + 18) 3 = A) (pB : M0 10 (b + 18) 3 = B) (sr : SRP M0 N0 M N a b) (hi : 0 ≤ i ∧ i < A) (hj : 0 ≤ j ∧ j < B) (k69 : jm_M → Int → Int → Int → Int → Int → Int → jm_R) (k79 : jm_M → Int → Int → Int → Int → Int → Int → Int → jm_R) (k66 : jm_M → Int → Int → Int → Int → jm_R) (k80 : jm_M → Int → Int → Int → Int → Int → jm_R) {Q : Int → jm_M → Int → jm_M → Prop} (h : ∀ M' N' : jm_M, SRP M0 N0 M' N' a b → PRL M' N' (4 * i + j) → (∀ q : Int, q ≠ 4 * i + j → PRL M N q → PRL M' N' q) → J2 (k79 M' a b day A B i (j + 1)) (k80 N' a b day i (j + 1)) Q) : J2 (gX10_firstSettled_79 fu k69 k79 M a b day A B i j) (gX12_settle_80 fu k66 k80 N a b day i j) Q := by
  have i0 := bas.2.2.2.1
  have b17 : 0 ≤ N0 0 0 17 ∧ N0 0 0 17 ≤ 6 := i0 0 0 17
  have bA : 0 ≤ N0 31 0 a ∧ N0 31 0 a ≤ 4 := i0 31 0 a
  have bB : 0 ≤ N0 31 0 b ∧ N0 31 0 b ≤ 4 := i0 31 0 b
  have ha6 : 0 ≤ a ∧ a < 6 := ⟨ha.1, by omega⟩
  have hb6 : 0 ≤ b ∧ b < 6 := ⟨hb.1, by omega⟩
  have wj : jm_w (j + 1) = j + 1 := jm_wid (by omega) (by omega)
  have wa : jm_w (jm_w (i * 4) + j) = 4 * i + j := by rw [jm_wid (x := i * 4) (by omega) (by omega), jm_wid (by omega) (by omega)]; omega
  have wb : jm_w (jm_w (4 * i) + j) = 4 * i + j := by rw [jm_wid (x := 4 * i) (by omega) (by omega), jm_wid (by omega) (by omega)]
  have hp : 0 ≤ 4 * i + j ∧ 4 * i + j < 16 := ⟨by omega, by omega⟩
  have n31b : N 31 0 b = B := (sr.2.2.1 31 0 b (by unfold SF2; omega)).trans oB
  unfold gX10_firstSettled_79 gX12_settle_80
  rw [wj, wa, wb, n31b]
  refine J2.lF (by omega) (J2.rT hb6 (J2.rF (by omega) (J2.lT ha6 ?_)))
  refine j_opt2 bas ha hb ne oA oB pA pB sr hi hj (fun M9 N8 ibb kM9 kN8 st fm fn => ?_)
  clear wj wa wb n31b
  obtain ⟨tl0, ir0, ⟨n75, n3⟩, -, z⟩ := bas
  have tl : TLD M9 N8 := tl0.way i0 ha hb z kM9 kN8 st
  have ir : IR M9 N8 := ir0.way i0 ha6 hb6 kM9 kN8
  have m75 : M9 10 32 3 = N8 0 0 75 := by rw [kM9 10 32 3 (by unfold SF1; omega), kN8 0 0 75 (by unfold SF2; omega)]; exact n75
  have m3 : M9 3 0 3 = N8 0 0 72 := by rw [kM9 3 0 3 (by unfold SF1; omega), kN8 0 0 72 (by unfold SF2; omega)]; exact n3
  refine j_ran fu hfu ibb.1 ibb.2 tl ir m75 m3 day (fun v Ma w Na ibb jg n17 m84 fM fN => ?_)
  clear tl ir m75 m3 tl0 ir0 n75 n3 z
  obtain ⟨ia, ja⟩ := ibb
  have n17' : Na 0 0 17 = N0 0 0 17 := n17.2.trans (kN8 0 0 17 (by unfold SF2; omega))
  have hca : 0 ≤ a ∧ a < Na 0 0 17 := ⟨ha.1, by rw [n17']; exact ha.2⟩
  have hcb : 0 ≤ b ∧ b < Na 0 0 17 := ⟨hb.1, by rw [n17']; exact hb.2⟩
  have b6 : Na 0 0 17 ≤ 6 := by omega
  obtain ⟨pa, bpa, ca, ra⟩ := c_stands fu hfu ja n17.1 m84 jg b6 hca
  obtain ⟨pb, bpb, cb, rb⟩ := c_stands fu hfu ja n17.1 m84 jg b6 hcb
  refine J2.lb (c_keepPair fu ia hp (jm_inp bpa) (jm_ins (p := pa) (bx2_in (ja 68 0 a))) (jm_inp bpb) (jm_ins (p := pb) (bx2_in (ja 68 0 b))) (fun M' k => ⟨ca M' k, cb M' k⟩)) (fun _ Mz qz => ?_)
  obtain ⟨iz, ⟨z42, z43, z44, z45⟩, zf⟩ := qz
  refine d_pair fu ja hp ha6 hb6 bpa bpb (ra Na ja (fun _ _ _ _ => rfl)) rb (fun P4 j4 vs g4 => ?_)
  obtain ⟨v76, v77, v78, v79⟩ := vs
  rw [jm_ee, jm_ee]
  clear ca cb ra rb jg
  have kMz : Kp (SF1 a b) M0 Mz := fun f o k y => (zf f o k (by unfold SF1 at y; omega)).trans ((fM f o k (by unfold SF1 at y; unfold KR1; omega) (by unfold SF1 at y; unfold KJ1; omega)).trans (kM9 f o k y))
  have kN4 : Kp (SF2 a b) N0 P4 := fun f o k y => (g4 f o k (by unfold SF2 at y; omega)).trans ((fN f o k (by unfold SF2 at y; unfold KR2; omega) (by unfold SF2 at y; unfold KJ2; omega)).trans (kN8 f o k y))
  have c60 : ∀ o : Int, P4 60 0 o = N8 60 0 o := fun o => (g4 60 0 o (by omega)).trans (fN 60 0 o (by unfold KR2; omega) (by unfold KJ2; omega))
  refine h Mz P4 ⟨⟨iz, j4⟩, kMz, kN4, by rw [c60]; exact (st a (Or.inl rfl)).1.2, by rw [c60]; exact (st b (Or.inr rfl)).1.2⟩ ?_ (fun q y pq => pq.mv (fun f y1 y2 => ?_) (fun f y1 y2 => ?_))
  · refine ⟨?_, ?_⟩
    · rw [z42, z43, v76, v77]; exact prr_of bpa
    · rw [z44, z45, v78, v79]; exact prr_of bpb
  · exact (zf f 0 q (by omega)).trans ((fM f 0 q (by unfold KR1; omega) (by unfold KJ1; omega)).trans (fm f q y1 y2))
  · exact (g4 f 0 q (by omega)).trans ((fN f 0 q (by unfold KR2; omega) (by unfold KJ2; omega)).trans (fn f q y1 y2))
/-! all pairs -/
def DON (M N : jm_M) (B i j : Int) : Prop := ∀ x y : Int, 0 ≤ x → 0 ≤ y → y < B → (x < i ∨ (x = i ∧ y < j)) → PRL M N (4 * x + y)
theorem j_79 (fu : Nat) (hfu : 4000 ≤ fu) {M0 N0 : jm_M} (bas : BAS M0 N0) {a b i day A B : Int} (ha : 0 ≤ a ∧ a < N0 0 0 17) (hb : 0 ≤ b ∧ b < N0 0 0 17) (ne : a ≠ b) (oA : N0 31 0 a = A) (oB : N0 31 0 b = B) (pA : M0 10 (a + 18) 3 = A) (pB : M0 10 (b + 18) 3 = B) (hi : 0 ≤ i ∧ i < A) (k69 : jm_M → Int → Int → Int → Int → Int → Int → jm_R) (k66 : jm_M → Int → Int → Int → Int → jm_R) {Q : Int → jm_M → Int → jm_M → Prop} (nx : ∀ M' N' : jm_M, SRP M0 N0 M' N' a b → DON M' N' B (i + 1) 0 → J2 (k69 M' a b day A B (i + 1)) (k66 N' a b day (i + 1)) Q) : ∀ (n m : Nat) (M N : jm_M) (j : Int), SRP M0 N0 M N a b → DON M N B i j → 0 ≤ j → j ≤ B → B - j < (n : Int) → B - j < (m : Int) → J2 (fX10_firstSettled_79 fu k69 n M a b day A B i j) (fX12_settle_80 fu k66 m N a b day i j) Q := by
  have i0 := bas.2.2.2.1
  have b17 : 0 ≤ N0 0 0 17 ∧ N0 0 0 17 ≤ 6 := i0 0 0 17
  have bA : 0 ≤ N0 31 0 a ∧ N0 31 0 a ≤ 4 := i0 31 0 a
  have bB : 0 ≤ N0 31 0 b ∧ N0 31 0 b ≤ 4 := i0 31 0 b
  have wi : jm_w (i + 1) = i + 1 := jm_wid (by omega) (by omega)
  have hb6 : 0 ≤ b ∧ b < 6 := ⟨hb.1, by omega⟩
  intro n
  induction n with
  | zero => intro m M N j _ _ _ h1 hn _; exfalso; omega
  | succ n ih =>
    intro m M N j sr dn h0 h1 hn hm
    rw [fs79_s fu k69 (n + 1) (by omega), show n + 1 - 1 = n from rfl, st80_s fu k66 m (by omega)]
    by_cases c : B ≤ j
    · have n31b : N 31 0 b = B := (sr.2.2.1 31 0 b (by unfold SF2; omega)).trans oB
      unfold gX10_firstSettled_79 gX12_settle_80
      rw [wi, n31b]
      refine J2.lT c (J2.rT hb6 (J2.rT c ?_))
      rw [jm_ee, jm_ee]
      exact nx M N sr (fun x y x0 y0 y1 h => dn x y x0 y0 y1 (by omega))
    · refine j_pair fu hfu bas ha hb ne oA oB pA pB sr hi ⟨h0, by omega⟩ k69 _ k66 _ (fun M' N' s' p' o' => ?_)
      refine ih (m - 1) M' N' (j + 1) s' (fun x y x0 y0 y1 h => ?_) (by omega) (by omega) (by omega) (by omega)
      by_cases e : x = i ∧ y = j
      · rw [e.1, e.2]; exact p'
      · exact o' (4 * x + y) (by omega) (dn x y x0 y0 y1 (by omega))
theorem j_66 (fu : Nat) (hfu : 4000 ≤ fu) {M0 N0 : jm_M} (bas : BAS M0 N0) {a b day A B : Int} (ha : 0 ≤ a ∧ a < N0 0 0 17) (hb : 0 ≤ b ∧ b < N0 0 0 17) (ne : a ≠ b) (oA : N0 31 0 a = A) (oB : N0 31 0 b = B) (pA : M0 10 (a + 18) 3 = A) (pB : M0 10 (b + 18) 3 = B) : ∀ (n m : Nat) (M N : jm_M) (i : Int), SRP M0 N0 M N a b → DON M N B i 0 → 0 ≤ i → i ≤ A → A - i < (n : Int) → A - i < (m : Int) → J2 (fX10_firstSettled_69 fu n M a b day A B i) (fX12_settle_66 fu m N a b day i) (fun v _ w _ => v = w) := by
  have i0 := bas.2.2.2.1
  have b17 : 0 ≤ N0 0 0 17 ∧ N0 0 0 17 ≤ 6 := i0 0 0 17
  have bA : 0 ≤ N0 31 0 a ∧ N0 31 0 a ≤ 4 := i0 31 0 a
  have bB : 0 ≤ N0 31 0 b ∧ N0 31 0 b ≤ 4 := i0 31 0 b
  have ha6 : 0 ≤ a ∧ a < 6 := ⟨ha.1, by omega⟩
  have hb6 : 0 ≤ b ∧ b < 6 := ⟨hb.1, by omega⟩
  have pbk : ∀ (c : Int) (_ : 0 ≤ c ∧ c < 6) (N' : jm_M), bI bx2 N' → wp (fX12_putsBack fu N' c) (fun _ N4 => bI bx2 N4 ∧ PBK c N' N4) := fun c hc N' i' => by
    obtain ⟨v, N4, e, p, q⟩ := wp_pw (s_fX12_putsBack fu hfu N' i' c ⟨by omega, by omega⟩) (h_putsBack fu c hc)
    exact ⟨v, N4, e, p.1, q⟩
  intro n
  induction n with
  | zero => intro m M N i _ _ _ h1 hn _; exfalso; omega
  | succ n ih =>
    intro m M N i sr dn h0 h1 hn hm
    have n31a : N 31 0 a = A := (sr.2.2.1 31 0 a (by unfold SF2; omega)).trans oA
    have n31b : N 31 0 b = B := (sr.2.2.1 31 0 b (by unfold SF2; omega)).trans oB
    rw [fs69_s fu (n + 1) (by omega), show n + 1 - 1 = n from rfl, st66_s fu m (by omega)]
    unfold gX10_firstSettled_69 gX12_settle_66
    rw [n31a]
    refine J2.rT ha6 (J2.bi Iff.rfl (fun c => ?_) (fun c => ?_))
    · refine J2.lT ha6 (J2.ls (fun M3 u3 => J2.lT hb6 (J2.ls (fun M5 u5 => ?_))))
      refine J2.rb (pbk a ha6 N sr.1.2) (fun _ N5 q5 => J2.rb (pbk b hb6 N5 q5.1) (fun _ N7 q7 => ?_))
      have fM : ∀ (f : Nat) (o k : Int), f ≠ 8 → M5 f o k = M f o k := fun f o k y => by rw [u5, jm_une_f y, u3, jm_une_f y]
      have fN : ∀ (f : Nat) (k : Int), ¬ (26 ≤ f ∧ f ≤ 29) → f ≠ 60 → N7 f 0 k = N f 0 k := fun f k y1 y2 => (q7.2.2.2 f 0 k (by omega) (by omega)).trans (q5.2.2.2 f 0 k (by omega) (by omega))
      have pr : PRA M5 N7 A B := fun x y x0 x1 y0 y1 => (dn x y x0 y0 y1 (by omega)).mv (fun f z1 z2 => fM f 0 (4 * x + y) (by omega)) (fun f z1 z2 => fN f (4 * x + y) (by omega) (by omega))
      exact j_183 fu hfu pr (by omega) ⟨by omega, by omega⟩ ha6 hb6 ((fN 31 a (by decide) (by decide)).trans n31a) ((fN 31 b (by decide) (by decide)).trans n31b) fu fu 0 (by decide) (by omega) (by omega) (by omega)
    · exact j_79 fu hfu bas ha hb ne oA oB pA pB ⟨h0, by omega⟩ _ _ (fun M' N' s' d' => ih (m - 1) M' N' (i + 1) s' d' (by omega) (by omega) (by omega) (by omega)) fu fu M N 0 sr dn (by decide) (by omega) (by omega) (by omega)
theorem jm_brr (g : jm_R) : (jm_b g fun v M => some (v, M)) = g := by
  cases g with
  | none => rfl
  | some p => rfl
theorem a_settle (fu : Nat) (hfu : 4000 ≤ fu) (M N : jm_M) (iv : IW M N) (it : IT M N) (ca : CA fu M N) (ir : IR M N) (l1 l2 l3 : Int) (h1 : jm_in l1) (h2 : jm_in l2) (h3 : jm_in l3) : J2 (fX11_settle fu M l1 l2 l3) (fX12_settle fu N l1 l2 l3) (fun v _ w _ => v = w) := by
  have iM := iv.1.1
  have iN := iv.1.2.1
  have rr := iv.1.2.2.2
  obtain ⟨⟨s0, s1, s5⟩, -, -, -⟩ := id it.1.2.1
  have b17 : 0 ≤ N 0 0 17 ∧ N 0 0 17 ≤ 6 := iN 0 0 17
  unfold fX11_settle fX12_settle
  refine J2.rs (fun N1 u1 => ?_)
  obtain ⟨j1, -, -, d1, d2, d17⟩ := q_pre iN it ca u1
  have bas := bas_of iv it ca ir u1
  refine J2.rq (s_fX12_isCar N1 j1 l1 h1) (fun v2 g2 => ?_)
  rw [d17] at g2
  refine J2.lq (s_fX2_has M iM l1 h1) (fun v1 g1 => J2.li (fun z1 => J2.rT (by omega) (J2.ret rfl)) (fun z1 => J2.rF (by omega) ?_))
  refine J2.rq (s_fX12_isCar N1 j1 l2 h2) (fun v6 g6 => ?_)
  rw [d17] at g6
  refine J2.lq (s_fX2_has M iM l2 h2) (fun v5 g5 => J2.li (fun z5 => J2.rT (by omega) (J2.ret rfl)) (fun z5 => J2.rF (by omega) ?_))
  refine J2.bi Iff.rfl (fun _ => J2.ret rfl) (fun ne => ?_)
  refine J2.rq (s_fX12_isDay N1 j1 l3 h3) (fun v11 g11 => ?_)
  refine J2.lq (s_fX11_isDay M iM l3 h3) (fun v10 g10 => J2.li (fun z => J2.rT (by omega) (J2.ret rfl)) (fun z => J2.rF (by omega) ?_))
  have ha : 0 ≤ l1 ∧ l1 < N1 0 0 17 := ⟨by omega, by omega⟩
  have hb : 0 ≤ l2 ∧ l2 < N1 0 0 17 := ⟨by omega, by omega⟩
  have ha6 : 0 ≤ l1 ∧ l1 < 6 := ⟨by omega, by omega⟩
  have hb6 : 0 ≤ l2 ∧ l2 < 6 := ⟨by omega, by omega⟩
  have oa : M 10 (l1 + 18) 3 = N1 31 0 l1 := by rw [u1, jm_une_f (by decide)]; exact (rr.2.1 l1 (by omega) (by omega)).2.2.2
  have ob : M 10 (l2 + 18) 3 = N1 31 0 l2 := by rw [u1, jm_une_f (by decide)]; exact (rr.2.1 l2 (by omega) (by omega)).2.2.2
  have bA : 0 ≤ N1 31 0 l1 ∧ N1 31 0 l1 ≤ 4 := j1 31 0 l1
  have bB : 0 ≤ N1 31 0 l2 ∧ N1 31 0 l2 ≤ 4 := j1 31 0 l2
  refine J2.lT ha6 (J2.rT ha6 (J2.bi (by rw [oa]) (fun _ => J2.ret rfl) (fun za => J2.lT hb6 (J2.rT hb6 (J2.bi (by rw [ob]) (fun _ => J2.ret rfl) (fun zb => ?_))))))
  rw [jm_brr]
  refine J2.rb (wp_pw (s_fX12_clears fu hfu N1 j1 l1 ⟨by omega, by omega⟩) (h_clears fu l1 ha6)) (fun _ N3 q3 => ?_)
  obtain ⟨⟨i3, -, -⟩, ⟨x73, x26, x60⟩, -, x3⟩ := q3
  refine J2.rb (wp_pw (s_fX12_clears fu hfu N3 i3 l2 ⟨by omega, by omega⟩) (h_clears fu l2 hb6)) (fun _ N4 q4 => ?_)
  obtain ⟨⟨i4, -, -⟩, ⟨y73, y26, y60⟩, -, y3⟩ := q4
  have kN4 : Kp (SF2 l1 l2) N1 N4 := fun f i k y => (y3 f i k (by unfold SF2 at y; omega) (by unfold SF2 at y; omega)).trans (x3 f i k (by unfold SF2 at y; omega) (by unfold SF2 at y; omega))
  have e60a : N4 60 0 l1 = 1 := (y3 60 0 l1 (by omega) (by omega)).trans x60
  have mn : ∀ x : Int, x ≤ 4 → jm_min x 4 = x := fun x y => by unfold jm_min; rw [if_neg (by omega)]
  unfold fX10_firstSettled
  refine J2.lq (s_fX2_has M iM l1 h1) (fun va ga => J2.lF (by omega) (J2.lq (s_fX2_has M iM l2 h2) (fun vb gb => J2.lF (by omega) (J2.lT ha6 ?_))))
  rw [oa, ob, mn _ bA.2, mn _ bB.2, jm_ee]
  refine J2.lT hb6 ?_
  rw [jm_ee]
  exact j_66 fu hfu bas ha hb ne rfl rfl oa ob fu fu M N4 0 ⟨⟨iM, i4⟩, Kp.rf, kN4, e60a, y60⟩ (fun x y x0 y0 y1 h => by exfalso; omega) (by decide) (by omega) (by omega) (by omega)
