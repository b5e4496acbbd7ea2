/-! a stop dropped, a car added, a track laid -/
theorem c_rem14 (fu : Nat) {Q : Int → jm_M → Prop} {k2 : jm_M → Int → Int → jm_R} {M0 : jm_M} (i0 : bI bx1 M0) {r i : Int} (hr : 12 ≤ r ∧ r < 18) (hi : 0 ≤ i ∧ i + 1 < M0 10 r 3) (hk : ∀ M1 : jm_M, bI bx1 M1 → (∀ x : Int, 0 ≤ x → x < 3 → M1 19 r (3 * i + x) = M0 19 r (3 * (i + 1) + x)) → (∀ (f : Nat) (a k : Int), ¬ (f = 19 ∧ a = r ∧ 3 * i ≤ k ∧ k < 3 * i + 3) → M1 f a k = M0 f a k) → wp (k2 M1 r (i + 1)) Q) : ∀ (m : Nat) (M : jm_M) (l3 : Int), bI bx1 M → 0 ≤ l3 → l3 ≤ 3 → (∀ x : Int, 0 ≤ x → x < l3 → M 19 r (3 * i + x) = M0 19 r (3 * (i + 1) + x)) → (∀ (f : Nat) (a k : Int), ¬ (f = 19 ∧ a = r ∧ 3 * i ≤ k ∧ k < 3 * i + l3) → M f a k = M0 f a k) → 3 - l3 < (m : Int) → wp (fX7_removeAt_14 fu k2 m M r i l3) Q := by
  intro m
  induction m with
  | zero => intro M l3 _ _ _ _ _ hm; exfalso; omega
  | succ m ih =>
    intro M l3 iM h0 h1 hx fr hm
    show wp (gX7_removeAt_14 fu k2 (fX7_removeAt_14 fu k2 m) M r i l3) Q
    unfold gX7_removeAt_14
    have w3 : wid1 r = 3 := wid1_6 (by omega) (by omega)
    have e1 : M 10 r 1 = wid1 r := iM 10 r 1
    have b3 : 0 ≤ M 10 r 3 ∧ M 10 r 3 ≤ lim1 r := iM 10 r 3
    have bl := lim1_any r
    have e3 : M 10 r 3 = M0 10 r 3 := fr 10 r 3 (by omega)
    have w1 : jm_w (i + 1) = i + 1 := jm_wid (by omega) (by omega)
    have w2 : jm_w (l3 + 1) = l3 + 1 := jm_wid (by omega) (by omega)
    rw [e1, w3, w1]
    refine wp_ite (fun c => ?_) (fun c => ?_)
    · refine wp_e (jm_inL (by omega) (by omega)) (fun v e _ => ?_)
      rw [e]
      exact hk M iM (fun x y1 y2 => hx x y1 (by omega)) (fun f a k y => fr f a k (by omega))
    · refine wp_bp (cell_in iM (r := r) (i := i + 1) (k := l3) (w := 3) (a := 3 * (i + 1) + l3) ⟨by omega, by omega⟩ w3 ⟨by omega, by omega⟩ ⟨h0, by omega⟩ (by omega)) (fun v5 e5 => ?_)
      rw [c_put (M := M) (i := i) (k := l3) (a := 3 * i + l3) e1 b3 ⟨by omega, by omega⟩ w3 ⟨by omega, by omega⟩ ⟨h0, by omega⟩ (by omega), jm_bsm]
      obtain ⟨M9, u9⟩ : ∃ X : jm_M, X = jm_u M 19 r (3 * i + l3) v5 := ⟨_, rfl⟩
      rw [← u9]
      refine wp_e (jm_inL (by omega) (by omega)) (fun v e _ => ?_)
      rw [e, w2]
      have h5 : v5 = M0 19 r (3 * (i + 1) + l3) := by rw [e5]; exact fr 19 r _ (by omega)
      have i9 : bI bx1 M9 := by rw [u9]; exact bI_u iM (by rw [h5]; exact i0 19 r _)
      refine ih M9 (l3 + 1) i9 (by omega) (by omega) (fun x y1 y2 => ?_) (fun f a k y => ?_) (by omega)
      · by_cases q : x = l3
        · rw [q, u9, jm_ueq]
          exact h5
        · rw [u9, jm_une_k (by omega)]
          exact hx x y1 (by omega)
      · rw [u9, jm_une (by omega)]
        exact fr f a k (by omega)
def RMV (M0 M1 : jm_M) (r l n : Int) : Prop := M1 10 r 3 = n - 1 ∧ (∀ j x : Int, l ≤ j → j < n - 1 → 0 ≤ x → x < 3 → M1 19 r (3 * j + x) = M0 19 r (3 * (j + 1) + x)) ∧ ∀ (f : Nat) (a k : Int), ¬ (f = 10 ∧ a = r ∧ k = 3) → ¬ (f = 19 ∧ a = r ∧ 3 * l ≤ k) → M1 f a k = M0 f a k
theorem c_rem2 (fu : Nat) (hfu : 4000 ≤ fu) {M0 : jm_M} (i0 : bI bx1 M0) {r l n : Int} (hr : 12 ≤ r ∧ r < 18) (hn : M0 10 r 3 = n) (hl : 0 ≤ l) : ∀ (m : Nat) (M : jm_M) (i : Int), bI bx1 M → l ≤ i → i < n → (∀ j x : Int, l ≤ j → j < i → 0 ≤ x → x < 3 → M 19 r (3 * j + x) = M0 19 r (3 * (j + 1) + x)) → (∀ (f : Nat) (a k : Int), ¬ (f = 19 ∧ a = r ∧ 3 * l ≤ k ∧ k < 3 * i) → M f a k = M0 f a k) → n - i < (m : Int) → wp (fX7_removeAt_2 fu m M r i) (fun _ M1 => RMV M0 M1 r l n) := by
  intro m
  induction m with
  | zero => intro M i _ _ _ _ _ hm; exfalso; omega
  | succ m ih =>
    intro M i iM h0 h1 hx fr hm
    show wp (gX7_removeAt_2 fu (fX7_removeAt_2 fu m) M r i) _
    unfold gX7_removeAt_2
    have b3 : 0 ≤ M 10 r 3 ∧ M 10 r 3 ≤ lim1 r := iM 10 r 3
    have bl := lim1_any r
    have e3 : M 10 r 3 = n := (fr 10 r 3 (by omega)).trans hn
    have w1 : jm_w (n - 1) = n - 1 := jm_wid (by omega) (by omega)
    rw [e3, w1]
    refine wp_ite (fun c => wp_sv (fun M4 u4 => wp_ret ⟨?_, fun j x y1 y2 y3 y4 => ?_, fun f a k y1 y2 => ?_⟩)) (fun c => ?_)
    · rw [u4]; exact jm_ueq
    · rw [u4, jm_une_f (by decide)]
      exact hx j x y1 (by omega) y3 y4
    · rw [u4, jm_une y1]
      exact fr f a k (by omega)
    · refine c_rem14 fu iM hr ⟨by omega, by omega⟩ (fun M1 i1 hc fc => ?_) fu M 0 iM (by decide) (by decide) (fun x y1 y2 => by exfalso; omega) (fun _ _ _ _ => rfl) (by omega)
      refine ih M1 (i + 1) i1 (by omega) (by omega) (fun j x y1 y2 y3 y4 => ?_) (fun f a k y => ?_) (by omega)
      · by_cases q : j = i
        · rw [q, hc x y3 y4]
          exact fr 19 r _ (by omega)
        · rw [fc 19 r _ (by omega)]
          exact hx j x y1 (by omega) y3 y4
      · rw [fc f a k (by omega)]
        exact fr f a k (by omega)
theorem cc_drop (fu : Nat) (hfu : 4000 ≤ fu) {M : jm_M} (iM : bI bx1 M) (l1 l2 : Int) (h1 : jm_in l1) (h2 : jm_in l2) : wp (fX11_drop fu M l1 l2) (fun _ M1 => (¬ (0 ≤ l1 ∧ l1 < M 2 0 5 ∧ 0 ≤ l2 ∧ l2 < M 10 (l1 + 12) 3) ∧ M1 = M) ∨ ((0 ≤ l1 ∧ l1 < M 2 0 5 ∧ 0 ≤ l2 ∧ l2 < M 10 (l1 + 12) 3) ∧ RMV (jm_u M 2 0 7 0) M1 (l1 + 12) l2 (M 10 (l1 + 12) 3))) := by
  have b5 : 0 ≤ M 2 0 5 ∧ M 2 0 5 ≤ 6 := iM 2 0 5
  unfold fX11_drop
  refine wp_bp (s_fX2_has M iM l1 h1) (fun v1 g1 => wp_ite (fun _ => wp_ret (Or.inl ⟨by omega, rfl⟩)) (fun z1 => ?_))
  refine wp_T ⟨by omega, by omega⟩ ?_
  refine wp_bp (x_isIndex M l2 (M 10 (l1 + 12) 3)) (fun v2 g2 => wp_ite (fun _ => wp_ret (Or.inl ⟨by omega, rfl⟩)) (fun z2 => ?_))
  refine wp_sv (fun M11 u11 => ?_)
  have i11 : bI bx1 M11 := by rw [u11]; exact bI_u iM (jm_inL (by decide) (by decide))
  have n11 : M11 10 (l1 + 12) 3 = M 10 (l1 + 12) 3 := by rw [u11]; exact jm_une_f (by decide)
  have bl := lim1_any (l1 + 12)
  have b3 : 0 ≤ M 10 (l1 + 12) 3 ∧ M 10 (l1 + 12) 3 ≤ lim1 (l1 + 12) := iM 10 (l1 + 12) 3
  refine wp_T ⟨by omega, by omega⟩ ?_
  rw [← u11]
  unfold fX7_removeAt
  refine wp_b (c_rem2 fu hfu i11 (r := l1 + 12) (l := l2) (n := M 10 (l1 + 12) 3) ⟨by omega, by omega⟩ n11 (by omega) fu M11 l2 i11 (by omega) (by omega) (fun j x y1 y2 => by exfalso; omega) (fun _ _ _ _ => rfl) (by omega)) (fun v13 M14 q => wp_ret (Or.inr ⟨by omega, q⟩))
def RMW (N0 N1 : jm_M) (c l n : Int) : Prop := N1 26 0 c = n - 1 ∧ (∀ j : Int, l ≤ j → j < n - 1 → N1 27 0 (5 * c + j) = N0 27 0 (5 * c + (j + 1)) ∧ N1 28 0 (5 * c + j) = N0 28 0 (5 * c + (j + 1)) ∧ N1 29 0 (5 * c + j) = N0 29 0 (5 * c + (j + 1))) ∧ ∀ (f : Nat) (a k : Int), ¬ (f = 26 ∧ a = 0 ∧ k = c) → ¬ ((f = 27 ∨ f = 28 ∨ f = 29) ∧ a = 0 ∧ 5 * c + l ≤ k ∧ k < 5 * c + n - 1) → N1 f a k = N0 f a k
theorem d_drop39 (fu : Nat) {N0 : jm_M} {c l n : Int} (hc : 0 ≤ c ∧ c < 6) (hn : N0 26 0 c = n) (bn : n ≤ 5) (hl : 0 ≤ l) : ∀ (m : Nat) (N : jm_M) (i : Int), bI bx2 N → l ≤ i → i < n → (∀ j : Int, l ≤ j → j < i → N 27 0 (5 * c + j) = N0 27 0 (5 * c + (j + 1)) ∧ N 28 0 (5 * c + j) = N0 28 0 (5 * c + (j + 1)) ∧ N 29 0 (5 * c + j) = N0 29 0 (5 * c + (j + 1))) → (∀ (f : Nat) (a k : Int), ¬ ((f = 27 ∨ f = 28 ∨ f = 29) ∧ a = 0 ∧ 5 * c + l ≤ k ∧ k < 5 * c + i) → N f a k = N0 f a k) → n - i < (m : Int) → wp (fX12_drop_39 fu m N c (5 * c + i)) (fun _ N1 => RMW N0 N1 c l n) := by
  intro m
  induction m with
  | zero => intro N i _ _ _ _ _ hm; exfalso; omega
  | succ m ih =>
    intro N i iN h0 h1 hx fr hm
    show wp (gX12_drop_39 fu (fX12_drop_39 fu m) N c (5 * c + i)) _
    unfold gX12_drop_39
    have e26 : N 26 0 c = n := (fr 26 0 c (by omega)).trans hn
    have w1 : jm_w (jm_w (jm_w (5 * c) + n) - 1) = 5 * c + n - 1 := by rw [jm_wid (x := 5 * c) (by omega) (by omega), jm_wid (x := 5 * c + n) (by omega) (by omega)]; exact jm_wid (by omega) (by omega)
    have w2 : jm_w (n - 1) = n - 1 := jm_wid (by omega) (by omega)
    have w3 : jm_w (5 * c + i + 1) = 5 * c + (i + 1) := by rw [jm_wid (by omega) (by omega)]; omega
    rw [e26, w1, w2, w3]
    refine wp_T ⟨by omega, by omega⟩ (wp_ite (fun z => ?_) (fun z => ?_))
    · refine wp_T hc (wp_T hc (wp_sv (fun N7 u7 => wp_T hc (wp_ret ⟨?_, fun j y1 y2 => ?_, fun f a k y1 y2 => ?_⟩))))
      · rw [u7]; exact jm_ueq
      · rw [u7, jm_une_f (by decide), jm_une_f (by decide), jm_une_f (by decide)]
        exact hx j y1 (by omega)
      · rw [u7, jm_une y1]
        exact fr f a k (by omega)
    · refine wp_T ⟨by omega, by omega⟩ (wp_T ⟨by omega, by omega⟩ (wp_si iN (iN 27 0 (5 * c + (i + 1))) (fun P1 w1' i1 => wp_T ⟨by omega, by omega⟩ (wp_T ⟨by omega, by omega⟩ (wp_si i1 (i1 28 0 (5 * c + (i + 1))) (fun P2 w2' i2 => wp_T ⟨by omega, by omega⟩ (wp_T ⟨by omega, by omega⟩ (wp_si i2 (i2 29 0 (5 * c + (i + 1))) (fun P3 w3' i3 => ?_)))))))))
      refine wp_e (jm_inL (by omega) (by omega)) (fun v e _ => ?_)
      rw [e]
      have p2 : P1 28 0 (5 * c + (i + 1)) = N 28 0 (5 * c + (i + 1)) := by rw [w1']; exact jm_une_f (by decide)
      have p3 : P2 29 0 (5 * c + (i + 1)) = N 29 0 (5 * c + (i + 1)) := by rw [w2', jm_une_f (by decide), w1']; exact jm_une_f (by decide)
      rw [p2] at w2'
      rw [p3] at w3'
      have f27 : ∀ k : Int, 5 * c + i ≤ k → N 27 0 k = N0 27 0 k ∧ N 28 0 k = N0 28 0 k ∧ N 29 0 k = N0 29 0 k := fun k y => ⟨fr 27 0 k (by omega), fr 28 0 k (by omega), fr 29 0 k (by omega)⟩
      have f1 := f27 (5 * c + (i + 1)) (by omega)
      refine ih P3 (i + 1) i3 (by omega) (by omega) (fun j y1 y2 => ?_) (fun f a k y => ?_) (by omega)
      · by_cases q : j = i
        · rw [q]
          refine ⟨?_, ?_, ?_⟩
          · rw [w3', jm_une_f (by decide), w2', jm_une_f (by decide), w1', jm_ueq]
            exact f1.1
          · rw [w3', jm_une_f (by decide), w2', jm_ueq]
            exact f1.2.1
          · rw [w3', jm_ueq]
            exact f1.2.2
        · rw [w3', jm_une_f (by decide), jm_une_f (by decide), jm_une_k (by omega), w2', jm_une_f (by decide), jm_une_k (by omega), jm_une_f (by decide), w1', jm_une_k (by omega), jm_une_f (by decide), jm_une_f (by decide)]
          exact hx j y1 (by omega)
      · rw [w3', jm_une (by omega), w2', jm_une (by omega), w1', jm_une (by omega)]
        exact fr f a k (by omega)
theorem dd_drop (fu : Nat) (hfu : 4000 ≤ fu) {N : jm_M} (iN : bI bx2 N) (l1 l2 : Int) (h1 : jm_in l1) (h2 : jm_in l2) : wp (fX12_drop fu N l1 l2) (fun _ N1 => (¬ (0 ≤ l1 ∧ l1 < N 0 0 17 ∧ 0 ≤ l2 ∧ l2 < N 26 0 l1) ∧ N1 = jm_u N 0 0 0 0) ∨ ((0 ≤ l1 ∧ l1 < N 0 0 17 ∧ 0 ≤ l2 ∧ l2 < N 26 0 l1) ∧ RMW (jm_u N 0 0 0 0) N1 l1 l2 (N 26 0 l1))) := by
  have b17 : 0 ≤ N 0 0 17 ∧ N 0 0 17 ≤ 6 := iN 0 0 17
  have b26 : 0 ≤ N 26 0 l1 ∧ N 26 0 l1 ≤ 5 := iN 26 0 l1
  unfold fX12_drop
  refine wp_sv (fun N1 u1 => ?_)
  have j1 : bI bx2 N1 := by rw [u1]; exact bI_u iN (jm_inL (by decide) (by decide))
  have o1 : ∀ (f : Nat) (i k : Int), ¬ (f = 0 ∧ i = 0 ∧ k = 0) → N1 f i k = N f i k := fun f i k y => by rw [u1]; exact jm_une y
  have e17 : N1 0 0 17 = N 0 0 17 := o1 0 0 17 (by omega)
  have e26 : N1 26 0 l1 = N 26 0 l1 := o1 26 0 l1 (by omega)
  refine wp_bp (s_fX12_isCar N1 j1 l1 h1) (fun v1 g1 => wp_ite (fun _ => wp_ret (Or.inl ⟨by omega, u1⟩)) (fun z1 => ?_))
  have w1 : jm_w (N1 26 0 l1 - 1) = N 26 0 l1 - 1 := by rw [e26]; exact jm_wid (by omega) (by omega)
  refine wp_T ⟨by omega, by omega⟩ ?_
  rw [w1]
  refine wp_bp (s_fX12_in N1 j1 l2 0 (N 26 0 l1 - 1) h2 ⟨by decide, by decide⟩ ⟨by omega, by omega⟩) (fun v2 g2 => wp_ite (fun _ => wp_ret (Or.inl ⟨by omega, u1⟩)) (fun z2 => ?_))
  refine wp_e (jm_w_in _) (fun v12 e12 _ => ?_)
  have w2 : v12 = 5 * l1 + l2 := by rw [e12, jm_wid (x := 5 * l1) (by omega) (by omega)]; exact jm_wid (by omega) (by omega)
  rw [w2, ← u1]
  exact wp_mono (d_drop39 fu (N0 := N1) (c := l1) (l := l2) (n := N 26 0 l1) ⟨by omega, by omega⟩ e26 b26.2 (by omega) fu N1 l2 j1 (by omega) (by omega) (fun j y1 y2 => by exfalso; omega) (fun _ _ _ _ => rfl) (by omega)) (fun r N2 q => Or.inr ⟨by omega, q⟩)
theorem t_drop (fu : Nat) (hfu : 4000 ≤ fu) (M N : jm_M) (iv : IW M N) (it : IT M N) (ca : CA fu M N) (l1 l2 : Int) (h1 : jm_in l1) (h2 : jm_in l2) : J2 (fX11_drop fu M l1 l2) (fX12_drop fu N l1 l2) (fun _ M1 _ N1 => IT M1 N1 ∧ CA fu M1 N1) := by
  have iM := iv.1.1
  have iN := iv.1.2.1
  obtain ⟨⟨t1, t2, t3, t4, t5⟩, t6, t7, t8⟩ := id it.1
  obtain ⟨⟨s0, s1, s5⟩, n18, n17, n14⟩ := id t6
  have b17 : 0 ≤ N 0 0 17 ∧ N 0 0 17 ≤ 6 := iN 0 0 17
  obtain ⟨v, M1, e1, ca1⟩ := cc_drop fu hfu iM l1 l2 h1 h2
  obtain ⟨w, N1, e2, cb⟩ := dd_drop fu hfu iN l1 l2 h1 h2
  refine ⟨v, M1, w, N1, e1, e2, ?_⟩
  have sz : 0 ≤ l1 → l1 < N 0 0 17 → M 10 (l1 + 12) 3 = N 26 0 l1 := fun y1 y2 => (iv.1.2.2.2.2.1 l1 y1 y2).2.2.1
  rcases ca1 with ⟨ca1, m1⟩ | ⟨ca1, m1⟩
  · rcases cb with ⟨cb, m2⟩ | ⟨cb, m2⟩
    · exact it.no ca iN (Or.inl m1) m2
    · exfalso; omega
  · rcases cb with ⟨cb, m2⟩ | ⟨cb, m2⟩
    · exfalso; omega
    obtain ⟨n, hn⟩ : ∃ n : Int, n = N 26 0 l1 := ⟨_, rfl⟩
    rw [sz cb.1 cb.2.1, ← hn] at m1
    rw [← hn] at m2
    obtain ⟨m1, r1, fm⟩ := m1
    obtain ⟨m2, r2, fn⟩ := m2
    have bn : n ≤ 5 := by rw [hn]; exact (iN 26 0 l1).2
    have kM : ∀ (f : Nat) (i k : Int), ¬ (f = 10 ∧ i = l1 + 12 ∧ k = 3) → ¬ (f = 19 ∧ i = l1 + 12 ∧ 3 * l2 ≤ k) → ¬ (f = 2 ∧ i = 0 ∧ k = 7) → M1 f i k = M f i k := fun f i k y1 y2 y3 => by
      rw [fm f i k y1 y2]
      exact jm_une y3
    have kN : ∀ (f : Nat) (i k : Int), ¬ (f = 0 ∧ i = 0 ∧ k = 0) → ¬ (f = 26 ∧ i = 0 ∧ k = l1) → ¬ ((f = 27 ∨ f = 28 ∨ f = 29) ∧ i = 0 ∧ 5 * l1 + l2 ≤ k ∧ k < 5 * l1 + n - 1) → N1 f i k = N f i k := fun f i k y1 y2 y3 => by
      rw [fn f i k y2 y3]
      exact jm_une y1
    have r1' : ∀ j x : Int, l2 ≤ j → j < n - 1 → 0 ≤ x → x < 3 → M1 19 (l1 + 12) (3 * j + x) = M 19 (l1 + 12) (3 * (j + 1) + x) := fun j x y1 y2 y3 y4 => (r1 j x y1 y2 y3 y4).trans (jm_une_f (by decide))
    have r2' : ∀ j : Int, l2 ≤ j → j < n - 1 → N1 27 0 (5 * l1 + j) = N 27 0 (5 * l1 + (j + 1)) ∧ N1 28 0 (5 * l1 + j) = N 28 0 (5 * l1 + (j + 1)) ∧ N1 29 0 (5 * l1 + j) = N 29 0 (5 * l1 + (j + 1)) := fun j y1 y2 => by
      have z := r2 j y1 y2
      rw [jm_une_f (by decide), jm_une_f (by decide), jm_une_f (by decide)] at z
      exact z
    have new : TDp M1 N1 := by
      intro c y1 y2
      rw [kN 0 0 17 (by omega) (by omega) (by omega)] at y2
      obtain ⟨a, b⟩ := t4 c y1 y2
      have z13 : ∀ o : Int, 0 ≤ o → o < N 0 0 17 → stT M o = o + 12 ∧ stT M1 o = o + 12 := fun o z1 z2 => by
        have z := (t7 o z1 z2).2.1.2.trans (it.2 o z1 (by omega))
        have z' : M1 8 o 13 = 0 := (kM 8 o 13 (by omega) (by omega) (by omega)).trans z
        unfold stT
        exact ⟨if_pos z, if_pos z'⟩
      rw [(z13 c y1 y2).1] at a b
      rw [(z13 c y1 y2).2]
      by_cases e : c = l1
      · rw [e] at a b ⊢
        refine ⟨m1.trans m2.symm, fun j y3 y4 => ?_⟩
        rw [m2] at y4
        by_cases e2 : j < l2
        · rw [kM 19 (l1 + 12) (3 * j) (by omega) (by omega) (by omega), kM 19 (l1 + 12) (3 * j + 1) (by omega) (by omega) (by omega), kM 19 (l1 + 12) (3 * j + 2) (by omega) (by omega) (by omega), kN 27 0 (5 * l1 + j) (by omega) (by omega) (by omega), kN 28 0 (5 * l1 + j) (by omega) (by omega) (by omega), kN 29 0 (5 * l1 + j) (by omega) (by omega) (by omega)]
          exact b j y3 (by omega)
        · have z := r2' j (by omega) y4
          have x0 := r1' j 0 (by omega) y4 (by decide) (by decide)
          rw [Int.add_zero, Int.add_zero] at x0
          rw [x0, r1' j 1 (by omega) y4 (by decide) (by decide), r1' j 2 (by omega) y4 (by decide) (by decide), z.1, z.2.1, z.2.2]
          exact b (j + 1) (by omega) (by omega)
      · rw [kM 10 (c + 12) 3 (by omega) (by omega) (by omega), kN 26 0 c (by omega) (by omega) (by omega)]
        refine ⟨a, fun j y3 y4 => ?_⟩
        have bc : N 26 0 c ≤ 5 := (iN 26 0 c).2
        rw [kM 19 (c + 12) (3 * j) (by omega) (by omega) (by omega), kM 19 (c + 12) (3 * j + 1) (by omega) (by omega) (by omega), kM 19 (c + 12) (3 * j + 2) (by omega) (by omega) (by omega), kN 27 0 (5 * c + j) (by omega) (by omega) (by omega), kN 28 0 (5 * c + j) (by omega) (by omega) (by omega), kN 29 0 (5 * c + j) (by omega) (by omega) (by omega)]
        exact b j y3 y4
    exact ⟨⟨⟨⟨t1.kk (fun f i k y => kM f i k (by unfold C1r at y; omega) (by unfold C1r at y; omega) (by unfold C1r at y; omega)) (fun f i k y => kN f i k (by unfold C2r at y; omega) (by unfold C2r at y; omega) (by unfold C2r at y; omega)), t2.kk (fun f i k y => kM f i k (by unfold C1f at y; omega) (by unfold C1f at y; omega) (by unfold C1f at y; omega)) (fun f i k y => kN f i k (by unfold C2f at y; omega) (by unfold C2f at y; omega) (by unfold C2f at y; omega)), t3.kk b17.2 (fun f i k y => kM f i k (by unfold C1s at y; omega) (by unfold C1s at y; omega) (by unfold C1s at y; omega)) (fun f i k y => kN f i k (by unfold C2s at y; omega) (by unfold C2s at y; omega) (by unfold C2s at y; omega)), new, t5.kk b17.2 (fun f i k y => kM f i k (by unfold C1o at y; omega) (by unfold C1o at y; omega) (by unfold C1o at y; omega)) (fun f i k y => kN f i k (by unfold C2o at y; omega) (by unfold C2o at y; omega) (by unfold C2o at y; omega))⟩, t6.kk (fun f i k y => kM f i k (by unfold C1n at y; omega) (by unfold C1n at y; omega) (by unfold C1n at y; omega)) (fun f i k y => kN f i k (by unfold C2n at y; omega) (by unfold C2n at y; omega) (by unfold C2n at y; omega)), t7.kk iN (fun f i k y => kM f i k (by unfold C1c at y; omega) (by unfold C1c at y; omega) (by unfold C1c at y; omega)) (fun c f k _ _ _ y => kM f _ k (by unfold CTX at y; omega) (by unfold CTX at y; omega) (by unfold CTX at y; omega)) (fun f i k y => kN f i k (by unfold C2c at y; omega) (by unfold C2c at y; omega) (by unfold C2c at y; omega)), t8.kk (fun f i k y => kN f i k (by unfold C2l at y; omega) (by unfold C2l at y; omega) (by unfold C2l at y; omega))⟩, fun c y1 y2 => (kN 60 0 c (by omega) (by omega) (by omega)).trans (it.2 c y1 y2)⟩, CA.zero (by rw [fm 2 0 7 (by omega) (by omega)]; exact jm_ueq)⟩
def NC1 (M M1 : jm_M) (n l1 l2 l3 l4 l5 l6 : Int) : Prop := (M1 8 n 0 = l1 ∧ M1 8 n 1 = l2 ∧ M1 8 n 2 = l3 ∧ M1 8 n 3 = l4 ∧ M1 8 n 4 = l5 ∧ M1 8 n 5 = l6) ∧ (M1 8 n 12 = 0 ∧ M1 8 n 13 = 0 ∧ M1 2 0 5 = n + 1 ∧ M1 2 0 7 = 0) ∧ (M1 10 n 3 = 0 ∧ M1 10 (n + 6) 3 = 0 ∧ M1 10 (n + 12) 3 = 0) ∧ ∀ (f : Nat) (i k : Int), ¬ (f = 8 ∧ i = n) → ¬ (f = 10 ∧ k = 3 ∧ (i = n ∨ i = n + 6 ∨ i = n + 12 ∨ i = n + 18)) → ¬ (f = 2 ∧ i = 0 ∧ (k = 5 ∨ k = 7)) → M1 f i k = M f i k
theorem NC1.k11 {M M1 : jm_M} {n l1 l2 l3 l4 l5 l6 : Int} (_ : NC1 M M1 n l1 l2 l3 l4 l5 l6) : True := trivial
def NC2 (N N1 : jm_M) (n l1 l2 l3 l4 l5 l6 : Int) : Prop := (N1 13 0 n = l1 ∧ N1 14 0 n = l2 ∧ N1 15 0 n = l3 ∧ N1 16 0 n = l4 ∧ N1 17 0 n = l5 ∧ N1 18 0 n = l6) ∧ (N1 30 0 n = 0 ∧ N1 0 0 17 = n + 1) ∧ (N1 19 0 n = 0 ∧ N1 22 0 n = 0 ∧ N1 26 0 n = 0) ∧ ∀ (f : Nat) (i k : Int), ¬ (f = 0 ∧ i = 0 ∧ (k = 0 ∨ k = 17)) → ¬ (((13 ≤ f ∧ f ≤ 19) ∨ f = 22 ∨ f = 26 ∨ f = 30) ∧ i = 0 ∧ k = n) → N1 f i k = N f i k
theorem cc_forget (M : jm_M) (r : Int) : wp (fX1_forget M r) (fun _ M1 => (M1 8 r 12 = 0 ∧ M1 8 r 13 = 0) ∧ (M1 10 r 3 = 0 ∧ M1 10 (r + 6) 3 = 0 ∧ M1 10 (r + 12) 3 = 0) ∧ ∀ (f : Nat) (i k : Int), ¬ (f = 8 ∧ i = r) → ¬ (f = 10 ∧ k = 3 ∧ (i = r ∨ i = r + 6 ∨ i = r + 12 ∨ i = r + 18)) → M1 f i k = M f i k) := by
  unfold fX1_forget
  refine wp_sv (fun M1 u1 => wp_sv (fun M2 u2 => wp_sv (fun M3 u3 => wp_sv (fun M4 u4 => wp_sv (fun M5 u5 => wp_sv (fun M6 u6 => wp_ret ⟨⟨?_, ?_⟩, ⟨?_, ?_, ?_⟩, fun f i k y1 y2 => ?_⟩))))))
  · rw [u6, jm_une_k (by decide), u5]; exact jm_ueq
  · rw [u6]; exact jm_ueq
  · rw [u6, jm_une_f (by decide), u5, jm_une_f (by decide), u4, jm_une_i (by omega), u3, jm_une_i (by omega), u2, jm_une_i (by omega), u1]; exact jm_ueq
  · rw [u6, jm_une_f (by decide), u5, jm_une_f (by decide), u4, jm_une_i (by omega), u3, jm_une_i (by omega), u2]; exact jm_ueq
  · rw [u6, jm_une_f (by decide), u5, jm_une_f (by decide), u4, jm_une_i (by omega), u3]; exact jm_ueq
  · rw [u6, jm_une (by omega), u5, jm_une (by omega), u4, jm_une (by omega), u3, jm_une (by omega), u2, jm_une (by omega), u1, jm_une (by omega)]
theorem cc_car {M : jm_M} (iM : bI bx1 M) (l1 l2 l3 l4 l5 l6 : Int) (h1 : jm_in l1) (h2 : jm_in l2) (h3 : jm_in l3) (h4 : jm_in l4) (h5 : jm_in l5) (h6 : jm_in l6) : wp (fX11_car M l1 l2 l3 l4 l5 l6) (fun _ M1 => (¬ (CC l1 l2 l3 l4 l5 l6 ∧ M 2 0 5 < 6) ∧ M1 = M) ∨ ((CC l1 l2 l3 l4 l5 l6 ∧ M 2 0 5 < 6) ∧ NC1 M M1 (M 2 0 5) l1 l2 l3 l4 l5 l6)) := by
  have b5 : 0 ≤ M 2 0 5 ∧ M 2 0 5 ≤ 6 := iM 2 0 5
  unfold fX11_car CC
  refine wp_bp (s_fX11_isWithin M iM l1 (-2000) 2000 h1 (jm_inL (by decide) (by decide)) (jm_inL (by decide) (by decide))) (fun v1 g1 => wp_ite (fun _ => wp_ret (Or.inl ⟨by omega, rfl⟩)) (fun z1 => ?_))
  refine wp_bp (s_fX11_isWithin M iM l2 1 200 h2 (jm_inL (by decide) (by decide)) (jm_inL (by decide) (by decide))) (fun v2 g2 => wp_ite (fun _ => wp_ret (Or.inl ⟨by omega, rfl⟩)) (fun z2 => ?_))
  refine wp_bp (s_fX11_isWithin M iM l3 1 9 h3 (jm_inL (by decide) (by decide)) (jm_inL (by decide) (by decide))) (fun v3 g3 => wp_ite (fun _ => wp_ret (Or.inl ⟨by omega, rfl⟩)) (fun z3 => ?_))
  refine wp_bp (x_isIndex M l4 4) (fun v4 g4 => wp_ite (fun _ => wp_ret (Or.inl ⟨by omega, rfl⟩)) (fun z4 => ?_))
  refine wp_bp (x_isIndex M l5 2) (fun v5 g5 => wp_ite (fun _ => wp_ret (Or.inl ⟨by omega, rfl⟩)) (fun z5 => ?_))
  refine wp_bp (s_fX11_isWithin M iM l6 0 l2 h6 (jm_inL (by decide) (by decide)) h2) (fun v6 g6 => wp_ite (fun _ => wp_ret (Or.inl ⟨by omega, rfl⟩)) (fun z6 => ?_))
  refine wp_bp (x_isIndex M (M 2 0 5) 6) (fun v7 g7 => wp_ite (fun _ => wp_ret (Or.inl ⟨by omega, rfl⟩)) (fun z7 => ?_))
  have cc : (-2000 ≤ l1 ∧ l1 ≤ 2000 ∧ 1 ≤ l2 ∧ l2 ≤ 200 ∧ 1 ≤ l3 ∧ l3 ≤ 9 ∧ 0 ≤ l4 ∧ l4 ≤ 3 ∧ 0 ≤ l5 ∧ l5 ≤ 1 ∧ 0 ≤ l6 ∧ l6 ≤ l2) ∧ M 2 0 5 < 6 := by omega
  refine wp_T ⟨by omega, by omega⟩ ?_
  obtain ⟨n, hn⟩ : ∃ n : Int, n = M 2 0 5 := ⟨_, rfl⟩
  rw [← hn]
  refine wp_b (cc_forget M n) (fun v32 M33 q => ?_)
  obtain ⟨⟨p1, p2⟩, ⟨p3, p4, p5⟩, fr⟩ := q
  refine wp_sv (fun M34 u34 => wp_sv (fun M35 u35 => wp_sv (fun M36 u36 => wp_sv (fun M37 u37 => wp_sv (fun M38 u38 => wp_sv (fun M39 u39 => ?_))))))
  have e5 : M39 2 0 5 = n := by
    rw [u39, jm_une_f (by decide), u38, jm_une_f (by decide), u37, jm_une_f (by decide), u36, jm_une_f (by decide), u35, jm_une_f (by decide), u34, jm_une_f (by decide), fr 2 0 5 (by omega) (by omega), hn]
  have w1 : jm_w (n + 1) = n + 1 := jm_wid (by omega) (by omega)
  refine wp_sv (fun M41 u41 => wp_sv (fun M42 u42 => wp_ret (Or.inr ⟨by rw [hn]; exact cc, ?_⟩)))
  rw [e5, w1] at u41
  have k8 : ∀ k : Int, M42 8 n k = M39 8 n k := fun k => by rw [u42, jm_une_f (by decide), u41, jm_une_f (by decide)]
  refine ⟨⟨?_, ?_, ?_, ?_, ?_, ?_⟩, ⟨?_, ?_, ?_, ?_⟩, ⟨?_, ?_, ?_⟩, fun f i k y1 y2 y3 => ?_⟩
  · rw [k8, u39, jm_une_k (by decide), u38, jm_une_k (by decide), u37, jm_une_k (by decide), u36, jm_une_k (by decide), u35, jm_une_k (by decide), u34]; exact jm_ueq
  · rw [k8, u39, jm_une_k (by decide), u38, jm_une_k (by decide), u37, jm_une_k (by decide), u36, jm_une_k (by decide), u35]; exact jm_ueq
  · rw [k8, u39, jm_une_k (by decide), u38, jm_une_k (by decide), u37, jm_une_k (by decide), u36]; exact jm_ueq
  · rw [k8, u39, jm_une_k (by decide), u38, jm_une_k (by decide), u37]; exact jm_ueq
  · rw [k8, u39, jm_une_k (by decide), u38]; exact jm_ueq
  · rw [k8, u39]; exact jm_ueq
  · rw [k8, u39, jm_une_k (by decide), u38, jm_une_k (by decide), u37, jm_une_k (by decide), u36, jm_une_k (by decide), u35, jm_une_k (by decide), u34, jm_une_k (by decide)]; exact p1
  · rw [k8, u39, jm_une_k (by decide), u38, jm_une_k (by decide), u37, jm_une_k (by decide), u36, jm_une_k (by decide), u35, jm_une_k (by decide), u34, jm_une_k (by decide)]; exact p2
  · rw [u42, jm_une_k (by decide), u41]; exact jm_ueq
  · rw [u42]; exact jm_ueq
  · rw [u42, jm_une_f (by decide), u41, jm_une_f (by decide), u39, jm_une_f (by decide), u38, jm_une_f (by decide), u37, jm_une_f (by decide), u36, jm_une_f (by decide), u35, jm_une_f (by decide), u34, jm_une_f (by decide)]; exact p3
  · rw [u42, jm_une_f (by decide), u41, jm_une_f (by decide), u39, jm_une_f (by decide), u38, jm_une_f (by decide), u37, jm_une_f (by decide), u36, jm_une_f (by decide), u35, jm_une_f (by decide), u34, jm_une_f (by decide)]; exact p4
  · rw [u42, jm_une_f (by decide), u41, jm_une_f (by decide), u39, jm_une_f (by decide), u38, jm_une_f (by decide), u37, jm_une_f (by decide), u36, jm_une_f (by decide), u35, jm_une_f (by decide), u34, jm_une_f (by decide)]; exact p5
  · rw [u42, jm_une (by omega), u41, jm_une (by omega), u39, jm_une (by omega), u38, jm_une (by omega), u37, jm_une (by omega), u36, jm_une (by omega), u35, jm_une (by omega), u34, jm_une (by omega), fr f i k y1 y2]
theorem dd_car {N : jm_M} (iN : bI bx2 N) (l1 l2 l3 l4 l5 l6 : Int) (h1 : jm_in l1) (h2 : jm_in l2) (h3 : jm_in l3) (h4 : jm_in l4) (h5 : jm_in l5) (h6 : jm_in l6) : wp (fX12_car N l1 l2 l3 l4 l5 l6) (fun _ N1 => (¬ (CC l1 l2 l3 l4 l5 l6 ∧ N 0 0 17 < 6) ∧ N1 = jm_u N 0 0 0 0) ∨ ((CC l1 l2 l3 l4 l5 l6 ∧ N 0 0 17 < 6) ∧ NC2 N N1 (N 0 0 17) l1 l2 l3 l4 l5 l6)) := by
  have b17 : 0 ≤ N 0 0 17 ∧ N 0 0 17 ≤ 6 := iN 0 0 17
  unfold fX12_car CC
  refine wp_sv (fun N1 u1 => ?_)
  have j1 : bI bx2 N1 := by rw [u1]; exact bI_u iN (jm_inL (by decide) (by decide))
  have o1 : ∀ (f : Nat) (i k : Int), ¬ (f = 0 ∧ i = 0 ∧ k = 0) → N1 f i k = N f i k := fun f i k y => by rw [u1]; exact jm_une y
  have e17 : N1 0 0 17 = N 0 0 17 := o1 0 0 17 (by omega)
  refine wp_bp (s_fX12_in N1 j1 l1 (-2000) 2000 h1 ⟨by decide, by decide⟩ ⟨by decide, by decide⟩) (fun v1 g1 => wp_ite (fun _ => wp_ret (Or.inl ⟨by omega, u1⟩)) (fun z1 => ?_))
  refine wp_bp (s_fX12_in N1 j1 l2 1 200 h2 ⟨by decide, by decide⟩ ⟨by decide, by decide⟩) (fun v2 g2 => wp_ite (fun _ => wp_ret (Or.inl ⟨by omega, u1⟩)) (fun z2 => ?_))
  refine wp_bp (s_fX12_in N1 j1 l3 1 9 h3 ⟨by decide, by decide⟩ ⟨by decide, by decide⟩) (fun v3 g3 => wp_ite (fun _ => wp_ret (Or.inl ⟨by omega, u1⟩)) (fun z3 => ?_))
  refine wp_bp (s_fX12_in N1 j1 l4 0 3 h4 ⟨by decide, by decide⟩ ⟨by decide, by decide⟩) (fun v4 g4 => wp_ite (fun _ => wp_ret (Or.inl ⟨by omega, u1⟩)) (fun z4 => ?_))
  refine wp_bp (s_fX12_in N1 j1 l5 0 1 h5 ⟨by decide, by decide⟩ ⟨by decide, by decide⟩) (fun v5 g5 => wp_ite (fun _ => wp_ret (Or.inl ⟨by omega, u1⟩)) (fun z5 => ?_))
  refine wp_bp (s_fX12_in N1 j1 l6 0 l2 h6 ⟨by decide, by decide⟩ ⟨by omega, by omega⟩) (fun v6 g6 => wp_ite (fun _ => wp_ret (Or.inl ⟨by omega, u1⟩)) (fun z6 => ?_))
  refine wp_ite (fun _ => wp_ret (Or.inl ⟨by omega, u1⟩)) (fun z7 => ?_)
  have cc : (-2000 ≤ l1 ∧ l1 ≤ 2000 ∧ 1 ≤ l2 ∧ l2 ≤ 200 ∧ 1 ≤ l3 ∧ l3 ≤ 9 ∧ 0 ≤ l4 ∧ l4 ≤ 3 ∧ 0 ≤ l5 ∧ l5 ≤ 1 ∧ 0 ≤ l6 ∧ l6 ≤ l2) ∧ N 0 0 17 < 6 := by omega
  obtain ⟨n, hn⟩ : ∃ n : Int, n = N 0 0 17 := ⟨_, rfl⟩
  refine wp_e (bx2_in (j1 0 0 17)) (fun v29 e29 _ => ?_)
  have v29n : v29 = n := by omega
  rw [v29n, ← hn]
  have hc : 0 ≤ n ∧ n < 6 := by omega
  refine wp_T hc (wp_sv (fun P1 w1 => wp_T hc (wp_sv (fun P2 w2 => wp_T hc (wp_sv (fun P3 w3 => wp_T hc (wp_sv (fun P4 w4 => wp_T hc (wp_sv (fun P5 w5 => wp_T hc (wp_sv (fun P6 w6 => wp_T hc (wp_sv (fun P7 w7 => wp_T hc (wp_sv (fun P8 w8 => wp_T hc (wp_sv (fun P9 w9 => wp_T hc (wp_T (Or.inl rfl) (wp_sv (fun P10 w10 => ?_)))))))))))))))))))))
  have e : P10 0 0 17 = n := by
    rw [w10, jm_une_f (by decide), w9, jm_une_f (by decide), w8, jm_une_f (by decide), w7, jm_une_f (by decide), w6, jm_une_f (by decide), w5, jm_une_f (by decide), w4, jm_une_f (by decide), w3, jm_une_f (by decide), w2, jm_une_f (by decide), w1, jm_une_f (by decide), e17, hn]
  have wn1 : jm_w (n + 1) = n + 1 := jm_wid (by omega) (by omega)
  rw [e, wn1]
  refine wp_sv (fun Q1 wq => wp_ret (Or.inr ⟨by rw [hn]; exact cc, ?_⟩))
  refine ⟨⟨?_, ?_, ?_, ?_, ?_, ?_⟩, ⟨?_, ?_⟩, ⟨?_, ?_, ?_⟩, fun f i k y1 y2 => ?_⟩
  · rw [wq, jm_une_f (by decide), w10, jm_une_f (by decide), w9, jm_une_f (by decide), w8, jm_une_f (by decide), w7, jm_une_f (by decide), w6, jm_une_f (by decide), w5, jm_une_f (by decide), w4, jm_une_f (by decide), w3, jm_une_f (by decide), w2, jm_une_f (by decide), w1]; exact jm_ueq
  · rw [wq, jm_une_f (by decide), w10, jm_une_f (by decide), w9, jm_une_f (by decide), w8, jm_une_f (by decide), w7, jm_une_f (by decide), w6, jm_une_f (by decide), w5, jm_une_f (by decide), w4, jm_une_f (by decide), w3, jm_une_f (by decide), w2]; exact jm_ueq
  · rw [wq, jm_une_f (by decide), w10, jm_une_f (by decide), w9, jm_une_f (by decide), w8, jm_une_f (by decide), w7, jm_une_f (by decide), w6, jm_une_f (by decide), w5, jm_une_f (by decide), w4, jm_une_f (by decide), w3]; exact jm_ueq
  · rw [wq, jm_une_f (by decide), w10, jm_une_f (by decide), w9, jm_une_f (by decide), w8, jm_une_f (by decide), w7, jm_une_f (by decide), w6, jm_une_f (by decide), w5, jm_une_f (by decide), w4]; exact jm_ueq
  · rw [wq, jm_une_f (by decide), w10, jm_une_f (by decide), w9, jm_une_f (by decide), w8, jm_une_f (by decide), w7, jm_une_f (by decide), w6, jm_une_f (by decide), w5]; exact jm_ueq
  · rw [wq, jm_une_f (by decide), w10, jm_une_f (by decide), w9, jm_une_f (by decide), w8, jm_une_f (by decide), w7, jm_une_f (by decide), w6]; exact jm_ueq
  · rw [wq, jm_une_f (by decide), w10]; exact jm_ueq
  · rw [wq]; exact jm_ueq
  · rw [wq, jm_une_f (by decide), w10, jm_une_f (by decide), w9, jm_une_f (by decide), w8, jm_une_f (by decide), w7]; exact jm_ueq
  · rw [wq, jm_une_f (by decide), w10, jm_une_f (by decide), w9, jm_une_f (by decide), w8]; exact jm_ueq
  · rw [wq, jm_une_f (by decide), w10, jm_une_f (by decide), w9]; exact jm_ueq
  · rw [wq, jm_une (by omega), w10, jm_une (by omega), w9, jm_une (by omega), w8, jm_une (by omega), w7, jm_une (by omega), w6, jm_une (by omega), w5, jm_une (by omega), w4, jm_une (by omega), w3, jm_une (by omega), w2, jm_une (by omega), w1, jm_une (by omega), o1 f i k (by omega)]
theorem t_car (fu : Nat) (hfu : 4000 ≤ fu) (M N : jm_M) (iv : IW M N) (it : IT M N) (ca : CA fu M N) (l1 l2 l3 l4 l5 l6 : Int) (h1 : jm_in l1) (h2 : jm_in l2) (h3 : jm_in l3) (h4 : jm_in l4) (h5 : jm_in l5) (h6 : jm_in l6) : J2 (fX11_car M l1 l2 l3 l4 l5 l6) (fX12_car N l1 l2 l3 l4 l5 l6) (fun _ M1 _ N1 => IT M1 N1 ∧ CA fu M1 N1) := by
  have iM := iv.1.1
  have iN := iv.1.2.1
  obtain ⟨⟨t1, t2, t3, t4, t5⟩, t6, t7, t8⟩ := id it.1
  obtain ⟨⟨s0, s1, s5⟩, n18, n17, n14⟩ := id t6
  have b17 : 0 ≤ N 0 0 17 ∧ N 0 0 17 ≤ 6 := iN 0 0 17
  obtain ⟨v, M1, e1, ca1⟩ := cc_car iM l1 l2 l3 l4 l5 l6 h1 h2 h3 h4 h5 h6
  obtain ⟨w, N1, e2, cb⟩ := dd_car iN l1 l2 l3 l4 l5 l6 h1 h2 h3 h4 h5 h6
  refine ⟨v, M1, w, N1, e1, e2, ?_⟩
  rcases ca1 with ⟨ca1, m1⟩ | ⟨ca1, m1⟩
  · rcases cb with ⟨cb, m2⟩ | ⟨cb, m2⟩
    · exact it.no ca iN (Or.inl m1) m2
    · exact absurd ⟨cb.1, by omega⟩ ca1
  · rcases cb with ⟨cb, m2⟩ | ⟨cb, m2⟩
    · exact absurd ⟨ca1.1, by omega⟩ cb
    obtain ⟨n, hn⟩ : ∃ n : Int, n = N 0 0 17 := ⟨_, rfl⟩
    rw [s5, ← hn] at m1
    rw [← hn] at m2
    unfold CC at cb
    have hn6 : 0 ≤ n ∧ n < 6 := by omega
    obtain ⟨⟨p0, p1, p2, p3, p4, p5⟩, ⟨p12, p13, pc, p7⟩, ⟨pA, pB, pC⟩, kM⟩ := m1
    obtain ⟨⟨q0, q1, q2, q3, q4, q5⟩, ⟨q30, qc⟩, ⟨qA, qB, qC⟩, kN⟩ := m2
    have n60 : ∀ c : Int, 0 ≤ c → c < 6 → N1 60 0 c = 0 := fun c y1 y2 => (kN 60 0 c (by omega) (by omega)).trans (it.2 c y1 y2)
    have lt : ∀ c : Int, c < N1 0 0 17 → c ≠ n → c < N 0 0 17 := fun c y1 y2 => by omega
    have u1 : TDs M1 N1 := by
      intro c y1 y2
      by_cases e : c = n
      · rw [e]
        exact ⟨pA.trans qA.symm, fun j y3 y4 => by rw [qA] at y4; exfalso; omega⟩
      · obtain ⟨a, b⟩ := t3 c y1 (lt c y2 e)
        rw [kM 10 c 3 (by omega) (by omega) (by omega), kN 19 0 c (by omega) (by omega)]
        refine ⟨a, fun j y3 y4 => ?_⟩
        rw [kM 19 c (2 * j) (by omega) (by omega) (by omega), kM 19 c (2 * j + 1) (by omega) (by omega) (by omega), kN 20 0 (4 * c + j) (by omega) (by omega), kN 21 0 (4 * c + j) (by omega) (by omega)]
        exact b j y3 y4
    have u2 : TDp M1 N1 := by
      intro c y1 y2
      by_cases e : c = n
      · have z : stT M1 c = n + 12 := by unfold stT; rw [e]; exact if_pos p13
        rw [z, e]
        exact ⟨pC.trans qC.symm, fun j y3 y4 => by rw [qC] at y4; exfalso; omega⟩
      · have y2' := lt c y2 e
        obtain ⟨a, b⟩ := t4 c y1 y2'
        have z := (t7 c y1 y2').2.1.2.trans (it.2 c y1 (by omega))
        have z1 : stT M c = c + 12 := by unfold stT; exact if_pos z
        have z2 : stT M1 c = c + 12 := by unfold stT; exact if_pos ((kM 8 c 13 (by omega) (by omega) (by omega)).trans z)
        rw [z1] at a b
        rw [z2, kM 10 (c + 12) 3 (by omega) (by omega) (by omega), kN 26 0 c (by omega) (by omega)]
        refine ⟨a, fun j y3 y4 => ?_⟩
        rw [kM 19 (c + 12) (3 * j) (by omega) (by omega) (by omega), kM 19 (c + 12) (3 * j + 1) (by omega) (by omega) (by omega), kM 19 (c + 12) (3 * j + 2) (by omega) (by omega) (by omega), kN 27 0 (5 * c + j) (by omega) (by omega), kN 28 0 (5 * c + j) (by omega) (by omega), kN 29 0 (5 * c + j) (by omega) (by omega)]
        exact b j y3 y4
    have u3 : TDo M1 N1 := by
      intro c y1 y2
      by_cases e : c = n
      · rw [e]
        exact ⟨pB.trans qB.symm, fun j y3 y4 => by rw [qB] at y4; exfalso; omega⟩
      · obtain ⟨a, b⟩ := t5 c y1 (lt c y2 e)
        rw [kM 10 (c + 6) 3 (by omega) (by omega) (by omega), kN 22 0 c (by omega) (by omega)]
        refine ⟨a, fun j y3 y4 => ?_⟩
        rw [kM 19 (c + 6) (3 * j) (by omega) (by omega) (by omega), kM 19 (c + 6) (3 * j + 1) (by omega) (by omega) (by omega), kM 19 (c + 6) (3 * j + 2) (by omega) (by omega) (by omega), kN 23 0 (12 * c + j) (by omega) (by omega), kN 24 0 (12 * c + j) (by omega) (by omega), kN 25 0 (12 * c + j) (by omega) (by omega)]
        exact b j y3 y4
    have u4 : TNUM M1 N1 := ⟨⟨(kM 1 0 0 (by omega) (by omega) (by omega)).trans (s0.trans (kN 0 0 1 (by omega) (by omega)).symm), (kM 1 0 1 (by omega) (by omega) (by omega)).trans (s1.trans (kN 0 0 2 (by omega) (by omega)).symm), pc.trans qc.symm⟩, fun k y1 y2 => (kM 18 0 k (by omega) (by omega) (by omega)).trans ((n18 k y1 y2).trans (kN 5 0 k (by omega) (by omega)).symm), fun k y1 y2 => (kM 17 0 k (by omega) (by omega) (by omega)).trans ((n17 k y1 y2).trans (kN 4 0 k (by omega) (by omega)).symm), fun i y1 y2 => ⟨(kM 14 0 i (by omega) (by omega) (by omega)).trans ((n14 i y1 y2).1.trans (kN 1 0 i (by omega) (by omega)).symm), (kM 15 0 i (by omega) (by omega) (by omega)).trans ((n14 i y1 y2).2.trans (kN 2 0 i (by omega) (by omega)).symm)⟩⟩
    have u5 : TCAR M1 N1 := by
      intro c y1 y2
      by_cases e : c = n
      · rw [e]
        exact ⟨⟨p0.trans q0.symm, p1.trans q1.symm, p2.trans q2.symm, p3.trans q3.symm, p4.trans q4.symm, p5.trans q5.symm⟩, ⟨p12.trans q30.symm, p13.trans (n60 n hn6.1 hn6.2).symm⟩, fun y => absurd q30 y⟩
      · obtain ⟨⟨a0, a1, a2, a3, a4, a5⟩, ⟨b0, b1⟩, tx⟩ := t7 c y1 (lt c y2 e)
        refine ⟨⟨(kM 8 c 0 (by omega) (by omega) (by omega)).trans (a0.trans (kN 13 0 c (by omega) (by omega)).symm), (kM 8 c 1 (by omega) (by omega) (by omega)).trans (a1.trans (kN 14 0 c (by omega) (by omega)).symm), (kM 8 c 2 (by omega) (by omega) (by omega)).trans (a2.trans (kN 15 0 c (by omega) (by omega)).symm), (kM 8 c 3 (by omega) (by omega) (by omega)).trans (a3.trans (kN 16 0 c (by omega) (by omega)).symm), (kM 8 c 4 (by omega) (by omega) (by omega)).trans (a4.trans (kN 17 0 c (by omega) (by omega)).symm), (kM 8 c 5 (by omega) (by omega) (by omega)).trans (a5.trans (kN 18 0 c (by omega) (by omega)).symm)⟩, ⟨(kM 8 c 12 (by omega) (by omega) (by omega)).trans (b0.trans (kN 30 0 c (by omega) (by omega)).symm), (kM 8 c 13 (by omega) (by omega) (by omega)).trans (b1.trans (kN 60 0 c (by omega) (by omega)).symm)⟩, fun y => ?_⟩
        rw [kN 30 0 c (by omega) (by omega)] at y
        rw [kM 8 c 11 (by omega) (by omega) (by omega), kN 36 0 c (by omega) (by omega)]
        exact (tx y).kk (fun f k q => kM f _ k (by unfold CTX at q; omega) (by unfold CTX at q; omega) (by unfold CTX at q; omega)) (fun k _ _ => kN 35 0 k (by omega) (by omega))
    have u6 : LIM N1 := by
      obtain ⟨z1, z2, z3, z4⟩ := t8
      have n1 : N1 1 0 = N 1 0 := funext fun k => kN 1 0 k (by omega) (by omega)
      have n2 : N1 2 0 = N 2 0 := funext fun k => kN 2 0 k (by omega) (by omega)
      have n4 : N1 4 0 = N 4 0 := funext fun k => kN 4 0 k (by omega) (by omega)
      have n5 : N1 5 0 = N 5 0 := funext fun k => kN 5 0 k (by omega) (by omega)
      unfold LIM
      rw [n1, n2, n4, n5]
      refine ⟨z1, z2, z3, fun c y1 y2 => ?_⟩
      by_cases e : c = n
      · rw [e, q0, q1, q2, q5, qA]
        exact ⟨by omega, fun j y3 y4 => by exfalso; omega⟩
      · rw [kN 13 0 c (by omega) (by omega), kN 14 0 c (by omega) (by omega), kN 15 0 c (by omega) (by omega), kN 18 0 c (by omega) (by omega), kN 19 0 c (by omega) (by omega)]
        obtain ⟨z5, z6⟩ := z4 c y1 (lt c y2 e)
        refine ⟨z5, fun j y3 y4 => ?_⟩
        rw [kN 21 0 (4 * c + j) (by omega) (by omega)]
        exact z6 j y3 y4
    exact ⟨⟨⟨⟨t1.kk (fun f i k y => kM f i k (by unfold C1r at y; omega) (by unfold C1r at y; omega) (by unfold C1r at y; omega)) (fun f i k y => kN f i k (by unfold C2r at y; omega) (by unfold C2r at y; omega)), t2.kk (fun f i k y => kM f i k (by unfold C1f at y; omega) (by unfold C1f at y; omega) (by unfold C1f at y; omega)) (fun f i k y => kN f i k (by unfold C2f at y; omega) (by unfold C2f at y; omega)), u1, u2, u3⟩, u4, u5, u6⟩, n60⟩, CA.zero p7⟩
theorem cc_lay12 (fu : Nat) (M0 : jm_M) : ∀ (n : Nat) (M : jm_M) (l3 : Int), bI bx1 M → (∀ (f : Nat) (i k : Int), ¬ (14 ≤ f ∧ f ≤ 16) → M f i k = M0 f i k) → (∀ i : Int, 0 ≤ i → i < l3 → M 14 0 i = 20000 ∧ M 15 0 i = 300 ∧ M 16 0 i = 0) → 0 ≤ l3 → l3 ≤ 5 → 5 - l3 < (n : Int) → wp (fX9_layAnew_12 fu n M l3) (fun r M1 => (∀ i : Int, 0 ≤ i → i < 5 → M1 14 0 i = 20000 ∧ M1 15 0 i = 300 ∧ M1 16 0 i = 0) ∧ (M1 10 30 3 = 0 ∧ M1 10 31 3 = 0) ∧ ∀ (f : Nat) (i k : Int), ¬ (14 ≤ f ∧ f ≤ 16) → f ≠ 10 → M1 f i k = M0 f i k) := by
  intro n
  induction n with
  | zero => intro M l3 _ _ _ _ h1 hm; exfalso; omega
  | succ n ih =>
    intro M l3 iM kM hx h0 h1 hm
    show wp (gX9_layAnew_12 fu (fX9_layAnew_12 fu n) M l3) _
    unfold gX9_layAnew_12
    have w1 : jm_w (l3 + 1) = l3 + 1 := jm_wid (by omega) (by omega)
    refine wp_ite (fun c => ?_) (fun c => ?_)
    · refine wp_sv (fun M2 u2 => wp_sv (fun M3 u3 => wp_ret ⟨fun i y1 y2 => ?_, ⟨?_, ?_⟩, fun f i k q q2 => ?_⟩))
      · rw [u3, jm_une_f (by decide), jm_une_f (by decide), jm_une_f (by decide), u2, jm_une_f (by decide), jm_une_f (by decide), jm_une_f (by decide)]
        exact hx i y1 (by omega)
      · rw [u3, jm_une_i (by decide), u2]; exact jm_ueq
      · rw [u3]; exact jm_ueq
      · rw [u3, jm_une_f q2, u2, jm_une_f q2]
        exact kM f i k q
    · refine wp_T ⟨by omega, by omega⟩ ?_
      refine wp_si iM (jm_inL (by decide) (by decide)) (fun M5 u5 i5 => ?_)
      refine wp_T ⟨by omega, by omega⟩ ?_
      refine wp_si i5 (jm_inL (by decide) (by decide)) (fun M7 u7 i7 => ?_)
      refine wp_T ⟨by omega, by omega⟩ ?_
      refine wp_T (by omega) ?_
      refine wp_si i7 (jm_inL (by decide) (by decide)) (fun M9 u9 i9 => ?_)
      refine wp_e (jm_w_in _) (fun v e _ => ?_)
      rw [e, w1]
      refine ih M9 (l3 + 1) i9 (fun f i k q => ?_) (fun i y1 y2 => ?_) (by omega) (by omega) (by omega)
      · rw [u9, jm_une_f (by omega), u7, jm_une_f (by omega), u5, jm_une_f (by omega)]
        exact kM f i k q
      · by_cases q : i = l3
        · rw [q]
          refine ⟨?_, ?_, ?_⟩
          · rw [u9, jm_une_f (by decide), u7, jm_une_f (by decide), u5]; exact jm_ueq
          · rw [u9, jm_une_f (by decide), u7]; exact jm_ueq
          · rw [u9]; exact jm_ueq
        · have z := hx i y1 (by omega)
          refine ⟨?_, ?_, ?_⟩
          · rw [u9, jm_une_f (by decide), u7, jm_une_f (by decide), u5, jm_une_k q]; exact z.1
          · rw [u9, jm_une_f (by decide), u7, jm_une_k q, u5, jm_une_f (by decide)]; exact z.2.1
          · rw [u9, jm_une_k q, u7, jm_une_f (by decide), u5, jm_une_f (by decide)]; exact z.2.2
def TR1 (M M1 : jm_M) (s n : Int) : Prop := (M1 1 0 0 = s ∧ M1 1 0 1 = n ∧ M1 2 0 5 = 0 ∧ M1 2 0 7 = 0) ∧ (∀ i : Int, 0 ≤ i → i < 5 → M1 14 0 i = 20000 ∧ M1 15 0 i = 300 ∧ M1 16 0 i = 0) ∧ (M1 10 30 3 = 0 ∧ M1 10 31 3 = 0) ∧ ∀ (f : Nat) (i k : Int), f ≠ 1 → ¬ (14 ≤ f ∧ f ≤ 16) → f ≠ 10 → f ≠ 2 → f ≠ 3 → M1 f i k = M f i k
theorem cc_track (fu : Nat) (hfu : 4000 ≤ fu) {M : jm_M} (iM : bI bx1 M) (l1 l2 : Int) : wp (fX11_track fu M l1 l2) (fun _ M1 => (¬ (2 ≤ l1 ∧ l1 ≤ 5 ∧ 1 ≤ l2 ∧ l2 ≤ 12) ∧ M1 = M) ∨ ((2 ≤ l1 ∧ l1 ≤ 5 ∧ 1 ≤ l2 ∧ l2 ≤ 12) ∧ TR1 M M1 l1 l2)) := by
  unfold fX11_track
  refine wp_ite (fun c => wp_ret (Or.inl ⟨by omega, rfl⟩)) (fun c1 => ?_)
  refine wp_ite (fun c => wp_ret (Or.inl ⟨by omega, rfl⟩)) (fun c2 => ?_)
  refine wp_ite (fun c => wp_ret (Or.inl ⟨by omega, rfl⟩)) (fun c3 => ?_)
  refine wp_ite (fun c4 => ?_) (fun c => wp_ret (Or.inl ⟨by omega, rfl⟩))
  unfold fX9_layAnew
  refine wp_b (P := fun _ M6 => (M6 1 0 0 = l1 ∧ M6 1 0 1 = l2) ∧ (∀ i : Int, 0 ≤ i → i < 5 → M6 14 0 i = 20000 ∧ M6 15 0 i = 300 ∧ M6 16 0 i = 0) ∧ (M6 10 30 3 = 0 ∧ M6 10 31 3 = 0) ∧ ∀ (f : Nat) (i k : Int), f ≠ 1 → ¬ (14 ≤ f ∧ f ≤ 16) → f ≠ 10 → M6 f i k = M f i k) ?_ (fun v5 M6 h => ?_)
  · refine wp_si iM (show 2 ≤ l1 ∧ l1 ≤ 5 by omega) (fun M1 u1 i1 => ?_)
    refine wp_si i1 (show 1 ≤ l2 ∧ l2 ≤ 12 by omega) (fun M2 u2 i2 => ?_)
    refine wp_mono (cc_lay12 fu M2 fu M2 0 i2 (fun _ _ _ _ => rfl) (fun i y1 y2 => by exfalso; omega) (by decide) (by decide) (by omega)) (fun r M3 h => ?_)
    obtain ⟨g1, g2, g3⟩ := h
    refine ⟨⟨?_, ?_⟩, g1, g2, fun f i k q1 q2 q3 => ?_⟩
    · rw [g3 1 0 0 (by omega) (by decide), u2, jm_une_k (by decide), u1]; exact jm_ueq
    · rw [g3 1 0 1 (by omega) (by decide), u2]; exact jm_ueq
    · rw [g3 f i k q2 q3, u2, jm_une_f q1, u1, jm_une_f q1]
  · obtain ⟨⟨g0, g1⟩, g2, ⟨g3, g4⟩, g5⟩ := h
    refine wp_sv (fun M7 u7 => wp_sv (fun M8 u8 => wp_sv (fun M9 u9 => wp_sv (fun M10 u10 => wp_ret (Or.inr ⟨by omega, ⟨?_, ?_, ?_, ?_⟩, fun i y1 y2 => ?_, ⟨?_, ?_⟩, fun f i k q1 q2 q3 q4 q5 => ?_⟩)))))
    · rw [u10, jm_une_f (by decide), u9, jm_une_f (by decide), u8, jm_une_f (by decide), u7, jm_une_f (by decide)]; exact g0
    · rw [u10, jm_une_f (by decide), u9, jm_une_f (by decide), u8, jm_une_f (by decide), u7, jm_une_f (by decide)]; exact g1
    · rw [u10, jm_une_f (by decide), u9, jm_une_f (by decide), u8, jm_une_k (by decide), u7]; exact jm_ueq
    · rw [u10, jm_une_f (by decide), u9, jm_une_f (by decide), u8]; exact jm_ueq
    · have z : ∀ (f : Nat) (k : Int), 14 ≤ f → M10 f 0 k = M6 f 0 k := fun f k y => by rw [u10, jm_une_f (by omega), u9, jm_une_f (by omega), u8, jm_une_f (by omega), u7, jm_une_f (by omega)]
      rw [z 14 i (by decide), z 15 i (by decide), z 16 i (by decide)]
      exact g2 i y1 y2
    · rw [u10, jm_une_i (by decide), u9, jm_une_f (by decide), u8, jm_une_f (by decide), u7, jm_une_f (by decide)]; exact g3
    · rw [u10, jm_une_i (by decide), u9, jm_une_f (by decide), u8, jm_une_f (by decide), u7, jm_une_f (by decide)]; exact g4
    · rw [u10, jm_une_f q3, u9, jm_une_f q5, u8, jm_une_f q4, u7, jm_une_f q4]
      exact g5 f i k q1 q2 q3
theorem dd_lay75 (fu : Nat) (N0 : jm_M) : ∀ (n : Nat) (N : jm_M) (l3 : Int), bI bx2 N → (∀ (f : Nat) (i k : Int), f ≠ 31 → N f i k = N0 f i k) → 0 ≤ l3 → l3 ≤ 6 → 6 - l3 < (n : Int) → wp (fX12_lays_75 fu n N l3) (fun _ N1 => ∀ (f : Nat) (i k : Int), f ≠ 31 → N1 f i k = N0 f i k) := by
  intro n
  induction n with
  | zero => intro N l3 _ _ _ h1 hm; exfalso; omega
  | succ n ih =>
    intro N l3 iN kN h0 h1 hm
    show wp (gX12_lays_75 fu (fX12_lays_75 fu n) N l3) _
    unfold gX12_lays_75
    have w1 : jm_w (l3 + 1) = l3 + 1 := jm_wid (by omega) (by omega)
    refine wp_ite (fun c => wp_ret kN) (fun c => wp_T ⟨by omega, by omega⟩ ?_)
    refine wp_si iN (show (0 : Int) ≤ 0 ∧ (0 : Int) ≤ 4 by decide) (fun N3 u3 i3 => wp_e (jm_w_in _) (fun v e _ => ?_))
    rw [e, w1]
    exact ih N3 (l3 + 1) i3 (fun f i k q => by rw [u3, jm_une_f q]; exact kN f i k q) (by omega) (by omega) (by omega)
theorem dd_lay12 (fu : Nat) (hfu : 4000 ≤ fu) (N0 : jm_M) : ∀ (n : Nat) (N : jm_M) (l3 : Int), bI bx2 N → (∀ (f : Nat) (i k : Int), ¬ (1 ≤ f ∧ f ≤ 3) → N f i k = N0 f i k) → (∀ i : Int, 0 ≤ i → i < l3 → N 1 0 i = 20000 ∧ N 2 0 i = 300 ∧ N 3 0 i = 0) → 0 ≤ l3 → l3 ≤ 5 → 5 - l3 < (n : Int) → wp (fX12_lays_12 fu n N l3) (fun _ N1 => (∀ i : Int, 0 ≤ i → i < 5 → N1 1 0 i = 20000 ∧ N1 2 0 i = 300 ∧ N1 3 0 i = 0) ∧ (N1 0 0 8 = 0 ∧ N1 0 0 12 = 0 ∧ N1 0 0 17 = 0) ∧ (N1 0 0 1 = N0 0 0 1 ∧ N1 0 0 2 = N0 0 0 2) ∧ ∀ (f : Nat) (i k : Int), ¬ (f ≤ 3) → f ≠ 31 → N1 f i k = N0 f i k) := by
  intro n
  induction n with
  | zero => intro N l3 _ _ _ _ h1 hm; exfalso; omega
  | succ n ih =>
    intro N l3 iN kN hx h0 h1 hm
    show wp (gX12_lays_12 fu (fX12_lays_12 fu n) N l3) _
    unfold gX12_lays_12
    have w1 : jm_w (l3 + 1) = l3 + 1 := jm_wid (by omega) (by omega)
    refine wp_ite (fun c => ?_) (fun c => ?_)
    · refine wp_si iN (show (0 : Int) ≤ 0 ∧ (0 : Int) ≤ 30 by decide) (fun N2 u2 i2 => ?_)
      refine wp_si i2 (show (0 : Int) ≤ 0 ∧ (0 : Int) ≤ 20 by decide) (fun N3 u3 i3 => ?_)
      refine wp_si i3 (show (0 : Int) ≤ 0 ∧ (0 : Int) ≤ 6 by decide) (fun N4 u4 i4 => ?_)
      refine wp_si i4 (show (0 : Int) ≤ 0 ∧ (0 : Int) ≤ 10 by decide) (fun N5 u5 i5 => ?_)
      refine wp_si i5 (show (0 : Int) ≤ 0 ∧ (0 : Int) ≤ 20 by decide) (fun N6 u6 i6 => ?_)
      refine wp_mono (dd_lay75 fu N6 fu N6 0 i6 (fun _ _ _ _ => rfl) (by decide) (by decide) (by omega)) (fun r N7 g => ?_)
      have z0 : ∀ (f : Nat) (i k : Int), f ≠ 0 → f ≠ 31 → N7 f i k = N f i k := fun f i k q q2 => by rw [g f i k q2, u6, jm_une_f q, u5, jm_une_f q, u4, jm_une_f q, u3, jm_une_f q, u2, jm_une_f q]
      have zk : ∀ k : Int, k ≠ 8 → k ≠ 12 → k ≠ 17 → k ≠ 72 → k ≠ 75 → N7 0 0 k = N 0 0 k := fun k q1 q2 q3 q4 q5 => by rw [g 0 0 k (by decide), u6, jm_une_k q5, u5, jm_une_k q4, u4, jm_une_k q3, u3, jm_une_k q2, u2, jm_une_k q1]
      refine ⟨fun i y1 y2 => ?_, ⟨?_, ?_, ?_⟩, ⟨?_, ?_⟩, fun f i k q1 q2 => ?_⟩
      · rw [z0 1 0 i (by decide) (by decide), z0 2 0 i (by decide) (by decide), z0 3 0 i (by decide) (by decide)]
        exact hx i y1 (by omega)
      · rw [g 0 0 8 (by decide), u6, jm_une_k (by decide), u5, jm_une_k (by decide), u4, jm_une_k (by decide), u3, jm_une_k (by decide), u2]; exact jm_ueq
      · rw [g 0 0 12 (by decide), u6, jm_une_k (by decide), u5, jm_une_k (by decide), u4, jm_une_k (by decide), u3]; exact jm_ueq
      · rw [g 0 0 17 (by decide), u6, jm_une_k (by decide), u5, jm_une_k (by decide), u4]; exact jm_ueq
      · exact (zk 1 (by decide) (by decide) (by decide) (by decide) (by decide)).trans (kN 0 0 1 (by decide))
      · exact (zk 2 (by decide) (by decide) (by decide) (by decide) (by decide)).trans (kN 0 0 2 (by decide))
      · exact (z0 f i k (by omega) q2).trans (kN f i k (by omega))
    · refine wp_T ⟨by omega, by omega⟩ ?_
      refine wp_si iN (jm_inL (by decide) (by decide)) (fun N5 u5 i5 => ?_)
      refine wp_T ⟨by omega, by omega⟩ ?_
      refine wp_si i5 (jm_inL (by decide) (by decide)) (fun N7 u7 i7 => ?_)
      refine wp_T ⟨by omega, by omega⟩ ?_
      refine wp_T (by omega) ?_
      refine wp_si i7 (show (0 : Int) ≤ 0 ∧ (0 : Int) ≤ 1 by decide) (fun N9 u9 i9 => ?_)
      refine wp_e (jm_w_in _) (fun v e _ => ?_)
      rw [e, w1]
      refine ih N9 (l3 + 1) i9 (fun f i k q => ?_) (fun i y1 y2 => ?_) (by omega) (by omega) (by omega)
      · rw [u9, jm_une_f (by omega), u7, jm_une_f (by omega), u5, jm_une_f (by omega)]
        exact kN f i k q
      · by_cases q : i = l3
        · rw [q]
          refine ⟨?_, ?_, ?_⟩
          · rw [u9, jm_une_f (by decide), u7, jm_une_f (by decide), u5]; exact jm_ueq
          · rw [u9, jm_une_f (by decide), u7]; exact jm_ueq
          · rw [u9]; exact jm_ueq
        · have z := hx i y1 (by omega)
          refine ⟨?_, ?_, ?_⟩
          · rw [u9, jm_une_f (by decide), u7, jm_une_f (by decide), u5, jm_une_k q]; exact z.1
          · rw [u9, jm_une_f (by decide), u7, jm_une_k q, u5, jm_une_f (by decide)]; exact z.2.1
          · rw [u9, jm_une_k q, u7, jm_une_f (by decide), u5, jm_une_f (by decide)]; exact z.2.2
def TR2 (N N1 : jm_M) (s n : Int) : Prop := (N1 0 0 1 = s ∧ N1 0 0 2 = n ∧ N1 0 0 17 = 0) ∧ (∀ i : Int, 0 ≤ i → i < 5 → N1 1 0 i = 20000 ∧ N1 2 0 i = 300 ∧ N1 3 0 i = 0) ∧ (N1 0 0 8 = 0 ∧ N1 0 0 12 = 0) ∧ ∀ (f : Nat) (i k : Int), ¬ (f ≤ 3) → f ≠ 31 → N1 f i k = N f i k
theorem dd_track (fu : Nat) (hfu : 4000 ≤ fu) {N : jm_M} (iN : bI bx2 N) (l1 l2 : Int) (h1 : jm_in l1) (h2 : jm_in l2) : wp (fX12_track fu N l1 l2) (fun _ N1 => (¬ (2 ≤ l1 ∧ l1 ≤ 5 ∧ 1 ≤ l2 ∧ l2 ≤ 12) ∧ N1 = jm_u N 0 0 0 0) ∨ ((2 ≤ l1 ∧ l1 ≤ 5 ∧ 1 ≤ l2 ∧ l2 ≤ 12) ∧ TR2 N N1 l1 l2)) := by
  unfold fX12_track
  refine wp_sv (fun N1 u1 => ?_)
  have j1 : bI bx2 N1 := by rw [u1]; exact bI_u iN (jm_inL (by decide) (by decide))
  have o1 : ∀ (f : Nat) (i k : Int), ¬ (f = 0 ∧ i = 0 ∧ k = 0) → N1 f i k = N f i k := fun f i k y => by rw [u1]; exact jm_une y
  refine wp_bp (s_fX12_in N1 j1 l1 2 5 h1 ⟨by decide, by decide⟩ ⟨by decide, by decide⟩) (fun v1 g1 => wp_ite (fun _ => wp_ret (Or.inl ⟨by omega, u1⟩)) (fun z1 => ?_))
  refine wp_bp (s_fX12_in N1 j1 l2 1 12 h2 ⟨by decide, by decide⟩ ⟨by decide, by decide⟩) (fun v2 g2 => wp_ite (fun _ => wp_ret (Or.inl ⟨by omega, u1⟩)) (fun z2 => ?_))
  unfold fX12_lays
  refine wp_b (P := fun _ N6 => TR2 N N6 l1 l2) ?_ (fun v10 N11 h => wp_ret (Or.inr ⟨by omega, h⟩))
  refine wp_si j1 (show 2 ≤ l1 ∧ l1 ≤ 5 by omega) (fun P1 w1 i1 => ?_)
  refine wp_si i1 (show 1 ≤ l2 ∧ l2 ≤ 12 by omega) (fun P2 w2 i2 => ?_)
  refine wp_mono (dd_lay12 fu hfu P2 fu P2 0 i2 (fun _ _ _ _ => rfl) (fun i y1 y2 => by exfalso; omega) (by decide) (by decide) (by omega)) (fun r N3 h => ?_)
  obtain ⟨g1, ⟨g2, g3, g4⟩, ⟨g5, g6⟩, g7⟩ := h
  refine ⟨⟨?_, ?_, g4⟩, g1, ⟨g2, g3⟩, fun f i k q1 q2 => ?_⟩
  · rw [g5, w2, jm_une_k (by decide), w1]; exact jm_ueq
  · rw [g6, w2]; exact jm_ueq
  · rw [g7 f i k q1 q2, w2, jm_une_f (by omega), w1, jm_une_f (by omega)]
    exact o1 f i k (by omega)
theorem t_track (fu : Nat) (hfu : 4000 ≤ fu) (M N : jm_M) (iv : IW M N) (it : IT M N) (ca : CA fu M N) (l1 l2 : Int) (h1 : jm_in l1) (h2 : jm_in l2) : J2 (fX11_track fu M l1 l2) (fX12_track fu N l1 l2) (fun _ M1 _ N1 => IT M1 N1 ∧ CA fu M1 N1) := by
  have iM := iv.1.1
  have iN := iv.1.2.1
  obtain ⟨⟨t1, t2, t3, t4, t5⟩, t6, t7, t8⟩ := id it.1
  obtain ⟨⟨s0, s1, s5⟩, n18, n17, n14⟩ := id t6
  have b17 : 0 ≤ N 0 0 17 ∧ N 0 0 17 ≤ 6 := iN 0 0 17
  obtain ⟨v, M1, e1, ca1⟩ := cc_track fu hfu iM l1 l2
  obtain ⟨w, N1, e2, cb⟩ := dd_track fu hfu iN l1 l2 h1 h2
  refine ⟨v, M1, w, N1, e1, e2, ?_⟩
  rcases ca1 with ⟨ca1, m1⟩ | ⟨ca1, m1⟩
  · rcases cb with ⟨cb, m2⟩ | ⟨cb, m2⟩
    · exact it.no ca iN (Or.inl m1) m2
    · exact absurd cb ca1
  · rcases cb with ⟨cb, m2⟩ | ⟨cb, m2⟩
    · exact absurd ca1 cb
    obtain ⟨⟨p0, p1, p5, p7⟩, pS, ⟨p30, p31⟩, kM⟩ := m1
    obtain ⟨⟨q0, q1, q17⟩, qS, ⟨q8, q12⟩, kN⟩ := m2
    have nc : ∀ c : Int, 0 ≤ c → c < N1 0 0 17 → False := fun c y1 y2 => by omega
    refine ⟨⟨⟨⟨⟨p30.trans q8.symm, fun j y1 y2 => by exfalso; omega⟩, ⟨p31.trans q12.symm, fun j y1 y2 => by exfalso; omega⟩, fun c y1 y2 => (nc c y1 y2).elim, fun c y1 y2 => (nc c y1 y2).elim, fun c y1 y2 => (nc c y1 y2).elim⟩, ⟨⟨p0.trans q0.symm, p1.trans q1.symm, p5.trans q17.symm⟩, fun k y1 y2 => ?_, fun k y1 y2 => ?_, fun i y1 y2 => ?_⟩, fun c y1 y2 => (nc c y1 y2).elim, ?_⟩, fun c y1 y2 => ?_⟩, CA.zero p7⟩
    · rw [kM 18 0 k (by decide) (by decide) (by decide) (by decide) (by decide), kN 5 0 k (by decide) (by decide)]
      exact n18 k y1 y2
    · rw [kM 17 0 k (by decide) (by decide) (by decide) (by decide) (by decide), kN 4 0 k (by decide) (by decide)]
      exact n17 k y1 y2
    · exact ⟨(pS i y1 y2).1.trans (qS i y1 y2).1.symm, (pS i y1 y2).2.1.trans (qS i y1 y2).2.1.symm⟩
    · obtain ⟨z1, z2, z3, z4⟩ := t8
      have n4 : N1 4 0 = N 4 0 := funext fun k => kN 4 0 k (by decide) (by decide)
      have n5 : N1 5 0 = N 5 0 := funext fun k => kN 5 0 k (by decide) (by decide)
      unfold LIM
      rw [n4, n5]
      refine ⟨z1, z2, fun i y1 y2 => ?_, fun c y1 y2 => (nc c y1 y2).elim⟩
      have z := qS i y1 y2
      rw [z.1, z.2.1]
      omega
    · rw [kN 60 0 c (by decide) (by decide)]
      exact it.2 c y1 y2
