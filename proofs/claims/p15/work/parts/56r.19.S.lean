/-! the start: the class -/
def FL (f0 : Nat) (r : Int) (f : Nat) (i _ : Int) : Prop := ¬ (f = f0 ∧ i = r)
theorem c_fill31_l (fu : Nat) (M0 : jm_M) (r : Int) : ∀ (n : Nat) (M : jm_M) (l2 : Int), bI bx1 M → Kp (FL 31 r) M0 M → (∀ l : Int, 0 ≤ l → l < l2 → M 31 r l = -1) → 0 ≤ l2 → l2 ≤ 12 → 12 - l2 < (n : Int) → wp (fJ7_fill_53178_a31_w1_5 fu n M r (-1) l2 12) (fun _ M1 => bI bx1 M1 ∧ Kp (FL 31 r) M0 M1 ∧ ∀ l : Int, 0 ≤ l → l < 12 → M1 31 r l = -1) := by
  intro n
  induction n with
  | zero => intro M l2 _ _ _ _ _ hm; exfalso; omega
  | succ n ih =>
    intro M l2 iM kM hl h0 h1 hm
    show wp (gJ7_fill_53178_a31_w1_5 fu (fJ7_fill_53178_a31_w1_5 fu n) M r (-1) l2 12) _
    unfold gJ7_fill_53178_a31_w1_5
    have w1 : jm_w (l2 + 1) = l2 + 1 := jm_wid (by omega) (by omega)
    refine wp_ite (fun q => wp_ret ⟨iM, kM, fun l y1 y2 => hl l y1 (by omega)⟩) (fun q => wp_T ⟨h0, by omega⟩ ?_)
    refine wp_sk iM (jm_inL (by decide) (by decide)) kM (by unfold FL; omega) (fun M3 u3 i3 k3 => ?_)
    rw [w1]
    refine ih M3 (l2 + 1) i3 k3 (fun l y1 y2 => ?_) (by omega) (by omega) (by omega)
    rw [u3]
    by_cases e : l = l2
    · rw [e]; exact jm_ueq
    · rw [jm_une_k e]; exact hl l y1 (by omega)
theorem c_fill31 (fu : Nat) (hfu : 4000 ≤ fu) (M : jm_M) (iM : bI bx1 M) (r : Int) : wp (fJ7_fill_53178_a31_w1 fu M r (-1)) (fun _ M1 => bI bx1 M1 ∧ Kp (FL 31 r) M M1 ∧ ∀ l : Int, 0 ≤ l → l < 12 → M1 31 r l = -1) :=
  c_fill31_l fu M r fu M 0 iM Kp.rf (fun l y1 y2 => by exfalso; omega) (by decide) (by decide) (by omega)
theorem c_fill32_l (fu : Nat) (M0 : jm_M) (r : Int) : ∀ (n : Nat) (M : jm_M) (l2 : Int), bI bx1 M → Kp (FL 32 r) M0 M → (∀ l : Int, 0 ≤ l → l < l2 → M 32 r l = 0) → 0 ≤ l2 → l2 ≤ 5 → 5 - l2 < (n : Int) → wp (fJ7_fill_53178_a32_w1_5 fu n M r (0) l2 5) (fun _ M1 => bI bx1 M1 ∧ Kp (FL 32 r) M0 M1 ∧ ∀ l : Int, 0 ≤ l → l < 5 → M1 32 r l = 0) := by
  intro n
  induction n with
  | zero => intro M l2 _ _ _ _ _ hm; exfalso; omega
  | succ n ih =>
    intro M l2 iM kM hl h0 h1 hm
    show wp (gJ7_fill_53178_a32_w1_5 fu (fJ7_fill_53178_a32_w1_5 fu n) M r (0) l2 5) _
    unfold gJ7_fill_53178_a32_w1_5
    have w1 : jm_w (l2 + 1) = l2 + 1 := jm_wid (by omega) (by omega)
    refine wp_ite (fun q => wp_ret ⟨iM, kM, fun l y1 y2 => hl l y1 (by omega)⟩) (fun q => wp_T ⟨h0, by omega⟩ ?_)
    refine wp_sk iM (jm_inL (by decide) (by decide)) kM (by unfold FL; omega) (fun M3 u3 i3 k3 => ?_)
    rw [w1]
    refine ih M3 (l2 + 1) i3 k3 (fun l y1 y2 => ?_) (by omega) (by omega) (by omega)
    rw [u3]
    by_cases e : l = l2
    · rw [e]; exact jm_ueq
    · rw [jm_une_k e]; exact hl l y1 (by omega)
theorem c_fill32 (fu : Nat) (hfu : 4000 ≤ fu) (M : jm_M) (iM : bI bx1 M) (r : Int) : wp (fJ7_fill_53178_a32_w1 fu M r (0)) (fun _ M1 => bI bx1 M1 ∧ Kp (FL 32 r) M M1 ∧ ∀ l : Int, 0 ≤ l → l < 5 → M1 32 r l = 0) :=
  c_fill32_l fu M r fu M 0 iM Kp.rf (fun l y1 y2 => by exfalso; omega) (by decide) (by decide) (by omega)
def KC3 (c : Int) (f : Nat) (i _ : Int) : Prop := ¬ ((f = 29 ∨ f = 31 ∨ f = 32) ∧ i = c)
def SL (M0 M : jm_M) (c : Int) : Prop := (∀ l : Int, 0 ≤ l → l < M0 10 c 3 → M 29 c l = M0 19 c (2 * l + 1)) ∧ (∀ l : Int, 0 ≤ l → l < 12 → M 31 c l = -1) ∧ ∀ l : Int, 0 ≤ l → l < 5 → M 32 c l = 0
theorem c_st113 (fu : Nat) (hfu : 4000 ≤ fu) (M0 : jm_M) (i0 : bI bx1 M0) (c : Int) (hc : 0 ≤ c ∧ c < 6) : ∀ (n : Nat) (M : jm_M) (l4 : Int), bI bx1 M → Kp (FL 29 c) M0 M → (∀ l : Int, 0 ≤ l → l < l4 → l < M0 10 c 3 → M 29 c l = M0 19 c (2 * l + 1)) → 0 ≤ l4 → l4 ≤ 4 → 4 - l4 < (n : Int) → wp (fX6_start_113 fu n M c c l4) (fun _ M1 => bI bx1 M1 ∧ Kp (KC3 c) M0 M1 ∧ SL M0 M1 c) := by
  have b10 : M0 10 c 3 ≤ 4 := by
    have z : 0 ≤ M0 10 c 3 ∧ M0 10 c 3 ≤ lim1 c := i0 10 c 3
    rw [lim1_0 hc.1 hc.2] at z
    exact z.2
  intro n
  induction n with
  | zero => intro M l4 _ _ _ _ _ hm; exfalso; omega
  | succ n ih =>
    intro M l4 iM kM hl h0 h1 hm
    show wp (gX6_start_113 fu (fX6_start_113 fu n) M c c l4) _
    unfold gX6_start_113
    have w1 : jm_w (l4 + 1) = l4 + 1 := jm_wid (by omega) (by omega)
    refine wp_ite (fun q => ?_) (fun q => ?_)
    · refine wp_b (c_fill31 fu hfu M iM c) (fun _ M3 z => ?_)
      obtain ⟨i3, k3, e3⟩ := z
      refine wp_b (c_fill32 fu hfu M3 i3 c) (fun _ M5 z => ?_)
      obtain ⟨i5, k5, e5⟩ := z
      refine wp_ret ⟨i5, fun f i k y => ?_, fun l y1 y2 => ?_, fun l y1 y2 => ?_, e5⟩
      · unfold KC3 at y
        rw [k5 f i k (by unfold FL; omega), k3 f i k (by unfold FL; omega)]
        exact kM f i k (by unfold FL; omega)
      · rw [k5 29 c l (by unfold FL; omega), k3 29 c l (by unfold FL; omega)]
        exact hl l y1 (by omega) y2
      · rw [k5 31 c l (by unfold FL; omega)]
        exact e3 l y1 y2
    · have go : ∀ v : Int, jm_in v → (l4 < M0 10 c 3 → v = M0 19 c (2 * l4 + 1)) → wp (if 0 ≤ l4 ∧ l4 < 4 then (jm_s (jm_u M 29 c l4 v) fun M10 => jm_e (jm_w (l4 + 1)) fun v11 => fX6_start_113 fu n M10 c c v11) else none) (fun _ M1 => bI bx1 M1 ∧ Kp (KC3 c) M0 M1 ∧ SL M0 M1 c) := by
        intro v iv ev
        refine wp_T ⟨h0, by omega⟩ (wp_sk iM iv kM (by unfold FL; omega) (fun M3 u3 i3 k3 => ?_))
        rw [w1]
        refine ih M3 (l4 + 1) i3 k3 (fun l y1 y2 y3 => ?_) (by omega) (by omega) (by omega)
        rw [u3]
        by_cases e : l = l4
        · rw [e, jm_ueq]; exact ev (by omega)
        · rw [jm_une_k e]; exact hl l y1 (by omega) y3
      have m10 : M 10 c 3 = M0 10 c 3 := kM 10 c 3 (by unfold FL; omega)
      have m19 : ∀ k : Int, M 19 c k = M0 19 c k := fun k => kM 19 c k (by unfold FL; omega)
      by_cases q2 : l4 < M0 10 c 3
      · refine wp_b (cell_in iM (r := c) (i := l4) (k := 1) (w := 2) (a := 2 * l4 + 1) ⟨hc.1, by omega⟩ (wid1_0 hc.2) ⟨h0, by omega⟩ ⟨by decide, by decide⟩ (by omega)) (fun v M7 z => ?_)
        rw [z.1]
        have iv : jm_in v := by rw [z.2]; exact iM 19 c _
        exact go v iv (fun _ => by rw [z.2]; exact m19 _)
      · refine wp_b (cell_out (M := M) (r := c) (i := l4) (k := 1) (Or.inr (by omega))) (fun v M7 z => ?_)
        rw [z.1]
        have iv : jm_in v := by rw [z.2]; exact jm_inL (by decide) (by decide)
        exact go v iv (fun y => absurd y q2)
def K82 (c : Int) (f : Nat) (i k : Int) : Prop := KC3 c f i k ∧ ¬ (f = 9 ∧ i = c ∧ 9 ≤ k)
theorem c_st82 (fu : Nat) (hfu : 4000 ≤ fu) (M : jm_M) (iM : bI bx1 M) (c s : Int) (hc : 0 ≤ c ∧ c < 6) (is : jm_in s) : wp (gX6_start_82 fu M c c s c) (fun _ M1 => bI bx1 M1 ∧ Kp (K82 c) M M1 ∧ (M1 9 c 9 = s ∧ M1 9 c 10 = 0 ∧ M1 9 c 11 = 0 ∧ M1 9 c 12 = 0 ∧ M1 9 c 13 = 0 ∧ M1 9 c 14 = 0) ∧ SL M M1 c) := by
  have z0 : jm_in 0 := jm_inL (by decide) (by decide)
  unfold gX6_start_82
  refine wp_si iM is (fun M1 u1 i1 => wp_si i1 z0 (fun M2 u2 i2 => wp_si i2 z0 (fun M3 u3 i3 => wp_si i3 z0 (fun M4 u4 i4 => wp_si i4 z0 (fun M5 u5 i5 => wp_si i5 z0 (fun M6 u6 i6 => ?_))))))
  have o : ∀ (f : Nat) (i k : Int), ¬ (f = 9 ∧ i = c ∧ 9 ≤ k) → M6 f i k = M f i k := fun f i k y => by
    rw [u6, jm_une (by omega), u5, jm_une (by omega), u4, jm_une (by omega), u3, jm_une (by omega), u2, jm_une (by omega), u1, jm_une (by omega)]
  refine wp_mono (c_st113 fu hfu M6 i6 c hc fu M6 0 i6 Kp.rf (fun l y1 y2 _ => by exfalso; omega) (by decide) (by decide) (by omega)) (fun r M7 z => ?_)
  obtain ⟨i7, k7, e29, e31, e32⟩ := z
  have n9 : ∀ k : Int, M7 9 c k = M6 9 c k := fun k => k7 9 c k (by unfold KC3; omega)
  refine ⟨i7, fun f i k y => ?_, ⟨?_, ?_, ?_, ?_, ?_, ?_⟩, fun l y1 y2 => ?_, e31, e32⟩
  · rw [k7 f i k y.1]
    exact o f i k y.2
  · rw [n9, u6, jm_une_k (by decide), u5, jm_une_k (by decide), u4, jm_une_k (by decide), u3, jm_une_k (by decide), u2, jm_une_k (by decide), u1]; exact jm_ueq
  · rw [n9, u6, jm_une_k (by decide), u5, jm_une_k (by decide), u4, jm_une_k (by decide), u3, jm_une_k (by decide), u2]; exact jm_ueq
  · rw [n9, u6, jm_une_k (by decide), u5, jm_une_k (by decide), u4, jm_une_k (by decide), u3]; exact jm_ueq
  · rw [n9, u6, jm_une_k (by decide), u5, jm_une_k (by decide), u4]; exact jm_ueq
  · rw [n9, u6, jm_une_k (by decide), u5]; exact jm_ueq
  · rw [n9, u6]; exact jm_ueq
  · rw [e29 l y1 (by rw [o 10 c 3 (by omega)]; exact y2)]
    exact o 19 c _ (by omega)
def K41 (c : Int) (f : Nat) (i k : Int) : Prop := KC3 c f i k ∧ ¬ (f = 9 ∧ i = c ∧ 3 ≤ k)
theorem c_st41 (fu : Nat) (hfu : 4000 ≤ fu) (M : jm_M) (iM : bI bx1 M) (c l3 s : Int) (hc : 0 ≤ c ∧ c < 6) (is : jm_in s) : wp (gX6_start_41 fu M c c l3 s c) (fun _ M1 => bI bx1 M1 ∧ Kp (K41 c) M M1 ∧ (M1 9 c 3 = s ∧ M1 9 c 5 = 0 ∧ M1 9 c 6 = 0 ∧ M1 9 c 7 = 0 ∧ M1 9 c 8 = M 8 c 5) ∧ (M1 9 c 9 = (if l3 = 0 then -1 else 0) ∧ M1 9 c 10 = 0 ∧ M1 9 c 11 = 0 ∧ M1 9 c 12 = 0 ∧ M1 9 c 13 = 0 ∧ M1 9 c 14 = 0) ∧ SL M M1 c) := by
  have z0 : jm_in 0 := jm_inL (by decide) (by decide)
  have z1 : jm_in (-1) := jm_inL (by decide) (by decide)
  unfold gX6_start_41
  refine wp_si iM is (fun M1 u1 i1 => wp_si i1 z0 (fun M2 u2 i2 => wp_si i2 z0 (fun M3 u3 i3 => wp_si i3 z0 (fun M4 u4 i4 => wp_si i4 z0 (fun M5 u5 i5 => ?_)))))
  have o5 : ∀ (f : Nat) (i k : Int), ¬ (f = 9 ∧ i = c ∧ 3 ≤ k) → M5 f i k = M f i k := fun f i k y => by
    rw [u5, jm_une (by omega), u4, jm_une (by omega), u3, jm_une (by omega), u2, jm_une (by omega), u1, jm_une (by omega)]
  rw [o5 8 c 5 (by omega)]
  have b85 : jm_in (M 8 c 5) := iM 8 c 5
  refine wp_si i5 b85 (fun M6 u6 i6 => ?_)
  have o : ∀ (f : Nat) (i k : Int), ¬ (f = 9 ∧ i = c ∧ 3 ≤ k) → M6 f i k = M f i k := fun f i k y => by
    rw [u6, jm_une (by omega)]
    exact o5 f i k y
  have fin : ∀ s2 : Int, jm_in s2 → s2 = (if l3 = 0 then -1 else 0) → wp (gX6_start_82 fu M6 c c s2 c) (fun _ M1 => bI bx1 M1 ∧ Kp (K41 c) M M1 ∧ (M1 9 c 3 = s ∧ M1 9 c 5 = 0 ∧ M1 9 c 6 = 0 ∧ M1 9 c 7 = 0 ∧ M1 9 c 8 = M 8 c 5) ∧ (M1 9 c 9 = (if l3 = 0 then -1 else 0) ∧ M1 9 c 10 = 0 ∧ M1 9 c 11 = 0 ∧ M1 9 c 12 = 0 ∧ M1 9 c 13 = 0 ∧ M1 9 c 14 = 0) ∧ SL M M1 c) := by
    intro s2 is2 es2
    refine wp_mono (c_st82 fu hfu M6 i6 c s2 hc is2) (fun r M7 z => ?_)
    obtain ⟨i7, k7, e9, e29, e31, e32⟩ := z
    rw [es2] at e9
    have n9 : ∀ k : Int, k < 9 → M7 9 c k = M6 9 c k := fun k y => k7 9 c k (by unfold K82 KC3; omega)
    refine ⟨i7, fun f i k y => ?_, ⟨?_, ?_, ?_, ?_, ?_⟩, e9, fun l y1 y2 => ?_, e31, e32⟩
    · unfold K41 at y
      rw [k7 f i k ⟨y.1, by omega⟩]
      exact o f i k y.2
    · rw [n9 3 (by decide), u6, jm_une_k (by decide), u5, jm_une_k (by decide), u4, jm_une_k (by decide), u3, jm_une_k (by decide), u2, jm_une_k (by decide), u1]; exact jm_ueq
    · rw [n9 5 (by decide), u6, jm_une_k (by decide), u5, jm_une_k (by decide), u4, jm_une_k (by decide), u3]; exact jm_ueq
    · rw [n9 6 (by decide), u6, jm_une_k (by decide), u5, jm_une_k (by decide), u4]; exact jm_ueq
    · rw [n9 7 (by decide), u6, jm_une_k (by decide), u5]; exact jm_ueq
    · rw [n9 8 (by decide), u6]; exact jm_ueq
    · rw [e29 l y1 (by rw [o 10 c 3 (by omega)]; exact y2)]
      exact o 19 c _ (by omega)
  refine wp_ite (fun q => fin (-1) z1 (by rw [if_pos q])) (fun q => fin 0 z0 (by rw [if_neg q]))
def KC1 (c : Int) (f : Nat) (i _ : Int) : Prop := ¬ ((f = 9 ∨ f = 29 ∨ f = 31 ∨ f = 32) ∧ i = c)
def CST (M0 M : jm_M) (c e : Int) : Prop := (M 9 c 0 = e ∧ M 9 c 1 = 0 ∧ M 9 c 2 = 0 ∧ M 9 c 3 = (if M0 10 c 3 ≤ 0 then 2 else 0)) ∧ (M 9 c 5 = 0 ∧ M 9 c 6 = 0 ∧ M 9 c 7 = 0 ∧ M 9 c 8 = M0 8 c 5) ∧ (M 9 c 9 = (if M0 10 c 3 ≤ 0 then -1 else 0) ∧ M 9 c 10 = 0 ∧ M 9 c 11 = 0 ∧ M 9 c 12 = 0 ∧ M 9 c 13 = 0 ∧ M 9 c 14 = 0) ∧ SL M0 M c
theorem c_start (fu : Nat) (hfu : 4000 ≤ fu) (M : jm_M) (iM : bI bx1 M) (c e : Int) (hc : 0 ≤ c ∧ c < 6) (ie : jm_in e) : wp (fX6_start fu M c c e) (fun _ M1 => bI bx1 M1 ∧ Kp (KC1 c) M M1 ∧ CST M M1 c e) := by
  have z0 : jm_in 0 := jm_inL (by decide) (by decide)
  have z2 : jm_in 2 := jm_inL (by decide) (by decide)
  unfold fX6_start
  refine wp_si iM ie (fun M1 u1 i1 => wp_si i1 (show (0 : Int) ≤ 0 ∧ (0 : Int) ≤ 361 from ⟨by decide, by decide⟩) (fun M2 u2 i2 => wp_si i2 (show (0 : Int) ≤ 0 ∧ (0 : Int) ≤ 60 from ⟨by decide, by decide⟩) (fun M3 u3 i3 => ?_)))
  have o : ∀ (f : Nat) (i k : Int), ¬ (f = 9 ∧ i = c ∧ k < 3) → M3 f i k = M f i k := fun f i k y => by
    rw [u3, jm_une (by omega), u2, jm_une (by omega), u1, jm_une (by omega)]
  have m10 : M3 10 c 3 = M 10 c 3 := o 10 c 3 (by omega)
  rw [m10]
  have fin : ∀ s0 s : Int, jm_in s → s = (if M 10 c 3 ≤ 0 then 2 else 0) → (s0 = 0 ↔ M 10 c 3 ≤ 0) → wp (gX6_start_41 fu M3 c c s0 s c) (fun _ M1 => bI bx1 M1 ∧ Kp (KC1 c) M M1 ∧ CST M M1 c e) := by
    intro s0 s is es e0
    refine wp_mono (c_st41 fu hfu M3 i3 c s0 s hc is) (fun r M7 z => ?_)
    obtain ⟨i7, k7, ⟨q3, q5, q6, q7, q8⟩, ⟨q9, q10, q11, q12, q13, q14⟩, e29, e31, e32⟩ := z
    have n9 : ∀ k : Int, k < 3 → M7 9 c k = M3 9 c k := fun k y => k7 9 c k (by unfold K41 KC3; omega)
    have on : (if s0 = 0 then (-1 : Int) else 0) = (if M 10 c 3 ≤ 0 then -1 else 0) := by
      by_cases y : M 10 c 3 ≤ 0
      · rw [if_pos y, if_pos (e0.2 y)]
      · rw [if_neg y, if_neg (fun y2 => y (e0.1 y2))]
    refine ⟨i7, fun f i k y => ?_, ⟨?_, ?_, ?_, q3.trans es⟩, ⟨q5, q6, q7, ?_⟩, ⟨q9.trans on, q10, q11, q12, q13, q14⟩, fun l y1 y2 => ?_, e31, e32⟩
    · unfold KC1 at y
      rw [k7 f i k (by unfold K41 KC3; omega)]
      exact o f i k (by omega)
    · rw [n9 0 (by decide), u3, jm_une_k (by decide), u2, jm_une_k (by decide), u1]; exact jm_ueq
    · rw [n9 1 (by decide), u3, jm_une_k (by decide), u2]; exact jm_ueq
    · rw [n9 2 (by decide), u3]; exact jm_ueq
    · rw [q8]; exact o 8 c 5 (by omega)
    · rw [e29 l y1 (by rw [m10]; exact y2)]
      exact o 19 c _ (by omega)
  refine wp_ite (fun q => ?_) (fun q => ?_)
  · unfold gX6_start_30
    exact wp_T rfl (fin 0 2 z2 (by rw [if_pos q]) ⟨fun _ => q, fun _ => rfl⟩)
  · unfold gX6_start_30
    exact wp_F (by decide) (fin 1 0 z0 (by rw [if_neg q]) ⟨fun y => absurd y (by decide), fun y => absurd y q⟩)
/-! the start: the reference -/
def KW (f0 : Nat) (a w : Int) (f : Nat) (i k : Int) : Prop := ¬ (f = f0 ∧ i = 0 ∧ a ≤ k ∧ k < a + w)
theorem d_st273 (fu : Nat) (n31 : jm_M → Int → jm_R) (Q : Int → jm_M → Prop) (N0 : jm_M) (c : Int) (hc : 0 ≤ c ∧ c < 6) (kk : ∀ N1 : jm_M, bI bx2 N1 → Kp (KW 59 (12 * c) 12) N0 N1 → (∀ j : Int, 0 ≤ j → j < 12 → N1 59 0 (12 * c + j) = -1) → wp (n31 N1 (c + 1)) Q) : ∀ (n : Nat) (N : jm_M) (l2 : Int), bI bx2 N → Kp (KW 59 (12 * c) 12) N0 N → (∀ j : Int, 0 ≤ j → j < l2 → N 59 0 (12 * c + j) = -1) → 0 ≤ l2 → l2 ≤ 12 → 12 - l2 < (n : Int) → wp (fX12_starts_273 fu n31 n N c l2) Q := by
  have wc : jm_w (12 * c) = 12 * c := jm_wid (by omega) (by omega)
  intro n
  induction n with
  | zero => intro N l2 _ _ _ _ _ hm; exfalso; omega
  | succ n ih =>
    intro N l2 iN kN hl h0 h1 hm
    show wp (gX12_starts_273 fu n31 (fX12_starts_273 fu n31 n) N c l2) Q
    unfold gX12_starts_273
    have w1 : jm_w (l2 + 1) = l2 + 1 := jm_wid (by omega) (by omega)
    have wx : jm_w (12 * c + l2) = 12 * c + l2 := jm_wid (by omega) (by omega)
    rw [wc, wx, w1]
    have w2 : jm_w (c + 1) = c + 1 := jm_wid (by omega) (by omega)
    rw [w2]
    refine wp_ite (fun q => kk N iN kN (fun j y1 y2 => hl j y1 (by omega))) (fun q => wp_T ⟨by omega, by omega⟩ ?_)
    have iv : jm_in (-1) := jm_inL (by decide) (by decide)
    refine wp_sk iN iv kN (by unfold KW; omega) (fun N3 u3 i3 k3 => ?_)
    refine ih N3 (l2 + 1) i3 k3 (fun j y1 y2 => ?_) (by omega) (by omega) (by omega)
    rw [u3]
    by_cases e : j = l2
    · rw [e, jm_ueq]
    · rw [jm_une_k (by omega)]; exact hl j y1 (by omega)
theorem d_st249 (fu : Nat) (n31 : jm_M → Int → jm_R) (Q : Int → jm_M → Prop) (N0 : jm_M) (c : Int) (hc : 0 ≤ c ∧ c < 6) (kk : ∀ N1 : jm_M, bI bx2 N1 → Kp (KW 56 (5 * c) 5) N0 N1 → (∀ j : Int, 0 ≤ j → j < 5 → N1 56 0 (5 * c + j) = -1) → wp (fX12_starts_273 fu n31 fu N1 c 0) Q) : ∀ (n : Nat) (N : jm_M) (l2 : Int), bI bx2 N → Kp (KW 56 (5 * c) 5) N0 N → (∀ j : Int, 0 ≤ j → j < l2 → N 56 0 (5 * c + j) = -1) → 0 ≤ l2 → l2 ≤ 5 → 5 - l2 < (n : Int) → wp (fX12_starts_249 fu n31 n N c l2) Q := by
  have wc : jm_w (5 * c) = 5 * c := jm_wid (by omega) (by omega)
  intro n
  induction n with
  | zero => intro N l2 _ _ _ _ _ hm; exfalso; omega
  | succ n ih =>
    intro N l2 iN kN hl h0 h1 hm
    show wp (gX12_starts_249 fu n31 (fX12_starts_249 fu n31 n) N c l2) Q
    unfold gX12_starts_249
    have w1 : jm_w (l2 + 1) = l2 + 1 := jm_wid (by omega) (by omega)
    have wx : jm_w (5 * c + l2) = 5 * c + l2 := jm_wid (by omega) (by omega)
    rw [wc, wx, w1]
    refine wp_ite (fun q => kk N iN kN (fun j y1 y2 => hl j y1 (by omega))) (fun q => wp_T ⟨by omega, by omega⟩ ?_)
    have iv : jm_in (-1) := jm_inL (by decide) (by decide)
    refine wp_sk iN iv kN (by unfold KW; omega) (fun N3 u3 i3 k3 => ?_)
    refine ih N3 (l2 + 1) i3 k3 (fun j y1 y2 => ?_) (by omega) (by omega) (by omega)
    rw [u3]
    by_cases e : j = l2
    · rw [e, jm_ueq]
    · rw [jm_une_k (by omega)]; exact hl j y1 (by omega)
theorem d_st223 (fu : Nat) (n31 : jm_M → Int → jm_R) (Q : Int → jm_M → Prop) (N0 : jm_M) (c : Int) (hc : 0 ≤ c ∧ c < 6) (kk : ∀ N1 : jm_M, bI bx2 N1 → Kp (KW 55 (60 * c) 60) N0 N1 → (∀ j : Int, 0 ≤ j → j < 60 → N1 55 0 (60 * c + j) = -1) → wp (fX12_starts_249 fu n31 fu N1 c 0) Q) : ∀ (n : Nat) (N : jm_M) (l2 : Int), bI bx2 N → Kp (KW 55 (60 * c) 60) N0 N → (∀ j : Int, 0 ≤ j → j < l2 → N 55 0 (60 * c + j) = -1) → 0 ≤ l2 → l2 ≤ 60 → 60 - l2 < (n : Int) → wp (fX12_starts_223 fu n31 n N c l2) Q := by
  have wc : jm_w (60 * c) = 60 * c := jm_wid (by omega) (by omega)
  intro n
  induction n with
  | zero => intro N l2 _ _ _ _ _ hm; exfalso; omega
  | succ n ih =>
    intro N l2 iN kN hl h0 h1 hm
    show wp (gX12_starts_223 fu n31 (fX12_starts_223 fu n31 n) N c l2) Q
    unfold gX12_starts_223
    have w1 : jm_w (l2 + 1) = l2 + 1 := jm_wid (by omega) (by omega)
    have wx : jm_w (60 * c + l2) = 60 * c + l2 := jm_wid (by omega) (by omega)
    rw [wc, wx, w1]
    refine wp_ite (fun q => kk N iN kN (fun j y1 y2 => hl j y1 (by omega))) (fun q => wp_T ⟨by omega, by omega⟩ ?_)
    have iv : jm_in (-1) := jm_inL (by decide) (by decide)
    refine wp_sk iN iv kN (by unfold KW; omega) (fun N3 u3 i3 k3 => ?_)
    refine ih N3 (l2 + 1) i3 k3 (fun j y1 y2 => ?_) (by omega) (by omega) (by omega)
    rw [u3]
    by_cases e : j = l2
    · rw [e, jm_ueq]
    · rw [jm_une_k (by omega)]; exact hl j y1 (by omega)
theorem d_st190 (fu : Nat) (n31 : jm_M → Int → jm_R) (Q : Int → jm_M → Prop) (N0 : jm_M) (c : Int) (hc : 0 ≤ c ∧ c < 6) (kk : ∀ N1 : jm_M, bI bx2 N1 → Kp (KW 46 (4 * c) 4) N0 N1 → (∀ j : Int, 0 ≤ j → j < 4 → N1 46 0 (4 * c + j) = N0 21 0 (4 * c + j)) → wp (fX12_starts_223 fu n31 fu N1 c 0) Q) : ∀ (n : Nat) (N : jm_M) (l2 : Int), bI bx2 N → Kp (KW 46 (4 * c) 4) N0 N → (∀ j : Int, 0 ≤ j → j < l2 → N 46 0 (4 * c + j) = N0 21 0 (4 * c + j)) → 0 ≤ l2 → l2 ≤ 4 → 4 - l2 < (n : Int) → wp (fX12_starts_190 fu n31 n N c l2) Q := by
  have wc : jm_w (4 * c) = 4 * c := jm_wid (by omega) (by omega)
  intro n
  induction n with
  | zero => intro N l2 _ _ _ _ _ hm; exfalso; omega
  | succ n ih =>
    intro N l2 iN kN hl h0 h1 hm
    show wp (gX12_starts_190 fu n31 (fX12_starts_190 fu n31 n) N c l2) Q
    unfold gX12_starts_190
    have w1 : jm_w (l2 + 1) = l2 + 1 := jm_wid (by omega) (by omega)
    have wx : jm_w (4 * c + l2) = 4 * c + l2 := jm_wid (by omega) (by omega)
    rw [wc, wx, w1]
    refine wp_ite (fun q => kk N iN kN (fun j y1 y2 => hl j y1 (by omega))) (fun q => wp_T ⟨by omega, by omega⟩ ?_)
    refine wp_T ⟨by omega, by omega⟩ ?_
    have e21 : N 21 0 (4 * c + l2) = N0 21 0 (4 * c + l2) := kN 21 0 _ (by unfold KW; omega)
    have iv : jm_in (N 21 0 (4 * c + l2)) := iN 21 0 _
    refine wp_sk iN iv kN (by unfold KW; omega) (fun N3 u3 i3 k3 => ?_)
    refine ih N3 (l2 + 1) i3 k3 (fun j y1 y2 => ?_) (by omega) (by omega) (by omega)
    rw [u3]
    by_cases e : j = l2
    · rw [e, jm_ueq]; exact e21
    · rw [jm_une_k (by omega)]; exact hl j y1 (by omega)
def KSc (c : Int) (f : Nat) (i k : Int) : Prop := ¬ (((39 ≤ f ∧ f ≤ 45) ∨ (47 ≤ f ∧ f ≤ 54)) ∧ i = 0 ∧ k = c) ∧ KW 46 (4 * c) 4 f i k ∧ KW 55 (60 * c) 60 f i k ∧ KW 56 (5 * c) 5 f i k ∧ KW 59 (12 * c) 12 f i k
def NSL (N0 N : jm_M) (c : Int) : Prop := (∀ j : Int, 0 ≤ j → j < 4 → N 46 0 (4 * c + j) = N0 21 0 (4 * c + j)) ∧ (∀ j : Int, 0 ≤ j → j < 60 → N 55 0 (60 * c + j) = -1) ∧ (∀ j : Int, 0 ≤ j → j < 5 → N 56 0 (5 * c + j) = -1) ∧ ∀ j : Int, 0 ≤ j → j < 12 → N 59 0 (12 * c + j) = -1
def KSL (c : Int) (f : Nat) (i k : Int) : Prop := KW 46 (4 * c) 4 f i k ∧ KW 55 (60 * c) 60 f i k ∧ KW 56 (5 * c) 5 f i k ∧ KW 59 (12 * c) 12 f i k
theorem d_stL (fu : Nat) (hfu : 4000 ≤ fu) (n31 : jm_M → Int → jm_R) (Q : Int → jm_M → Prop) (N0 : jm_M) (i0 : bI bx2 N0) (c : Int) (hc : 0 ≤ c ∧ c < 6) (kk : ∀ N1 : jm_M, bI bx2 N1 → Kp (KSL c) N0 N1 → NSL N0 N1 c → wp (n31 N1 (c + 1)) Q) : wp (fX12_starts_190 fu n31 fu N0 c 0) Q := by
  refine d_st190 fu n31 Q N0 c hc (fun N1 i1 k1 e1 => ?_) fu N0 0 i0 Kp.rf (fun j y1 y2 => by exfalso; omega) (by decide) (by decide) (by omega)
  refine d_st223 fu n31 Q N1 c hc (fun N2 i2 k2 e2 => ?_) fu N1 0 i1 Kp.rf (fun j y1 y2 => by exfalso; omega) (by decide) (by decide) (by omega)
  refine d_st249 fu n31 Q N2 c hc (fun N3 i3 k3 e3 => ?_) fu N2 0 i2 Kp.rf (fun j y1 y2 => by exfalso; omega) (by decide) (by decide) (by omega)
  refine d_st273 fu n31 Q N3 c hc (fun N4 i4 k4 e4 => ?_) fu N3 0 i3 Kp.rf (fun j y1 y2 => by exfalso; omega) (by decide) (by decide) (by omega)
  refine kk N4 i4 (fun f i k y => ?_) ⟨fun j y1 y2 => ?_, fun j y1 y2 => ?_, fun j y1 y2 => ?_, e4⟩
  · rw [k4 f i k y.2.2.2, k3 f i k y.2.2.1, k2 f i k y.2.1]
    exact k1 f i k y.1
  · rw [k4 46 0 _ (by unfold KW; omega), k3 46 0 _ (by unfold KW; omega), k2 46 0 _ (by unfold KW; omega)]
    exact e1 j y1 y2
  · rw [k4 55 0 _ (by unfold KW; omega), k3 55 0 _ (by unfold KW; omega)]
    exact e2 j y1 y2
  · rw [k4 56 0 _ (by unfold KW; omega)]
    exact e3 j y1 y2
