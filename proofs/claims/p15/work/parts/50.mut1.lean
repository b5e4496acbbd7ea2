theorem x_isIndex (M : jm_M) (a b : Int) : wp (fX11_isIndex M a b) (fun r M1 => M1 = M ∧ ((r = 1 ∧ 0 ≤ a ∧ a < b) ∨ (r = 0 ∧ ¬ (0 ≤ a ∧ a < b)))) := by
  unfold fX11_isIndex
  refine wp_ite (fun c => wp_ret ⟨rfl, Or.inr ⟨rfl, by omega⟩⟩) (fun c => ?_)
  exact wp_ite (fun c2 => wp_ret ⟨rfl, Or.inr ⟨rfl, by omega⟩⟩) (fun c2 => wp_ret ⟨rfl, Or.inl ⟨rfl, by omega, by omega⟩⟩)
/-! the class's track -/
theorem s_layAnew_12 (fu : Nat) (M0 : jm_M) : ∀ (n : Nat) (M : jm_M) (l3 : Int), bI bx1 M → Kp (fun f _ _ => f ≠ 14 ∧ f ≠ 15 ∧ f ≠ 16) M0 M → 0 ≤ l3 → l3 ≤ 5 → 5 - l3 < (n : Int) → wp (fX9_layAnew_12 fu n M l3) (fun r M1 => bI bx1 M1 ∧ Kp (fun f i _ => f ≠ 14 ∧ f ≠ 15 ∧ f ≠ 16 ∧ ¬ (f = 10 ∧ (i = 30 ∨ i = 31))) M0 M1 ∧ M1 10 30 3 = 0 ∧ M1 10 31 3 = 0) := by
  intro n
  induction n with
  | zero => intro M l3 _ _ _ h1 hm; exfalso; omega
  | succ n ih =>
    intro M l3 iM kM h0 h1 hm
    show wp (gX9_layAnew_12 fu (fX9_layAnew_12 fu n) M l3) _
    unfold gX9_layAnew_12
    have w1 : jm_w (l3 + 1) = l3 + 1 := jm_wid (by omega) (by omega)
    refine wp_ite (fun c => ?_) (fun c => ?_)
    · have b30 := lim1_any 30
      have b31 := lim1_any 31
      refine wp_si iM (show 0 ≤ 0 ∧ 0 ≤ lim1 30 by omega) (fun M2 u2 i2 => ?_)
      refine wp_si i2 (show 0 ≤ 0 ∧ 0 ≤ lim1 31 by omega) (fun M3 u3 i3 => ?_)
      refine wp_ret ⟨i3, fun f i k q => ?_, ?_, ?_⟩
      · rw [u3, jm_une (fun y => q.2.2.2 ⟨y.1, Or.inr y.2.1⟩), u2, jm_une (fun y => q.2.2.2 ⟨y.1, Or.inl y.2.1⟩)]
        exact kM f i k ⟨q.1, q.2.1, q.2.2.1⟩
      · rw [u3, jm_une_i (by decide), u2]; exact jm_ueq
      · rw [u3]; exact jm_ueq
    · refine wp_T ⟨by omega, by omega⟩ ?_
      refine wp_si iM (jm_inL (by decide) (by decide)) (fun M5 u5 i5 => ?_)
      refine wp_T ⟨by omega, by omega⟩ ?_
      refine wp_si i5 (jm_inL (by decide) (by decide)) (fun M7 u7 i7 => ?_)
      refine wp_T ⟨by omega, by omega⟩ ?_
      refine wp_T (by omega) ?_
      refine wp_si i7 (jm_inL (by decide) (by decide)) (fun M9 u9 i9 => ?_)
      refine wp_e (jm_w_in _) (fun v e _ => ?_)
      rw [e, w1]
      refine ih M9 (l3 + 1) i9 (fun f i k q => ?_) (by omega) (by omega) (by omega)
      rw [u9, jm_une_f q.2.2, u7, jm_une_f q.2.1, u5, jm_une_f q.1]
      exact kM f i k q
def TKa (f : Nat) (i k : Int) : Prop := f = 17 ∨ f = 18 ∨ (f = 0 ∧ i = 0 ∧ k = 7)
theorem s_fX11_track (fu : Nat) (hfu : 4000 ≤ fu) (M : jm_M) (iM : bI bx1 M) (l1 l2 : Int) (hl1 : jm_in l1) (hl2 : jm_in l2) : wp (fX11_track fu M l1 l2) (fun r M1 => bI bx1 M1 ∧ (((2 ≤ l1 ∧ l1 ≤ 5 ∧ 1 ≤ l2 ∧ l2 ≤ 12) ∧ r = 1 ∧ M1 1 0 0 = l1 ∧ M1 1 0 1 = l2 ∧ M1 2 0 5 = 0 ∧ M1 10 30 3 = 0 ∧ M1 10 31 3 = 0 ∧ M1 10 32 3 = 0 ∧ Kp TKa M M1) ∨ (¬ (2 ≤ l1 ∧ l1 ≤ 5 ∧ 1 ≤ l2 ∧ l2 ≤ 12) ∧ r = 0 ∧ M1 = M))) := by
  unfold fX11_track
  refine wp_ite (fun c => wp_ret ⟨iM, Or.inr ⟨by omega, rfl, rfl⟩⟩) (fun c1 => ?_)
  refine wp_ite (fun c => wp_ret ⟨iM, Or.inr ⟨by omega, rfl, rfl⟩⟩) (fun c2 => ?_)
  refine wp_ite (fun c => wp_ret ⟨iM, Or.inr ⟨by omega, rfl, rfl⟩⟩) (fun c3 => ?_)
  refine wp_ite (fun c4 => ?_) (fun c => wp_ret ⟨iM, Or.inr ⟨by omega, rfl, rfl⟩⟩)
  have lay : wp (fX9_layAnew fu M l1 l2) (fun r M1 => bI bx1 M1 ∧ Kp TKa M M1 ∧ M1 1 0 0 = l1 ∧ M1 1 0 1 = l2 ∧ M1 10 30 3 = 0 ∧ M1 10 31 3 = 0) := by
    unfold fX9_layAnew
    refine wp_si iM (show 2 ≤ l1 ∧ l1 ≤ 5 by omega) (fun M1 u1 i1 => ?_)
    refine wp_si i1 (show 1 ≤ l2 ∧ l2 ≤ 12 by omega) (fun M2 u2 i2 => ?_)
    refine wp_mono (s_layAnew_12 fu M2 fu M2 0 i2 Kp.rf (by omega) (by omega) (by omega)) (fun r M3 h => ?_)
    obtain ⟨i3, k3, e1, e2⟩ := h
    refine ⟨i3, fun f i k q => ?_, ?_, ?_, e1, e2⟩
    · rw [k3 f i k (by unfold TKa at q; omega), u2, jm_une_f (by unfold TKa at q; omega), u1, jm_une_f (by unfold TKa at q; omega)]
    · rw [k3 1 0 0 (by omega), u2, jm_une_k (by decide), u1]; exact jm_ueq
    · rw [k3 1 0 1 (by omega), u2]; exact jm_ueq
  refine wp_b lay (fun v5 M6 h => ?_)
  obtain ⟨i6, k6, e1, e2, e30, e31⟩ := h
  have b32 := lim1_any 32
  refine wp_si i6 (show (0 : Int) ≤ 0 ∧ (0 : Int) ≤ 6 by omega) (fun M7 u7 i7 => ?_)
  refine wp_si i7 (bx1_in (show bx1 13 0 0 0 from jm_inL (by decide) (by decide))) (fun M8 u8 i8 => ?_)
  refine wp_si i8 (show (0 : Int) ≤ 0 ∧ (0 : Int) ≤ 10 by omega) (fun M9 u9 i9 => ?_)
  refine wp_si i9 (show 0 ≤ 0 ∧ 0 ≤ lim1 32 by omega) (fun M10 u10 i10 => ?_)
  refine wp_ret ⟨i10, Or.inl ⟨by omega, rfl, ?_, ?_, ?_, ?_, ?_, ?_, fun f i k q => ?_⟩⟩
  · rw [u10, jm_une_f (by decide), u9, jm_une_f (by decide), u8, jm_une_f (by decide), u7, jm_une_f (by decide)]; exact e1
  · rw [u10, jm_une_f (by decide), u9, jm_une_f (by decide), u8, jm_une_f (by decide), u7, jm_une_f (by decide)]; exact e2
  · rw [u10, jm_une_f (by decide), u9, jm_une_f (by decide), u8, jm_une_k (by decide), u7]; exact jm_ueq
  · rw [u10, jm_une_i (by decide), u9, jm_une_f (by decide), u8, jm_une_f (by decide), u7, jm_une_f (by decide)]; exact e30
  · rw [u10, jm_une_i (by decide), u9, jm_une_f (by decide), u8, jm_une_f (by decide), u7, jm_une_f (by decide)]; exact e31
  · rw [u10]; exact jm_ueq
  · rw [u10, jm_une_f (by unfold TKa at q; omega), u9, jm_une_f (by unfold TKa at q; omega), u8, jm_une_f (by unfold TKa at q; omega), u7, jm_une_f (by unfold TKa at q; omega)]
    exact k6 f i k q
/-! the class's car -/
def TCa (c : Int) (f : Nat) (i k : Int) : Prop := RC1 f i k ∧ f ≠ 2 ∧ f ≠ 8 ∧ ¬ (f = 10 ∧ (i = c ∨ i = c + 6 ∨ i = c + 12 ∨ i = c + 18))
theorem s_fX1_forget (M : jm_M) (iM : bI bx1 M) (r0 : Int) (hr : 0 ≤ r0 ∧ r0 ≤ 5) : wp (fX1_forget M r0) (fun r M1 => bI bx1 M1 ∧ M1 10 r0 3 = 0 ∧ M1 10 (r0 + 6) 3 = 0 ∧ M1 10 (r0 + 12) 3 = 0 ∧ M1 10 (r0 + 18) 3 = 0 ∧ M1 2 0 5 = M 2 0 5 ∧ Kp (TCa r0) M M1) := by
  unfold fX1_forget
  have b0 := lim1_any r0
  have b6 := lim1_any (r0 + 6)
  have b12 := lim1_any (r0 + 12)
  have b18 := lim1_any (r0 + 18)
  refine wp_si iM (show 0 ≤ 0 ∧ 0 ≤ lim1 r0 by omega) (fun M1 u1 i1 => ?_)
  refine wp_si i1 (show 0 ≤ 0 ∧ 0 ≤ lim1 (r0 + 6) by omega) (fun M2 u2 i2 => ?_)
  refine wp_si i2 (show 0 ≤ 0 ∧ 0 ≤ lim1 (r0 + 12) by omega) (fun M3 u3 i3 => ?_)
  refine wp_si i3 (show 0 ≤ 0 ∧ 0 ≤ lim1 (r0 + 18) by omega) (fun M4 u4 i4 => ?_)
  refine wp_si i4 (bx1_in (show bx1 13 0 0 0 from jm_inL (by decide) (by decide))) (fun M5 u5 i5 => ?_)
  refine wp_si i5 (bx1_in (show bx1 13 0 0 0 from jm_inL (by decide) (by decide))) (fun M6 u6 i6 => ?_)
  refine wp_ret ⟨i6, ?_, ?_, ?_, ?_, ?_, fun f i k q => ?_⟩
  · rw [u6, jm_une_f (by decide), u5, jm_une_f (by decide), u4, jm_une_i (by omega), u3, jm_une_i (by omega), u2, jm_une_i (by omega), u1]; exact jm_ueq
  · rw [u6, jm_une_f (by decide), u5, jm_une_f (by decide), u4, jm_une_i (by omega), u3, jm_une_i (by omega), u2]; exact jm_ueq
  · rw [u6, jm_une_f (by decide), u5, jm_une_f (by decide), u4, jm_une_i (by omega), u3]; exact jm_ueq
  · rw [u6, jm_une_f (by decide), u5, jm_une_f (by decide), u4]; exact jm_ueq
  · rw [u6, jm_une_f (by decide), u5, jm_une_f (by decide), u4, jm_une_f (by decide), u3, jm_une_f (by decide), u2, jm_une_f (by decide), u1]; exact jm_une_f (by decide)
  · have q8 : f ≠ 8 := by unfold TCa RC1 at q; omega
    have q10 : ∀ x : Int, (x = r0 ∨ x = r0 + 6 ∨ x = r0 + 12 ∨ x = r0 + 18) → ¬ (f = 10 ∧ i = x ∧ k = 3) := by
      intro x hx
      unfold TCa at q
      omega
    rw [u6, jm_une_f q8, u5, jm_une_f q8, u4, jm_une (q10 _ (by omega)), u3, jm_une (q10 _ (by omega)), u2, jm_une (q10 _ (by omega)), u1]
    exact jm_une (q10 _ (by omega))
def CC (l1 l2 l3 l4 l5 l6 : Int) : Prop := -2000 ≤ l1 ∧ l1 ≤ 2000 ∧ 1 ≤ l2 ∧ l2 ≤ 200 ∧ 1 ≤ l3 ∧ l3 ≤ 9 ∧ 0 ≤ l4 ∧ l4 ≤ 3 ∧ 0 ≤ l5 ∧ l5 ≤ 1 ∧ 0 ≤ l6 ∧ l6 ≤ l2
theorem s_fX11_car (M : jm_M) (iM : bI bx1 M) (l1 l2 l3 l4 l5 l6 : Int) (h1 : jm_in l1) (h2 : jm_in l2) (h3 : jm_in l3) (h4 : jm_in l4) (h5 : jm_in l5) (h6 : jm_in l6) : wp (fX11_car M l1 l2 l3 l4 l5 l6) (fun r M1 => bI bx1 M1 ∧ ((¬ (CC l1 l2 l3 l4 l5 l6 ∧ M 2 0 5 < 6) ∧ r = -1 ∧ M1 = M) ∨ ((CC l1 l2 l3 l4 l5 l6 ∧ M 2 0 5 < 6) ∧ r = M 2 0 5 ∧ M1 2 0 5 = M 2 0 5 + 1 ∧ M1 10 (M 2 0 5) 3 = 0 ∧ M1 10 (M 2 0 5 + 6) 3 = 0 ∧ M1 10 (M 2 0 5 + 12) 3 = 0 ∧ M1 10 (M 2 0 5 + 18) 3 = 0 ∧ Kp (TCa (M 2 0 5)) M M1))) := by
  unfold fX11_car CC
  have z : ∀ x : Int, -2147483648 ≤ x → x ≤ 2147483647 → jm_in x := fun x a b => jm_inL a b
  have b5 : 0 ≤ M 2 0 5 ∧ M 2 0 5 ≤ 6 := iM 2 0 5
  refine wp_bp (s_fX11_isWithin M iM l1 (-2000) 2000 h1 (jm_inL (by decide) (by decide)) (jm_inL (by decide) (by decide))) (fun v1 q1 => ?_)
  refine wp_ite (fun c => wp_ret ⟨iM, Or.inl ⟨by omega, rfl, rfl⟩⟩) (fun c1 => ?_)
  refine wp_bp (s_fX11_isWithin M iM l2 1 200 h2 (jm_inL (by decide) (by decide)) (jm_inL (by decide) (by decide))) (fun v2 q2 => ?_)
  refine wp_ite (fun c => wp_ret ⟨iM, Or.inl ⟨by omega, rfl, rfl⟩⟩) (fun c2 => ?_)
  refine wp_bp (s_fX11_isWithin M iM l3 1 9 h3 (jm_inL (by decide) (by decide)) (jm_inL (by decide) (by decide))) (fun v3 q3 => ?_)
  refine wp_ite (fun c => wp_ret ⟨iM, Or.inl ⟨by omega, rfl, rfl⟩⟩) (fun c3 => ?_)
  refine wp_bp (x_isIndex M l4 4) (fun v4 q4 => ?_)
  refine wp_ite (fun c => wp_ret ⟨iM, Or.inl ⟨by omega, rfl, rfl⟩⟩) (fun c4 => ?_)
  refine wp_bp (x_isIndex M l5 2) (fun v5 q5 => ?_)
  refine wp_ite (fun c => wp_ret ⟨iM, Or.inl ⟨by omega, rfl, rfl⟩⟩) (fun c5 => ?_)
  refine wp_bp (s_fX11_isWithin M iM l6 0 l2 h6 (jm_inL (by decide) (by decide)) h2) (fun v6 q6 => ?_)
  refine wp_ite (fun c => wp_ret ⟨iM, Or.inl ⟨by omega, rfl, rfl⟩⟩) (fun c6 => ?_)
  refine wp_bp (x_isIndex M (M 2 0 5) 6) (fun v7 q7 => ?_)
  refine wp_ite (fun c => wp_ret ⟨iM, Or.inl ⟨by omega, rfl, rfl⟩⟩) (fun c7 => ?_)
  refine wp_T ⟨by omega, by omega⟩ ?_
  refine wp_b (s_fX1_forget M iM (M 2 0 5) ⟨by omega, by omega⟩) (fun v32 M33 h => ?_)
  obtain ⟨i33, e0, e6, e12, e18, e5, k33⟩ := h
  refine wp_si i33 (bx1_in (show bx1 13 0 0 l1 from h1)) (fun M34 u34 i34 => ?_)
  refine wp_si i34 (bx1_in (show bx1 13 0 0 l2 from h2)) (fun M35 u35 i35 => ?_)
  refine wp_si i35 (bx1_in (show bx1 13 0 0 l3 from h3)) (fun M36 u36 i36 => ?_)
  refine wp_si i36 (bx1_in (show bx1 13 0 0 l4 from h4)) (fun M37 u37 i37 => ?_)
  refine wp_si i37 (bx1_in (show bx1 13 0 0 l5 from h5)) (fun M38 u38 i38 => ?_)
  refine wp_si i38 (bx1_in (show bx1 13 0 0 l6 from h6)) (fun M39 u39 i39 => ?_)
  have ne : ∀ (f : Nat) (i k : Int), f ≠ 8 → M39 f i k = M33 f i k := fun f i k q => by
    rw [u39, jm_une_f q, u38, jm_une_f q, u37, jm_une_f q, u36, jm_une_f q, u35, jm_une_f q, u34, jm_une_f q]
  have e39 : M39 2 0 5 = M 2 0 5 := (ne 2 0 5 (by decide)).trans e5
  rw [e39]
  have w1 : jm_w (M 2 0 5 + 1) = M 2 0 5 + 1 := jm_wid (by omega) (by omega)
  rw [w1]
  refine wp_si i39 (show 0 ≤ M 2 0 5 + 1 ∧ M 2 0 5 + 1 ≤ 6 by omega) (fun M41 u41 i41 => ?_)
  refine wp_si i41 (bx1_in (show bx1 13 0 0 0 from jm_inL (by decide) (by decide))) (fun M42 u42 i42 => ?_)
  have e42 : M42 2 0 5 = M 2 0 5 + 1 := by rw [u42, jm_une_k (by decide), u41]; exact jm_ueq
  have ne2 : ∀ (f : Nat) (i k : Int), f ≠ 8 → f ≠ 2 → M42 f i k = M33 f i k := fun f i k q q2 => by
    rw [u42, jm_une_f q2, u41, jm_une_f q2]
    exact ne f i k q
  rw [e42]
  have w2 : jm_w (M 2 0 5 + 1 - 1) = M 2 0 5 := by rw [jm_wid (by omega) (by omega)]; omega
  rw [w2]
  exact wp_ret ⟨i42, Or.inr ⟨by omega, rfl, e42, (ne2 _ _ _ (by decide) (by decide)).trans e0, (ne2 _ _ _ (by decide) (by decide)).trans e6, (ne2 _ _ _ (by decide) (by decide)).trans e12, (ne2 _ _ _ (by decide) (by decide)).trans e18, fun f i k q => (ne2 f i k (by unfold TCa RC1 at q; omega) q.2.1).trans (k33 f i k q)⟩⟩
