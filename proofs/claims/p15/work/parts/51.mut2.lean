/-! the reference's track -/
theorem s_lays_75 (fu : Nat) (M0 : jm_M) : ∀ (n : Nat) (M : jm_M) (l3 : Int), bI bx2 M → Kp (fun f _ _ => f ≠ 31) M0 M → (∀ c : Int, 0 ≤ c → c < l3 → M 31 0 c = 0) → 0 ≤ l3 → l3 ≤ 6 → 6 - l3 < (n : Int) → wp (fX12_lays_75 fu n M l3) (fun r M1 => bI bx2 M1 ∧ Kp (fun f _ _ => f ≠ 31) M0 M1 ∧ (∀ c : Int, 0 ≤ c → c < 6 → M1 31 0 c = 0)) := by
  intro n
  induction n with
  | zero => intro M l3 _ _ _ _ h1 hm; exfalso; omega
  | succ n ih =>
    intro M l3 iM kM hc h0 h1 hm
    show wp (gX12_lays_75 fu (fX12_lays_75 fu n) M l3) _
    unfold gX12_lays_75
    have w1 : jm_w (l3 + 1) = l3 + 1 := jm_wid (by omega) (by omega)
    refine wp_ite (fun c => wp_ret ⟨iM, kM, fun x y1 y2 => hc x y1 (by omega)⟩) (fun c => ?_)
    refine wp_T ⟨by omega, by omega⟩ ?_
    refine wp_si iM (show (0 : Int) ≤ 0 ∧ (0 : Int) ≤ 4 by omega) (fun M3 u3 i3 => ?_)
    refine wp_e (jm_w_in _) (fun v e _ => ?_)
    rw [e, w1]
    refine ih M3 (l3 + 1) i3 (fun f i k q => ?_) (fun x y1 y2 => ?_) (by omega) (by omega) (by omega)
    · rw [u3, jm_une_f q]
      exact kM f i k q
    · by_cases q : x = l3
      · rw [u3, q]; exact jm_ueq
      · rw [u3, jm_une_k q]; exact hc x y1 (by omega)
def TL12 (f : Nat) (i k : Int) : Prop := f ≠ 1 ∧ f ≠ 2 ∧ f ≠ 3 ∧ f ≠ 31 ∧ (f = 0 → k ≠ 8 ∧ k ≠ 12 ∧ k ≠ 17 ∧ k ≠ 72 ∧ k ≠ 75)
theorem s_lays_12 (fu : Nat) (hfu : 4000 ≤ fu) (M0 : jm_M) : ∀ (n : Nat) (M : jm_M) (l3 : Int), bI bx2 M → Kp (fun f _ _ => f ≠ 1 ∧ f ≠ 2 ∧ f ≠ 3) M0 M → 0 ≤ l3 → l3 ≤ 5 → 5 - l3 < (n : Int) → wp (fX12_lays_12 fu n M l3) (fun r M1 => bI bx2 M1 ∧ Kp TL12 M0 M1 ∧ (∀ c : Int, 0 ≤ c → c < 6 → M1 31 0 c = 0) ∧ M1 0 0 8 = 0 ∧ M1 0 0 12 = 0 ∧ M1 0 0 17 = 0 ∧ M1 0 0 72 = 0 ∧ M1 0 0 75 = 0) := by
  intro n
  induction n with
  | zero => intro M l3 _ _ _ h1 hm; exfalso; omega
  | succ n ih =>
    intro M l3 iM kM h0 h1 hm
    show wp (gX12_lays_12 fu (fX12_lays_12 fu n) M l3) _
    unfold gX12_lays_12
    have w1 : jm_w (l3 + 1) = l3 + 1 := jm_wid (by omega) (by omega)
    refine wp_ite (fun c => ?_) (fun c => ?_)
    · refine wp_si iM (show (0 : Int) ≤ 0 ∧ (0 : Int) ≤ 30 by omega) (fun M2 u2 i2 => ?_)
      refine wp_si i2 (show (0 : Int) ≤ 0 ∧ (0 : Int) ≤ 20 by omega) (fun M3 u3 i3 => ?_)
      refine wp_si i3 (show (0 : Int) ≤ 0 ∧ (0 : Int) ≤ 6 by omega) (fun M4 u4 i4 => ?_)
      refine wp_si i4 (show (0 : Int) ≤ 0 ∧ (0 : Int) ≤ 10 by omega) (fun M5 u5 i5 => ?_)
      refine wp_si i5 (show (0 : Int) ≤ 0 ∧ (0 : Int) ≤ 20 by omega) (fun M6 u6 i6 => ?_)
      refine wp_mono (s_lays_75 fu M6 fu M6 0 i6 Kp.rf (fun c y1 y2 => by exfalso; omega) (by omega) (by omega) (by omega)) (fun r M1 h => ?_)
      obtain ⟨i1, k1, c1⟩ := h
      have z0 : ∀ k : Int, M1 0 0 k = M6 0 0 k := fun k => k1 0 0 k (show (0 : Nat) ≠ 31 by decide)
      refine ⟨i1, fun f i k q => ?_, c1, ?_, ?_, ?_, ?_, ?_⟩
      · unfold TL12 at q
        rw [k1 f i k q.2.2.2.1, u6, jm_une (by omega), u5, jm_une (by omega), u4, jm_une (by omega), u3, jm_une (by omega), u2, jm_une (by omega)]
        exact kM f i k ⟨q.1, q.2.1, q.2.2.1⟩
      · rw [z0, u6, jm_une_k (by decide), u5, jm_une_k (by decide), u4, jm_une_k (by decide), u3, jm_une_k (by decide), u2]; exact jm_ueq
      · rw [z0, u6, jm_une_k (by decide), u5, jm_une_k (by decide), u4, jm_une_k (by decide), u3]; exact jm_ueq
      · rw [z0, u6, jm_une_k (by decide), u5, jm_une_k (by decide), u4]; exact jm_ueq
      · rw [z0, u6, jm_une_k (by decide), u5]; exact jm_ueq
      · rw [z0, u6]; exact jm_ueq
    · refine wp_T ⟨by omega, by omega⟩ ?_
      refine wp_si iM (jm_inL (by decide) (by decide)) (fun M8 u8 i8 => ?_)
      refine wp_T ⟨by omega, by omega⟩ ?_
      refine wp_si i8 (jm_inL (by decide) (by decide)) (fun M10 u10 i10 => ?_)
      refine wp_T ⟨by omega, by omega⟩ ?_
      refine wp_T (by omega) ?_
      refine wp_si i10 (show (0 : Int) ≤ 0 ∧ (0 : Int) ≤ 1 by omega) (fun M12 u12 i12 => ?_)
      refine wp_e (jm_w_in _) (fun v e _ => ?_)
      rw [e, w1]
      refine ih M12 (l3 + 1) i12 (fun f i k q => ?_) (by omega) (by omega) (by omega)
      rw [u12, jm_une_f q.2.2, u10, jm_une_f q.2.1, u8, jm_une_f q.1]
      exact kM f i k q
def TKb (f : Nat) (i k : Int) : Prop := f = 4 ∨ f = 5 ∨ f = 30 ∨ f = 35 ∨ f = 36 ∨ f = 34 ∨ (f = 0 ∧ i = 0 ∧ k = 40)
theorem s_fX12_track (fu : Nat) (hfu : 4000 ≤ fu) (M : jm_M) (iM : bI bx2 M) (l1 l2 : Int) (hl1 : jm_in l1) (hl2 : jm_in l2) : wp (fX12_track fu M l1 l2) (fun r M1 => bI bx2 M1 ∧ (((2 ≤ l1 ∧ l1 ≤ 5 ∧ 1 ≤ l2 ∧ l2 ≤ 12) ∧ r = 1 ∧ M1 0 0 1 = l1 ∧ M1 0 0 2 = l2 ∧ M1 0 0 17 = 0 ∧ M1 0 0 8 = 0 ∧ M1 0 0 12 = 0 ∧ M1 0 0 75 = 0 ∧ M1 0 0 72 = 0 ∧ (∀ c : Int, 0 ≤ c → c < 6 → M1 31 0 c = 0) ∧ Kp TKb M M1) ∨ (¬ (2 ≤ l1 ∧ l1 ≤ 5 ∧ 1 ≤ l2 ∧ l2 ≤ 12) ∧ r = 0 ∧ Kp (fun f _ k => f = 0 → k ≠ 0) M M1))) := by
  have xin : ∀ (M : jm_M) (a b c : Int), wp (fX12_in M a b c) (fun r M1 => M1 = M ∧ ((r = 1 ∧ b ≤ a ∧ a ≤ c) ∨ (r = 0 ∧ ¬ (b ≤ a ∧ a ≤ c)))) := by
    intro M a b c
    unfold fX12_in
    first
    | exact wp_ite (fun c => wp_ite (fun c2 => wp_ret ⟨rfl, by omega⟩) (fun c2 => wp_ret ⟨rfl, by omega⟩)) (fun c => wp_ret ⟨rfl, by omega⟩)
    | exact wp_ite (fun c => wp_ret ⟨rfl, by omega⟩) (fun c => wp_ite (fun c2 => wp_ret ⟨rfl, by omega⟩) (fun c2 => wp_ret ⟨rfl, by omega⟩))
  unfold fX12_track
  refine wp_si iM (bx2_in (show bx2 39 0 0 0 from jm_inL (by decide) (by decide))) (fun M1 u1 i1 => ?_)
  have k1 : Kp (fun f _ k => f = 0 → k ≠ 0) M M1 := fun f i k q => by
    rw [u1]
    exact jm_une (fun y => q y.1 y.2.2)
  refine wp_bp (xin M1 l1 2 5) (fun v2 h2 => ?_)
  refine wp_ite (fun c => wp_ret ⟨i1, Or.inr ⟨by omega, rfl, k1⟩⟩) (fun c => ?_)
  refine wp_bp (xin M1 l2 1 12) (fun v6 h6 => ?_)
  refine wp_ite (fun c => wp_ret ⟨i1, Or.inr ⟨by omega, rfl, k1⟩⟩) (fun c2 => ?_)
  have lay : wp (fX12_lays fu M1 l1 l2) (fun r M2 => bI bx2 M2 ∧ M2 0 0 1 = l1 ∧ M2 0 0 2 = l2 ∧ M2 0 0 17 = 0 ∧ M2 0 0 8 = 0 ∧ M2 0 0 12 = 0 ∧ M2 0 0 75 = 0 ∧ M2 0 0 72 = 0 ∧ (∀ c : Int, 0 ≤ c → c < 6 → M2 31 0 c = 0) ∧ Kp TKb M1 M2) := by
    unfold fX12_lays
    refine wp_si i1 (show 2 ≤ l1 ∧ l1 ≤ 5 by omega) (fun Ma ua ia => ?_)
    refine wp_si ia (show 1 ≤ l2 ∧ l2 ≤ 12 by omega) (fun Mb ub ib => ?_)
    refine wp_mono (s_lays_12 fu hfu Mb fu Mb 0 ib Kp.rf (by omega) (by omega) (by omega)) (fun r M2 h => ?_)
    obtain ⟨i2, k2, c2, e8, e12, e17, e72, e75⟩ := h
    refine ⟨i2, ?_, ?_, e17, e8, e12, e75, e72, c2, fun f i k q => ?_⟩
    · rw [k2 0 0 1 (by unfold TL12; omega), ub, jm_une_k (by decide), ua]; exact jm_ueq
    · rw [k2 0 0 2 (by unfold TL12; omega), ub]; exact jm_ueq
    · unfold TKb at q
      rw [k2 f i k (by unfold TL12; omega), ub, jm_une (by omega), ua]
      exact jm_une (by omega)
  refine wp_b lay (fun v10 M11 h => ?_)
  obtain ⟨i2, a1, a2, a3, a4, a5, a6, a7, a8, a9⟩ := h
  exact wp_ret ⟨i2, Or.inl ⟨by omega, rfl, a1, a2, a3, a4, a5, a6, a7, a8, fun f i k q => (a9 f i k q).trans (k1 f i k (by unfold TKb at q; omega))⟩⟩
/-! the reference's car -/
theorem x_in (M : jm_M) (a b c : Int) : wp (fX12_in M a b c) (fun r M1 => M1 = M ∧ ((r = 1 ∧ b ≤ a ∧ a ≤ c) ∨ (r = 0 ∧ ¬ (b ≤ a ∧ a ≤ c)))) := by
  unfold fX12_in
  exact wp_ite (fun c => wp_ret ⟨rfl, by omega⟩) (fun c => wp_ite (fun c2 => wp_ret ⟨rfl, by omega⟩) (fun c2 => wp_ret ⟨rfl, by omega⟩))
def TCb (c : Int) (f : Nat) (i k : Int) : Prop := i = 0 ∧ ((f = 0 ∧ (k = 1 ∨ k = 2 ∨ k = 8 ∨ k = 12 ∨ k = 40 ∨ k = 72 ∨ k = 75)) ∨ f = 4 ∨ f = 5 ∨ f = 31 ∨ f = 35 ∨ f = 36 ∨ f = 34 ∨ ((f = 19 ∨ f = 22 ∨ f = 26 ∨ f = 30) ∧ k ≠ c))
theorem s_fX12_car (M : jm_M) (iM : bI bx2 M) (l1 l2 l3 l4 l5 l6 : Int) (h1 : jm_in l1) (h2 : jm_in l2) (h3 : jm_in l3) (h4 : jm_in l4) (h5 : jm_in l5) (h6 : jm_in l6) : wp (fX12_car M l1 l2 l3 l4 l5 l6) (fun r M1 => bI bx2 M1 ∧ ((¬ (CC l1 l2 l3 l4 l5 l6 ∧ M 0 0 17 < 6) ∧ r = -1 ∧ Kp (fun f _ k => f = 0 → k ≠ 0) M M1) ∨ ((CC l1 l2 l3 l4 l5 l6 ∧ M 0 0 17 < 6) ∧ r = M 0 0 17 ∧ M1 0 0 17 = M 0 0 17 + 1 ∧ M1 19 0 (M 0 0 17) = 0 ∧ M1 22 0 (M 0 0 17) = 0 ∧ M1 26 0 (M 0 0 17) = 0 ∧ M1 30 0 (M 0 0 17) = 0 ∧ Kp (TCb (M 0 0 17)) M M1))) := by
  unfold fX12_car CC
  refine wp_si iM (bx2_in (show bx2 39 0 0 0 from jm_inL (by decide) (by decide))) (fun Ma ua ia => ?_)
  have ka : Kp (fun f _ k => f = 0 → k ≠ 0) M Ma := fun f i k q => by
    rw [ua]
    exact jm_une (fun y => q y.1 y.2.2)
  have e17 : Ma 0 0 17 = M 0 0 17 := by rw [ua]; exact jm_une_k (by decide)
  have b17 : 0 ≤ M 0 0 17 ∧ M 0 0 17 ≤ 6 := iM 0 0 17
  refine wp_bp (x_in Ma l1 (-2000) 2000) (fun v1 q1 => ?_)
  refine wp_ite (fun c => wp_ret ⟨ia, Or.inl ⟨by omega, rfl, ka⟩⟩) (fun c1 => ?_)
  refine wp_bp (x_in Ma l2 1 200) (fun v2 q2 => ?_)
  refine wp_ite (fun c => wp_ret ⟨ia, Or.inl ⟨by omega, rfl, ka⟩⟩) (fun c2 => ?_)
  refine wp_bp (x_in Ma l3 1 9) (fun v3 q3 => ?_)
  refine wp_ite (fun c => wp_ret ⟨ia, Or.inl ⟨by omega, rfl, ka⟩⟩) (fun c3 => ?_)
  refine wp_bp (x_in Ma l4 0 3) (fun v4 q4 => ?_)
  refine wp_ite (fun c => wp_ret ⟨ia, Or.inl ⟨by omega, rfl, ka⟩⟩) (fun c4 => ?_)
  refine wp_bp (x_in Ma l5 0 1) (fun v5 q5 => ?_)
  refine wp_ite (fun c => wp_ret ⟨ia, Or.inl ⟨by omega, rfl, ka⟩⟩) (fun c5 => ?_)
  refine wp_bp (x_in Ma l6 0 l2) (fun v6 q6 => ?_)
  refine wp_ite (fun c => wp_ret ⟨ia, Or.inl ⟨by omega, rfl, ka⟩⟩) (fun c6 => ?_)
  refine wp_ite (fun c => wp_ret ⟨ia, Or.inl ⟨by omega, rfl, ka⟩⟩) (fun c7 => ?_)
  refine wp_e (bx2_in (ia 0 0 17)) (fun v29 e29 _ => ?_)
  have ev : v29 = M 0 0 17 := e29.trans e17
  rw [ev]
  refine wp_T ⟨by omega, by omega⟩ ?_
  refine wp_si ia (bx2_in (show bx2 13 0 0 l1 from h1)) (fun M32 u32 i32 => ?_)
  refine wp_T ⟨by omega, by omega⟩ ?_
  refine wp_si i32 (bx2_in (show bx2 14 0 0 l2 from h2)) (fun M34 u34 i34 => ?_)
  refine wp_T ⟨by omega, by omega⟩ ?_
  refine wp_si i34 (bx2_in (show bx2 15 0 0 l3 from h3)) (fun M36 u36 i36 => ?_)
  refine wp_T ⟨by omega, by omega⟩ ?_
  refine wp_si i36 (show 0 ≤ l4 ∧ l4 ≤ 3 by omega) (fun M38 u38 i38 => ?_)
  refine wp_T ⟨by omega, by omega⟩ ?_
  refine wp_si i38 (bx2_in (show bx2 17 0 0 l5 from h5)) (fun M40 u40 i40 => ?_)
  refine wp_T ⟨by omega, by omega⟩ ?_
  refine wp_si i40 (bx2_in (show bx2 18 0 0 l6 from h6)) (fun M42 u42 i42 => ?_)
  refine wp_T ⟨by omega, by omega⟩ ?_
  refine wp_si i42 (show (0 : Int) ≤ 0 ∧ (0 : Int) ≤ 4 by omega) (fun M44 u44 i44 => ?_)
  refine wp_T ⟨by omega, by omega⟩ ?_
  refine wp_si i44 (show (0 : Int) ≤ 0 ∧ (0 : Int) ≤ 12 by omega) (fun M46 u46 i46 => ?_)
  refine wp_T ⟨by omega, by omega⟩ ?_
  refine wp_si i46 (show (0 : Int) ≤ 0 ∧ (0 : Int) ≤ 5 by omega) (fun M48 u48 i48 => ?_)
  refine wp_T ⟨by omega, by omega⟩ ?_
  refine wp_T (by omega) ?_
  refine wp_si i48 (show (0 : Int) ≤ 0 ∧ (0 : Int) ≤ 1 by omega) (fun M50 u50 i50 => ?_)
  have e50 : M50 0 0 17 = M 0 0 17 := by rw [u50, jm_une_f (by decide), u48, jm_une_f (by decide), u46, jm_une_f (by decide), u44, jm_une_f (by decide), u42, jm_une_f (by decide), u40, jm_une_f (by decide), u38, jm_une_f (by decide), u36, jm_une_f (by decide), u34, jm_une_f (by decide), u32, jm_une_f (by decide)]; exact e17
  rw [e50, jm_wid (x := M 0 0 17 + 1) (by omega) (by omega)]
  refine wp_si i50 (show 0 ≤ M 0 0 17 + 1 ∧ M 0 0 17 + 1 ≤ 6 by omega) (fun M53 u53 i53 => ?_)
  refine wp_ret ⟨i53, Or.inr ⟨by omega, rfl, ?_, ?_, ?_, ?_, ?_, fun f i k q => ?_⟩⟩
  · rw [u53]; exact jm_ueq
  · rw [u53, jm_une_f (by decide), u50, jm_une_f (by decide), u48, jm_une_f (by decide), u46, jm_une_f (by decide), u44]; exact jm_ueq
  · rw [u53, jm_une_f (by decide), u50, jm_une_f (by decide), u48, jm_une_f (by decide), u46]; exact jm_ueq
  · rw [u53, jm_une_f (by decide), u50, jm_une_f (by decide), u48]; exact jm_ueq
  · rw [u53, jm_une_f (by decide), u50]; exact jm_ueq
  · unfold TCb at q
    rw [u53, jm_une (by omega), u50, jm_une (by omega), u48, jm_une (by omega), u46, jm_une (by omega), u44, jm_une (by omega), u42, jm_une (by omega), u40, jm_une (by omega), u38, jm_une (by omega), u36, jm_une (by omega), u34, jm_une (by omega), u32, jm_une (by omega)]
    exact ka f i k (by omega)
