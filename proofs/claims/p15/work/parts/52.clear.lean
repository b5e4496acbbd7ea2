/-! clear -/
def sg (g : Int → Int) : Nat → Int
  | 0 => 0
  | n + 1 => sg g n + g (n : Int)
theorem sg_step (g : Int → Int) {x : Int} (h : 0 ≤ x) : sg g (x + 1).toNat = sg g x.toNat + g x := by
  rw [show (x + 1).toNat = x.toNat + 1 by omega]
  show sg g x.toNat + g ((x.toNat : Nat) : Int) = _
  rw [show ((x.toNat : Nat) : Int) = x by omega]
theorem s_count_4 (fu : Nat) (M : jm_M) (iM : bI bx1 M) : ∀ (n : Nat) (l1 l2 : Int), 0 ≤ l2 → l2 ≤ M 2 0 5 → l1 = sg (fun c => M 10 (c + 18) 3) l2.toNat → 0 ≤ l1 → l1 ≤ 4 * l2 → M 2 0 5 - l2 < (n : Int) → wp (fX2_optionCount_4 fu n M l1 l2) (fun r M1 => M1 = M ∧ r = sg (fun c => M 10 (c + 18) 3) (M 2 0 5).toNat) := by
  intro n
  induction n with
  | zero => intro l1 l2 _ h1 _ _ _ hm; exfalso; omega
  | succ n ih =>
    intro l1 l2 h0 h1 he h2 h3 hm
    show wp (gX2_optionCount_4 fu (fX2_optionCount_4 fu n) M l1 l2) _
    unfold gX2_optionCount_4
    have b5 : 0 ≤ M 2 0 5 ∧ M 2 0 5 ≤ 6 := iM 2 0 5
    refine wp_ite (fun c => wp_ret ⟨rfl, by rw [he, show M 2 0 5 = l2 by omega]⟩) (fun c => ?_)
    refine wp_F (by omega) ?_
    refine wp_T ⟨by omega, by omega⟩ ?_
    have b : 0 ≤ M 10 (l2 + 18) 3 ∧ M 10 (l2 + 18) 3 ≤ 4 := jm_b10 (iM 10 (l2 + 18) 3) (Int.le_of_eq (lim1_18 (by omega) (by omega)))
    refine wp_e (jm_w_in _) (fun v6 e6 _ => ?_)
    refine wp_e (jm_w_in _) (fun v8 e8 _ => ?_)
    rw [jm_wid (by omega) (by omega)] at e6 e8
    rw [e8]
    refine ih v6 (l2 + 1) (by omega) (by omega) ?_ (by omega) (by omega) (by omega)
    rw [e6, he, sg_step _ h0]
theorem s_clear_10 (fu : Nat) (M0 : jm_M) (l1 : Int) : ∀ (n : Nat) (M : jm_M) (l2 : Int), bI bx1 M → Kp (fun f i _ => ¬ (f = 10 ∧ 18 ≤ i ∧ i < 24)) M0 M → (∀ c : Int, 0 ≤ c → c < l2 → M 10 (c + 18) 3 = 0) → 0 ≤ l2 → l2 ≤ M0 2 0 5 → M0 2 0 5 - l2 < (n : Int) → wp (fX11_clear_10 fu n M l1 l2) (fun r M1 => r = l1 ∧ bI bx1 M1 ∧ Kp (fun f i _ => ¬ (f = 10 ∧ 18 ≤ i ∧ i < 24)) M0 M1 ∧ (∀ c : Int, 0 ≤ c → c < M0 2 0 5 → M1 10 (c + 18) 3 = 0)) := by
  intro n
  induction n with
  | zero => intro M l2 _ _ _ _ h1 hm; exfalso; omega
  | succ n ih =>
    intro M l2 iM kM hc h0 h1 hm
    show wp (gX11_clear_10 fu (fX11_clear_10 fu n) M l1 l2) _
    unfold gX11_clear_10
    have e5 : M 2 0 5 = M0 2 0 5 := kM 2 0 5 (by omega)
    have b5 : 0 ≤ M 2 0 5 ∧ M 2 0 5 ≤ 6 := iM 2 0 5
    refine wp_ite (fun c => wp_ret ⟨rfl, iM, kM, fun x y1 y2 => hc x y1 (by omega)⟩) (fun c => ?_)
    refine wp_F (by omega) ?_
    refine wp_T ⟨by omega, by omega⟩ ?_
    have bl := lim1_any (l2 + 18)
    refine wp_si iM (show 0 ≤ 0 ∧ 0 ≤ lim1 (l2 + 18) by omega) (fun M5 u5 i5 => ?_)
    refine wp_e (jm_w_in _) (fun v6 e6 _ => ?_)
    rw [e6, jm_wid (by omega) (by omega)]
    refine ih M5 (l2 + 1) i5 (fun f i k q => ?_) (fun x y1 y2 => ?_) (by omega) (by omega) (by omega)
    · rw [u5, jm_une (fun y => q ⟨y.1, by omega, by omega⟩)]
      exact kM f i k q
    · by_cases q : x = l2
      · rw [u5, q]; exact jm_ueq
      · rw [u5, jm_une_i (by omega)]; exact hc x y1 (by omega)
theorem s_fX11_clear (fu : Nat) (hfu : 4000 ≤ fu) (M : jm_M) (iM : bI bx1 M) : wp (fX11_clear fu M) (fun r M1 => r = sg (fun c => M 10 (c + 18) 3) (M 2 0 5).toNat ∧ bI bx1 M1 ∧ Kp (fun f i _ => ¬ (f = 10 ∧ 18 ≤ i ∧ i < 24)) M M1 ∧ (∀ c : Int, 0 ≤ c → c < M 2 0 5 → M1 10 (c + 18) 3 = 0)) := by
  have b5 : 0 ≤ M 2 0 5 ∧ M 2 0 5 ≤ 6 := iM 2 0 5
  unfold fX11_clear
  refine wp_bp (M := M) (P := fun r => r = sg (fun c => M 10 (c + 18) 3) (M 2 0 5).toNat) ?_ (fun v1 h1 => ?_)
  · unfold fX2_optionCount
    exact s_count_4 fu M iM fu 0 0 (by omega) (by omega) rfl (by omega) (by omega) (by omega)
  · rw [← h1]
    exact s_clear_10 fu M v1 fu M 0 iM Kp.rf (fun c y1 y2 => by exfalso; omega) (by omega) (by omega) (by omega)
/-! the reference's -/
theorem s_clear_9 (fu : Nat) (M0 : jm_M) (i0 : bI bx2 M0) : ∀ (n : Nat) (M : jm_M) (l1 l2 x : Int), bI bx2 M → Kp (fun f _ _ => f ≠ 31) M0 M → (∀ c : Int, l2 ≤ c → M 31 0 c = M0 31 0 c) → (∀ c : Int, 0 ≤ c → c < l2 → M 31 0 c = 0) → 0 ≤ l2 → l2 ≤ 6 → 0 ≤ x → x ≤ l2 → x ≤ M0 0 0 17 → (x = l2 ∨ x = M0 0 0 17) → l1 = sg (fun c => M0 31 0 c) x.toNat → 0 ≤ l1 → l1 ≤ 4 * l2 → 6 - l2 < (n : Int) → wp (fX12_clear_9 fu n M l1 l2) (fun r M1 => r = sg (fun c => M0 31 0 c) (M0 0 0 17).toNat ∧ bI bx2 M1 ∧ Kp (fun f _ _ => f ≠ 31) M0 M1 ∧ (∀ c : Int, 0 ≤ c → c < 6 → M1 31 0 c = 0)) := by
  intro n
  induction n with
  | zero => intro M l1 l2 x _ _ _ _ _ h1 _ _ _ _ _ _ _ hm; exfalso; omega
  | succ n ih =>
    intro M l1 l2 x iM kM ho hc h0 h1 hx0 hx1 hx2 hx3 he h2 h3 hm
    show wp (gX12_clear_9 fu (fX12_clear_9 fu n) M l1 l2) _
    unfold gX12_clear_9
    have e17 : M 0 0 17 = M0 0 0 17 := kM 0 0 17 (by decide)
    have b17 : 0 ≤ M0 0 0 17 ∧ M0 0 0 17 ≤ 6 := i0 0 0 17
    refine wp_ite (fun c => wp_ret ⟨by rw [he, show M0 0 0 17 = x by omega], iM, kM, fun y y1 y2 => hc y y1 (by omega)⟩) (fun c => ?_)
    have b31 : 0 ≤ M 31 0 l2 ∧ M 31 0 l2 ≤ 4 := iM 31 0 l2
    have z34 : ∀ (s0 x' : Int), 0 ≤ s0 ∧ s0 ≤ 4 → 0 ≤ x' → x' ≤ l2 + 1 → x' ≤ M0 0 0 17 → (x' = l2 + 1 ∨ x' = M0 0 0 17) → l1 + s0 = sg (fun c => M0 31 0 c) x'.toNat → wp (gX12_clear_34 fu (fX12_clear_9 fu n) M l2 s0 l1) (fun r M1 => r = sg (fun c => M0 31 0 c) (M0 0 0 17).toNat ∧ bI bx2 M1 ∧ Kp (fun f _ _ => f ≠ 31) M0 M1 ∧ (∀ c : Int, 0 ≤ c → c < 6 → M1 31 0 c = 0)) := by
      intro s0 x' hs a1 a2 a3 a4 a5
      unfold gX12_clear_34
      refine wp_e (jm_w_in _) (fun v1 e1 _ => ?_)
      rw [jm_wid (by omega) (by omega)] at e1
      refine wp_T ⟨by omega, by omega⟩ ?_
      refine wp_si iM (show (0 : Int) ≤ 0 ∧ (0 : Int) ≤ 4 by omega) (fun M4 u4 i4 => ?_)
      refine wp_e (jm_w_in _) (fun v5 e5 _ => ?_)
      rw [e5, jm_wid (by omega) (by omega)]
      refine ih M4 v1 (l2 + 1) x' i4 (fun f i k q => ?_) (fun y y1 => ?_) (fun y y1 y2 => ?_) (by omega) (by omega) a1 a2 a3 a4 (by rw [e1]; exact a5) (by omega) (by omega) (by omega)
      · rw [u4, jm_une_f q]
        exact kM f i k q
      · rw [u4, jm_une_k (by omega)]
        exact ho y (by omega)
      · by_cases q : y = l2
        · rw [u4, q]; exact jm_ueq
        · rw [u4, jm_une_k q]; exact hc y y1 (by omega)
    refine wp_ite (fun c2 => ?_) (fun c2 => ?_)
    · exact z34 0 x (by omega) hx0 (by omega) hx2 (by omega) (by omega)
    · refine wp_T ⟨by omega, by omega⟩ ?_
      have ex : x = l2 := by omega
      refine z34 (M 31 0 l2) (l2 + 1) b31 (by omega) (by omega) (by omega) (Or.inl rfl) ?_
      rw [sg_step _ h0, he, ex, ho l2 (Int.le_refl _)]
theorem s_fX12_clear (fu : Nat) (hfu : 4000 ≤ fu) (M : jm_M) (iM : bI bx2 M) : wp (fX12_clear fu M) (fun r M1 => r = sg (fun c => M 31 0 c) (M 0 0 17).toNat ∧ bI bx2 M1 ∧ Kp (fun f _ k => f ≠ 31 ∧ (f = 0 → k ≠ 0)) M M1 ∧ (∀ c : Int, 0 ≤ c → c < 6 → M1 31 0 c = 0)) := by
  unfold fX12_clear
  refine wp_si iM (bx2_in (show bx2 39 0 0 0 from jm_inL (by decide) (by decide))) (fun Ma ua ia => ?_)
  have b17 : 0 ≤ M 0 0 17 ∧ M 0 0 17 ≤ 6 := iM 0 0 17
  have e17 : Ma 0 0 17 = M 0 0 17 := by rw [ua]; exact jm_une_k (by decide)
  have e31 : (fun c : Int => Ma 31 0 c) = fun c : Int => M 31 0 c := funext fun c => by rw [ua]; exact jm_une_f (by decide)
  refine wp_mono (s_clear_9 fu Ma ia fu Ma 0 0 0 ia Kp.rf (fun _ _ => rfl) (fun c y1 y2 => by exfalso; omega) (by omega) (by omega) (by omega) (by omega) (by omega) (Or.inl rfl) rfl (by omega) (by omega) (by omega)) (fun r M1 h => ?_)
  obtain ⟨h1, h2, h3, h4⟩ := h
  rw [e31, e17] at h1
  exact ⟨h1, h2, fun f i k q => by rw [h3 f i k q.1, ua]; exact jm_une (fun y => q.2 y.1 y.2.2), h4⟩
