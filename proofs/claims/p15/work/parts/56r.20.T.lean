/-! the start of a car: the reference -/
def NST (N0 N : jm_M) (c s : Int) : Prop := (N 39 0 c = s ∧ N 41 0 c = jm_w (N0 5 0 6 * c) ∧ N 42 0 c = 0 ∧ N 43 0 c = 0 ∧ N 44 0 c = N0 18 0 c ∧ N 45 0 c = (if N0 19 0 c = 0 then -1 else 0)) ∧ (N 47 0 c = 0 ∧ N 48 0 c = 0 ∧ N 49 0 c = 0 ∧ N 50 0 c = 0 ∧ N 51 0 c = 0 ∧ N 52 0 c = 0 ∧ N 53 0 c = 0 ∧ N 54 0 c = 0) ∧ NSL N0 N c
def K131 (c : Int) (f : Nat) (i k : Int) : Prop := ¬ ((f = 45 ∨ (47 ≤ f ∧ f ≤ 54)) ∧ i = 0 ∧ k = c) ∧ KSL c f i k
theorem d_st131 (fu : Nat) (hfu : 4000 ≤ fu) (n31 : jm_M → Int → jm_R) (Q : Int → jm_M → Prop) (N0 : jm_M) (i0 : bI bx2 N0) (c s : Int) (hc : 0 ≤ c ∧ c < 6) (hs : -1 ≤ s ∧ s ≤ 0) (kk : ∀ N1 : jm_M, bI bx2 N1 → Kp (K131 c) N0 N1 → N1 45 0 c = s → (N1 47 0 c = 0 ∧ N1 48 0 c = 0 ∧ N1 49 0 c = 0 ∧ N1 50 0 c = 0 ∧ N1 51 0 c = 0 ∧ N1 52 0 c = 0 ∧ N1 53 0 c = 0 ∧ N1 54 0 c = 0) → NSL N0 N1 c → wp (n31 N1 (c + 1)) Q) : wp (gX12_starts_131 fu n31 N0 c s c) Q := by
  have z0 : jm_in 0 := jm_inL (by decide) (by decide)
  unfold gX12_starts_131
  refine wp_T hc (wp_si i0 (show -1 ≤ s ∧ s ≤ 3 by omega) (fun N1 u1 i1 => wp_T hc (wp_si i1 z0 (fun N2 u2 i2 => wp_T hc (wp_si i2 z0 (fun N3 u3 i3 => wp_T hc (wp_si i3 z0 (fun N4 u4 i4 => wp_T hc (wp_si i4 z0 (fun N5 u5 i5 => wp_T hc (wp_si i5 z0 (fun N6 u6 i6 => wp_T hc (wp_si i6 z0 (fun N7 u7 i7 => wp_T hc (wp_si i7 z0 (fun N8 u8 i8 => wp_T hc (wp_si i8 z0 (fun N9 u9 i9 => ?_))))))))))))))))))
  have o : ∀ (f : Nat) (i k : Int), ¬ ((f = 45 ∨ (47 ≤ f ∧ f ≤ 54)) ∧ i = 0 ∧ k = c) → N9 f i k = N0 f i k := fun f i k y => by
    rw [u9, jm_une (by omega), u8, jm_une (by omega), u7, jm_une (by omega), u6, jm_une (by omega), u5, jm_une (by omega), u4, jm_une (by omega), u3, jm_une (by omega), u2, jm_une (by omega), u1, jm_une (by omega)]
  refine d_stL fu hfu n31 Q N9 i9 c hc (fun N1' j1 k1 e1 => ?_)
  have sm : ∀ f : Nat, (f = 45 ∨ (47 ≤ f ∧ f ≤ 54)) → N1' f 0 c = N9 f 0 c := fun f y => k1 f 0 c (by unfold KSL KW; omega)
  obtain ⟨e46, e55, e56, e59⟩ := e1
  refine kk N1' j1 (fun f i k y => ?_) ?_ ⟨?_, ?_, ?_, ?_, ?_, ?_, ?_, ?_⟩ ⟨fun j y1 y2 => ?_, e55, e56, e59⟩
  · unfold K131 at y
    rw [k1 f i k y.2]
    exact o f i k y.1
  · rw [sm 45 (by decide), u9, jm_une_f (by decide), u8, jm_une_f (by decide), u7, jm_une_f (by decide), u6, jm_une_f (by decide), u5, jm_une_f (by decide), u4, jm_une_f (by decide), u3, jm_une_f (by decide), u2, jm_une_f (by decide), u1]; exact jm_ueq
  · rw [sm 47 (by decide), u9, jm_une_f (by decide), u8, jm_une_f (by decide), u7, jm_une_f (by decide), u6, jm_une_f (by decide), u5, jm_une_f (by decide), u4, jm_une_f (by decide), u3, jm_une_f (by decide), u2]; exact jm_ueq
  · rw [sm 48 (by decide), u9, jm_une_f (by decide), u8, jm_une_f (by decide), u7, jm_une_f (by decide), u6, jm_une_f (by decide), u5, jm_une_f (by decide), u4, jm_une_f (by decide), u3]; exact jm_ueq
  · rw [sm 49 (by decide), u9, jm_une_f (by decide), u8, jm_une_f (by decide), u7, jm_une_f (by decide), u6, jm_une_f (by decide), u5, jm_une_f (by decide), u4]; exact jm_ueq
  · rw [sm 50 (by decide), u9, jm_une_f (by decide), u8, jm_une_f (by decide), u7, jm_une_f (by decide), u6, jm_une_f (by decide), u5]; exact jm_ueq
  · rw [sm 51 (by decide), u9, jm_une_f (by decide), u8, jm_une_f (by decide), u7, jm_une_f (by decide), u6]; exact jm_ueq
  · rw [sm 52 (by decide), u9, jm_une_f (by decide), u8, jm_une_f (by decide), u7]; exact jm_ueq
  · rw [sm 53 (by decide), u9, jm_une_f (by decide), u8]; exact jm_ueq
  · rw [sm 54 (by decide), u9]; exact jm_ueq
  · rw [e46 j y1 y2]
    exact o 21 0 _ (by omega)
theorem d_st58 (fu : Nat) (hfu : 4000 ≤ fu) (n31 : jm_M → Int → jm_R) (Q : Int → jm_M → Prop) (N0 : jm_M) (i0 : bI bx2 N0) (c s : Int) (hc : 0 ≤ c ∧ c < 6) (is : jm_in s) (kk : ∀ N1 : jm_M, bI bx2 N1 → Kp (KSc c) N0 N1 → NST N0 N1 c s → wp (n31 N1 (c + 1)) Q) : wp (gX12_starts_58 fu n31 N0 c s c) Q := by
  have z0 : jm_in 0 := jm_inL (by decide) (by decide)
  unfold gX12_starts_58
  refine wp_T hc (wp_si i0 is (fun N1 u1 i1 => wp_T (by decide) (wp_T hc (wp_si i1 (jm_w_in _) (fun N2 u2 i2 => ?_)))))
  have b41 : jm_in (N2 41 0 c) := i2 41 0 c
  refine wp_T hc (wp_T hc (wp_si i2 b41 (fun N3 u3 i3 => wp_T hc (wp_si i3 (show (0 : Int) ≤ 0 ∧ (0 : Int) ≤ 60 from ⟨by decide, by decide⟩) (fun N4 u4 i4 => wp_T hc (wp_si i4 z0 (fun N5 u5 i5 => ?_)))))))
  have b18 : jm_in (N5 18 0 c) := i5 18 0 c
  refine wp_T hc (wp_T hc (wp_si i5 b18 (fun N6 u6 i6 => wp_T hc ?_)))
  have o : ∀ (f : Nat) (i k : Int), ¬ ((39 ≤ f ∧ f ≤ 44) ∧ i = 0 ∧ k = c) → N6 f i k = N0 f i k := fun f i k y => by
    rw [u6, jm_une (by omega), u5, jm_une (by omega), u4, jm_une (by omega), u3, jm_une (by omega), u2, jm_une (by omega), u1, jm_une (by omega)]
  have e39 : N6 39 0 c = s := by rw [u6, jm_une_f (by decide), u5, jm_une_f (by decide), u4, jm_une_f (by decide), u3, jm_une_f (by decide), u2, jm_une_f (by decide), u1]; exact jm_ueq
  have e41 : N6 41 0 c = jm_w (N0 5 0 6 * c) := by rw [u6, jm_une_f (by decide), u5, jm_une_f (by decide), u4, jm_une_f (by decide), u3, jm_une_f (by decide), u2, jm_ueq, u1, jm_une_f (by decide)]
  have e42 : N6 42 0 c = 0 := by rw [u6, jm_une_f (by decide), u5, jm_une_f (by decide), u4]; exact jm_ueq
  have e43 : N6 43 0 c = 0 := by rw [u6, jm_une_f (by decide), u5]; exact jm_ueq
  have e44 : N6 44 0 c = N0 18 0 c := by rw [u6, jm_ueq, u5, jm_une_f (by decide), u4, jm_une_f (by decide), u3, jm_une_f (by decide), u2, jm_une_f (by decide), u1, jm_une_f (by decide)]
  have n19 : N6 19 0 c = N0 19 0 c := o 19 0 c (by omega)
  rw [n19]
  have fin : ∀ x : Int, (-1 ≤ x ∧ x ≤ 0) → x = (if N0 19 0 c = 0 then -1 else 0) → wp (gX12_starts_131 fu n31 N6 c x c) Q := by
    intro x hx ex
    refine d_st131 fu hfu n31 Q N6 i6 c x hc hx (fun N7 i7 k7 e45 e47 el => ?_)
    obtain ⟨l46, l55, l56, l59⟩ := el
    have sm : ∀ f : Nat, (39 ≤ f ∧ f ≤ 44) → N7 f 0 c = N6 f 0 c := fun f y => k7 f 0 c (by unfold K131 KSL KW; omega)
    refine kk N7 i7 (fun f i k y => ?_) ⟨⟨(sm 39 (by decide)).trans e39, (sm 41 (by decide)).trans e41, (sm 42 (by decide)).trans e42, (sm 43 (by decide)).trans e43, (sm 44 (by decide)).trans e44, e45.trans ex⟩, e47, fun j y1 y2 => ?_, l55, l56, l59⟩
    · unfold KSc at y
      rw [k7 f i k ⟨by omega, y.2⟩]
      exact o f i k (by omega)
    · rw [l46 j y1 y2]
      exact o 21 0 _ (by omega)
  exact wp_ite (fun q => fin (-1) ⟨by decide, by decide⟩ (by rw [if_pos q])) (fun q => fin 0 ⟨by decide, by decide⟩ (by rw [if_neg q]))
def KS2 (f : Nat) (_ _ : Int) : Prop := ¬ ((39 ≤ f ∧ f ≤ 56) ∨ f = 59)
theorem NST.mv {N0 N N1 : jm_M} {c o s : Int} (h : NST N0 N o s) (ho : 0 ≤ o ∧ o < c) (k : Kp (KSc c) N N1) : NST N0 N1 o s := by
  obtain ⟨⟨a1, a2, a3, a4, a5, a6⟩, ⟨b1, b2, b3, b4, b5, b6, b7, b8⟩, l46, l55, l56, l59⟩ := h
  have m : ∀ f : Nat, ((39 ≤ f ∧ f ≤ 45) ∨ (47 ≤ f ∧ f ≤ 54)) → N1 f 0 o = N f 0 o := fun f y => k f 0 o (by unfold KSc KW; omega)
  refine ⟨⟨(m 39 (by decide)).trans a1, (m 41 (by decide)).trans a2, (m 42 (by decide)).trans a3, (m 43 (by decide)).trans a4, (m 44 (by decide)).trans a5, (m 45 (by decide)).trans a6⟩, ⟨(m 47 (by decide)).trans b1, (m 48 (by decide)).trans b2, (m 49 (by decide)).trans b3, (m 50 (by decide)).trans b4, (m 51 (by decide)).trans b5, (m 52 (by decide)).trans b6, (m 53 (by decide)).trans b7, (m 54 (by decide)).trans b8⟩, fun j y1 y2 => (k 46 0 _ (by unfold KSc KW; omega)).trans (l46 j y1 y2), fun j y1 y2 => (k 55 0 _ (by unfold KSc KW; omega)).trans (l55 j y1 y2), fun j y1 y2 => (k 56 0 _ (by unfold KSc KW; omega)).trans (l56 j y1 y2), fun j y1 y2 => (k 59 0 _ (by unfold KSc KW; omega)).trans (l59 j y1 y2)⟩
def sT (N0 : jm_M) (o : Int) : Int := if N0 19 0 o = 0 then 2 else 0
theorem d_st31 (fu : Nat) (hfu : 4000 ≤ fu) (N0 : jm_M) (j0 : bI bx2 N0) : ∀ (n : Nat) (N : jm_M) (l1 : Int), bI bx2 N → Kp KS2 N0 N → (∀ o : Int, 0 ≤ o → o < l1 → NST N0 N o (sT N0 o)) → 0 ≤ l1 → l1 ≤ N0 0 0 17 → N0 0 0 17 - l1 < (n : Int) → wp (fX12_starts_31 fu n N l1) (fun _ N1 => bI bx2 N1 ∧ Kp KS2 N0 N1 ∧ ∀ o : Int, 0 ≤ o → o < N0 0 0 17 → NST N0 N1 o (sT N0 o)) := by
  have b17 : 0 ≤ N0 0 0 17 ∧ N0 0 0 17 ≤ 6 := j0 0 0 17
  intro n
  induction n with
  | zero => intro N l1 _ _ _ _ _ hm; exfalso; omega
  | succ n ih =>
    intro N l1 iN kN hl h0 h1 hm
    show wp (gX12_starts_31 fu (fX12_starts_31 fu n) N l1) _
    unfold gX12_starts_31
    have n17 : N 0 0 17 = N0 0 0 17 := kN 0 0 17 (by unfold KS2; omega)
    have n19 : N 19 0 l1 = N0 19 0 l1 := kN 19 0 l1 (by unfold KS2; omega)
    rw [n17, n19]
    refine wp_ite (fun q => wp_ret ⟨iN, kN, fun o y1 y2 => hl o y1 (by omega)⟩) (fun q => wp_T ⟨h0, by omega⟩ ?_)
    have fin : ∀ s : Int, jm_in s → s = sT N0 l1 → wp (gX12_starts_58 fu (fX12_starts_31 fu n) N l1 s l1) (fun _ N1 => bI bx2 N1 ∧ Kp KS2 N0 N1 ∧ ∀ o : Int, 0 ≤ o → o < N0 0 0 17 → NST N0 N1 o (sT N0 o)) := by
      intro s is es
      refine d_st58 fu hfu (fX12_starts_31 fu n) _ N iN l1 s ⟨h0, by omega⟩ is (fun N1 i1 k1 e1 => ?_)
      refine ih N1 (l1 + 1) i1 (fun f i k y => ?_) (fun o y1 y2 => ?_) (by omega) (by omega) (by omega)
      · unfold KS2 at y
        rw [k1 f i k (by unfold KSc KW; omega)]
        exact kN f i k (by unfold KS2; omega)
      · by_cases e : o = l1
        · rw [e, ← es]
          obtain ⟨⟨a1, a2, a3, a4, a5, a6⟩, b, l46, l55, l56, l59⟩ := e1
          rw [kN 5 0 6 (by unfold KS2; omega)] at a2
          rw [kN 18 0 l1 (by unfold KS2; omega)] at a5
          rw [n19] at a6
          exact ⟨⟨a1, a2, a3, a4, a5, a6⟩, b, fun j y3 y4 => (l46 j y3 y4).trans (kN 21 0 _ (by unfold KS2; omega)), l55, l56, l59⟩
        · exact (hl o y1 (by omega)).mv ⟨y1, by omega⟩ k1
    exact wp_ite (fun q2 => fin 2 (jm_inL (by decide) (by decide)) (by unfold sT; rw [if_pos q2])) (fun q2 => fin 0 (jm_inL (by decide) (by decide)) (by unfold sT; rw [if_neg q2]))
def KS3 (f : Nat) (_ k : Int) : Prop := ¬ ((39 ≤ f ∧ f ≤ 56) ∨ f = 58 ∨ f = 59) ∧ ¬ (f = 0 ∧ k = 70)
theorem d_st7 (fu : Nat) (hfu : 4000 ≤ fu) (N0 : jm_M) (j0 : bI bx2 N0) : ∀ (n : Nat) (N : jm_M) (l1 : Int), bI bx2 N → Kp (fun f _ _ => f ≠ 58) N0 N → (∀ t : Int, 0 ≤ t → t < l1 → N 58 0 t = 0) → 0 ≤ l1 → l1 ≤ 4 → 4 - l1 < (n : Int) → wp (fX12_starts_7 fu n N l1) (fun _ N1 => bI bx2 N1 ∧ Kp (fun f i k => KS2 f i k ∧ f ≠ 58) N0 N1 ∧ (∀ t : Int, 0 ≤ t → t < 4 → N1 58 0 t = 0) ∧ ∀ o : Int, 0 ≤ o → o < N0 0 0 17 → NST N0 N1 o (sT N0 o)) := by
  have b17 : 0 ≤ N0 0 0 17 ∧ N0 0 0 17 ≤ 6 := j0 0 0 17
  intro n
  induction n with
  | zero => intro N l1 _ _ _ _ _ hm; exfalso; omega
  | succ n ih =>
    intro N l1 iN kN hl h0 h1 hm
    show wp (gX12_starts_7 fu (fX12_starts_7 fu n) N l1) _
    unfold gX12_starts_7
    have w1 : jm_w (l1 + 1) = l1 + 1 := jm_wid (by omega) (by omega)
    refine wp_ite (fun q => ?_) (fun q => wp_T ⟨h0, by omega⟩ ?_)
    · have n17 : N 0 0 17 = N0 0 0 17 := kN 0 0 17 (show 0 ≠ 58 by decide)
      refine wp_mono (d_st31 fu hfu N iN fu N 0 iN Kp.rf (fun o y1 y2 => by exfalso; omega) (by decide) (by omega) (by omega)) (fun r N1 z => ?_)
      obtain ⟨i1, k1, e1⟩ := z
      refine ⟨i1, fun f i k y => (k1 f i k y.1).trans (kN f i k y.2), fun t y1 y2 => (k1 58 0 t (by unfold KS2; omega)).trans (hl t y1 (by omega)), fun o y1 y2 => ?_⟩
      have z := e1 o y1 (by omega)
      unfold sT NST NSL at z
      rw [kN 19 0 o (show 19 ≠ 58 by decide), kN 5 0 6 (show 5 ≠ 58 by decide), kN 18 0 o (show 18 ≠ 58 by decide)] at z
      obtain ⟨za, zb, l46, l55, l56, l59⟩ := z
      exact ⟨za, zb, fun j y3 y4 => (l46 j y3 y4).trans (kN 21 0 _ (show 21 ≠ 58 by decide)), l55, l56, l59⟩
    · refine wp_sk iN (jm_inL (by decide) (by decide)) kN (fun y => y rfl) (fun N3 u3 i3 k3 => ?_)
      rw [w1]
      refine ih N3 (l1 + 1) i3 k3 (fun t y1 y2 => ?_) (by omega) (by omega) (by omega)
      rw [u3]
      by_cases e : t = l1
      · rw [e]; exact jm_ueq
      · rw [jm_une_k e]; exact hl t y1 (by omega)
theorem d_starts (fu : Nat) (hfu : 4000 ≤ fu) (N : jm_M) (iN : bI bx2 N) : wp (fX12_starts fu N) (fun _ N1 => bI bx2 N1 ∧ Kp KS3 N N1 ∧ N1 0 0 70 = 0 ∧ (∀ t : Int, 0 ≤ t → t < 4 → N1 58 0 t = 0) ∧ ∀ o : Int, 0 ≤ o → o < N 0 0 17 → NST N N1 o (sT N o)) := by
  unfold fX12_starts
  refine wp_si iN (show (0 : Int) ≤ 0 ∧ (0 : Int) ≤ 361 from ⟨by decide, by decide⟩) (fun N2 u2 i2 => ?_)
  have o2 : ∀ (f : Nat) (i k : Int), ¬ (f = 0 ∧ i = 0 ∧ k = 70) → N2 f i k = N f i k := fun f i k y => by rw [u2]; exact jm_une y
  refine wp_mono (d_st7 fu hfu N2 i2 fu N2 0 i2 Kp.rf (fun t y1 y2 => by exfalso; omega) (by decide) (by decide) (by omega)) (fun r N1 z => ?_)
  obtain ⟨i1, k1, e58, e1⟩ := z
  refine ⟨i1, fun f i k y => ?_, ?_, e58, fun o y1 y2 => ?_⟩
  · unfold KS3 at y
    rw [k1 f i k ⟨by unfold KS2; omega, by omega⟩]
    exact o2 f i k (by omega)
  · rw [k1 0 0 70 ⟨by unfold KS2; omega, by decide⟩, u2]
    exact jm_ueq
  · have z := e1 o y1 (by rw [o2 0 0 17 (by omega)]; exact y2)
    unfold sT NST NSL at z
    rw [o2 19 0 o (by omega), o2 5 0 6 (by omega), o2 18 0 o (by omega)] at z
    obtain ⟨za, zb, l46, l55, l56, l59⟩ := z
    exact ⟨za, zb, fun j y3 y4 => (l46 j y3 y4).trans (o2 21 0 _ (by omega)), l55, l56, l59⟩
