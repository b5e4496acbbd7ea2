/-! plan and rule: what is told stays alike -/
theorem wp_at {x : jm_R} {Q : Int → jm_M → Prop} {v : Int} {M1 : jm_M} (h : wp x Q) (e : x = some (v, M1)) : Q v M1 := by
  obtain ⟨v2, M2, e2, q⟩ := h
  rw [e] at e2
  obtain ⟨rfl, rfl⟩ := Prod.mk.inj (Option.some.inj e2)
  exact q
theorem aF_sh (c d : Int → Int) : ∀ (n : Nat) (a b : Int) (s : Int × Int × Int), (∀ j : Int, 0 ≤ j → j < (n : Int) → c (a + j) = d (b + j)) → aF c n a s = aF d n b s := by
  intro n
  induction n with
  | zero => intro a b s _; rfl
  | succ n ih =>
    intro a b s h
    have e : c a = d b := by
      have := h 0 (by omega) (by omega)
      rw [Int.add_zero, Int.add_zero] at this
      exact this
    show aF c n (a + 1) (aStep (c a) s) = aF d n (b + 1) (aStep (d b) s)
    rw [e]
    refine ih (a + 1) (b + 1) _ (fun j y1 y2 => ?_)
    have := h (j + 1) (by omega) (by omega)
    rw [show a + 1 + j = a + (j + 1) by omega, show b + 1 + j = b + (j + 1) by omega]
    exact this
theorem LR.sh {u t l p q r a b d : Int} {M N M1 N1 : jm_M} (h : LR u M N t l p q r) (hp : a ≤ p) (hr : r < b) (m20 : M1 20 t = M 20 t) (m21 : M1 21 t = M 21 t) (m22 : M1 22 t = M 22 t) (m23 : M1 23 t = M 23 t) (m24 : M1 24 t = M 24 t) (kn : ∀ k : Int, a ≤ k → k < b → N1 35 0 (k + d) = N 35 0 k) : LR u M1 N1 t l (p + d) (q + d) (r + d) := by
  have fr : frm M1 t l = frm M t l := by
    unfold frm
    rw [m21]
  obtain ⟨h1, h2, ⟨h3, h4, h5, h6⟩, h7⟩ := h
  have pq : p ≤ q := by
    rcases h2 with ⟨g1, g2, -, -⟩ | ⟨g1, g2, -⟩
    · omega
    · omega
  refine ⟨by rw [fr, m21]; exact h1, ?_, ⟨by rw [kn q (by omega) (by omega)]; exact h3, by omega, by rw [kn r (by omega) (by omega)]; exact h5, fun j y1 y2 => ?_⟩, ?_⟩
  · rcases h2 with ⟨g1, g2, g3, g4⟩ | ⟨g1, g2, g3⟩
    · refine Or.inl ⟨by rw [fr, m21]; exact g1, by rw [fr, m21]; omega, ?_, fun j y1 y2 => ?_⟩
      · rw [fr, m21, hg_shift (c := N 35 0) (d := N1 35 0) (M 21 t l - frm M t l).toNat p (p + d) 0 (fun j y1 y2 => by rw [show p + d + j = p + j + d by omega]; exact kn (p + j) (by omega) (by omega))]
        exact g3
      · rw [fr, m21] at y2
        rw [fr, m20, show p + d + j = p + j + d by omega, kn (p + j) (by omega) (by omega)]
        exact g4 j y1 y2
    · exact Or.inr ⟨by rw [fr, m21]; exact g1, by omega, by rw [kn p (by omega) (by omega)]; exact g3⟩
  · have := kn (j - d) (by omega) (by omega)
    rw [show j - d + d = j by omega] at this
    rw [this]
    exact h6 (j - d) (by omega) (by omega)
  · rw [m22, m23, m24, h7, show (r + d - (q + d) - 1).toNat = (r - q - 1).toNat by omega]
    exact (aF_sh (N1 35 0) (N 35 0) (r - q - 1).toNat (q + d + 1) (q + 1) (9, 9, -1) (fun j y1 y2 => by rw [show q + d + 1 + j = q + 1 + j + d by omega]; exact kn (q + 1 + j) (by omega) (by omega))).symm
theorem TXT.sh {u t a b d : Int} {M N M1 N1 : jm_M} (h : TXT u M N t a b) (kt : ∀ (f : Nat) (k : Int), CTX f 0 0 → M1 f t k = M f t k) (kn : ∀ k : Int, a ≤ k → k < b → N1 35 0 (k + d) = N 35 0 k) (ha : 0 ≤ a + d) (hb : b + d ≤ 1700) : TXT u M1 N1 t (a + d) (b + d) := by
  have fm : ∀ f : Nat, CTX f 0 0 → M1 f t = M f t := fun f q => funext fun k => kt f k q
  obtain ⟨⟨h1, h1b, -, -⟩, P, p0, pe, hl⟩ := h
  have e11 := fm 11 (by unfold CTX; omega)
  refine ⟨by rw [e11]; exact ⟨h1, h1b, ha, hb⟩, fun l => P l + d, by show P 0 + d = a + d; rw [p0], by show P (M1 11 t 6) + d = b + d; rw [e11, pe], fun l y1 y2 => ?_⟩
  rw [e11] at y2
  obtain ⟨q, r, lr, e, g1, g2⟩ := hl l y1 y2
  exact ⟨q + d, r + d, lr.sh g1 g2 (fm 20 (by unfold CTX; omega)) (fm 21 (by unfold CTX; omega)) (fm 22 (by unfold CTX; omega)) (fm 23 (by unfold CTX; omega)) (fm 24 (by unfold CTX; omega)) kn, by show P (l + 1) + d = r + d + 1; omega, by show a + d ≤ P l + d; omega, by omega⟩
/-- the texts lie apart -/
def TXD (M : jm_M) : Prop := (∀ c : Int, 0 ≤ c → c < 6 → M 8 c 11 ≠ M 0 0 10) ∧ (∀ c d : Int, 0 ≤ c → c < 6 → 0 ≤ d → d < 6 → c ≠ d → M 8 c 11 ≠ M 8 d 11) ∧ (∀ i : Int, 0 ≤ i → i < 10 → M 48 0 i ≠ M 0 0 10) ∧ (∀ i j : Int, 0 ≤ i → i < 10 → 0 ≤ j → j < 10 → i ≠ j → M 48 0 i ≠ M 48 0 j) ∧ ∀ i c : Int, 0 ≤ i → i < 10 → 0 ≤ c → c < 6 → M 48 0 i ≠ M 8 c 11
theorem TXD.eq {M M1 : jm_M} (h : TXD M) (e10 : M1 0 0 10 = M 0 0 10) (e8 : ∀ c : Int, M1 8 c 11 = M 8 c 11) (e48 : ∀ i : Int, M1 48 0 i = M 48 0 i) : TXD M1 := by
  unfold TXD
  rw [e10]
  exact ⟨fun c y1 y2 => by rw [e8]; exact h.1 c y1 y2, fun c d y1 y2 y3 y4 y5 => by rw [e8, e8]; exact h.2.1 c d y1 y2 y3 y4 y5, fun i y1 y2 => by rw [e48]; exact h.2.2.1 i y1 y2, fun i j y1 y2 y3 y4 y5 => by rw [e48, e48]; exact h.2.2.2.1 i j y1 y2 y3 y4 y5, fun i c y1 y2 y3 y4 => by rw [e48, e8]; exact h.2.2.2.2 i c y1 y2 y3 y4⟩
theorem TXD.kp {M M1 : jm_M} (h : TXD M) (k : Kp XD M M1) : TXD M1 := h.eq (k 0 0 10 (by unfold XD; omega)) (fun c => k 8 c 11 (by unfold XD; omega)) (fun i => k 48 0 i (by unfold XD; omega))
theorem TXD.swapc {M M1 : jm_M} (h : TXD M) {l : Int} (hl : 0 ≤ l ∧ l < 6) (e10 : M1 0 0 10 = M 8 l 11) (el : M1 8 l 11 = M 0 0 10) (e8 : ∀ c : Int, c ≠ l → M1 8 c 11 = M 8 c 11) (e48 : ∀ i : Int, M1 48 0 i = M 48 0 i) : TXD M1 := by
  obtain ⟨h1, h2, h3, h4, h5⟩ := h
  refine ⟨fun c y1 y2 => ?_, fun c d y1 y2 y3 y4 y5 => ?_, fun i y1 y2 => ?_, fun i j y1 y2 y3 y4 y5 => ?_, fun i c y1 y2 y3 y4 => ?_⟩
  · rw [e10]
    by_cases q : c = l
    · rw [q, el]; exact fun z => h1 l hl.1 hl.2 z.symm
    · rw [e8 c q]; exact h2 c l y1 y2 hl.1 hl.2 q
  · by_cases q : c = l
    · have q2 : d ≠ l := fun z => y5 (q.trans z.symm)
      rw [q, el, e8 d q2]; exact fun z => h1 d y3 y4 z.symm
    · rw [e8 c q]
      by_cases q2 : d = l
      · rw [q2, el]; exact h1 c y1 y2
      · rw [e8 d q2]; exact h2 c d y1 y2 y3 y4 y5
  · rw [e48, e10]; exact h5 i l y1 y2 hl.1 hl.2
  · rw [e48, e48]; exact h4 i j y1 y2 y3 y4 y5
  · rw [e48]
    by_cases q : c = l
    · rw [q, el]; exact h3 i y1 y2
    · rw [e8 c q]; exact h5 i c y1 y2 y3 y4
theorem TXD.swapr {M M1 : jm_M} (h : TXD M) {l : Int} (hl : 0 ≤ l ∧ l < 10) (e10 : M1 0 0 10 = M 48 0 l) (el : M1 48 0 l = M 0 0 10) (e8 : ∀ c : Int, M1 8 c 11 = M 8 c 11) (e48 : ∀ i : Int, i ≠ l → M1 48 0 i = M 48 0 i) : TXD M1 := by
  obtain ⟨h1, h2, h3, h4, h5⟩ := h
  refine ⟨fun c y1 y2 => ?_, fun c d y1 y2 y3 y4 y5 => ?_, fun i y1 y2 => ?_, fun i j y1 y2 y3 y4 y5 => ?_, fun i c y1 y2 y3 y4 => ?_⟩
  · rw [e8, e10]; exact fun z => h5 l c hl.1 hl.2 y1 y2 z.symm
  · rw [e8, e8]; exact h2 c d y1 y2 y3 y4 y5
  · rw [e10]
    by_cases q : i = l
    · rw [q, el]; exact fun z => h3 l hl.1 hl.2 z.symm
    · rw [e48 i q]; exact h4 i l y1 y2 hl.1 hl.2 q
  · by_cases q : i = l
    · have q2 : j ≠ l := fun z => y5 (q.trans z.symm)
      rw [q, el, e48 j q2]; exact fun z => h3 j y3 y4 z.symm
    · rw [e48 i q]
      by_cases q2 : j = l
      · rw [q2, el]; exact h3 i y1 y2
      · rw [e48 j q2]; exact h4 i j y1 y2 y3 y4 y5
  · rw [e8]
    by_cases q : i = l
    · rw [q, el]; exact fun z => h1 c y3 y4 z.symm
    · rw [e48 i q]; exact h5 i c y1 y2 y3 y4
/-- a text read into the spare one -/
def FR0 (M M1 : jm_M) : Prop := ∀ (f : Nat) (i k : Int), ¬ (f = 6 ∨ f = 25 ∨ f = 26 ∨ (f = 0 ∧ k = 7)) → (CTX f 0 0 → i ≠ M 0 0 10) → M1 f i k = M f i k
theorem FR0.of {fu : Nat} (hfu : 4000 ≤ fu) {M M10 : jm_M} (iM : bI bx1 M) {t l2 v : Int} (ht : 0 ≤ t ∧ t ≤ 100) (hl2 : 0 ≤ l2 ∧ l2 ≤ 1) (e : fX3_firstWrong_a12 fu (jm_u M 0 0 7 0) t (M 0 0 10) l2 = some (v, M10)) : bI bx1 M10 ∧ (-1 ≤ v ∧ v ≤ 60) ∧ FR0 M M10 := by
  obtain ⟨i2, k2⟩ := c_tape0 iM
  have e10 : (jm_u M 0 0 7 0) 0 0 10 = M 0 0 10 := jm_une_k (by decide)
  have b10 : 0 ≤ M 0 0 10 ∧ M 0 0 10 ≤ 16 := iM 0 0 10
  obtain ⟨i10, k10, r10⟩ := wp_at (s_fX3_firstWrong_a12 fu hfu (jm_u M 0 0 7 0) i2 t (M 0 0 10) l2 ht b10 hl2) e
  have kf := k_frame fu (jm_u M 0 0 7 0) t (M 0 0 10) l2 v M10 e
  refine ⟨i10, r10, fun f i k y c => ?_⟩
  have e2 : (jm_u M 0 0 7 0) f i k = M f i k := jm_une (by omega)
  by_cases q : CTX f 0 0
  · exact (kf.1 f i k q (c q)).trans e2
  · exact (k10 f i k (by unfold CTX at q; unfold TQ; omega)).trans e2
theorem cc_plan (fu : Nat) (hfu : 4000 ≤ fu) (M : jm_M) (iM : bI bx1 M) (l1 : Int) (h1 : jm_in l1) : wp (fX11_plan fu M l1) (fun r M1 => (r ≠ 1 ∧ FR0 M M1) ∨ (r = 1 ∧ (0 ≤ l1 ∧ l1 < M 2 0 5 ∧ l1 < 6) ∧ (M1 0 0 10 = M 8 l1 11 ∧ M1 8 l1 11 = M 0 0 10 ∧ M1 8 l1 12 = 1 ∧ M1 2 0 7 = 0) ∧ (∀ (f : Nat) (i k : Int), ¬ (f = 6 ∨ f = 25 ∨ f = 26 ∨ (f = 0 ∧ (k = 7 ∨ k = 10)) ∨ (f = 2 ∧ k = 7) ∨ (f = 8 ∧ i = l1 ∧ (k = 11 ∨ k = 12))) → (CTX f 0 0 → i ≠ M 0 0 10) → M1 f i k = M f i k) ∧ ∃ Mt : jm_M, fX3_firstWrong_a12 fu (jm_u M 0 0 7 0) (M 0 0 7) (M 0 0 10) 1 = some (-1, Mt) ∧ ∀ (f : Nat) (i k : Int), CTX f 0 0 → M1 f i k = Mt f i k)) := by
  have b5 : 0 ≤ M 2 0 5 ∧ M 2 0 5 ≤ 6 := iM 2 0 5
  have b7 : 0 ≤ M 0 0 7 ∧ M 0 0 7 ≤ 100 := iM 0 0 7
  have b10 : 0 ≤ M 0 0 10 ∧ M 0 0 10 ≤ 16 := iM 0 0 10
  obtain ⟨i2, k2⟩ := c_tape0 iM
  have e10 : (jm_u M 0 0 7 0) 0 0 10 = M 0 0 10 := jm_une_k (by decide)
  have e5 : (jm_u M 0 0 7 0) 2 0 5 = M 2 0 5 := jm_une_f (by decide)
  unfold fX11_plan
  refine wp_b (c_take M iM) (fun v1 M2 h => ?_)
  obtain ⟨rfl, rfl⟩ := h
  refine wp_bp (s_fX2_has _ i2 l1 h1) (fun v4 h4 => ?_)
  rw [e5] at h4
  rw [e10]
  refine wp_ite (fun c => wp_ret (Or.inl ⟨by decide, fun f i k y _ => jm_une (by omega)⟩)) (fun c => ?_)
  refine wp_T ⟨by omega, by omega⟩ ?_
  obtain ⟨v9, M10, e9, -⟩ := s_fX3_firstWrong_a12 fu hfu (jm_u M 0 0 7 0) i2 (M 0 0 7) (M 0 0 10) 1 b7 b10 ⟨by decide, by decide⟩
  obtain ⟨i10, r10, fr⟩ := FR0.of hfu iM b7 ⟨by decide, by decide⟩ e9
  rw [e9, jm_bsm]
  have f10 : M10 0 0 10 = M 0 0 10 := fr 0 0 10 (by omega) (fun c => by unfold CTX at c; omega)
  have f8 : M10 8 l1 11 = M 8 l1 11 := fr 8 l1 11 (by omega) (fun c => by unfold CTX at c; omega)
  have c11 : 0 ≤ M10 8 l1 11 ∧ M10 8 l1 11 ≤ 16 := i10 8 l1 11
  refine wp_ite (fun c2 => ?_) (fun c2 => ?_)
  · refine wp_T ⟨by omega, by omega⟩ (wp_T ⟨by omega, by omega⟩ (wp_T ⟨by omega, by omega⟩ (wp_T ⟨by omega, by omega⟩ ?_)))
    refine wp_sv (fun M17 u17 => wp_T ⟨by omega, by omega⟩ (wp_sv (fun M19 u19 => wp_sv (fun M20 u20 => wp_sv (fun M21 u21 => wp_ret (Or.inr ⟨rfl, by omega, ⟨?_, ?_, ?_, ?_⟩, fun f i k y y2 => ?_, M10, ?_, fun f i k y => ?_⟩))))))
    · rw [u21, jm_une_f (by decide), u20, jm_ueq]; exact f8
    · rw [u21, jm_une_f (by decide), u20, jm_une_f (by decide), u19, jm_une_k (by decide), u17, jm_ueq]; exact f10
    · rw [u21, jm_une_f (by decide), u20, jm_une_f (by decide), u19]; exact jm_ueq
    · rw [u21]; exact jm_ueq
    · rw [u21, jm_une (by omega), u20, jm_une (by omega), u19, jm_une (by omega), u17, jm_une (by omega)]
      exact fr f i k (by omega) y2
    · rw [c2]
    · have y3 : f = 11 ∨ (20 ≤ f ∧ f ≤ 24) := y
      rw [u21, jm_une_f (by omega), u20, jm_une_f (by omega), u19, jm_une_f (by omega), u17, jm_une_f (by omega)]
  · have w : jm_w ((-1) - v9) = -1 - v9 := jm_wid (by omega) (by omega)
    rw [w]
    exact wp_ret (Or.inl ⟨by omega, fr⟩)
theorem RO.rl {N N2 N8 : jm_M} {w l2 r : Int} (h : RO N2 w l2 r N8) (hw : 6 ≤ w) (e : N2 = jm_u N 0 0 0 0) : Kp RL2 N N8 := fun f i k y => by
  obtain ⟨-, k8, -, q36, q35, -⟩ := h
  have y2 := y
  unfold RL2 C2r C2f C2s C2p C2o C2n C2c C2l at y2
  have e2 : N2 f i k = N f i k := by rw [e]; exact jm_une (by omega)
  by_cases a : f = 35
  · have i0 : i = 0 := by omega
    subst a; subst i0
    exact (q35 k (by omega)).trans e2
  by_cases b : f = 36
  · have i0 : i = 0 := by omega
    subst b; subst i0
    exact (q36 k (by omega)).trans e2
  · exact (k8 f i k (by unfold TRD; omega)).trans e2
theorem dd_plan (fu : Nat) (hfu : 4000 ≤ fu) (N : jm_M) (iN : bI bx2 N) (l1 : Int) (h1 : jm_in l1) : wp (fX12_plan fu N l1) (fun r N1 => (r ≠ 1 ∧ Kp RL2 N N1) ∨ (r = 1 ∧ (0 ≤ l1 ∧ l1 < N 0 0 17) ∧ N1 30 0 l1 = 1 ∧ (∀ (f : Nat) (i k : Int), RL2 f i k → ¬ ((f = 30 ∨ f = 36) ∧ k = l1) → ¬ (f = 35 ∧ 100 * l1 ≤ k ∧ k < 100 * l1 + 100) → N1 f i k = N f i k) ∧ ∃ Nt : jm_M, fX12_reads fu (jm_u N 0 0 0 0) 16 1 = some (1, Nt) ∧ N1 36 0 l1 = Nt 36 0 16 ∧ (0 ≤ Nt 36 0 16 ∧ Nt 36 0 16 ≤ 100) ∧ ∀ t : Int, 0 ≤ t → t < Nt 36 0 16 → N1 35 0 (100 * l1 + t) = Nt 35 0 (1600 + t))) := by
  have b17 : 0 ≤ N 0 0 17 ∧ N 0 0 17 ≤ 6 := iN 0 0 17
  obtain ⟨i2, k2⟩ := d_first iN
  unfold fX12_plan
  refine wp_sv (fun N2 u2 => ?_)
  rw [← u2] at i2 k2
  have e17 : N2 0 0 17 = N 0 0 17 := k2 0 0 17 (by decide)
  refine wp_bp (s_fX12_isCar N2 i2 l1 h1) (fun v2 h2 => ?_)
  rw [e17] at h2
  refine wp_ite (fun c => wp_sv (fun M6 u6 => wp_ret (Or.inl ⟨by decide, fun f i k y => ?_⟩))) (fun c => ?_)
  · unfold RL2 C2r C2f C2s C2p C2o C2n C2c C2l at y
    rw [u6, jm_une (by omega), u2, jm_une (by omega)]
  obtain ⟨v7, M8, e7, ro⟩ := s_reads fu hfu N2 i2 16 1 ⟨by decide, by decide⟩
  have rl := ro.rl (N := N) (by decide) u2
  obtain ⟨i8, k8, -, q36, q35, -, r1, -⟩ := ro
  rw [e7, jm_bsm]
  refine wp_ite (fun c2 => wp_ret (Or.inl ⟨by omega, rl⟩)) (fun c2 => ?_)
  have v1 : v7 = 1 := by omega
  have b16 : 0 ≤ M8 36 0 16 ∧ M8 36 0 16 ≤ 100 := i8 36 0 16
  refine wp_mono (wp_and (s_plan_38 fu M8 i8 l1 v7 ⟨by omega, by omega⟩ fu M8 0 i8 Kp.rf (fun _ _ => rfl) (fun t z1 z2 => by exfalso; omega) (by omega) (by omega) (by omega)) (d_plan_38 fu l1 v7 (M8 36 0 16) ⟨by omega, by omega⟩ b16.2 fu M8 0 i8 rfl (by omega) b16.1 (by omega))) (fun r M1 h => ?_)
  obtain ⟨⟨hr, -, k1, g36, g36b, g30, g35, gcp⟩, g1⟩ := h
  refine Or.inr ⟨hr.trans v1, by omega, g1, fun f i k y y2 y3 => ?_, M8, by rw [← u2, e7, v1], g36b, b16, gcp⟩
  have yy := y
  unfold RL2 C2r C2f C2s C2p C2o C2n C2c C2l at yy
  refine Eq.trans ?_ (rl f i k y)
  by_cases a : f = 35
  · have i0 : i = 0 := by omega
    subst a; subst i0
    exact g35 k (by omega)
  by_cases b : f = 36
  · have i0 : i = 0 := by omega
    subst b; subst i0
    exact g36 k (by omega)
  by_cases d : f = 30
  · have i0 : i = 0 := by omega
    subst d; subst i0
    exact g30 k (by omega)
  · exact k1 f i k ⟨d, a, b⟩
theorem t_plan (fu : Nat) (hfu : 4000 ≤ fu) (M N : jm_M) (iv : IW M N) (it : IT M N) (ca : CA fu M N) (tx : TXD M) (l1 : Int) (h1 : jm_in l1) : J2 (fX11_plan fu M l1) (fX12_plan fu N l1) (fun _ M1 _ N1 => (IT M1 N1 ∧ CA fu M1 N1) ∧ TXD M1) := by
  have iM := iv.1.1
  have iN := iv.1.2.1
  obtain ⟨⟨t1, t2, t3, t4, t5⟩, t6, t7, t8⟩ := id it.1
  have b17 : 0 ≤ N 0 0 17 ∧ N 0 0 17 ≤ 6 := iN 0 0 17
  have b10 : 0 ≤ M 0 0 10 ∧ M 0 0 10 ≤ 16 := iM 0 0 10
  obtain ⟨v, M1, w, N1, e1, e2, -, vw⟩ := q_plan fu hfu M N iv l1 h1
  have vw := vw trivial
  refine ⟨v, M1, w, N1, e1, e2, ?_⟩
  have a := wp_at (cc_plan fu hfu M iM l1 h1) e1
  have b := wp_at (dd_plan fu hfu N iN l1 h1) e2
  rcases a with ⟨a1, fr⟩ | ⟨a1, a2, ⟨a3, a4, a5, a6⟩, fr, Mt, eM, cM⟩
  · rcases b with ⟨b1, k2⟩ | ⟨b1, -⟩
    · have nt : ∀ {f : Nat} {i : Int}, ¬ CTX f 0 0 → CTX f 0 0 → i ≠ M 0 0 10 := fun z y => absurd y z
      refine ⟨⟨it.keep iN (fun f i k y => ?_) (fun c f k y1 y2 y3 y4 => ?_) k2, ca.keep iN (fun f i k y => ?_) k2⟩, ?_⟩
      · unfold RL1 C1r C1f C1s C1p C1o C1n C1c at y
        exact fr f i k (by omega) (fun z => by unfold CTX at z; omega)
      · have z : f = 11 ∨ (20 ≤ f ∧ f ≤ 24) := y4
        exact fr f _ k (by omega) (fun _ => tx.1 c y1 (by omega))
      · unfold CR7 at y
        exact fr f i k (by omega) (fun z => by unfold CTX at z; omega)
      · exact tx.eq (fr 0 0 10 (by omega) (fun z => by unfold CTX at z; omega)) (fun c => fr 8 c 11 (by omega) (fun z => by unfold CTX at z; omega)) (fun i => fr 48 0 i (by omega) (fun z => by unfold CTX at z; omega))
    · omega
  · rcases b with ⟨b1, -⟩ | ⟨b1, b2, b3, k2, Nt, eN, c36, bt, cN⟩
    · omega
    have e16 : (jm_u M 0 0 7 0) 12 0 = (jm_u M 0 0 7 0) 12 0 := rfl
    obtain ⟨i1', -⟩ := c_tape0 iM
    obtain ⟨i2', -⟩ := d_first iN
    obtain ⟨s1, s2⟩ := t_start iv
    have n17 : N1 0 0 17 = N 0 0 17 := k2 0 0 17 (by unfold RL2 C2s; omega) (by omega) (by omega)
    have new : TXT 0 M1 N1 (M 0 0 10) (100 * l1) (100 * l1 + N1 36 0 l1) := by
      obtain ⟨Mt2, e3, z⟩ := wp_at (kx_plan fu hfu (jm_u N 0 0 0 0) (jm_u M 0 0 7 0) i2' i1' 16 (M 0 0 10) (M 0 0 7) ⟨by decide, by decide⟩ b10 s1 s2) eN rfl
      rw [eM] at e3
      obtain ⟨-, rfl⟩ := Prod.mk.inj (Option.some.inj e3)
      have z2 := z.sh (M1 := M1) (N1 := N1) (d := 100 * l1 - 1600) (fun f k y => cM f _ k y) (fun k y1 y2 => by
        have := cN (k - 1600) (by omega) (by omega)
        rw [show 100 * l1 + (k - 1600) = k + (100 * l1 - 1600) by omega, show 1600 + (k - 1600) = k by omega] at this
        exact this) (by omega) (by omega)
      rw [show (100 : Int) * 16 + (100 * l1 - 1600) = 100 * l1 by omega, show (100 : Int) * 16 + Nt 36 0 16 + (100 * l1 - 1600) = 100 * l1 + N1 36 0 l1 by omega] at z2
      exact z2
    have F : ∀ (f : Nat) (i k : Int), ¬ (f = 6 ∨ f = 25 ∨ f = 26 ∨ (f = 0 ∧ (k = 7 ∨ k = 10)) ∨ (f = 2 ∧ k = 7) ∨ (f = 8 ∧ (k = 11 ∨ k = 12)) ∨ f = 11 ∨ (20 ≤ f ∧ f ≤ 24)) → M1 f i k = M f i k := fun f i k y => fr f i k (by omega) (fun z => by unfold CTX at z; omega)
    have G : ∀ (f : Nat) (i k : Int), RL2 f i k → ¬ (f = 30 ∨ f = 36 ∨ f = 35) → N1 f i k = N f i k := fun f i k y y2 => k2 f i k y (by omega) (by omega)
    refine ⟨⟨⟨⟨⟨t1.kk (fun f i k y => F f i k (by unfold C1r at y; omega)) (fun f i k y => G f i k (Or.inl y) (by unfold C2r at y; omega)), t2.kk (fun f i k y => F f i k (by unfold C1f at y; omega)) (fun f i k y => G f i k (Or.inr (Or.inl y)) (by unfold C2f at y; omega)), t3.kk b17.2 (fun f i k y => F f i k (by unfold C1s at y; omega)) (fun f i k y => G f i k (Or.inr (Or.inr (Or.inl y))) (by unfold C2s at y; omega)), t4.kk b17.2 (fun f i k y => F f i k (by unfold C1p at y; omega)) (fun f i k y => G f i k (Or.inr (Or.inr (Or.inr (Or.inl y)))) (by unfold C2p at y; omega)), t5.kk b17.2 (fun f i k y => F f i k (by unfold C1o at y; omega)) (fun f i k y => G f i k (Or.inr (Or.inr (Or.inr (Or.inr (Or.inl y))))) (by unfold C2o at y; omega))⟩, t6.kk (fun f i k y => F f i k (by unfold C1n at y; omega)) (fun f i k y => G f i k (Or.inr (Or.inr (Or.inr (Or.inr (Or.inr (Or.inl y)))))) (by unfold C2n at y; omega)), fun c y1 y2 => ?_, t8.kk (fun f i k y => G f i k (Or.inr (Or.inr (Or.inr (Or.inr (Or.inr (Or.inr (Or.inr y))))))) (by unfold C2l at y; omega))⟩, fun c y1 y2 => (G 60 0 c (by unfold RL2 C2c; omega) (by omega)).trans (it.2 c y1 y2)⟩, CA.zero a6⟩, ?_⟩
    · rw [n17] at y2
      obtain ⟨⟨d0, d1, d2, d3, d4, d5⟩, ⟨g0, g1⟩, tt⟩ := t7 c y1 y2
      have m6 : ∀ k : Int, ¬ (k = 11 ∨ k = 12) → M1 8 c k = M 8 c k := fun k y => F 8 c k (by omega)
      have n6 : ∀ f : Nat, (13 ≤ f ∧ f ≤ 18) ∨ f = 60 → N1 f 0 c = N f 0 c := fun f y => G f 0 c (by unfold RL2 C2c; omega) (by omega)
      refine ⟨⟨?_, ?_, ?_, ?_, ?_, ?_⟩, ⟨?_, ?_⟩, fun y => ?_⟩
      · rw [m6 0 (by omega), n6 13 (by omega)]; exact d0
      · rw [m6 1 (by omega), n6 14 (by omega)]; exact d1
      · rw [m6 2 (by omega), n6 15 (by omega)]; exact d2
      · rw [m6 3 (by omega), n6 16 (by omega)]; exact d3
      · rw [m6 4 (by omega), n6 17 (by omega)]; exact d4
      · rw [m6 5 (by omega), n6 18 (by omega)]; exact d5
      · by_cases q : c = l1
        · rw [q, a5, b3]
        · rw [fr 8 c 12 (by omega) (fun z => by unfold CTX at z; omega), k2 30 0 c (by unfold RL2 C2c; omega) (by omega) (by omega)]; exact g0
      · rw [m6 13 (by omega), n6 60 (by omega)]; exact g1
      · by_cases q : c = l1
        · rw [q, a4]; exact new
        · have e30 : N1 30 0 c = N 30 0 c := k2 30 0 c (by unfold RL2 C2c; omega) (by omega) (by omega)
          have e36 : N1 36 0 c = N 36 0 c := k2 36 0 c (by unfold RL2 C2c; omega) (by omega) (by omega)
          have e11 : M1 8 c 11 = M 8 c 11 := fr 8 c 11 (by omega) (fun z => by unfold CTX at z; omega)
          rw [e30] at y
          rw [e36, e11]
          have b36 : N 36 0 c ≤ 100 := (iN 36 0 c).2
          exact (tt y).kk (fun f k z => fr f _ k (by have z2 : f = 11 ∨ (20 ≤ f ∧ f ≤ 24) := z; omega) (fun _ => tx.1 c y1 (by omega))) (fun k q1 q2 => k2 35 0 k (by unfold RL2 C2c; omega) (by omega) (by omega))
    · exact tx.swapc (l := l1) (by omega) a3 a4 (fun c q => fr 8 c 11 (by omega) (fun z => by unfold CTX at z; omega)) (fun i => F 48 0 i (by omega))
theorem cc_rule (fu : Nat) (hfu : 4000 ≤ fu) (M : jm_M) (iM : bI bx1 M) (l1 : Int) (h1 : jm_in l1) : wp (fX11_rule fu M l1) (fun r M1 => (r < 0 ∧ FR0 M M1) ∨ ((0 ≤ l1 ∧ l1 ≤ 99 ∧ M 3 0 3 < 10) ∧ (r = M 3 0 3 + 1 ∧ M1 0 0 10 = M 48 0 (M 3 0 3) ∧ M1 48 0 (M 3 0 3) = M 0 0 10 ∧ M1 35 0 (M 3 0 3) = l1 ∧ M1 3 0 3 = M 3 0 3 + 1) ∧ (∀ (f : Nat) (i k : Int), ¬ (f = 6 ∨ f = 25 ∨ f = 26 ∨ (f = 0 ∧ (k = 7 ∨ k = 10)) ∨ ((f = 35 ∨ f = 48) ∧ k = M 3 0 3) ∨ (f = 3 ∧ k = 3)) → (CTX f 0 0 → i ≠ M 0 0 10) → M1 f i k = M f i k) ∧ ∃ Mt : jm_M, fX3_firstWrong_a12 fu (jm_u M 0 0 7 0) (M 0 0 7) (M 0 0 10) 0 = some (-1, Mt) ∧ ∀ (f : Nat) (i k : Int), CTX f 0 0 → M1 f i k = Mt f i k)) := by
  have b3 : 0 ≤ M 3 0 3 ∧ M 3 0 3 ≤ 10 := iM 3 0 3
  have b7 : 0 ≤ M 0 0 7 ∧ M 0 0 7 ≤ 100 := iM 0 0 7
  have b10 : 0 ≤ M 0 0 10 ∧ M 0 0 10 ≤ 16 := iM 0 0 10
  obtain ⟨i2, k2⟩ := c_tape0 iM
  have e10 : (jm_u M 0 0 7 0) 0 0 10 = M 0 0 10 := jm_une_k (by decide)
  have e3 : (jm_u M 0 0 7 0) 3 0 3 = M 3 0 3 := jm_une_f (by decide)
  unfold fX11_rule
  refine wp_b (c_take M iM) (fun v1 M2 h => ?_)
  obtain ⟨rfl, rfl⟩ := h
  refine wp_bp (s_fX11_isDay _ i2 l1 h1) (fun v4 h4 => ?_)
  rw [e3]
  refine wp_ite (fun c => wp_ret (Or.inl ⟨by decide, fun f i k y _ => jm_une (by omega)⟩)) (fun c => ?_)
  refine wp_bp (x_isIndex _ (M 3 0 3) 10) (fun v5 h5 => ?_)
  rw [e10]
  refine wp_ite (fun c => wp_ret (Or.inl ⟨by decide, fun f i k y _ => jm_une (by omega)⟩)) (fun c2 => ?_)
  refine wp_T ⟨by omega, by omega⟩ ?_
  obtain ⟨v9, M10, e9, -⟩ := s_fX3_firstWrong_a12 fu hfu (jm_u M 0 0 7 0) i2 (M 0 0 7) (M 0 0 10) 0 b7 b10 ⟨by decide, by decide⟩
  obtain ⟨i10, r10, fr⟩ := FR0.of hfu iM b7 ⟨by decide, by decide⟩ e9
  rw [e9, jm_bsm]
  have f10 : M10 0 0 10 = M 0 0 10 := fr 0 0 10 (by omega) (fun c => by unfold CTX at c; omega)
  have f3 : M10 3 0 3 = M 3 0 3 := fr 3 0 3 (by omega) (fun c => by unfold CTX at c; omega)
  have f48 : M10 48 0 (M 3 0 3) = M 48 0 (M 3 0 3) := fr 48 0 _ (by omega) (fun c => by unfold CTX at c; omega)
  have c48 : 0 ≤ M10 48 0 (M 3 0 3) ∧ M10 48 0 (M 3 0 3) ≤ 16 := i10 48 0 _
  refine wp_ite (fun c3 => ?_) (fun c3 => ?_)
  · refine wp_T ⟨by omega, by omega⟩ ?_
    have tk : wp (fX0_takeRule M10 (M10 0 0 10) l1) (fun r M1 => r = M 48 0 (M 3 0 3) ∧ (M1 48 0 (M 3 0 3) = M 0 0 10 ∧ M1 35 0 (M 3 0 3) = l1 ∧ M1 3 0 3 = M 3 0 3 + 1) ∧ ∀ (f : Nat) (i k : Int), ¬ (((f = 35 ∨ f = 48) ∧ k = M 3 0 3) ∨ (f = 3 ∧ k = 3)) → M1 f i k = M10 f i k) := by
      unfold fX0_takeRule
      refine wp_bp (x_isIndex M10 (M10 3 0 3) 10) (fun v6 h6 => ?_)
      rw [f3] at h6 ⊢
      refine wp_F (by omega) (wp_T ⟨by omega, by omega⟩ (wp_T ⟨by omega, by omega⟩ (wp_T ⟨by omega, by omega⟩ (wp_sv (fun M11 u11 => ?_)))))
      have e11 : M11 3 0 3 = M 3 0 3 := by rw [u11, jm_une_f (by decide)]; exact f3
      rw [e11]
      refine wp_T ⟨by omega, by omega⟩ (wp_sv (fun M14 u14 => ?_))
      have e14 : M14 3 0 3 = M 3 0 3 := by rw [u14, jm_une_f (by decide)]; exact e11
      rw [e14, jm_wid (x := M 3 0 3 + 1) (by omega) (by omega)]
      refine wp_sv (fun M16 u16 => wp_ret ⟨f48, ⟨?_, ?_, ?_⟩, fun f i k y => ?_⟩)
      · rw [u16, jm_une_f (by decide), u14, jm_une_f (by decide), u11, jm_ueq]; exact f10
      · rw [u16, jm_une_f (by decide), u14]; exact jm_ueq
      · rw [u16]; exact jm_ueq
      · rw [u16, jm_une (by omega), u14, jm_une (by omega), u11, jm_une (by omega)]
    obtain ⟨v19, M20, e19, g1, ⟨g2, g3, g4⟩, g5⟩ := tk
    rw [e19, jm_bsm]
    refine wp_sv (fun M22 u22 => ?_)
    have h22 : M22 3 0 3 = M 3 0 3 + 1 := by rw [u22, jm_une_f (by decide)]; exact g4
    rw [h22]
    refine wp_ret (Or.inr ⟨by omega, ⟨rfl, ?_, ?_, ?_, h22⟩, fun f i k y y2 => ?_, M10, ?_, fun f i k y => ?_⟩)
    · rw [u22, jm_ueq]; exact g1
    · rw [u22, jm_une_f (by decide)]; exact g2
    · rw [u22, jm_une_f (by decide)]; exact g3
    · rw [u22, jm_une (by omega), g5 f i k (by omega)]
      exact fr f i k (by omega) y2
    · rw [c3]
    · have y3 : f = 11 ∨ (20 ≤ f ∧ f ≤ 24) := y
      rw [u22, jm_une_f (by omega), g5 f i k (by omega)]
  · have w : jm_w ((-1) - v9) = -1 - v9 := jm_wid (by omega) (by omega)
    rw [w]
    exact wp_ret (Or.inl ⟨by omega, fr⟩)
theorem dd_rule (fu : Nat) (hfu : 4000 ≤ fu) (N : jm_M) (iN : bI bx2 N) (l1 : Int) (h1 : jm_in l1) : wp (fX12_rule fu N l1) (fun r N1 => Kp RL2 N N1 ∧ (r < 0 ∨ ((0 ≤ l1 ∧ l1 ≤ 99 ∧ N 0 0 72 < 10) ∧ r = N 0 0 72 + 1))) := by
  have b72 : 0 ≤ N 0 0 72 ∧ N 0 0 72 ≤ 10 := iN 0 0 72
  obtain ⟨i2, k2⟩ := d_first iN
  unfold fX12_rule
  refine wp_sv (fun N2 u2 => ?_)
  rw [← u2] at i2 k2
  have e72 : N2 0 0 72 = N 0 0 72 := k2 0 0 72 (by decide)
  have no : ∀ M6 : jm_M, M6 = jm_u N2 0 0 40 0 → Kp RL2 N M6 := fun M6 u6 f i k y => by
    unfold RL2 C2r C2f C2s C2p C2o C2n C2c C2l at y
    rw [u6, jm_une (by omega), u2, jm_une (by omega)]
  refine wp_bp (s_fX12_isDay N2 i2 l1 h1) (fun v2 h2 => ?_)
  refine wp_ite (fun c => wp_sv (fun M6 u6 => wp_ret ⟨no M6 u6, Or.inl (by decide)⟩)) (fun c => ?_)
  refine wp_ite (fun c2 => wp_sv (fun M6 u6 => wp_ret ⟨no M6 u6, Or.inl (by decide)⟩)) (fun c2 => ?_)
  have w6 : jm_w (6 + N2 0 0 72) = 6 + N 0 0 72 := by rw [e72]; exact jm_wid (by omega) (by omega)
  rw [w6]
  obtain ⟨v7, M8, e7, ro⟩ := s_reads fu hfu N2 i2 (6 + N 0 0 72) 0 ⟨by omega, by omega⟩
  have rl := ro.rl (N := N) (by omega) u2
  obtain ⟨i8, k8, -⟩ := ro
  rw [e7, jm_bsm]
  have f72 : M8 0 0 72 = N 0 0 72 := (k8 0 0 72 (by unfold TRD; omega)).trans e72
  refine wp_ite (fun c3 => ?_) (fun c3 => wp_ret ⟨rl, Or.inl (by omega)⟩)
  rw [f72]
  refine wp_T ⟨by omega, by omega⟩ (wp_sv (fun M17 u17 => ?_))
  have e17 : M17 0 0 72 = N 0 0 72 := by rw [u17, jm_une_f (by decide)]; exact f72
  rw [e17, jm_wid (x := N 0 0 72 + 1) (by omega) (by omega)]
  refine wp_sv (fun M19 u19 => wp_ret ⟨fun f i k y => ?_, Or.inr ⟨by omega, by rw [u19]; exact jm_ueq⟩⟩)
  have y2 := y
  unfold RL2 C2r C2f C2s C2p C2o C2n C2c C2l at y2
  rw [u19, jm_une (by omega), u17, jm_une (by omega)]
  exact rl f i k y
theorem t_rule (fu : Nat) (hfu : 4000 ≤ fu) (M N : jm_M) (iv : IW M N) (it : IT M N) (ca : CA fu M N) (tx : TXD M) (l1 : Int) (h1 : jm_in l1) : J2 (fX11_rule fu M l1) (fX12_rule fu N l1) (fun _ M1 _ N1 => (IT M1 N1 ∧ CA fu M1 N1) ∧ TXD M1) := by
  have iM := iv.1.1
  have iN := iv.1.2.1
  have b17 : 0 ≤ N 0 0 17 ∧ N 0 0 17 ≤ 6 := iN 0 0 17
  have b3 : 0 ≤ M 3 0 3 ∧ M 3 0 3 ≤ 10 := iM 3 0 3
  obtain ⟨v, M1, e1, a⟩ := cc_rule fu hfu M iM l1 h1
  obtain ⟨w, N1, e2, k2, -⟩ := dd_rule fu hfu N iN l1 h1
  refine ⟨v, M1, w, N1, e1, e2, ?_⟩
  have F : ∀ (f : Nat) (i k : Int), ¬ (f = 6 ∨ f = 25 ∨ f = 26 ∨ f = 0 ∨ f = 35 ∨ f = 48 ∨ f = 3) → (CTX f 0 0 → i ≠ M 0 0 10) → M1 f i k = M f i k := fun f i k y y2 => by
    rcases a with ⟨-, fr⟩ | ⟨-, -, fr, -⟩
    · exact fr f i k (by omega) y2
    · exact fr f i k (by omega) y2
  refine ⟨⟨it.keep iN (fun f i k y => ?_) (fun c f k y1 y2 y3 y4 => ?_) k2, ca.keep iN (fun f i k y => ?_) k2⟩, ?_⟩
  · unfold RL1 C1r C1f C1s C1p C1o C1n C1c at y
    exact F f i k (by omega) (fun z => by unfold CTX at z; omega)
  · have z : f = 11 ∨ (20 ≤ f ∧ f ≤ 24) := y4
    exact F f _ k (by omega) (fun _ => tx.1 c y1 (by omega))
  · unfold CR7 at y
    exact F f i k (by omega) (fun z => by unfold CTX at z; omega)
  · rcases a with ⟨-, fr⟩ | ⟨a0, ⟨-, a1, a2, -, -⟩, fr, -⟩
    · exact tx.eq (fr 0 0 10 (by omega) (fun z => by unfold CTX at z; omega)) (fun c => fr 8 c 11 (by omega) (fun z => by unfold CTX at z; omega)) (fun i => fr 48 0 i (by omega) (fun z => by unfold CTX at z; omega))
    · exact tx.swapr (l := M 3 0 3) (by omega) a1 a2 (fun c => fr 8 c 11 (by omega) (fun z => by unfold CTX at z; omega)) (fun i q => fr 48 0 i (by omega) (fun z => by unfold CTX at z; omega))
