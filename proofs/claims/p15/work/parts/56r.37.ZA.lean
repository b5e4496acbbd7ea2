/-! calls that ask -/
theorem RUN.kc {M M1 N : jm_M} (h : RUN M N) (k : Kp CRC M M1) : RUN M1 N := by
  have e9 : M1 9 = M 9 := funext fun i => funext fun j => k 9 i j (by unfold CRC; omega)
  have e29 : M1 29 = M 29 := funext fun i => funext fun j => k 29 i j (by unfold CRC; omega)
  have e30 : M1 30 = M 30 := funext fun i => funext fun j => k 30 i j (by unfold CRC; omega)
  have e31 : M1 31 = M 31 := funext fun i => funext fun j => k 31 i j (by unfold CRC; omega)
  have e32 : M1 32 = M 32 := funext fun i => funext fun j => k 32 i j (by unfold CRC; omega)
  have e33 : M1 33 = M 33 := funext fun i => funext fun j => k 33 i j (by unfold CRC; omega)
  have e34 : M1 34 = M 34 := funext fun i => funext fun j => k 34 i j (by unfold CRC; omega)
  have e6 : M1 2 0 6 = M 2 0 6 := k 2 0 6 (by unfold CRC; omega)
  unfold RUN RUNc RTm at h ⊢
  rw [e9, e29, e30, e31, e32, e33, e34, e6]
  exact h
theorem RL1.ta {M M1 : jm_M} (k : Kp TA M M1) : Kp RL1 M M1 := k.weak fun f i k y => by
  unfold RL1 C1r C1f C1s C1p C1o C1n C1c at y
  unfold TA
  omega
theorem RL1.tp {M M1 : jm_M} (k : Kp TP M M1) : Kp RL1 M M1 := k.weak fun f i k y => by
  unfold RL1 C1r C1f C1s C1p C1o C1n C1c at y
  unfold TP
  omega
theorem RL2.ta {N N1 : jm_M} (k : Kp TA2 N N1) : Kp RL2 N N1 := k.weak fun f i k y => by
  unfold RL2 C2r C2f C2s C2p C2o C2n C2c C2l at y
  unfold TA2
  omega
theorem RL2.kr {N N1 : jm_M} (k : Kp KR2 N N1) : Kp RL2 N N1 := k.weak fun f i k y => by
  unfold RL2 C2r C2f C2s C2p C2o C2n C2c C2l at y
  unfold KR2
  omega
theorem CR7.tj {M M1 : jm_M} (k : Kp TJ M M1) : Kp CR7 M M1 := k.weak fun f i k y => by
  unfold CR7 at y
  unfold TJ
  omega
theorem IT.ta {M N M1 N1 : jm_M} (h : IT M N) (iN : bI bx2 N) (k1 : Kp TA M M1) (k2 : Kp RL2 N N1) : IT M1 N1 := h.keep iN (RL1.ta k1) (fun c f k _ _ _ y => k1 f _ k (by unfold CTX at y; unfold TA; omega)) k2
theorem IT.tp {M N M1 N1 : jm_M} (h : IT M N) (iN : bI bx2 N) (k1 : Kp TP M M1) (k2 : Kp RL2 N N1) : IT M1 N1 := h.keep iN (RL1.tp k1) (fun c f k _ _ _ y => k1 f _ k (by unfold CTX at y; unfold TP; omega)) k2
theorem k_reckon (fu : Nat) (hfu : 4000 ≤ fu) {M N : jm_M} (iM : bI bx1 M) (iN : bI bx2 N) (tl : TLD M N) (ca : CA fu M N) : wp (fX2_reckon fu M) (fun _ M1 => bI bx1 M1 ∧ Kp TA M M1 ∧ M1 2 0 7 ≠ 0 ∧ CA fu M1 N) := by
  refine wp_mono (wp_and (s_fX2_reckon fu hfu M iM) (Q := fun _ M1 => M1 2 0 7 ≠ 0 ∧ CA fu M1 N) ?_) (fun r M1 q => ⟨q.1.1, q.1.2.1, q.2.1, q.2.2⟩)
  unfold fX2_reckon
  refine wp_ite (fun z => ?_) (fun z => wp_ret ⟨z, ca⟩)
  obtain ⟨v, M1, w, N1, e1, e2, q⟩ := j_run fu hfu M N iM iN tl
  rw [e1, jm_bsm]
  refine wp_sv (fun M5 u5 => wp_ret ⟨by rw [u5, jm_ueq]; decide, fun _ => ⟨M, M1, v, iM, e1, tl, fun f i k y => ?_⟩⟩)
  rw [u5, jm_une (by unfold CRC at y; omega)]
/-- the race asked of both -/
theorem j_reckon (fu : Nat) (hfu : 4000 ≤ fu) {M N : jm_M} (iM : bI bx1 M) (iN : bI bx2 N) (tl : TLD M N) (ca : CA fu M N) : J2 (fX2_reckon fu M) (fX12_runs fu N) (fun _ M1 _ N1 => (bI bx1 M1 ∧ bI bx2 N1) ∧ (Kp TA M M1 ∧ Kp KR2 N N1) ∧ CA fu M1 N1 ∧ TLD M1 N1 ∧ RUN M1 N1) := by
  obtain ⟨r, M5, e, i5, k5, f5, c5⟩ := k_reckon fu hfu iM iN tl ca
  obtain ⟨M0, M1, v, i0, er, tl0, kc⟩ := c5 f5
  obtain ⟨v', M1', w, N1, e1, e2, ⟨-, j1, -, run, -, kr2⟩, -⟩ := j_run fu hfu M0 N i0 iN tl0
  rw [er] at e1
  obtain ⟨rfl, rfl⟩ := Prod.mk.inj (Option.some.inj e1)
  exact ⟨r, M5, w, N1, e, e2, ⟨i5, j1⟩, ⟨k5, kr2⟩, c5.keep iN Kp.rf (RL2.kr kr2), tl.kk iN (RL1.ta k5) (fun c f k _ _ _ y => k5 f _ k (by unfold CTX at y; unfold TA; omega)) (RL2.kr kr2), run.kc kc⟩
theorem j_reckon2 (fu : Nat) (hfu : 4000 ≤ fu) {M N : jm_M} (iM : bI bx1 M) (iN : bI bx2 N) (tl : TLD M N) (ca : CA fu M N) : J2 (fX2_reckon fu M) (fX12_runs fu N) (fun _ M1 _ N1 => ((bI bx1 M1 ∧ bI bx2 N1) ∧ (Kp TA M M1 ∧ Kp KR2 N N1) ∧ CA fu M1 N1 ∧ TLD M1 N1 ∧ RUN M1 N1) ∧ GRW N1 ∧ ∀ c : Int, 0 ≤ c → c < N1 0 0 17 → N1 39 0 c ≠ 0) := by
  obtain ⟨v, M1, w, N1, e1, e2, q⟩ := j_reckon fu hfu iM iN tl ca
  obtain ⟨r, M5, e, i5, k5, f5, c5⟩ := k_reckon fu hfu iM iN tl ca
  obtain ⟨M0, M2, v2, i0, er, tl0, kc⟩ := c5 f5
  obtain ⟨v', M1', w', N1', e1', e2', -, -, g⟩ := j_run fu hfu M0 N i0 iN tl0
  rw [e2] at e2'
  obtain ⟨rfl, rfl⟩ := Prod.mk.inj (Option.some.inj e2')
  exact ⟨v, M1, w, N1, e1, e2, q, g⟩
theorem kk_leads37 (fu : Nat) (hfu : 4000 ≤ fu) (M : jm_M) (iM : bI bx1 M) : ∀ (n : Nat) (l1 l2 l3 : Int), 0 ≤ l3 → l3 ≤ 12 → 12 - l3 < (n : Int) → wp (fX11_leads_37 fu n M l1 l2 l3) (fun _ M1 => M1 = M) := by
  intro n
  induction n with
  | zero => intro l1 l2 l3 _ h1 hm; exfalso; omega
  | succ n ih =>
    intro l1 l2 l3 h0 h1 hm
    show wp (gX11_leads_37 fu (fX11_leads_37 fu n) M l1 l2 l3) _
    unfold gX11_leads_37
    have b10 : 2 ≤ M 1 0 0 ∧ M 1 0 0 ≤ 5 := iM 1 0 0
    have b11 : 1 ≤ M 1 0 1 ∧ M 1 0 1 ≤ 12 := iM 1 0 1
    have w1 : jm_w (M 1 0 0 - 1) = M 1 0 0 - 1 := jm_wid (by omega) (by omega)
    have w2 : jm_w (l3 + 1) = l3 + 1 := jm_wid (by omega) (by omega)
    rw [w1, w2]
    refine wp_ite (fun _ => wp_ret rfl) (fun z => ?_)
    refine wp_bp (s_fX9_lineOf M iM l3 (M 1 0 0 - 1) ⟨by omega, by omega⟩ ⟨by omega, by omega⟩) (fun v4 g4 => ?_)
    refine wp_bp (s_fX2_inOrder fu hfu M iM v4 0 ⟨by omega, by omega⟩ ⟨by decide, by decide⟩) (fun v7 g7 => ?_)
    refine wp_ite (fun _ => wp_ret rfl) (fun _ => wp_ite (fun _ => ?_) (fun _ => ?_))
    · exact ih l1 v7 (l3 + 1) (by omega) (by omega) (by omega)
    · exact ih (jm_w (l1 + 1)) v7 (l3 + 1) (by omega) (by omega) (by omega)
theorem kk_wall57 (fu : Nat) (hfu : 4000 ≤ fu) (M : jm_M) (iM : bI bx1 M) (l1 l2 l3 l4 : Int) (h2 : 0 ≤ l2 ∧ l2 ≤ 2147483647) : ∀ (n : Nat) (l5 l6 : Int), 0 ≤ l6 → l6 ≤ 6 → 6 - l6 < (n : Int) → wp (fX11_wall_57 fu n M l1 l2 l3 l4 l5 l6) (fun _ M1 => M1 = M) := by
  intro n
  induction n with
  | zero => intro l5 l6 _ h1 hm; exfalso; omega
  | succ n ih =>
    intro l5 l6 h0 h1 hm
    show wp (gX11_wall_57 fu (fX11_wall_57 fu n) M l1 l2 l3 l4 l5 l6) _
    unfold gX11_wall_57
    have w2 : jm_w (l6 + 1) = l6 + 1 := jm_wid (by omega) (by omega)
    refine wp_ite (fun _ => wp_ret rfl) (fun z => wp_ite (fun _ => wp_ret rfl) (fun z2 => ?_))
    refine wp_bp (s_fX2_endedByWall fu hfu M iM l6 l2 ⟨by omega, by omega⟩ h2) (fun v4 g4 => ?_)
    have w4 : jm_w (v4 - 1) = v4 - 1 := jm_wid (by omega) (by omega)
    rw [w4]
    refine wp_T ⟨by omega, by omega⟩ (wp_bp (s_fX6_timeOrStart M iM l6 (v4 - 1) ⟨by omega, by omega⟩ ⟨by omega, by omega⟩) (fun v8 g8 => ?_))
    have g : ∀ s0 : Int, wp (gX11_wall_132 fu (fX11_wall_57 fu n) M l1 l2 l3 l4 l5 l6 v4 s0) (fun _ M1 => M1 = M) := fun s0 => by
      unfold gX11_wall_132
      rw [w2]
      have x := fun l5' : Int => ih l5' (l6 + 1) (by omega) (by omega) (by omega)
      exact wp_ite (fun _ => x _) (fun _ => wp_ite (fun _ => wp_ite (fun _ => x _) (fun _ => x _)) (fun _ => x _))
    exact wp_ite (fun _ => g _) (fun _ => wp_ite (fun _ => wp_ite (fun _ => g _) (fun _ => g _)) (fun _ => g _))
def KRS (f : Nat) (_ k : Int) : Prop := f ≠ 13 ∧ ¬ (f = 0 ∧ k = 9)
theorem kk_result28 (fu : Nat) (hfu : 4000 ≤ fu) (M0 : jm_M) : ∀ (n : Nat) (M : jm_M) (l2 l3 : Int), bI bx1 M → Kp KRS M0 M → 0 ≤ l2 → l2 ≤ l3 → l3 ≤ 6 → 6 - l3 < (n : Int) → wp (fX11_result_28 fu n M l2 l3) (fun _ M1 => Kp KRS M0 M1) := by
  intro n
  induction n with
  | zero => intro M l2 l3 _ _ _ _ h1 hm; exfalso; omega
  | succ n ih =>
    intro M l2 l3 iM kM h0 h1 h2 hm
    show wp (gX11_result_28 fu (fX11_result_28 fu n) M l2 l3) _
    unfold gX11_result_28
    have b5 : 0 ≤ M 2 0 5 ∧ M 2 0 5 ≤ 6 := iM 2 0 5
    have w2 : jm_w (l2 + 1) = l2 + 1 := jm_wid (by omega) (by omega)
    have w3 : jm_w (l3 + 1) = l3 + 1 := jm_wid (by omega) (by omega)
    rw [w2, w3]
    have z9 : Kp KRS M0 (jm_u M 0 0 9 l2) := fun f i k y => by rw [jm_une (by unfold KRS at y; omega)]; exact kM f i k y
    refine wp_ite (fun _ => wp_ret z9) (fun z => wp_ite (fun _ => wp_ret z9) (fun z2 => ?_))
    refine wp_bp (s_fX5_placeAmong fu hfu M iM l3 (-1) ⟨by omega, by omega⟩ (jm_inL (by decide) (by decide))) (fun v6 g6 => ?_)
    refine wp_bp (x_isIndex M v6 6) (fun v9 g9 => wp_ite (fun _ => ?_) (fun z3 => wp_T ⟨by omega, by omega⟩ ?_))
    · exact ih M l2 (l3 + 1) iM kM h0 (by omega) (by omega) (by omega)
    · refine wp_si iM (jm_inL (by omega) (by omega)) (fun M16 u16 i16 => ?_)
      exact ih M16 (l2 + 1) (l3 + 1) i16 (fun f i k y => by rw [u16, jm_une_f y.1]; exact kM f i k y) (by omega) (by omega) (by omega) (by omega)
theorem kk_of (fu : Nat) (hfu : 4000 ≤ fu) {M N : jm_M} (iM : bI bx1 M) (iN : bI bx2 N) (tl : TLD M N) (ca : CA fu M N) (l1 l2 : Int) (h1 : jm_in l1) (h2 : jm_in l2) : wp (fX11_of fu M l1 l2) (fun _ M1 => CA fu M1 N) := by
  have b10 : 2 ≤ M 1 0 0 ∧ M 1 0 0 ≤ 5 := iM 1 0 0
  have b11 : 1 ≤ M 1 0 1 ∧ M 1 0 1 ≤ 12 := iM 1 0 1
  have b5 : 0 ≤ M 2 0 5 ∧ M 2 0 5 ≤ 6 := iM 2 0 5
  unfold fX11_of
  refine wp_bp (s_fX2_has M iM l1 h1) (fun v1 g1 => wp_ite (fun _ => wp_ret ca) (fun z1 => ?_))
  refine wp_bp (s_fX11_isWithin M iM l2 0 10 h2 (jm_inL (by decide) (by decide)) (jm_inL (by decide) (by decide))) (fun v2 g2 => wp_ite (fun _ => wp_ret ca) (fun z2 => ?_))
  refine wp_b (k_reckon fu hfu iM iN tl ca) (fun v9 M10 q => ?_)
  obtain ⟨i10, k10, -, c10⟩ := q
  refine wp_T ⟨by omega, by omega⟩ ?_
  exact wp_bp (s_fX6_tell M10 i10 l1 l2 ⟨by omega, by omega⟩ ⟨by omega, by omega⟩) (fun v g => wp_ret c10)
theorem kk_at (fu : Nat) (hfu : 4000 ≤ fu) {M N : jm_M} (iM : bI bx1 M) (iN : bI bx2 N) (tl : TLD M N) (ca : CA fu M N) (l1 l2 l3 : Int) (h1 : jm_in l1) (h2 : jm_in l2) (h3 : jm_in l3) : wp (fX11_at fu M l1 l2 l3) (fun _ M1 => CA fu M1 N) := by
  have b10 : 2 ≤ M 1 0 0 ∧ M 1 0 0 ≤ 5 := iM 1 0 0
  have b11 : 1 ≤ M 1 0 1 ∧ M 1 0 1 ≤ 12 := iM 1 0 1
  have b5 : 0 ≤ M 2 0 5 ∧ M 2 0 5 ≤ 6 := iM 2 0 5
  unfold fX11_at
  refine wp_bp (s_fX2_has M iM l1 h1) (fun v1 g1 => wp_ite (fun _ => wp_ret ca) (fun z1 => ?_))
  refine wp_bp (s_fX9_hasLine M iM l2 l3 h2 h3) (fun v2 g2 => wp_ite (fun _ => wp_ret ca) (fun z2 => ?_))
  refine wp_b (k_reckon fu hfu iM iN tl ca) (fun v9 M10 q => ?_)
  obtain ⟨i10, k10, -, c10⟩ := q
  refine wp_T ⟨by omega, by omega⟩ ?_
  exact wp_bp (s_fX9_lineOf M10 i10 l2 l3 ⟨by omega, by omega⟩ ⟨by omega, by omega⟩) (fun v12 g12 => wp_bp (s_fX6_timeAt M10 i10 l1 v12 ⟨by omega, by omega⟩ ⟨by omega, by omega⟩) (fun v g => wp_ret c10))
theorem kk_led (fu : Nat) (hfu : 4000 ≤ fu) {M N : jm_M} (iM : bI bx1 M) (iN : bI bx2 N) (tl : TLD M N) (ca : CA fu M N) (l1 l2 : Int) (h1 : jm_in l1) (h2 : jm_in l2) : wp (fX11_led fu M l1 l2) (fun _ M1 => CA fu M1 N) := by
  have b10 : 2 ≤ M 1 0 0 ∧ M 1 0 0 ≤ 5 := iM 1 0 0
  have b11 : 1 ≤ M 1 0 1 ∧ M 1 0 1 ≤ 12 := iM 1 0 1
  have b5 : 0 ≤ M 2 0 5 ∧ M 2 0 5 ≤ 6 := iM 2 0 5
  unfold fX11_led
  refine wp_bp (x_isIndex M l1 (M 1 0 1)) (fun v1 g1 => wp_ite (fun _ => wp_ret ca) (fun z1 => ?_))
  refine wp_bp (x_isIndex M l2 (M 2 0 5)) (fun v2 g2 => wp_ite (fun _ => wp_ret ca) (fun z2 => ?_))
  refine wp_b (k_reckon fu hfu iM iN tl ca) (fun v9 M10 q => ?_)
  obtain ⟨i10, k10, -, c10⟩ := q
  have e10 : M10 1 0 0 = M 1 0 0 := k10 1 0 0 (by unfold TA; omega)
  have w10 : jm_w (M10 1 0 0 - 1) = M 1 0 0 - 1 := by rw [e10]; exact jm_wid (by omega) (by omega)
  rw [w10]
  exact wp_bp (s_fX9_lineOf M10 i10 l1 (M 1 0 0 - 1) ⟨by omega, by omega⟩ ⟨by omega, by omega⟩) (fun v12 g12 => wp_bp (s_fX2_inOrder fu hfu M10 i10 v12 l2 ⟨by omega, by omega⟩ ⟨by omega, by omega⟩) (fun v g => wp_ret c10))
theorem kk_waited (fu : Nat) (hfu : 4000 ≤ fu) {M N : jm_M} (iM : bI bx1 M) (iN : bI bx2 N) (tl : TLD M N) (ca : CA fu M N) (l1 : Int) (h1 : jm_in l1) : wp (fX11_waited fu M l1) (fun _ M1 => CA fu M1 N) := by
  have b10 : 2 ≤ M 1 0 0 ∧ M 1 0 0 ≤ 5 := iM 1 0 0
  have b11 : 1 ≤ M 1 0 1 ∧ M 1 0 1 ≤ 12 := iM 1 0 1
  have b5 : 0 ≤ M 2 0 5 ∧ M 2 0 5 ≤ 6 := iM 2 0 5
  unfold fX11_waited
  refine wp_bp (s_fX2_has M iM l1 h1) (fun v1 g1 => wp_ite (fun _ => wp_ret ca) (fun z1 => ?_))
  refine wp_b (k_reckon fu hfu iM iN tl ca) (fun v9 M10 q => ?_)
  obtain ⟨i10, k10, -, c10⟩ := q
  exact wp_T ⟨by omega, by omega⟩ (wp_ret c10)
theorem kk_leads (fu : Nat) (hfu : 4000 ≤ fu) {M N : jm_M} (iM : bI bx1 M) (iN : bI bx2 N) (tl : TLD M N) (ca : CA fu M N) : wp (fX11_leads fu M) (fun _ M1 => CA fu M1 N) := by
  have b10 : 2 ≤ M 1 0 0 ∧ M 1 0 0 ≤ 5 := iM 1 0 0
  unfold fX11_leads
  refine wp_b (k_reckon fu hfu iM iN tl ca) (fun v9 M10 q => ?_)
  obtain ⟨i10, k10, -, c10⟩ := q
  have e10 : M10 1 0 0 = M 1 0 0 := k10 1 0 0 (by unfold TA; omega)
  have w10 : jm_w (M10 1 0 0 - 1) = M 1 0 0 - 1 := by rw [e10]; exact jm_wid (by omega) (by omega)
  rw [w10]
  refine wp_bp (s_fX9_lineOf M10 i10 0 (M 1 0 0 - 1) ⟨by decide, by decide⟩ ⟨by omega, by omega⟩) (fun v4 g4 => ?_)
  refine wp_bp (s_fX2_inOrder fu hfu M10 i10 v4 0 ⟨by omega, by omega⟩ ⟨by decide, by decide⟩) (fun v7 g7 => ?_)
  exact wp_mono (kk_leads37 fu hfu M10 i10 fu 0 v7 1 (by decide) (by decide) (by omega)) (fun r M1 q => by rw [q]; exact c10)
theorem kk_seconds (fu : Nat) (hfu : 4000 ≤ fu) {M N : jm_M} (iM : bI bx1 M) (iN : bI bx2 N) (tl : TLD M N) (ca : CA fu M N) (l1 l2 : Int) (h1 : jm_in l1) (h2 : jm_in l2) : wp (fX11_seconds fu M l1 l2) (fun _ M1 => CA fu M1 N) := by
  have b10 : 2 ≤ M 1 0 0 ∧ M 1 0 0 ≤ 5 := iM 1 0 0
  have b11 : 1 ≤ M 1 0 1 ∧ M 1 0 1 ≤ 12 := iM 1 0 1
  have b5 : 0 ≤ M 2 0 5 ∧ M 2 0 5 ≤ 6 := iM 2 0 5
  unfold fX11_seconds
  refine wp_bp (s_fX2_has M iM l1 h1) (fun v1 g1 => wp_ite (fun _ => wp_ret ca) (fun z1 => ?_))
  refine wp_bp (s_fX11_isDay M iM l2 h2) (fun v2 g2 => wp_ite (fun _ => wp_ret ca) (fun z2 => ?_))
  refine wp_b (k_reckon fu hfu iM iN tl ca) (fun v9 M10 q => ?_)
  obtain ⟨i10, k10, -, c10⟩ := q
  refine wp_T ⟨by omega, by omega⟩ ?_
  refine wp_T ⟨by omega, by omega⟩ ?_
  refine wp_bp (s_fX2_lapsEnded M10 i10 l1 ⟨by omega, by omega⟩) (fun v13 g13 => ?_)
  refine wp_bp (s_fX0_weightBy fu hfu M10 i10 l1 l2 ⟨by omega, by omega⟩ ⟨by omega, by omega⟩) (fun v16 g16 => ?_)
  refine wp_b (s_fX0_secondsBy fu hfu M10 i10 l1 l1 v13 v16 l2 ⟨by omega, by omega⟩ ⟨by omega, by omega⟩ (jm_inL (by omega) (by omega)) g16 ⟨by omega, by omega⟩) (fun v19 M11 q => wp_ret ?_)
  obtain ⟨-, k11, -⟩ := q
  exact c10.keep iN (CR7.tj k11) Kp.rf
theorem kk_place (fu : Nat) (hfu : 4000 ≤ fu) {M N : jm_M} (iM : bI bx1 M) (iN : bI bx2 N) (tl : TLD M N) (ca : CA fu M N) (l1 l2 : Int) (h1 : jm_in l1) (h2 : jm_in l2) : wp (fX11_place fu M l1 l2) (fun _ M1 => CA fu M1 N) := by
  have b10 : 2 ≤ M 1 0 0 ∧ M 1 0 0 ≤ 5 := iM 1 0 0
  have b11 : 1 ≤ M 1 0 1 ∧ M 1 0 1 ≤ 12 := iM 1 0 1
  have b5 : 0 ≤ M 2 0 5 ∧ M 2 0 5 ≤ 6 := iM 2 0 5
  unfold fX11_place
  refine wp_bp (s_fX2_has M iM l1 h1) (fun v1 g1 => wp_ite (fun _ => wp_ret ca) (fun z1 => ?_))
  refine wp_bp (s_fX11_isDay M iM l2 h2) (fun v2 g2 => wp_ite (fun _ => wp_ret ca) (fun z2 => ?_))
  refine wp_b (k_reckon fu hfu iM iN tl ca) (fun v9 M10 q => ?_)
  obtain ⟨i10, k10, -, c10⟩ := q
  refine wp_b (s_fX5_reckonFor fu hfu M10 i10 l2 ⟨by omega, by omega⟩) (fun v11 M11 q => ?_)
  obtain ⟨i11, k11, -⟩ := q
  have c11 := c10.keep iN (CR7.tj k11) Kp.rf
  exact wp_bp (s_fX5_placeAmong fu hfu M11 i11 l1 (-1) ⟨by omega, by omega⟩ (jm_inL (by decide) (by decide))) (fun v g => wp_ret c11)
theorem kk_sum (fu : Nat) (hfu : 4000 ≤ fu) {M N : jm_M} (iM : bI bx1 M) (iN : bI bx2 N) (tl : TLD M N) (ca : CA fu M N) (l1 l2 : Int) (h1 : jm_in l1) (h2 : jm_in l2) : wp (fX11_sum fu M l1 l2) (fun _ M1 => CA fu M1 N) := by
  have b10 : 2 ≤ M 1 0 0 ∧ M 1 0 0 ≤ 5 := iM 1 0 0
  have b11 : 1 ≤ M 1 0 1 ∧ M 1 0 1 ≤ 12 := iM 1 0 1
  have b5 : 0 ≤ M 2 0 5 ∧ M 2 0 5 ≤ 6 := iM 2 0 5
  unfold fX11_sum
  refine wp_bp (s_fX2_has M iM l1 h1) (fun v1 g1 => wp_ite (fun _ => wp_ret ca) (fun z1 => ?_))
  refine wp_bp (s_fX11_isDay M iM l2 h2) (fun v2 g2 => wp_ite (fun _ => wp_ret ca) (fun z2 => ?_))
  refine wp_b (k_reckon fu hfu iM iN tl ca) (fun v9 M10 q => ?_)
  obtain ⟨i10, k10, -, c10⟩ := q
  refine wp_b (s_fX5_reckonFor fu hfu M10 i10 l2 ⟨by omega, by omega⟩) (fun v11 M11 q => ?_)
  obtain ⟨i11, k11, -⟩ := q
  have c11 := c10.keep iN (CR7.tj k11) Kp.rf
  refine wp_T ⟨by omega, by omega⟩ ?_
  exact wp_ite (fun _ => wp_ret c11) (fun _ => wp_T ⟨by omega, by omega⟩ (wp_ret c11))
theorem kk_within (fu : Nat) (hfu : 4000 ≤ fu) {M N : jm_M} (iM : bI bx1 M) (iN : bI bx2 N) (tl : TLD M N) (ca : CA fu M N) (l1 l2 : Int) (h1 : jm_in l1) (h2 : jm_in l2) : wp (fX11_within fu M l1 l2) (fun _ M1 => CA fu M1 N) := by
  have b10 : 2 ≤ M 1 0 0 ∧ M 1 0 0 ≤ 5 := iM 1 0 0
  have b11 : 1 ≤ M 1 0 1 ∧ M 1 0 1 ≤ 12 := iM 1 0 1
  have b5 : 0 ≤ M 2 0 5 ∧ M 2 0 5 ≤ 6 := iM 2 0 5
  unfold fX11_within
  refine wp_bp (s_fX2_has M iM l1 h1) (fun v1 g1 => wp_ite (fun _ => wp_ret ca) (fun z1 => ?_))
  refine wp_bp (s_fX11_isDay M iM l2 h2) (fun v2 g2 => wp_ite (fun _ => wp_ret ca) (fun z2 => ?_))
  refine wp_b (k_reckon fu hfu iM iN tl ca) (fun v9 M10 q => ?_)
  obtain ⟨i10, k10, -, c10⟩ := q
  refine wp_b (s_fX5_reckonFor fu hfu M10 i10 l2 ⟨by omega, by omega⟩) (fun v11 M11 q => ?_)
  obtain ⟨i11, k11, -⟩ := q
  have c11 := c10.keep iN (CR7.tj k11) Kp.rf
  refine wp_T ⟨by omega, by omega⟩ ?_
  exact wp_bp (s_fX5_placeAmong fu hfu M11 i11 l1 (M11 8 l1 4) ⟨by omega, by omega⟩ (i11 8 l1 4)) (fun v g => wp_ret c11)
theorem kk_result (fu : Nat) (hfu : 4000 ≤ fu) {M N : jm_M} (iM : bI bx1 M) (iN : bI bx2 N) (tl : TLD M N) (ca : CA fu M N) (l1 : Int) (h1 : jm_in l1) : wp (fX11_result fu M l1) (fun _ M1 => CA fu M1 N) := by
  have b10 : 2 ≤ M 1 0 0 ∧ M 1 0 0 ≤ 5 := iM 1 0 0
  have b11 : 1 ≤ M 1 0 1 ∧ M 1 0 1 ≤ 12 := iM 1 0 1
  have b5 : 0 ≤ M 2 0 5 ∧ M 2 0 5 ≤ 6 := iM 2 0 5
  unfold fX11_result
  refine wp_bp (s_fX11_isDay M iM l1 h1) (fun v1 g1 => wp_ite (fun _ => wp_ret ca) (fun z1 => ?_))
  refine wp_b (k_reckon fu hfu iM iN tl ca) (fun v9 M10 q => ?_)
  obtain ⟨i10, k10, -, c10⟩ := q
  refine wp_b (s_fX5_reckonFor fu hfu M10 i10 l1 ⟨by omega, by omega⟩) (fun v11 M11 q => ?_)
  obtain ⟨i11, k11, -⟩ := q
  have c11 := c10.keep iN (CR7.tj k11) Kp.rf
  exact wp_mono (kk_result28 fu hfu M11 fu M11 0 0 i11 Kp.rf (by decide) (by decide) (by decide) (by omega)) (fun r M1 q => c11.keep iN (fun f i k y => q f i k (by unfold CR7 at y; unfold KRS; omega)) Kp.rf)
theorem kk_known (fu : Nat) (hfu : 4000 ≤ fu) {M N : jm_M} (iM : bI bx1 M) (iN : bI bx2 N) (tl : TLD M N) (ca : CA fu M N) (l1 l2 l3 l4 : Int) (h1 : jm_in l1) (h2 : jm_in l2) (h3 : jm_in l3) (h4 : jm_in l4) : wp (fX11_known fu M l1 l2 l3 l4) (fun _ M1 => CA fu M1 N) := by
  have b10 : 2 ≤ M 1 0 0 ∧ M 1 0 0 ≤ 5 := iM 1 0 0
  have b11 : 1 ≤ M 1 0 1 ∧ M 1 0 1 ≤ 12 := iM 1 0 1
  have b5 : 0 ≤ M 2 0 5 ∧ M 2 0 5 ≤ 6 := iM 2 0 5
  unfold fX11_known
  refine wp_bp (s_fX2_has M iM l1 h1) (fun v1 g1 => wp_ite (fun _ => wp_ret ca) (fun z1 => ?_))
  refine wp_bp (s_fX9_hasLine M iM l2 l3 h2 h3) (fun v2 g2 => wp_ite (fun _ => wp_ret ca) (fun z2 => ?_))
  refine wp_bp (s_fX11_isWithin M iM l4 0 1 h4 (jm_inL (by decide) (by decide)) (jm_inL (by decide) (by decide))) (fun v3 g3 => wp_ite (fun _ => wp_ret ca) (fun z3 => ?_))
  refine wp_b (k_reckon fu hfu iM iN tl ca) (fun v9 M10 q => ?_)
  obtain ⟨i10, k10, -, c10⟩ := q
  refine wp_bp (s_fX9_lineOf M10 i10 l2 l3 ⟨by omega, by omega⟩ ⟨by omega, by omega⟩) (fun v15 g15 => ?_)
  exact wp_ite (fun _ => wp_bp (s_fX2_spanAt fu hfu M10 i10 l1 v15 1 ⟨by omega, by omega⟩ ⟨by omega, by omega⟩ ⟨by decide, by decide⟩) (fun v19 _ => wp_ret c10)) (fun _ => wp_bp (s_fX2_spanAt fu hfu M10 i10 l1 v15 0 ⟨by omega, by omega⟩ ⟨by omega, by omega⟩ ⟨by decide, by decide⟩) (fun v22 _ => wp_ret c10))
theorem kk_ahead (fu : Nat) (hfu : 4000 ≤ fu) {M N : jm_M} (iM : bI bx1 M) (iN : bI bx2 N) (tl : TLD M N) (ca : CA fu M N) (l1 l2 l3 l4 : Int) (h1 : jm_in l1) (h2 : jm_in l2) (h3 : jm_in l3) (h4 : jm_in l4) : wp (fX11_ahead fu M l1 l2 l3 l4) (fun _ M1 => CA fu M1 N) := by
  have b10 : 2 ≤ M 1 0 0 ∧ M 1 0 0 ≤ 5 := iM 1 0 0
  have b11 : 1 ≤ M 1 0 1 ∧ M 1 0 1 ≤ 12 := iM 1 0 1
  have b5 : 0 ≤ M 2 0 5 ∧ M 2 0 5 ≤ 6 := iM 2 0 5
  unfold fX11_ahead
  refine wp_bp (s_fX2_has M iM l1 h1) (fun v1 g1 => wp_ite (fun _ => wp_ret ca) (fun z1 => ?_))
  refine wp_bp (s_fX2_has M iM l2 h2) (fun v2 g2 => wp_ite (fun _ => wp_ret ca) (fun z2 => ?_))
  refine wp_ite (fun _ => wp_ret ca) (fun z3 => ?_)
  refine wp_bp (s_fX9_hasLine M iM l3 l4 h3 h4) (fun v4 g4 => wp_ite (fun _ => wp_ret ca) (fun z4 => ?_))
  refine wp_b (k_reckon fu hfu iM iN tl ca) (fun v9 M10 q => ?_)
  obtain ⟨i10, k10, -, c10⟩ := q
  refine wp_bp (s_fX9_lineOf M10 i10 l3 l4 ⟨by omega, by omega⟩ ⟨by omega, by omega⟩) (fun v15 g15 => ?_)
  refine wp_bp (s_fX2_spanAt fu hfu M10 i10 l1 v15 0 ⟨by omega, by omega⟩ ⟨by omega, by omega⟩ ⟨by decide, by decide⟩) (fun v19 _ => ?_)
  refine wp_bp (s_fX2_spanAt fu hfu M10 i10 l2 v15 1 ⟨by omega, by omega⟩ ⟨by omega, by omega⟩ ⟨by decide, by decide⟩) (fun v22 _ => ?_)
  exact wp_ite (fun _ => wp_ret c10) (fun _ => wp_ite (fun _ => wp_ret c10) (fun _ => wp_ite (fun _ => wp_ret c10) (fun _ => wp_ret c10)))
theorem kk_wall (fu : Nat) (hfu : 4000 ≤ fu) {M N : jm_M} (iM : bI bx1 M) (iN : bI bx2 N) (tl : TLD M N) (ca : CA fu M N) (l1 l2 : Int) (h1 : jm_in l1) (h2 : jm_in l2) : wp (fX11_wall fu M l1 l2) (fun _ M1 => CA fu M1 N) := by
  have b10 : 2 ≤ M 1 0 0 ∧ M 1 0 0 ≤ 5 := iM 1 0 0
  have b11 : 1 ≤ M 1 0 1 ∧ M 1 0 1 ≤ 12 := iM 1 0 1
  have b5 : 0 ≤ M 2 0 5 ∧ M 2 0 5 ≤ 6 := iM 2 0 5
  unfold fX11_wall
  refine wp_bp (s_fX2_has M iM l1 h1) (fun v1 g1 => wp_ite (fun _ => wp_ret ca) (fun z1 => ?_))
  have bl2 : -2147483648 ≤ l2 ∧ l2 ≤ 2147483647 := h2
  refine wp_ite (fun z2 => ?_) (fun _ => wp_ret ca)
  refine wp_b (k_reckon fu hfu iM iN tl ca) (fun v9 M10 q => ?_)
  obtain ⟨i10, k10, -, c10⟩ := q
  refine wp_bp (s_fX2_endedByWall fu hfu M10 i10 l1 l2 ⟨by omega, by omega⟩ ⟨z2, bl2.2⟩) (fun v8 g8 => ?_)
  have w8 : jm_w (v8 - 1) = v8 - 1 := jm_wid (by omega) (by omega)
  rw [w8]
  refine wp_T ⟨by omega, by omega⟩ (wp_bp (s_fX6_timeOrStart M10 i10 l1 (v8 - 1) ⟨by omega, by omega⟩ ⟨by omega, by omega⟩) (fun v12 g12 => ?_))
  exact wp_mono (kk_wall57 fu hfu M10 i10 l1 l2 v8 v12 ⟨z2, bl2.2⟩ fu 0 0 (by decide) (by decide) (by omega)) (fun r M1 q => by rw [q]; exact c10)
theorem kk_why (fu : Nat) (hfu : 4000 ≤ fu) {M N : jm_M} (iM : bI bx1 M) (iN : bI bx2 N) (tl : TLD M N) (ca : CA fu M N) (l1 l2 : Int) (h1 : jm_in l1) (h2 : jm_in l2) : wp (fX11_why fu M l1 l2) (fun _ M1 => CA fu M1 N) := by
  have b10 : 2 ≤ M 1 0 0 ∧ M 1 0 0 ≤ 5 := iM 1 0 0
  have b11 : 1 ≤ M 1 0 1 ∧ M 1 0 1 ≤ 12 := iM 1 0 1
  have b5 : 0 ≤ M 2 0 5 ∧ M 2 0 5 ≤ 6 := iM 2 0 5
  unfold fX11_why
  refine wp_bp (s_fX2_has M iM l1 h1) (fun v1 g1 => wp_ite (fun _ => wp_ret ca) (fun z1 => ?_))
  refine wp_bp (x_isIndex M l2 (M 1 0 1)) (fun v2 g2 => wp_ite (fun _ => wp_ret ca) (fun z2 => ?_))
  refine wp_b (k_reckon fu hfu iM iN tl ca) (fun v9 M10 q => ?_)
  obtain ⟨i10, k10, -, c10⟩ := q
  exact wp_T ⟨by omega, by omega⟩ (wp_T ⟨by omega, by omega⟩ (wp_ret c10))
theorem t_of (fu : Nat) (hfu : 4000 ≤ fu) (M N : jm_M) (iv : IW M N) (it : IT M N) (ca : CA fu M N) (l1 l2 : Int) (h1 : jm_in l1) (h2 : jm_in l2) : J2 (fX11_of fu M l1 l2) (fX12_of fu N l1 l2) (fun _ M1 _ N1 => IT M1 N1 ∧ CA fu M1 N1) := by
  have iM := iv.1.1
  have iN := iv.1.2.1
  obtain ⟨v, M1, e1, ⟨-, k1, -⟩, c1⟩ := wp_and (s_fX11_of fu hfu M iM l1 l2 h1 h2) (kk_of fu hfu iM iN it.1 ca l1 l2 h1 h2)
  obtain ⟨w, N1, e2, -, k2, -⟩ := s_fX12_of fu hfu N iN l1 l2 h1 h2 iv.1.2.2.1
  exact ⟨v, M1, w, N1, e1, e2, it.ta iN k1 (RL2.ta k2), c1.keep iN Kp.rf (RL2.ta k2)⟩
theorem t_at (fu : Nat) (hfu : 4000 ≤ fu) (M N : jm_M) (iv : IW M N) (it : IT M N) (ca : CA fu M N) (l1 l2 l3 : Int) (h1 : jm_in l1) (h2 : jm_in l2) (h3 : jm_in l3) : J2 (fX11_at fu M l1 l2 l3) (fX12_at fu N l1 l2 l3) (fun _ M1 _ N1 => IT M1 N1 ∧ CA fu M1 N1) := by
  have iM := iv.1.1
  have iN := iv.1.2.1
  obtain ⟨v, M1, e1, ⟨-, k1, -⟩, c1⟩ := wp_and (s_fX11_at fu hfu M iM l1 l2 l3 h1 h2 h3) (kk_at fu hfu iM iN it.1 ca l1 l2 l3 h1 h2 h3)
  obtain ⟨w, N1, e2, -, k2, -⟩ := s_fX12_at fu hfu N iN l1 l2 l3 h1 h2 h3 iv.1.2.2.1
  exact ⟨v, M1, w, N1, e1, e2, it.ta iN k1 (RL2.ta k2), c1.keep iN Kp.rf (RL2.ta k2)⟩
theorem t_led (fu : Nat) (hfu : 4000 ≤ fu) (M N : jm_M) (iv : IW M N) (it : IT M N) (ca : CA fu M N) (l1 l2 : Int) (h1 : jm_in l1) (h2 : jm_in l2) : J2 (fX11_led fu M l1 l2) (fX12_led fu N l1 l2) (fun _ M1 _ N1 => IT M1 N1 ∧ CA fu M1 N1) := by
  have iM := iv.1.1
  have iN := iv.1.2.1
  obtain ⟨v, M1, e1, ⟨-, k1, -⟩, c1⟩ := wp_and (s_fX11_led fu hfu M iM l1 l2 h1 h2) (kk_led fu hfu iM iN it.1 ca l1 l2 h1 h2)
  obtain ⟨w, N1, e2, -, k2, -⟩ := s_fX12_led fu hfu N iN l1 l2 h1 h2 iv.1.2.2.1
  exact ⟨v, M1, w, N1, e1, e2, it.ta iN k1 (RL2.ta k2), c1.keep iN Kp.rf (RL2.ta k2)⟩
theorem t_waited (fu : Nat) (hfu : 4000 ≤ fu) (M N : jm_M) (iv : IW M N) (it : IT M N) (ca : CA fu M N) (l1 : Int) (h1 : jm_in l1) : J2 (fX11_waited fu M l1) (fX12_waited fu N l1) (fun _ M1 _ N1 => IT M1 N1 ∧ CA fu M1 N1) := by
  have iM := iv.1.1
  have iN := iv.1.2.1
  obtain ⟨v, M1, e1, ⟨-, k1, -⟩, c1⟩ := wp_and (s_fX11_waited fu hfu M iM l1 h1) (kk_waited fu hfu iM iN it.1 ca l1 h1)
  obtain ⟨w, N1, e2, -, k2, -⟩ := s_fX12_waited fu hfu N iN l1 h1 iv.1.2.2.1
  exact ⟨v, M1, w, N1, e1, e2, it.ta iN k1 (RL2.ta k2), c1.keep iN Kp.rf (RL2.ta k2)⟩
theorem t_leads (fu : Nat) (hfu : 4000 ≤ fu) (M N : jm_M) (iv : IW M N) (it : IT M N) (ca : CA fu M N) : J2 (fX11_leads fu M ) (fX12_leads fu N ) (fun _ M1 _ N1 => IT M1 N1 ∧ CA fu M1 N1) := by
  have iM := iv.1.1
  have iN := iv.1.2.1
  obtain ⟨v, M1, e1, ⟨-, k1, -⟩, c1⟩ := wp_and (s_fX11_leads fu hfu M iM) (kk_leads fu hfu iM iN it.1 ca)
  obtain ⟨w, N1, e2, -, k2, -⟩ := s_fX12_leads fu hfu N iN iv.1.2.2.1
  exact ⟨v, M1, w, N1, e1, e2, it.ta iN k1 (RL2.ta k2), c1.keep iN Kp.rf (RL2.ta k2)⟩
theorem t_seconds (fu : Nat) (hfu : 4000 ≤ fu) (M N : jm_M) (iv : IW M N) (it : IT M N) (ca : CA fu M N) (l1 l2 : Int) (h1 : jm_in l1) (h2 : jm_in l2) : J2 (fX11_seconds fu M l1 l2) (fX12_seconds fu N l1 l2) (fun _ M1 _ N1 => IT M1 N1 ∧ CA fu M1 N1) := by
  have iM := iv.1.1
  have iN := iv.1.2.1
  obtain ⟨v, M1, e1, ⟨-, k1, -⟩, c1⟩ := wp_and (s_fX11_seconds fu hfu M iM l1 l2 h1 h2) (kk_seconds fu hfu iM iN it.1 ca l1 l2 h1 h2)
  obtain ⟨w, N1, e2, -, k2, -⟩ := s_fX12_seconds fu hfu N iN l1 l2 h1 h2 iv.1.2.2.1
  exact ⟨v, M1, w, N1, e1, e2, it.ta iN k1 (RL2.ta k2), c1.keep iN Kp.rf (RL2.ta k2)⟩
theorem t_place (fu : Nat) (hfu : 4000 ≤ fu) (M N : jm_M) (iv : IW M N) (it : IT M N) (ca : CA fu M N) (l1 l2 : Int) (h1 : jm_in l1) (h2 : jm_in l2) : J2 (fX11_place fu M l1 l2) (fX12_place fu N l1 l2) (fun _ M1 _ N1 => IT M1 N1 ∧ CA fu M1 N1) := by
  have iM := iv.1.1
  have iN := iv.1.2.1
  obtain ⟨v, M1, e1, ⟨-, k1, -⟩, c1⟩ := wp_and (s_fX11_place fu hfu M iM l1 l2 h1 h2) (kk_place fu hfu iM iN it.1 ca l1 l2 h1 h2)
  obtain ⟨w, N1, e2, -, k2, -⟩ := s_fX12_place fu hfu N iN l1 l2 h1 h2 iv.1.2.2.1
  exact ⟨v, M1, w, N1, e1, e2, it.ta iN k1 (RL2.ta k2), c1.keep iN Kp.rf (RL2.ta k2)⟩
theorem t_sum (fu : Nat) (hfu : 4000 ≤ fu) (M N : jm_M) (iv : IW M N) (it : IT M N) (ca : CA fu M N) (l1 l2 : Int) (h1 : jm_in l1) (h2 : jm_in l2) : J2 (fX11_sum fu M l1 l2) (fX12_sum fu N l1 l2) (fun _ M1 _ N1 => IT M1 N1 ∧ CA fu M1 N1) := by
  have iM := iv.1.1
  have iN := iv.1.2.1
  obtain ⟨v, M1, e1, ⟨-, k1, -⟩, c1⟩ := wp_and (s_fX11_sum fu hfu M iM l1 l2 h1 h2) (kk_sum fu hfu iM iN it.1 ca l1 l2 h1 h2)
  obtain ⟨w, N1, e2, -, k2, -⟩ := s_fX12_sum fu hfu N iN l1 l2 h1 h2 iv.1.2.2.1
  exact ⟨v, M1, w, N1, e1, e2, it.ta iN k1 (RL2.ta k2), c1.keep iN Kp.rf (RL2.ta k2)⟩
theorem t_within (fu : Nat) (hfu : 4000 ≤ fu) (M N : jm_M) (iv : IW M N) (it : IT M N) (ca : CA fu M N) (l1 l2 : Int) (h1 : jm_in l1) (h2 : jm_in l2) : J2 (fX11_within fu M l1 l2) (fX12_within fu N l1 l2) (fun _ M1 _ N1 => IT M1 N1 ∧ CA fu M1 N1) := by
  have iM := iv.1.1
  have iN := iv.1.2.1
  obtain ⟨v, M1, e1, ⟨-, k1, -⟩, c1⟩ := wp_and (s_fX11_within fu hfu M iM l1 l2 h1 h2) (kk_within fu hfu iM iN it.1 ca l1 l2 h1 h2)
  obtain ⟨w, N1, e2, -, k2, -⟩ := s_fX12_within fu hfu N iN l1 l2 h1 h2 iv.1.2.2.1
  exact ⟨v, M1, w, N1, e1, e2, it.ta iN k1 (RL2.ta k2), c1.keep iN Kp.rf (RL2.ta k2)⟩
theorem t_knownn (fu : Nat) (hfu : 4000 ≤ fu) (M N : jm_M) (iv : IW M N) (it : IT M N) (ca : CA fu M N) (l1 l2 l3 l4 : Int) (h1 : jm_in l1) (h2 : jm_in l2) (h3 : jm_in l3) (h4 : jm_in l4) : J2 (fX11_known fu M l1 l2 l3 l4) (fX12_known fu N l1 l2 l3 l4) (fun _ M1 _ N1 => IT M1 N1 ∧ CA fu M1 N1) := by
  have iM := iv.1.1
  have iN := iv.1.2.1
  obtain ⟨v, M1, e1, ⟨-, k1, -⟩, c1⟩ := wp_and (s_fX11_known fu hfu M iM l1 l2 l3 l4 h1 h2 h3 h4) (kk_known fu hfu iM iN it.1 ca l1 l2 l3 l4 h1 h2 h3 h4)
  obtain ⟨w, N1, e2, -, k2, -⟩ := s_fX12_known fu hfu N iN l1 l2 l3 l4 h1 h2 h3 h4 iv.1.2.2.1
  exact ⟨v, M1, w, N1, e1, e2, it.ta iN k1 (RL2.ta k2), c1.keep iN Kp.rf (RL2.ta k2)⟩
theorem t_ahead (fu : Nat) (hfu : 4000 ≤ fu) (M N : jm_M) (iv : IW M N) (it : IT M N) (ca : CA fu M N) (l1 l2 l3 l4 : Int) (h1 : jm_in l1) (h2 : jm_in l2) (h3 : jm_in l3) (h4 : jm_in l4) : J2 (fX11_ahead fu M l1 l2 l3 l4) (fX12_ahead fu N l1 l2 l3 l4) (fun _ M1 _ N1 => IT M1 N1 ∧ CA fu M1 N1) := by
  have iM := iv.1.1
  have iN := iv.1.2.1
  obtain ⟨v, M1, e1, ⟨-, k1, -⟩, c1⟩ := wp_and (s_fX11_ahead fu hfu M iM l1 l2 l3 l4 h1 h2 h3 h4) (kk_ahead fu hfu iM iN it.1 ca l1 l2 l3 l4 h1 h2 h3 h4)
  obtain ⟨w, N1, e2, -, k2, -⟩ := s_fX12_ahead fu hfu N iN l1 l2 l3 l4 h1 h2 h3 h4 iv.1.2.2.1
  exact ⟨v, M1, w, N1, e1, e2, it.ta iN k1 (RL2.ta k2), c1.keep iN Kp.rf (RL2.ta k2)⟩
theorem t_wall (fu : Nat) (hfu : 4000 ≤ fu) (M N : jm_M) (iv : IW M N) (it : IT M N) (ca : CA fu M N) (l1 l2 : Int) (h1 : jm_in l1) (h2 : jm_in l2) : J2 (fX11_wall fu M l1 l2) (fX12_wall fu N l1 l2) (fun _ M1 _ N1 => IT M1 N1 ∧ CA fu M1 N1) := by
  have iM := iv.1.1
  have iN := iv.1.2.1
  obtain ⟨v, M1, e1, ⟨-, k1, -⟩, c1⟩ := wp_and (s_fX11_wall fu hfu M iM l1 l2 h1 h2) (kk_wall fu hfu iM iN it.1 ca l1 l2 h1 h2)
  obtain ⟨w, N1, e2, -, k2, -⟩ := s_fX12_wall fu hfu N iN l1 l2 h1 h2 iv.1.2.2.1
  exact ⟨v, M1, w, N1, e1, e2, it.ta iN k1 (RL2.ta k2), c1.keep iN Kp.rf (RL2.ta k2)⟩
theorem t_why (fu : Nat) (hfu : 4000 ≤ fu) (M N : jm_M) (iv : IW M N) (it : IT M N) (ca : CA fu M N) (l1 l2 : Int) (h1 : jm_in l1) (h2 : jm_in l2) : J2 (fX11_why fu M l1 l2) (fX12_why fu N l1 l2) (fun _ M1 _ N1 => IT M1 N1 ∧ CA fu M1 N1) := by
  have iM := iv.1.1
  have iN := iv.1.2.1
  obtain ⟨v, M1, e1, ⟨-, k1, -⟩, c1⟩ := wp_and (s_fX11_why fu hfu M iM l1 l2 h1 h2) (kk_why fu hfu iM iN it.1 ca l1 l2 h1 h2)
  obtain ⟨w, N1, e2, -, k2, -⟩ := s_fX12_why fu hfu N iN l1 l2 h1 h2 iv.1.2.2.1
  exact ⟨v, M1, w, N1, e1, e2, it.ta iN k1 (RL2.ta k2), c1.keep iN Kp.rf (RL2.ta k2)⟩
def KRT (f : Nat) (_ k : Int) : Prop := f ≠ 69 ∧ ¬ (f = 0 ∧ k = 82)
theorem dk_result65 (fu : Nat) (hfu : 4000 ≤ fu) (N0 : jm_M) : ∀ (n : Nat) (N : jm_M) (l2 : Int), bI bx2 N → Kp KRT N0 N → 0 ≤ l2 → l2 ≤ 6 → 6 - l2 < (n : Int) → wp (fX12_result_65 fu n N l2) (fun _ N1 => Kp KRT N0 N1) := by
  intro n
  induction n with
  | zero => intro N l2 _ _ _ h1 hm; exfalso; omega
  | succ n ih =>
    intro N l2 iN kN h0 h1 hm
    show wp (gX12_result_65 fu (fX12_result_65 fu n) N l2) _
    unfold gX12_result_65
    have b17 : 0 ≤ N 0 0 17 ∧ N 0 0 17 ≤ 6 := iN 0 0 17
    have w2 : jm_w (l2 + 1) = l2 + 1 := jm_wid (by omega) (by omega)
    rw [w2]
    refine wp_ite (fun _ => wp_ret kN) (fun z => wp_T ⟨by omega, by omega⟩ (wp_ite (fun _ => ?_) (fun z3 => ?_)))
    · exact ih N (l2 + 1) iN kN (by omega) (by omega) (by omega)
    · refine wp_bp (s_fX12_placeOf fu hfu N iN l2 0 ⟨by omega, by omega⟩ ⟨by decide, by decide⟩) (fun v9 g9 => ?_)
      refine wp_T ⟨by omega, by omega⟩ (wp_si iN (jm_inL (by omega) (by omega)) (fun N13 u13 i13 => ?_))
      exact ih N13 (l2 + 1) i13 (fun f i k y => by rw [u13, jm_une_f y.1]; exact kN f i k y) (by omega) (by omega) (by omega)
theorem dk_result26 (fu : Nat) (hfu : 4000 ≤ fu) (N0 : jm_M) : ∀ (n : Nat) (N : jm_M) (l2 : Int), bI bx2 N → Kp KRT N0 N → 0 ≤ l2 → l2 ≤ 6 → N 0 0 82 ≤ l2 → 6 - l2 < (n : Int) → wp (fX12_result_26 fu n N l2) (fun _ N1 => Kp KRT N0 N1) := by
  intro n
  induction n with
  | zero => intro N l2 _ _ _ h1 _ hm; exfalso; omega
  | succ n ih =>
    intro N l2 iN kN h0 h1 h2 hm
    show wp (gX12_result_26 fu (fX12_result_26 fu n) N l2) _
    unfold gX12_result_26
    have b17 : 0 ≤ N 0 0 17 ∧ N 0 0 17 ≤ 6 := iN 0 0 17
    have b82 : 0 ≤ N 0 0 82 ∧ N 0 0 82 ≤ 6 := iN 0 0 82
    have w2 : jm_w (l2 + 1) = l2 + 1 := jm_wid (by omega) (by omega)
    have w3 : jm_w (N 0 0 82 + 0) = N 0 0 82 := by rw [jm_wid (by omega) (by omega)]; omega
    have w4 : jm_w (N 0 0 82 + 1) = N 0 0 82 + 1 := jm_wid (by omega) (by omega)
    rw [w2, w3, w4]
    refine wp_ite (fun _ => ?_) (fun z => wp_T ⟨by omega, by omega⟩ (wp_ite (fun _ => ?_) (fun z3 => ?_)))
    · exact dk_result65 fu hfu N0 fu N 0 iN kN (by decide) (by decide) (by omega)
    · refine wp_si iN (show 0 ≤ N 0 0 82 ∧ N 0 0 82 ≤ 6 from b82) (fun N7 u7 i7 => ?_)
      exact ih N7 (l2 + 1) i7 (fun f i k y => by rw [u7, jm_une (by unfold KRT at y; omega)]; exact kN f i k y) (by omega) (by omega) (by rw [u7, jm_ueq]; omega) (by omega)
    · refine wp_si iN (show 0 ≤ N 0 0 82 + 1 ∧ N 0 0 82 + 1 ≤ 6 by omega) (fun N7 u7 i7 => ?_)
      exact ih N7 (l2 + 1) i7 (fun f i k y => by rw [u7, jm_une (by unfold KRT at y; omega)]; exact kN f i k y) (by omega) (by omega) (by rw [u7, jm_ueq]; omega) (by omega)
theorem dk_result (fu : Nat) (hfu : 4000 ≤ fu) (N : jm_M) (iN : bI bx2 N) (wN : WF N) (l1 : Int) (h1 : jm_in l1) : wp (fX12_result fu N l1) (fun _ N1 => Kp RL2 N N1) := by
  unfold fX12_result
  refine wp_si iN (bx2_in (show bx2 39 0 0 0 from jm_inL (by decide) (by decide))) (fun N1 u1 i1 => ?_)
  have k1 : Kp RL2 N N1 := by rw [u1]; exact RL2.r0
  have w1 : WF N1 := WF.kp (T := fun f _ k => f ≠ 0 ∨ k ≠ 0) (fun f i k y => by
    have y' : f ≠ 0 ∨ k ≠ 0 := y
    rw [u1, jm_une (by omega)]) wN (fun k => ⟨Or.inl (by decide), Or.inl (by decide), Or.inl (by decide), Or.inr (by decide)⟩)
  refine wp_bp (s_fX12_isDay N1 i1 l1 h1) (fun v2 g2 => wp_ite (fun _ => wp_ret k1) (fun z2 => ?_))
  refine wp_b (s_fX12_judges fu hfu N1 i1 l1 ⟨by omega, by omega⟩ w1) (fun v6 N7 q => ?_)
  obtain ⟨i7, k7, -⟩ := q
  refine wp_si i7 (show (0 : Int) ≤ 0 ∧ (0 : Int) ≤ 6 by decide) (fun N8 u8 i8 => ?_)
  refine wp_mono (dk_result26 fu hfu N8 fu N8 0 i8 Kp.rf (by decide) (by decide) (by rw [u8, jm_ueq]; decide) (by omega)) (fun r N2 q f i k y => ?_)
  have k7' := RL2.ta k7
  rw [q f i k (by unfold RL2 C2r C2f C2s C2p C2o C2n C2c C2l at y; unfold KRT; omega), u8, jm_une (by unfold RL2 C2r C2f C2s C2p C2o C2n C2c C2l at y; omega), k7' f i k y]
  exact k1 f i k y
theorem t_result (fu : Nat) (hfu : 4000 ≤ fu) (M N : jm_M) (iv : IW M N) (it : IT M N) (ca : CA fu M N) (l1 : Int) (h1 : jm_in l1) : J2 (fX11_result fu M l1) (fX12_result fu N l1) (fun _ M1 _ N1 => IT M1 N1 ∧ CA fu M1 N1) := by
  have iM := iv.1.1
  have iN := iv.1.2.1
  obtain ⟨v, M1, e1, ⟨-, k1, -⟩, c1⟩ := wp_and (s_fX11_result fu hfu M iM l1 h1) (kk_result fu hfu iM iN it.1 ca l1 h1)
  obtain ⟨w, N1, e2, k2⟩ := dk_result fu hfu N iN iv.1.2.2.1 l1 h1
  exact ⟨v, M1, w, N1, e1, e2, it.tp iN k1 k2, c1.keep iN Kp.rf k2⟩
