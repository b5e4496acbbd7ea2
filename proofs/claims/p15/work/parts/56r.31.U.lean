/-! the start: the class's loop -/
theorem c_fill34_l (fu : Nat) (M0 : jm_M) : ∀ (n : Nat) (M : jm_M) (l2 : Int), bI bx1 M → Kp (FL 34 0) M0 M → (∀ l : Int, 0 ≤ l → l < l2 → M 34 0 l = 0) → 0 ≤ l2 → l2 ≤ 4 → 4 - l2 < (n : Int) → wp (fJ7_fill_53178_a34_w1_5 fu n M 0 l2 4) (fun _ M1 => bI bx1 M1 ∧ Kp (FL 34 0) M0 M1 ∧ ∀ l : Int, 0 ≤ l → l < 4 → M1 34 0 l = 0) := by
  intro n
  induction n with
  | zero => intro M l2 _ _ _ _ _ hm; exfalso; omega
  | succ n ih =>
    intro M l2 iM kM hl h0 h1 hm
    show wp (gJ7_fill_53178_a34_w1_5 fu (fJ7_fill_53178_a34_w1_5 fu n) M 0 l2 4) _
    unfold gJ7_fill_53178_a34_w1_5
    have w1 : jm_w (l2 + 1) = l2 + 1 := jm_wid (by omega) (by omega)
    refine wp_ite (fun q => wp_ret ⟨iM, kM, fun l y1 y2 => hl l y1 (by omega)⟩) (fun q => wp_T ⟨h0, by omega⟩ ?_)
    refine wp_sk iM (jm_inL (by decide) (by decide)) kM (by unfold FL; omega) (fun M3 u3 i3 k3 => ?_)
    rw [w1]
    refine ih M3 (l2 + 1) i3 k3 (fun l y1 y2 => ?_) (by omega) (by omega) (by omega)
    rw [u3]
    by_cases e : l = l2
    · rw [e]; exact jm_ueq
    · rw [jm_une_k e]; exact hl l y1 (by omega)
def K20 (f : Nat) (_ _ : Int) : Prop := ¬ (f = 9 ∨ f = 29 ∨ f = 31 ∨ f = 32)
theorem CST.mv {M0 M M1 : jm_M} {c o e : Int} (h : CST M0 M o e) (ho : o ≠ c) (k : Kp (KC1 c) M M1) : CST M0 M1 o e := by
  obtain ⟨⟨a0, a1, a2, a3⟩, ⟨a5, a6, a7, a8⟩, ⟨a9, a10, a11, a12, a13, a14⟩, l29, l31, l32⟩ := h
  have m : ∀ k : Int, M1 9 o k = M 9 o k := fun j => k 9 o j (by unfold KC1; omega)
  exact ⟨⟨(m 0).trans a0, (m 1).trans a1, (m 2).trans a2, (m 3).trans a3⟩, ⟨(m 5).trans a5, (m 6).trans a6, (m 7).trans a7, (m 8).trans a8⟩, ⟨(m 9).trans a9, (m 10).trans a10, (m 11).trans a11, (m 12).trans a12, (m 13).trans a13, (m 14).trans a14⟩, fun l y1 y2 => (k 29 o l (by unfold KC1; omega)).trans (l29 l y1 y2), fun l y1 y2 => (k 31 o l (by unfold KC1; omega)).trans (l31 l y1 y2), fun l y1 y2 => (k 32 o l (by unfold KC1; omega)).trans (l32 l y1 y2)⟩
theorem c_run20 (fu : Nat) (hfu : 4000 ≤ fu) (M0 : jm_M) (i0 : bI bx1 M0) (y : jm_R) (Q : Int → jm_M → Int → jm_M → Prop) (kk : ∀ M1 : jm_M, bI bx1 M1 → Kp K20 M0 M1 → (∀ o : Int, 0 ≤ o → o < M0 2 0 5 → CST M0 M1 o (jm_w (M0 18 0 6 * o))) → J2 (fX2_run_69 fu fu M1 0) y Q) : ∀ (n : Nat) (M : jm_M) (l1 : Int), bI bx1 M → Kp K20 M0 M → (∀ o : Int, 0 ≤ o → o < l1 → CST M0 M o (jm_w (M0 18 0 6 * o))) → 0 ≤ l1 → l1 ≤ M0 2 0 5 → M0 2 0 5 - l1 < (n : Int) → J2 (fX2_run_20 fu n M l1) y Q := by
  have b5 : 0 ≤ M0 2 0 5 ∧ M0 2 0 5 ≤ 6 := i0 2 0 5
  intro n
  induction n with
  | zero => intro M l1 _ _ _ _ _ hm; exfalso; omega
  | succ n ih =>
    intro M l1 iM kM hl h0 h1 hm
    show J2 (gX2_run_20 fu (fX2_run_20 fu n) M l1) y Q
    unfold gX2_run_20
    have m5 : M 2 0 5 = M0 2 0 5 := kM 2 0 5 (by unfold K20; omega)
    have m18 : M 18 0 6 = M0 18 0 6 := kM 18 0 6 (by unfold K20; omega)
    have w1 : jm_w (l1 + 1) = l1 + 1 := jm_wid (by omega) (by omega)
    rw [m5, m18]
    refine J2.li (fun q => kk M iM kM (fun o y1 y2 => hl o y1 (by omega))) (fun q => ?_)
    refine J2.lF (by omega) (J2.lT ⟨h0, by omega⟩ (J2.lT ⟨h0, by omega⟩ (J2.lT (by decide) ?_)))
    refine J2.lb (c_start fu hfu M iM l1 (jm_w (M0 18 0 6 * l1)) ⟨h0, by omega⟩ (jm_w_in _)) (fun v M9 z => ?_)
    obtain ⟨i9, k9, e9⟩ := z
    refine J2.le' w1 ?_
    refine ih M9 (l1 + 1) i9 (fun f i k y => ?_) (fun o y1 y2 => ?_) (by omega) (by omega) (by omega)
    · unfold K20 at y
      rw [k9 f i k (by unfold KC1; omega)]
      exact kM f i k (by unfold K20; omega)
    · by_cases e : o = l1
      · rw [e]
        obtain ⟨⟨a0, a1, a2, a3⟩, ⟨a5, a6, a7, a8⟩, ⟨a9, ar⟩, l29, l31, l32⟩ := e9
        have m10 : M 10 l1 3 = M0 10 l1 3 := kM 10 l1 3 (by unfold K20; omega)
        rw [m10] at a3 a9
        rw [kM 8 l1 5 (by unfold K20; omega)] at a8
        exact ⟨⟨a0, a1, a2, a3⟩, ⟨a5, a6, a7, a8⟩, ⟨a9, ar⟩, fun l y3 y4 => (l29 l y3 (by rw [m10]; exact y4)).trans (kM 19 l1 _ (by unfold K20; omega)), l31, l32⟩
      · exact (hl o y1 (by omega)).mv e k9
/-! the start of both -/
def KR1 (f : Nat) (_ k : Int) : Prop := f ≠ 9 ∧ ¬ (27 ≤ f ∧ f ≤ 34) ∧ ¬ (f = 2 ∧ (k = 6 ∨ k = 7))
def KR2 (f : Nat) (_ k : Int) : Prop := ¬ (37 ≤ f ∧ f ≤ 59) ∧ ¬ (f = 0 ∧ (k = 47 ∨ k = 70))
theorem run_init {M N M1 N1 : jm_M} (iN : bI bx2 N) (tl : TLD M N) (k1 : Kp KR1 M M1) (k2 : Kp KR2 N N1) (e6 : M1 2 0 6 = 0) (e70 : N1 0 0 70 = 0) (e34 : ∀ t : Int, 0 ≤ t → t < 4 → M1 34 0 t = 0) (e58 : ∀ t : Int, 0 ≤ t → t < 4 → N1 58 0 t = 0) (cs : ∀ o : Int, 0 ≤ o → o < N 0 0 17 → CST M M1 o (jm_w (N 5 0 6 * o))) (ns : ∀ o : Int, 0 ≤ o → o < N 0 0 17 → NST N N1 o (sT N o)) : RUN M1 N1 := by
  obtain ⟨⟨t1, t2, t3, t4, t5⟩, tn, tc, lim⟩ := id tl
  obtain ⟨l5, l4', lsec, lcar⟩ := id lim
  obtain ⟨-, -, -, -, -, -, -, -, -, -, -, -, l56, l56', -, -⟩ := l5
  have b17 : 0 ≤ N 0 0 17 ∧ N 0 0 17 ≤ 6 := iN 0 0 17
  have bs : 2 ≤ N 0 0 1 ∧ N 0 0 1 ≤ 5 := iN 0 0 1
  have bn : 1 ≤ N 0 0 2 ∧ N 0 0 2 ≤ 12 := iN 0 0 2
  obtain ⟨-, -, p3, p4⟩ := line_last (s := N 0 0 1) (n := N 0 0 2) bs bn
  have n17 : N1 0 0 17 = N 0 0 17 := k2 0 0 17 (by unfold KR2; omega)
  have n01 : N1 0 0 1 = N 0 0 1 := k2 0 0 1 (by unfold KR2; omega)
  have n02 : N1 0 0 2 = N 0 0 2 := k2 0 0 2 (by unfold KR2; omega)
  have bb : BB N1 = 20000 := by
    unfold BB
    rw [e70]
    rfl
  refine ⟨⟨by rw [e6, e70], by omega⟩, fun t y1 y2 => ?_, fun o y1 y2 => ?_, fun o y1 y2 => ?_⟩
  · rw [e34 t y1 y2, e58 t y1 y2, bb]
    exact ⟨rfl, by decide, by decide⟩
  · rw [n17] at y2
    obtain ⟨⟨c0, c1, c2, c3⟩, -⟩ := cs o y1 y2
    obtain ⟨⟨d1, d2, d3, d4, -⟩, -, -, l55, -⟩ := ns o y1 y2
    rw [c2, d4]
    exact ⟨⟨rfl, by decide, by decide⟩, fun g y3 y4 => ⟨fun y5 => by exfalso; omega, fun _ => l55 g y3 y4⟩⟩
  · rw [n17] at y2
    obtain ⟨⟨c0, c1, c2, c3⟩, ⟨c5, c6, c7, c8⟩, ⟨c9, c10, c11, c12, c13, c14⟩, s29, s31, s32⟩ := cs o y1 y2
    obtain ⟨⟨d1, d2, d3, d4, d5, d6⟩, ⟨f47, f48, f49, f50, f51, f52, f53, f54⟩, l46, l55, l56b, l59⟩ := ns o y1 y2
    obtain ⟨m10, m19⟩ := t3 o y1 y2
    obtain ⟨-, -, lc1, lc2, -, -, lc5, lc6⟩ := (lcar o y1 y2).1
    have l21 := (lcar o y1 y2).2
    have b19 : 0 ≤ N 19 0 o ∧ N 19 0 o ≤ 4 := iN 19 0 o
    have n19 : N1 19 0 o = N 19 0 o := k2 19 0 o (by unfold KR2; omega)
    have n14 : N1 14 0 o = N 14 0 o := k2 14 0 o (by unfold KR2; omega)
    have m8 : M 8 o 5 = N 18 0 o := (tc o y1 y2).1.2.2.2.2.2
    have gp := jm_mulb l56 l56' y1 (show o ≤ 5 by omega) (show (2000 : Int) * 5 = 10000 by decide)
    have wg : jm_w (N 5 0 6 * o) = N 5 0 6 * o := jm_wid (by omega) (by omega)
    have a39 : M1 9 o 3 = N1 39 0 o := by
      rw [c3, d1, m10]
      unfold sT
      by_cases q : N 19 0 o = 0
      · rw [if_pos q, if_pos (by omega)]
      · rw [if_neg q, if_neg (by omega)]
    have a45 : M1 9 o 9 = N1 45 0 o := by
      rw [c9, d6, m10]
      by_cases q : N 19 0 o = 0
      · rw [if_pos q, if_pos (by omega)]
      · rw [if_neg q, if_neg (by omega)]
    refine ⟨⟨⟨by rw [c0, d2], by rw [c1, d3], a39, fun y => ?_⟩, ⟨by rw [c5, f49], by rw [c6, f50], by rw [c7, f51], by rw [c8, d5, m8], a45, by rw [c10, f52], by rw [c11, f53], by rw [c12, f54], by rw [c13, f47], by rw [c14, f48]⟩, fun j y3 y4 => ?_, fun j y3 y4 => ?_, fun l y3 y4 => by rw [s31 l y3 y4, l59 l y3 y4]⟩, ?_, by rw [f47]; exact ⟨by decide, by decide⟩, fun j y3 y4 => ?_, fun j y3 y4 y5 => ?_, fun y => ?_⟩
    · rw [d1] at y
      unfold sT at y
      by_cases q : N 19 0 o = 0
      · rw [if_pos q] at y; exact absurd y (by decide)
      · rw [if_neg q] at y; exact absurd y (by decide)
    · rw [n19] at y4
      rw [s29 j y3 (by omega), l46 j y3 (by omega)]
      exact (m19 j y3 y4).2
    · rw [s32 j y3 y4, l56b j y3 y4]
      exact ⟨by decide, by decide, fun y => absurd y (by decide)⟩
    · rw [d2, bb, wg]
      exact ⟨gp.1, by omega⟩
    · rw [n19] at y4
      rw [l46 j y3 (by omega), e70]
      have := l21 j y3 y4
      exact ⟨this.1, by omega⟩
    · rw [l56b j y3 y4] at y5
      exact absurd y5 (by decide)
    · rw [d1] at y
      unfold sT at y
      by_cases q : N 19 0 o = 0
      · rw [if_pos q] at y; exact absurd y (by decide)
      · rw [d6, if_neg q, d3, d4, d5, n19, n01, n02, n14]
        exact ⟨⟨by decide, by omega⟩, rfl, by omega, lc5, lc6⟩
/-! lines begun, all cars together -/
def sG (N : jm_M) : Nat → Int
  | 0 => 0
  | n + 1 => sG N n + N 42 0 (n : Int)
theorem sG_le {N : jm_M} (h : ∀ o : Int, N 42 0 o ≤ 60) (n : Nat) : sG N n ≤ 60 * (n : Int) := by
  induction n with
  | zero => show (0 : Int) ≤ 60 * ((0 : Nat) : Int); omega
  | succ n ih =>
    have := h (n : Int)
    show sG N n + N 42 0 (n : Int) ≤ 60 * ((n + 1 : Nat) : Int)
    omega
theorem sG_same {N N1 : jm_M} {c : Int} (h : ∀ o : Int, o ≠ c → N1 42 0 o = N 42 0 o) (n : Nat) (hn : (n : Int) ≤ c) : sG N1 n = sG N n := by
  induction n with
  | zero => rfl
  | succ n ih =>
    have e := ih (by omega)
    have e2 := h (n : Int) (by omega)
    show sG N1 n + N1 42 0 (n : Int) = sG N n + N 42 0 (n : Int)
    omega
theorem sG_step {N N1 : jm_M} {c : Int} (h : ∀ o : Int, o ≠ c → N1 42 0 o = N 42 0 o) (hc : N1 42 0 c = N 42 0 c + 1) (n : Nat) (h0 : 0 ≤ c) (hn : c < (n : Int)) : sG N1 n = sG N n + 1 := by
  induction n with
  | zero => exfalso; omega
  | succ n ih =>
    show sG N1 n + N1 42 0 (n : Int) = sG N n + N 42 0 (n : Int) + 1
    by_cases e : c = (n : Int)
    · have e1 := sG_same h n (by omega)
      rw [← e]
      omega
    · have e1 := ih (by omega)
      have e2 := h (n : Int) (by omega)
      omega
theorem sG_zero {N : jm_M} (m : Nat) (h : ∀ o : Int, 0 ≤ o → o < (m : Int) → N 42 0 o = 0) (n : Nat) (hn : n ≤ m) : sG N n = 0 := by
  induction n with
  | zero => rfl
  | succ n ih =>
    have e := ih (by omega)
    have e2 := h (n : Int) (by omega) (by omega)
    show sG N n + N 42 0 (n : Int) = 0
    omega
theorem c_has (M : jm_M) (v : Int) (h : M 2 0 5 ≤ 6) : wp (fX2_has M v) (fun r M1 => M1 = M ∧ ((0 ≤ v ∧ v < M 2 0 5 ∧ r = 1) ∨ ((v < 0 ∨ M 2 0 5 ≤ v) ∧ r = 0))) := by
  unfold fX2_has
  refine wp_bp (x_isIndex M v (M 2 0 5)) (fun v2 z => ?_)
  exact wp_ite (fun q => wp_ret ⟨rfl, by omega⟩) (fun q => wp_F (by omega) (wp_ret ⟨rfl, by omega⟩))
def KRa (f : Nat) (_ k : Int) : Prop := f ≠ 9 ∧ ¬ (27 ≤ f ∧ f ≤ 34) ∧ ¬ (f = 2 ∧ k = 6)
def QR (M0 N0 M N : jm_M) : Prop := bI bx1 M ∧ bI bx2 N ∧ TLD M N ∧ RUN M N ∧ Kp KRa M0 M ∧ Kp KR2 N0 N ∧ GRW N
theorem j_runs_l (fu : Nat) (hfu : 4000 ≤ fu) (M0 N0 : jm_M) : ∀ (n : Nat) (M N : jm_M) (l1 : Int), QR M0 N0 M N → l1 = sG N (N 0 0 17).toNat → N 0 0 70 ≤ l1 → 361 - l1 < (n : Int) → J2 (fX2_run_69 fu n M l1) (jm_b (fX12_next fu N) fun v6 M7 => fX12_runs_9 fu n M7 v6) (fun _ M1 _ N1 => QR M0 N0 M1 N1 ∧ ∀ c : Int, 0 ≤ c → c < N1 0 0 17 → N1 39 0 c ≠ 0) := by
  intro n
  induction n with
  | zero =>
    intro M N l1 qr hl _ hm
    have b17 : 0 ≤ N 0 0 17 ∧ N 0 0 17 ≤ 6 := qr.2.1 0 0 17
    have sb := sG_le (fun o => (qr.2.1 42 0 o).2) (N 0 0 17).toNat
    exfalso; omega
  | succ n ih =>
    intro M N l1 qr hl h70 hm
    obtain ⟨iM, iN, tl, run, k1, k2, grw⟩ := id qr
    have b17 : 0 ≤ N 0 0 17 ∧ N 0 0 17 ≤ 6 := iN 0 0 17
    have sb := sG_le (fun o => (iN 42 0 o).2) (N 0 0 17).toNat
    have s5 : M 2 0 5 = N 0 0 17 := tl.2.1.1.2.2
    have h0 := run.1.2
    have w1 : jm_w (l1 + 1) = l1 + 1 := jm_wid (by omega) (by omega)
    show J2 (gX2_run_69 fu (fX2_run_69 fu n) M l1) (jm_b (fX12_next fu N) fun v6 M7 => gX12_runs_9 fu (fX12_runs_9 fu n) M7 v6) _
    unfold gX2_run_69 gX12_runs_9
    have nx := (j_next fu hfu M N iN s5 (fun c y1 y2 => by
      have z := (run.2.2.2 c y1 y2).1.1
      exact ⟨z.1, z.2.1, z.2.2.1⟩)).arv (nx_all fu b17.2)
    refine J2.lF (by omega) (J2.bb nx (fun v Ma w Na q => ?_))
    · obtain ⟨⟨ea, eb, e, hv⟩, dn⟩ := q
      rw [ea, eb]
      rw [← e]
      refine J2.lq (c_has M v (by omega)) (fun r z => ?_)
      rcases hv with hv | ⟨v0, v1, h39⟩
      · exact J2.lT (by omega) (J2.rT (by omega) (J2.ret ⟨qr, dn (by omega)⟩))
      · refine J2.lF (by omega) (J2.lT ⟨v0, by omega⟩ (J2.lT ⟨v0, by omega⟩ (J2.rF (by omega) (J2.rT ⟨v0, by omega⟩ ?_))))
        refine J2.bb (j_go fu hfu M N iM iN tl run v ⟨v0, v1⟩ h39 (by omega)) (fun v11 M12 w4 N5 g => ?_)
        obtain ⟨⟨i1, j1⟩, tl1, run1, g1, g2, n42, n70, gro⟩ := g
        refine J2.le' w1 ?_
        have n17 : N5 0 0 17 = N 0 0 17 := g2 0 0 17 (by unfold KG2; omega)
        have st : sG N5 (N5 0 0 17).toNat = sG N (N 0 0 17).toNat + 1 := by
          rw [n17]
          exact sG_step (fun o y => g2 42 0 o (by unfold KG2; omega)) n42 _ v0 (by omega)
        refine ih M12 N5 (l1 + 1) ⟨i1, j1, tl1, run1, fun f i k y => ?_, fun f i k y => ?_, grw.step (fun o z1 z2 => (run.2.2.1 o z1 z2).1.2) ⟨v0, v1⟩ g2 gro (by have := (run.2.2.2 v v0 v1).2.2.2.2.2 h39; omega)⟩ (by omega) (by omega) (by omega)
        · unfold KRa at y
          rw [g1 f i k (by unfold KG1; omega)]
          exact k1 f i k (by unfold KRa; omega)
        · unfold KR2 at y
          rw [g2 f i k (by unfold KG2; omega)]
          exact k2 f i k (by unfold KR2; omega)
/-- the race of both -/
theorem j_run (fu : Nat) (hfu : 4000 ≤ fu) (M N : jm_M) (iM : bI bx1 M) (iN : bI bx2 N) (tl : TLD M N) : J2 (fX2_run fu M) (fX12_runs fu N) (fun _ M1 _ N1 => (bI bx1 M1 ∧ bI bx2 N1 ∧ TLD M1 N1 ∧ RUN M1 N1 ∧ Kp KR1 M M1 ∧ Kp KR2 N N1) ∧ M1 2 0 7 = 0 ∧ GRW N1 ∧ ∀ c : Int, 0 ≤ c → c < N1 0 0 17 → N1 39 0 c ≠ 0) := by
  have b17 : 0 ≤ N 0 0 17 ∧ N 0 0 17 ≤ 6 := iN 0 0 17
  have z0 : jm_in 0 := jm_inL (by decide) (by decide)
  have s5 : M 2 0 5 = N 0 0 17 := tl.2.1.1.2.2
  have s18 : M 18 0 6 = N 5 0 6 := tl.2.1.2.1 6 (by decide) (by decide)
  unfold fX2_run fX12_runs
  refine J2.rb (d_starts fu hfu N iN) (fun _ N1 z => ?_)
  obtain ⟨j1, q1, e70, e58, ns⟩ := z
  refine J2.ls (fun M1 u1 => J2.ls (fun M2 u2 => ?_))
  have i1 : bI bx1 M1 := by rw [u1]; exact bI_u iM z0
  have i2 : bI bx1 M2 := by rw [u2]; exact bI_u i1 z0
  have o2 : ∀ (f : Nat) (i k : Int), ¬ (f = 2 ∧ i = 0 ∧ (k = 6 ∨ k = 7)) → M2 f i k = M f i k := fun f i k y => by
    rw [u2, jm_une (by omega), u1, jm_une (by omega)]
  unfold fJ7_fill_53178_a34_w1
  refine J2.lb (c_fill34_l fu M2 fu M2 0 i2 Kp.rf (fun l y1 y2 => by exfalso; omega) (by decide) (by decide) (by omega)) (fun _ M4 z => ?_)
  obtain ⟨i4, k4, e34⟩ := z
  have m45 : M4 2 0 5 = M 2 0 5 := by rw [k4 2 0 5 (by unfold FL; omega)]; exact o2 2 0 5 (by omega)
  refine c_run20 fu hfu M4 i4 _ _ (fun M5 i5 k5 cs => ?_) fu M4 0 i4 Kp.rf (fun o y1 y2 => by exfalso; omega) (by decide) (by have : 0 ≤ M4 2 0 5 ∧ M4 2 0 5 ≤ 6 := i4 2 0 5; omega) (by have : 0 ≤ M4 2 0 5 ∧ M4 2 0 5 ≤ 6 := i4 2 0 5; omega)
  have m4 : ∀ (f : Nat) (i k : Int), f ≠ 2 → f ≠ 34 → M4 f i k = M f i k := fun f i k y1 y2 => by
    rw [k4 f i k (by unfold FL; omega)]
    exact o2 f i k (by omega)
  have kM : Kp KR1 M M5 := fun f i k y => by
    unfold KR1 at y
    rw [k5 f i k (by unfold K20; omega), k4 f i k (by unfold FL; omega)]
    exact o2 f i k (by omega)
  have kN : Kp KR2 N N1 := fun f i k y => q1 f i k (by unfold KR2 at y; unfold KS3; omega)
  have e26 : M5 2 0 6 = 0 := by
    rw [k5 2 0 6 (by unfold K20; omega), k4 2 0 6 (by unfold FL; omega), u2]
    exact jm_ueq
  have e27 : M5 2 0 7 = 0 := by
    rw [k5 2 0 7 (by unfold K20; omega), k4 2 0 7 (by unfold FL; omega), u2, jm_une_k (by decide), u1]
    exact jm_ueq
  have run : RUN M5 N1 := by
    refine run_init iN tl kM kN e26 e70 (fun t y1 y2 => by rw [k5 34 0 t (by unfold K20; omega)]; exact e34 t y1 y2) e58 (fun o y1 y2 => ?_) ns
    have z := cs o y1 (by omega)
    unfold CST SL at z
    rw [m4 18 0 6 (by decide) (by decide), m4 10 o 3 (by decide) (by decide), m4 8 o 5 (by decide) (by decide), s18] at z
    obtain ⟨za, zb, zc, l29, l31, l32⟩ := z
    exact ⟨za, zb, zc, fun l y3 y4 => (l29 l y3 y4).trans (m4 19 o _ (by decide) (by decide)), l31, l32⟩
  have tl5 : TLD M5 N1 := tl.kp (fun f i k y => kM f i k (by unfold TD1 at y; unfold KR1; omega)) (fun f i k y => kN f i k (by unfold TD2 at y; unfold KR2; omega))
  have n17 : N1 0 0 17 = N 0 0 17 := kN 0 0 17 (by unfold KR2; omega)
  have sz : sG N1 (N1 0 0 17).toNat = 0 := sG_zero (N1 0 0 17).toNat (fun o y1 y2 => (ns o y1 (by omega)).1.2.2.1) _ (Nat.le_refl _)
  have bs1 : 2 ≤ N1 0 0 1 ∧ N1 0 0 1 ≤ 5 := j1 0 0 1
  have bn1 : 1 ≤ N1 0 0 2 ∧ N1 0 0 2 ≤ 12 := j1 0 0 2
  have grw : GRW N1 := fun o y1 y2 => by
    have e43 : N1 43 0 o = 0 := (ns o y1 (by omega)).1.2.2.2.1
    have b41 := (run.2.2.2 o y1 y2).2.1.1
    have sp : 0 ≤ N1 0 0 1 * N1 0 0 2 := Int.mul_nonneg (by omega) (by omega)
    rw [e43]
    have e39 : N1 39 0 o = sT N o := (ns o y1 (by omega)).1.1
    have st : N1 39 0 o = 0 ∨ N1 39 0 o = 1 ∨ N1 39 0 o = 2 := by
      rw [e39]
      unfold sT
      split
      · exact Or.inr (Or.inr rfl)
      · exact Or.inl rfl
    exact ⟨⟨⟨sp, by omega⟩, st⟩, fun g z1 z2 => by exfalso; omega⟩
  have fin := j_runs_l fu hfu M5 N1 fu M5 N1 0 ⟨i5, j1, tl5, run, Kp.rf, Kp.rf, grw⟩ sz.symm (by omega) (by omega)
  refine fin.mono (fun v M6 w N6 q => ?_)
  obtain ⟨⟨i6, j6, tl6, run6, g1, g2, g3⟩, dn⟩ := q
  refine ⟨⟨i6, j6, tl6, run6, fun f i k y => ?_, fun f i k y => (g2 f i k y).trans (kN f i k y)⟩, (g1 2 0 7 (by unfold KRa; omega)).trans e27, g3, dn⟩
  rw [g1 f i k (by unfold KR1 at y; unfold KRa; omega)]
  exact kM f i k y
