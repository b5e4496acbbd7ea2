/-! a text taken: what both hold of it -/
theorem k_start2 (fu : Nat) (M : jm_M) (iM : bI bx1 M) (t r l2 : Int) (hr : 0 ≤ r ∧ r ≤ 16) (hl2 : l2 = 0 ∨ l2 = 1) : ∃ M8 : jm_M, fX3_firstWrong_a12 fu M t r l2 = fX3_firstWrong_a12_25 fu fu M8 t 0 ∧ bI bx1 M8 ∧ M8 6 0 7 = l2 ∧ AB r M8 0 0 0 [] [] [] ∧ (∀ j : Int, M8 12 0 j = M 12 0 j) ∧ M8 11 r 6 = 0 ∧ M8 11 r 7 = 0 := by
  obtain ⟨M1, u1⟩ : ∃ M1 : jm_M, M1 = jm_u M 6 0 7 l2 := ⟨_, rfl⟩
  obtain ⟨M3, u3⟩ : ∃ M3 : jm_M, M3 = jm_u M1 6 0 8 r := ⟨_, rfl⟩
  have i1 : bI bx1 M1 := by rw [u1]; exact bI_u iM (jm_inL (by omega) (by omega))
  have i3 : bI bx1 M3 := by rw [u3]; exact bI_u i1 (show (-1) ≤ r ∧ r ≤ 16 by omega)
  have e3 : M3 6 0 8 = r := by rw [u3]; exact jm_ueq
  have x6 : fX8_empty M3 r = some (0, jm_u (jm_u (jm_u M3 11 r 1 0) 11 r 6 0) 11 r 7 0) := rfl
  obtain ⟨v6, M6, e6, i6, k6, -⟩ := s_fX8_empty M3 i3 r ⟨by omega, by omega⟩
  have x6' := x6
  rw [e6] at x6'
  obtain ⟨-, u6⟩ := Prod.mk.inj (Option.some.inj x6')
  have x8 : fX3_beginLine M6 = some (0, jm_u (jm_u (jm_u (jm_u (jm_u M6 6 0 6 0) 6 0 1 0) 6 0 3 0) 6 0 5 0) 6 0 4 0) := rfl
  obtain ⟨v8, M8, e8, i8, k8, -⟩ := s_fX3_beginLine M6 i6
  have x8' := x8
  rw [e8] at x8'
  obtain ⟨-, u8⟩ := Prod.mk.inj (Option.some.inj x8')
  refine ⟨M8, ?_, i8, ?_, ⟨⟨?_, ?_, ?_, ?_⟩, ⟨?_, trivial⟩, ⟨?_, trivial⟩, ⟨?_, trivial⟩⟩, fun j => ?_, ?_, ?_⟩
  · unfold fX3_firstWrong_a12
    rw [if_pos hl2]
    show (fun M1 : jm_M => (fun M3 : jm_M => if 0 ≤ (M3 6 0 8) ∧ (M3 6 0 8) < 17 then (jm_b (fX8_empty M3 (M3 6 0 8)) fun v5 M6 => jm_b (fX3_beginLine M6 ) fun v7 M8 => fX3_firstWrong_a12_25 fu fu M8 t 0) else none) (jm_u M1 6 0 8 r)) (jm_u M 6 0 7 l2) = _
    rw [← u1]
    show (fun M3 : jm_M => if 0 ≤ (M3 6 0 8) ∧ (M3 6 0 8) < 17 then (jm_b (fX8_empty M3 (M3 6 0 8)) fun v5 M6 => jm_b (fX3_beginLine M6 ) fun v7 M8 => fX3_firstWrong_a12_25 fu fu M8 t 0) else none) (jm_u M1 6 0 8 r) = _
    rw [← u3]
    show (if 0 ≤ (M3 6 0 8) ∧ (M3 6 0 8) < 17 then (jm_b (fX8_empty M3 (M3 6 0 8)) fun v5 M6 => jm_b (fX3_beginLine M6 ) fun v7 M8 => fX3_firstWrong_a12_25 fu fu M8 t 0) else none) = _
    rw [e3, if_pos ⟨by omega, by omega⟩, e6]
    show jm_b (fX3_beginLine M6) (fun v7 M8 => fX3_firstWrong_a12_25 fu fu M8 t 0) = _
    rw [e8]
    rfl
  · rw [k8 6 0 7 (by unfold TR; omega), k6 6 0 7 (by unfold TX; omega), u3, jm_une_k (by decide), u1]; exact jm_ueq
  · rw [u8, jm_une_k (by decide), jm_une_k (by decide), jm_une_k (by decide), jm_une_k (by decide)]; exact jm_ueq
  · rw [u8]; exact jm_ueq
  · rw [u8, jm_une_k (by decide)]; exact jm_ueq
  · rw [k8 6 0 8 (by unfold TR; omega), k6 6 0 8 (by unfold TX; omega)]; exact e3
  · rw [u8, jm_une_k (by decide), jm_une_k (by decide)]; exact jm_ueq
  · rw [u8, jm_une_k (by decide), jm_une_k (by decide), jm_une_k (by decide)]; exact jm_ueq
  · rw [u8, jm_une_f (by decide), jm_une_f (by decide), jm_une_f (by decide), jm_une_f (by decide), jm_une_f (by decide), u6, jm_une_k (by decide), jm_une_k (by decide)]; exact jm_ueq
  · rw [k8 12 0 j (by unfold TR; omega), k6 12 0 j (by unfold TX; omega), u3, jm_une_f (by decide), u1]; exact jm_une_f (by decide)
  · rw [u8, jm_une_f (by decide), jm_une_f (by decide), jm_une_f (by decide), jm_une_f (by decide), jm_une_f (by decide), u6, jm_une_k (by decide)]; exact jm_ueq
  · rw [u8, jm_une_f (by decide), jm_une_f (by decide), jm_une_f (by decide), jm_une_f (by decide), jm_une_f (by decide), u6]; exact jm_ueq
theorem fw_okX (fu : Nat) (hfu : 4000 ≤ fu) (s : Int → Int) (hs : ∀ j : Int, jm_in (s j)) (r t : Int) (M M1 : jm_M) (n : Nat) (ht : t ≤ 60) (iM : bI bx1 M) (h8 : 0 ≤ M 6 0 8) (hw : 0 ≤ M 6 0 1) (hT : ∀ j : Int, 0 ≤ j → j < t → M 12 0 j = s j) (e : t = 0 + (n : Int)) (hrun : RunN fu s n 0 M M1) (k1 : Kp (TI r) M M1) (h : (M 6 0 7 ≠ 0 ∧ M1 6 0 6 = 7) ∨ (M 6 0 7 = 0 ∧ (M1 6 0 6 = 5 ∨ (M1 6 0 6 = 4 ∧ 1 ≤ M1 6 0 5)))) : fX3_firstWrong_a12_25 fu fu M t 0 = some (-1, M1) := by
  obtain ⟨-, l7⟩ := ltx_kpI k1
  obtain ⟨e1, hT1⟩ := fw_run fu hfu s hs t n (fu - n) 0 M M1 hrun iM h8 (by omega) (by omega) hT (by omega) (by omega)
  rw [show n + (fu - n) = fu by omega, ← e] at e1
  obtain ⟨m, em⟩ : ∃ m, fu - n = m + 1 := ⟨fu - n - 1, by omega⟩
  rw [em] at e1
  have z : wp (fX3_firstWrong_a12_25 fu (m + 1) M1 t t) (fun v M2 => v = -1 ∧ M2 = M1) := by
    refine fw_full fu t t m M1 (by omega) ?_
    unfold gX3_firstWrong_a12_65 gX3_firstWrong_a12_121 gX3_firstWrong_a12_125
    refine wp_T ht ?_
    rcases h with ⟨z1, z2⟩ | ⟨z1, z2⟩
    · exact wp_F (by omega) (wp_T z2 (wp_ret ⟨rfl, rfl⟩))
    · refine wp_T (by omega) ?_
      refine wp_ite (fun c2 => wp_ret ⟨rfl, rfl⟩) (fun c2 => ?_)
      exact wp_T (by omega) (wp_F (by omega) (wp_ret ⟨rfl, rfl⟩))
  obtain ⟨v, M2, e2, rfl, rfl⟩ := z
  exact e1.trans e2
theorem kx_plan (fu : Nat) (hfu : 4000 ≤ fu) (N M : jm_M) (iN : bI bx2 N) (iM : bI bx1 M) (w r t : Int) (hw : 0 ≤ w ∧ w ≤ 16) (hr : 0 ≤ r ∧ r ≤ 16) (e40 : N 0 0 40 = t) (hT : ∀ j : Int, 0 ≤ j → j < t → M 12 0 j = N 34 0 j) : wp (fX12_reads fu N w 1) (fun v N1 => v = 1 → ∃ M1 : jm_M, fX3_firstWrong_a12 fu M t r 1 = some (-1, M1) ∧ TXT 0 M1 N1 r (100 * w) (100 * w + N1 36 0 w)) := by
  have b40 : 0 ≤ N 0 0 40 ∧ N 0 0 40 ≤ 100 := iN 0 0 40
  obtain ⟨M8, e8, i8, h7, hA, h12, hL8, -⟩ := k_start2 fu M iM t r 1 hr (Or.inr rfl)
  have hs : ∀ j : Int, jm_in (N 34 0 j) := fun j => iN 34 0 j
  have h12' : ∀ j : Int, 0 ≤ j → j < t → M8 12 0 j = N 34 0 j := fun j h1 h2 => (h12 j).trans (hT j h1 h2)
  have h68 : M8 6 0 8 = r := hA.1.2.2.2
  have h61 : M8 6 0 1 = 0 := hA.2.2.1.1
  unfold fX12_reads
  refine wp_e (bx2_in (iN 0 0 40)) (fun v2 e2 _ => ?_)
  refine wp_si iN (show (0 : Int) ≤ 0 ∧ (0 : Int) ≤ 100 by omega) (fun M4 u4 i4 => ?_)
  have bm := jm_min_f v2 60
  refine wp_e (jm_inL (by omega) (by omega)) (fun v5 e5 _ => ?_)
  refine wp_si i4 (show (0 : Int) ≤ 0 ∧ (0 : Int) ≤ 60 by omega) (fun M7 u7 i7 => ?_)
  refine wp_si i7 (show 0 ≤ w ∧ w ≤ 16 by omega) (fun M8' u8 i8' => ?_)
  refine wp_T ⟨by omega, by omega⟩ ?_
  refine wp_si i8' (show (0 : Int) ≤ 0 ∧ (0 : Int) ≤ 100 by omega) (fun M10 u10 i10 => ?_)
  have et : v2 = t := by omega
  rw [et]
  have hlv : v5 ≤ 60 ∧ v5 ≤ t ∧ (v5 = t ∨ v5 = 60) := by omega
  refine wp_F (by decide) ?_
  unfold gX12_reads_49
  refine wp_si i10 (show (0 : Int) ≤ 2 ∧ (2 : Int) ≤ 10 by decide) (fun Ms us is => ?_)
  have s41 : Ms 0 0 41 = 0 := by rw [us, jm_une_k (by decide), u10, jm_une_f (by decide), u8, jm_une_k (by decide), u7]; exact jm_ueq
  have s42 : Ms 0 0 42 = w := by rw [us, jm_une_k (by decide), u10, jm_une_f (by decide), u8]; exact jm_ueq
  have s43 : Ms 0 0 43 = 0 + 2 := by rw [us]; exact jm_ueq
  have sn : nn Ms = 0 := by
    unfold nn
    rw [s42, us, jm_une_f (by decide), u10]
    exact jm_ueq
  have s34 : ∀ j : Int, 0 ≤ j → j < 100 → Ms 34 0 j = N 34 0 j := fun j _ _ => by rw [us, jm_une_f (by decide), u10, jm_une_f (by decide), u8, jm_une_f (by decide), u7, jm_une_f (by decide), u4]; exact jm_une_f (by decide)
  have hlt : ltx M8 = 0 := by
    unfold ltx
    rw [h7]
    exact if_neg (by decide)
  have tx0 : TXI 0 r (100 * w) M8 Ms := by
    unfold TXI TXT
    rw [hL8, s42, sn]
    refine ⟨⟨⟨Int.le_refl 0, by decide, by omega, by omega⟩, fun _ => 100 * w, rfl, (Int.add_zero _).symm, fun l y1 y2 => by exfalso; omega⟩, ?_, fun l y1 y2 => by exfalso; omega⟩
    unfold frm
    rw [if_pos rfl]
    exact hA.2.2.2.1
  refine wp_F (by decide) ?_
  refine wp_b (wp_and (s_lines fu hfu v5 (by omega) Ms is (by omega) (by omega)) (h_lines fu hfu (N 34 0) hs v5 0 r (100 * w) (by omega) hr (Or.inl rfl) Ms M8 [] is (by omega) (by omega) ⟨s34, s43⟩ i8 hlt (by omega) hA (by rw [s41]; exact Int.le_refl 0) tx0 (by rw [s42]; exact Int.le_refl _) (by omega))) (fun v3 N4 h => ?_)
  obtain ⟨⟨hb, hp, hh⟩, g⟩ := h
  have b4 : 0 ≤ N4 0 0 41 ∧ N4 0 0 41 ≤ 60 := hp.1 0 0 41
  have hy : N4 0 0 41 ≤ v5 := hp.2.2.2.1
  refine wp_mono (r_71 fu hp.1 t v3 v5 hlv hb hy) (fun v N5 q hv => ?_)
  obtain ⟨q1, q2⟩ := q
  have hv3 : v3 = 1 ∧ t ≤ 60 := by
    rcases hb with z | z
    · rw [if_neg (by omega)] at q2
      exfalso; omega
    · rw [if_pos z] at q2
      refine ⟨z, ?_⟩
      by_cases c : t ≤ 60
      · exact c
      · rw [if_neg c] at q2
        exfalso; omega
  obtain ⟨g1, g2, n, M1, cmp, dg, C, ⟨y1, y2⟩, ⟨y3, y4, y5, y6⟩, y7⟩ := g hv3.1
  rw [s41] at y1 y2
  refine ⟨M1, ?_, ?_⟩
  · rw [e8]
    exact fw_okX fu hfu (N 34 0) hs r t M8 M1 n hv3.2 i8 (by omega) (by omega) h12' (by omega) y2 y4 (Or.inl ⟨by omega, y5.1.1⟩)
  · rw [q1]
    have z := y7.1
    unfold nn at z
    rw [g2, s42] at z
    exact z
theorem kx_rule (fu : Nat) (hfu : 4000 ≤ fu) (N M : jm_M) (iN : bI bx2 N) (iM : bI bx1 M) (w r t : Int) (hw : 0 ≤ w ∧ w ≤ 16) (hr : 0 ≤ r ∧ r ≤ 16) (e40 : N 0 0 40 = t) (hT : ∀ j : Int, 0 ≤ j → j < t → M 12 0 j = N 34 0 j) : wp (fX12_reads fu N w 0) (fun v N1 => v = 1 → ∃ M1 : jm_M, fX3_firstWrong_a12 fu M t r 0 = some (-1, M1) ∧ RT 1 M1 N1 r (100 * w) (N1 36 0 w) (N1 62 0 (N 0 0 72))) := by
  have b40 : 0 ≤ N 0 0 40 ∧ N 0 0 40 ≤ 100 := iN 0 0 40
  obtain ⟨M8, e8, i8, h7, hA, h12, hL8, hS8⟩ := k_start2 fu M iM t r 0 hr (Or.inl rfl)
  have hs : ∀ j : Int, jm_in (N 34 0 j) := fun j => iN 34 0 j
  have h12' : ∀ j : Int, 0 ≤ j → j < t → M8 12 0 j = N 34 0 j := fun j h1 h2 => (h12 j).trans (hT j h1 h2)
  have h68 : M8 6 0 8 = r := hA.1.2.2.2
  have h61 : M8 6 0 1 = 0 := hA.2.2.1.1
  unfold fX12_reads
  refine wp_e (bx2_in (iN 0 0 40)) (fun v2 e2 _ => ?_)
  refine wp_si iN (show (0 : Int) ≤ 0 ∧ (0 : Int) ≤ 100 by omega) (fun M4 u4 i4 => ?_)
  have bm := jm_min_f v2 60
  refine wp_e (jm_inL (by omega) (by omega)) (fun v5 e5 _ => ?_)
  refine wp_si i4 (show (0 : Int) ≤ 0 ∧ (0 : Int) ≤ 60 by omega) (fun M7 u7 i7 => ?_)
  refine wp_si i7 (show 0 ≤ w ∧ w ≤ 16 by omega) (fun M8' u8 i8' => ?_)
  refine wp_T ⟨by omega, by omega⟩ ?_
  refine wp_si i8' (show (0 : Int) ≤ 0 ∧ (0 : Int) ≤ 100 by omega) (fun M10 u10 i10 => ?_)
  have et : v2 = t := by omega
  rw [et]
  have hlv : v5 ≤ 60 ∧ v5 ≤ t ∧ (v5 = t ∨ v5 = 60) := by omega
  refine wp_T rfl ?_
  unfold gX12_reads_49
  refine wp_si i10 (show (0 : Int) ≤ 3 ∧ (3 : Int) ≤ 10 by decide) (fun Ms us is => ?_)
  have s41 : Ms 0 0 41 = 0 := by rw [us, jm_une_k (by decide), u10, jm_une_f (by decide), u8, jm_une_k (by decide), u7]; exact jm_ueq
  have s42 : Ms 0 0 42 = w := by rw [us, jm_une_k (by decide), u10, jm_une_f (by decide), u8]; exact jm_ueq
  have s43 : Ms 0 0 43 = 1 + 2 := by rw [us]; exact jm_ueq
  have s72 : Ms 0 0 72 = N 0 0 72 := by rw [us, jm_une_k (by decide), u10, jm_une_f (by decide), u8, jm_une_k (by decide), u7, jm_une_k (by decide), u4]; exact jm_une_k (by decide)
  have sn : nn Ms = 0 := by
    unfold nn
    rw [s42, us, jm_une_f (by decide), u10]
    exact jm_ueq
  have s34 : ∀ j : Int, 0 ≤ j → j < 100 → Ms 34 0 j = N 34 0 j := fun j _ _ => by rw [us, jm_une_f (by decide), u10, jm_une_f (by decide), u8, jm_une_f (by decide), u7, jm_une_f (by decide), u4]; exact jm_une_f (by decide)
  have hlt : ltx M8 = 1 := by
    unfold ltx
    rw [h7]
    exact if_pos rfl
  refine wp_T rfl ?_
  refine wp_b (wp_and (s_law fu hfu v5 (by omega) Ms is (by omega) (by omega)) (h_law fu hfu (N 34 0) hs v5 1 r (by omega) hr (Or.inr rfl) Ms M8 [] rfl is (by omega) sn ⟨s34, s43⟩ i8 hlt h7 hA hL8 hS8)) (fun v3 N4 h => ?_)
  obtain ⟨⟨hb, hp, hh⟩, g⟩ := h
  have b4 : 0 ≤ N4 0 0 41 ∧ N4 0 0 41 ≤ 60 := hp.1 0 0 41
  by_cases hv0 : v3 = 1
  · obtain ⟨g1, n, M1, ⟨y1, y2⟩, ⟨y3, y4, y5⟩, y6⟩ := g hv0
    rw [s41] at y1 y2
    refine wp_mono (r_71 fu hp.1 t v3 v5 hlv hb (by omega)) (fun v N5 q hv => ?_)
    obtain ⟨q1, q2⟩ := q
    have ht : t ≤ 60 := by
      rw [if_pos hv0] at q2
      by_cases c : t ≤ 60
      · exact c
      · rw [if_neg c] at q2
        exfalso; omega
    refine ⟨M1, ?_, ?_⟩
    · rw [e8]
      exact fw_okX fu hfu (N 34 0) hs r t M8 M1 n ht i8 (by omega) (by omega) h12' (by omega) y2 y4 (Or.inr ⟨h7, y5⟩)
    · rw [q1]
      rw [s42, s72] at y6
      exact y6
  · refine wp_mono (x_71 fu hp.1 t v3 hb) (fun v N5 q hv => ?_)
    exfalso
    have := q.2.2.2 (by omega)
    omega
