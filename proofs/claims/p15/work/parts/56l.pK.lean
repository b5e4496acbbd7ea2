/-! both readings answer alike -/
theorem k_start (fu : Nat) (M : jm_M) (iM : bI bx1 M) (t r l2 : Int) (hr : 0 ≤ r ∧ r ≤ 16) (hl2 : l2 = 0 ∨ l2 = 1) : ∃ M8 : jm_M, fX3_firstWrong_a12 fu M t r l2 = fX3_firstWrong_a12_25 fu fu M8 t 0 ∧ bI bx1 M8 ∧ M8 6 0 7 = l2 ∧ AB r M8 0 0 0 [] [] [] ∧ ∀ j : Int, M8 12 0 j = M 12 0 j := by
  obtain ⟨M1, u1⟩ : ∃ M1 : jm_M, M1 = jm_u M 6 0 7 l2 := ⟨_, rfl⟩
  obtain ⟨M3, u3⟩ : ∃ M3 : jm_M, M3 = jm_u M1 6 0 8 r := ⟨_, rfl⟩
  have i1 : bI bx1 M1 := by rw [u1]; exact bI_u iM (jm_inL (by omega) (by omega))
  have i3 : bI bx1 M3 := by rw [u3]; exact bI_u i1 (show (-1) ≤ r ∧ r ≤ 16 by omega)
  have e3 : M3 6 0 8 = r := by rw [u3]; exact jm_ueq
  have x6 : fX8_empty M3 r = some (0, jm_u (jm_u (jm_u M3 11 r 1 0) 11 r 6 0) 11 r 7 0) := rfl
  obtain ⟨v6, M6, e6, i6, k6, -⟩ := s_fX8_empty M3 i3 r ⟨by omega, by omega⟩
  have x6' := x6
  rw [e6] at x6'
  obtain ⟨-, u6⟩ := Prod.mk.inj (Option.some.inj x6')
  have x8 : fX3_beginLine M6 = some (0, jm_u (jm_u (jm_u (jm_u (jm_u M6 6 0 6 0) 6 0 1 0) 6 0 3 0) 6 0 5 0) 6 0 4 0) := rfl
  obtain ⟨v8, M8, e8, i8, k8, -⟩ := s_fX3_beginLine M6 i6
  have x8' := x8
  rw [e8] at x8'
  obtain ⟨-, u8⟩ := Prod.mk.inj (Option.some.inj x8')
  refine ⟨M8, ?_, i8, ?_, ⟨⟨?_, ?_, ?_, ?_⟩, ⟨?_, trivial⟩, ⟨?_, trivial⟩, ⟨?_, trivial⟩⟩, fun j => ?_⟩
  · unfold fX3_firstWrong_a12
    rw [if_pos hl2]
    show (fun M1 : jm_M => (fun M3 : jm_M => if 0 ≤ (M3 6 0 8) ∧ (M3 6 0 8) < 17 then (jm_b (fX8_empty M3 (M3 6 0 8)) fun v5 M6 => jm_b (fX3_beginLine M6 ) fun v7 M8 => fX3_firstWrong_a12_25 fu fu M8 t 0) else none) (jm_u M1 6 0 8 r)) (jm_u M 6 0 7 l2) = _
    rw [← u1]
    show (fun M3 : jm_M => if 0 ≤ (M3 6 0 8) ∧ (M3 6 0 8) < 17 then (jm_b (fX8_empty M3 (M3 6 0 8)) fun v5 M6 => jm_b (fX3_beginLine M6 ) fun v7 M8 => fX3_firstWrong_a12_25 fu fu M8 t 0) else none) (jm_u M1 6 0 8 r) = _
    rw [← u3]
    show (if 0 ≤ (M3 6 0 8) ∧ (M3 6 0 8) < 17 then (jm_b (fX8_empty M3 (M3 6 0 8)) fun v5 M6 => jm_b (fX3_beginLine M6 ) fun v7 M8 => fX3_firstWrong_a12_25 fu fu M8 t 0) else none) = _
    rw [e3, if_pos ⟨by omega, by omega⟩, e6]
    show jm_b (fX3_beginLine M6) (fun v7 M8 => fX3_firstWrong_a12_25 fu fu M8 t 0) = _
    rw [e8]
    rfl
  · rw [k8 6 0 7 (by unfold TR; omega), k6 6 0 7 (by unfold TX; omega), u3, jm_une_k (by decide), u1]; exact jm_ueq
  · rw [u8, jm_une_k (by decide), jm_une_k (by decide), jm_une_k (by decide), jm_une_k (by decide)]; exact jm_ueq
  · rw [u8]; exact jm_ueq
  · rw [u8, jm_une_k (by decide)]; exact jm_ueq
  · rw [k8 6 0 8 (by unfold TR; omega), k6 6 0 8 (by unfold TX; omega)]; exact e3
  · rw [u8, jm_une_k (by decide), jm_une_k (by decide)]; exact jm_ueq
  · rw [u8, jm_une_k (by decide), jm_une_k (by decide), jm_une_k (by decide)]; exact jm_ueq
  · rw [u8, jm_une_f (by decide), jm_une_f (by decide), jm_une_f (by decide), jm_une_f (by decide), jm_une_f (by decide), u6, jm_une_k (by decide), jm_une_k (by decide)]; exact jm_ueq
  · rw [k8 12 0 j (by unfold TR; omega), k6 12 0 j (by unfold TX; omega), u3, jm_une_f (by decide), u1]; exact jm_une_f (by decide)
theorem k_text (fu : Nat) (hfu : 4000 ≤ fu) (N M : jm_M) (iN : bI bx2 N) (iM : bI bx1 M) (w r t l2 : Int) (hw : 0 ≤ w ∧ w ≤ 16) (hr : 0 ≤ r ∧ r ≤ 16) (hl2 : l2 = 0 ∨ l2 = 1) (e40 : N 0 0 40 = t) (hT : ∀ j : Int, 0 ≤ j → j < t → M 12 0 j = N 34 0 j) : ∃ cv : Int, -1 ≤ cv ∧ cv ≤ 60 ∧ wp (fX3_firstWrong_a12 fu M t r l2) (fun v _ => v = cv) ∧ wp (fX12_reads fu N w l2) (fun v _ => v = if cv = -1 then 1 else -1 - cv) := by
  have b40 : 0 ≤ N 0 0 40 ∧ N 0 0 40 ≤ 100 := iN 0 0 40
  obtain ⟨M8, e8, i8, h7, hA, h12⟩ := k_start fu M iM t r l2 hr hl2
  have hs : ∀ j : Int, jm_in (N 34 0 j) := fun j => iN 34 0 j
  have h12' : ∀ j : Int, 0 ≤ j → j < t → M8 12 0 j = N 34 0 j := fun j h1 h2 => (h12 j).trans (hT j h1 h2)
  have h68 : M8 6 0 8 = r := hA.1.2.2.2
  have h61 : M8 6 0 1 = 0 := hA.2.2.1.1
  suffices q : wp (fX12_reads fu N w l2) (fun v _ => ∃ cv : Int, -1 ≤ cv ∧ cv ≤ 60 ∧ wp (fX3_firstWrong_a12_25 fu fu M8 t 0) (fun v _ => v = cv) ∧ v = if cv = -1 then 1 else -1 - cv) by
    obtain ⟨v, N1, e, cv, q1, q2, q3, q4⟩ := q
    exact ⟨cv, q1, q2, by rw [e8]; exact q3, v, N1, e, q4⟩
  unfold fX12_reads
  refine wp_e (bx2_in (iN 0 0 40)) (fun v2 e2 _ => ?_)
  refine wp_si iN (show (0 : Int) ≤ 0 ∧ (0 : Int) ≤ 100 by omega) (fun M4 u4 i4 => ?_)
  have bm := jm_min_f v2 60
  refine wp_e (jm_inL (by omega) (by omega)) (fun v5 e5 _ => ?_)
  refine wp_si i4 (show (0 : Int) ≤ 0 ∧ (0 : Int) ≤ 60 by omega) (fun M7 u7 i7 => ?_)
  refine wp_si i7 (show 0 ≤ w ∧ w ≤ 16 by omega) (fun M8' u8 i8' => ?_)
  refine wp_T ⟨by omega, by omega⟩ ?_
  refine wp_si i8' (show (0 : Int) ≤ 0 ∧ (0 : Int) ≤ 100 by omega) (fun M10 u10 i10 => ?_)
  have et : v2 = t := by omega
  rw [et]
  have hlv : v5 ≤ 60 ∧ v5 ≤ t ∧ (v5 = t ∨ v5 = 60) := by omega
  have no : ∀ y : Int, TNO fu (N 34 0) v5 r 0 M8 y → 0 ≤ y → ∃ cv : Int, -1 ≤ cv ∧ cv ≤ 60 ∧ wp (fX3_firstWrong_a12_25 fu fu M8 t 0) (fun v _ => v = cv) ∧ (if (0 : Int) = 1 then (if t ≤ 60 then (1 : Int) else -61) else -1 - y) = if cv = -1 then 1 else -1 - cv := fun y h hy => by
    have := h.le
    refine ⟨y, by omega, by omega, fw_no fu hfu (N 34 0) hs v5 r t y M8 hlv i8 (by omega) (by omega) h12' h, ?_⟩
    rw [if_neg (by decide), if_neg (by omega)]
  have ok : ((M8 6 0 7 ≠ 0 ∧ TOK fu (N 34 0) r 7 0 M8 v5) ∨ (M8 6 0 7 = 0 ∧ TOL fu (N 34 0) r 0 M8 v5)) → ∀ y : Int, ∃ cv : Int, -1 ≤ cv ∧ cv ≤ 60 ∧ wp (fX3_firstWrong_a12_25 fu fu M8 t 0) (fun v _ => v = cv) ∧ (if (1 : Int) = 1 then (if t ≤ 60 then (1 : Int) else -61) else -1 - y) = if cv = -1 then 1 else -1 - cv := fun h y => by
    have z := fw_ok fu hfu (N 34 0) hs v5 r t M8 hlv i8 (by omega) (by omega) h12' h
    rw [if_pos rfl]
    by_cases c : t ≤ 60
    · rw [if_pos c] at z ⊢
      exact ⟨-1, by decide, by decide, z, rfl⟩
    · rw [if_neg c] at z ⊢
      exact ⟨60, by decide, by decide, z, rfl⟩
  have z49 : ∀ u : Int, u = (if l2 = 0 then 1 else 0) → wp (gX12_reads_49 fu M10 l2 t v5 (u + 2)) (fun v _ => ∃ cv : Int, -1 ≤ cv ∧ cv ≤ 60 ∧ wp (fX3_firstWrong_a12_25 fu fu M8 t 0) (fun v _ => v = cv) ∧ v = if cv = -1 then 1 else -1 - cv) := by
    intro u hu
    have hu01 : u = 0 ∨ u = 1 := by
      rcases hl2 with q | q
      · rw [if_pos q] at hu; exact Or.inr hu
      · rw [if_neg (by omega)] at hu; exact Or.inl hu
    unfold gX12_reads_49
    refine wp_si i10 (show 0 ≤ u + 2 ∧ u + 2 ≤ 10 by omega) (fun Ms us is => ?_)
    have s41 : Ms 0 0 41 = 0 := by rw [us, jm_une_k (by decide), u10, jm_une_f (by decide), u8, jm_une_k (by decide), u7]; exact jm_ueq
    have s42 : Ms 0 0 42 = w := by rw [us, jm_une_k (by decide), u10, jm_une_f (by decide), u8]; exact jm_ueq
    have s43 : Ms 0 0 43 = u + 2 := by rw [us]; exact jm_ueq
    have sn : nn Ms = 0 := by
      unfold nn
      rw [s42, us, jm_une_f (by decide), u10]
      exact jm_ueq
    have s34 : ∀ j : Int, 0 ≤ j → j < 100 → Ms 34 0 j = N 34 0 j := fun j _ _ => by rw [us, jm_une_f (by decide), u10, jm_une_f (by decide), u8, jm_une_f (by decide), u7, jm_une_f (by decide), u4]; exact jm_une_f (by decide)
    have hlt : ltx M8 = u := by
      unfold ltx
      rw [h7, hu]
    refine wp_ite (fun c => ?_) (fun c => ?_)
    · refine wp_b (wp_and (s_law fu hfu v5 (by omega) Ms is (by omega) (by omega)) (g_law fu hfu (N 34 0) hs v5 u r (by omega) hr hu01 Ms M8 [] is (by omega) (by omega) ⟨s34, s43⟩ i8 hlt (by omega) hA (by rw [s41]; exact Int.le_refl 0))) (fun v3 N4 h => ?_)
      obtain ⟨⟨hb, hp, hh⟩, g⟩ := h
      rw [s41] at g
      have b4 : 0 ≤ N4 0 0 41 ∧ N4 0 0 41 ≤ 60 := hp.1 0 0 41
      have hy : N4 0 0 41 ≤ v5 := by
        rcases g with z | z
        · exact Int.le_of_eq z.2.1
        · exact z.2.le
      refine wp_mono (r_71 fu hp.1 t v3 v5 hlv hb hy) (fun v N5 q => ?_)
      rw [q.2]
      rcases g with ⟨z1, z2, z3⟩ | ⟨z1, z2⟩
      · rw [z1]; exact ok (Or.inr ⟨by omega, z3⟩) _
      · rw [z1]; exact no _ z2 b4.1
    · refine wp_b (wp_and (s_lines fu hfu v5 (by omega) Ms is (by omega) (by omega)) (g_lines fu hfu (N 34 0) hs v5 u r (by omega) hr hu01 Ms M8 [] is (by omega) (by omega) ⟨s34, s43⟩ i8 hlt (by omega) hA (by rw [s41]; exact Int.le_refl 0))) (fun v3 N4 h => ?_)
      obtain ⟨⟨hb, hp, hh⟩, g⟩ := h
      rw [s41] at g
      have b4 : 0 ≤ N4 0 0 41 ∧ N4 0 0 41 ≤ 60 := hp.1 0 0 41
      have hy : N4 0 0 41 ≤ v5 := by
        rcases g with z | z
        · exact Int.le_of_eq z.2.1
        · exact z.2.le
      refine wp_mono (r_71 fu hp.1 t v3 v5 hlv hb hy) (fun v N5 q => ?_)
      rw [q.2]
      rcases g with ⟨z1, z2, z3⟩ | ⟨z1, z2⟩
      · rw [z1]; exact ok (Or.inl ⟨by omega, z3⟩) _
      · rw [z1]; exact no _ z2 b4.1
  refine wp_ite (fun c => ?_) (fun c => ?_)
  · exact z49 1 (by rw [if_pos c])
  · exact z49 0 (by rw [if_neg c])
