/-! both readings: a line, the lines of a plan -/
theorem g_line_38 (fu : Nat) (hfu : 4000 ≤ fu) (s : Int → Int) (hs : ∀ j : Int, jm_in (s j)) (l u r : Int) (hl : l ≤ 60) (hr : 0 ≤ r ∧ r ≤ 16) (N M : jm_M) (cmp dg : Int) (C : List Int) (iN : bI bx2 N) (hlt : N 0 0 41 < l) (hn : nn N ≤ N 0 0 41 + 39) (hT : ((∀ j : Int, 0 ≤ j → j < 100 → N 34 0 j = s j) ∧ N 0 0 43 = u + 2)) (iM : bI bx1 M) (hA : AB r M 6 cmp dg [] [] C) (hC : (C.length : Int) ≤ N 0 0 41 + 1) : wp (gX12_line_38 fu N l) (fun v N1 => (v = 1 ∧ TOK fu s r 7 (N 0 0 41 + 1) M (N1 0 0 41) ∧ (N1 0 0 41 < l → ¬ (s (N1 0 0 41) = 98 ∨ s (N1 0 0 41) = 43 ∨ s (N1 0 0 41) = 61 ∨ s (N1 0 0 41) = 45 ∨ s (N1 0 0 41) = 103 ∨ s (N1 0 0 41) = 104 ∨ s (N1 0 0 41) = 46))) ∨ (v = 0 ∧ TNO fu s l r (N 0 0 41 + 1) M (N1 0 0 41))) := by
  unfold gX12_line_38
  have b41 : 0 ≤ N 0 0 41 ∧ N 0 0 41 ≤ 60 := iN 0 0 41
  obtain ⟨pa, ha, ea⟩ := PE_at iN hl hlt
  refine wp_si iN (by have := pa.1 0 0 41; rw [ea] at this; rw [jm_wid (by omega) (by omega)]; exact this) (fun N2 u2 i2 => ?_)
  rw [← u2] at pa ha ea
  have n2 : nn N2 = nn N := by
    unfold nn
    rw [u2, jm_une_f (by decide), jm_une_k (by decide)]
  refine wp_b (x_marks2 (l := l) i2 (-300) (jm_inL (by decide) (by decide)) (by omega) (by omega)) (fun v3 N4 h4 => ?_)
  obtain ⟨-, p4, e4, -, k4, -⟩ := h4
  have e41 : N4 0 0 41 = N 0 0 41 + 1 := by omega
  have q := g_acts fu s hs l u r hl hr fu N4 M 0 cmp dg C p4.1 (by omega) (by omega) (p4.tape (pa.tape hT)) iM (Or.inl ⟨rfl, hA⟩) (by omega) (by omega)
  rw [e41] at q
  exact q
theorem TOK.mono {fu : Nat} {s : Int → Int} {r st x y : Int} {M : jm_M} (h : TOK fu s r st x M y) {z : Int} (e : y = z) : TOK fu s r st x M z := e ▸ h
theorem g_line (fu : Nat) (hfu : 4000 ≤ fu) (s : Int → Int) (hs : ∀ j : Int, jm_in (s j)) (l u r : Int) (hl : l ≤ 60) (hr : 0 ≤ r ∧ r ≤ 16) (hu2 : u = 0 ∨ u = 1) (N M : jm_M) (C : List Int) (iN : bI bx2 N) (h1 : N 0 0 41 ≤ l) (h3 : 3 * nn N ≤ 4 * N 0 0 41) (hT : ((∀ j : Int, 0 ≤ j → j < 100 → N 34 0 j = s j) ∧ N 0 0 43 = u + 2)) (iM : bI bx1 M) (hu : ltx M = u) (h7 : M 6 0 7 ≠ 0) (hA : AB r M 0 0 0 [] [] C) (hC : (C.length : Int) ≤ N 0 0 41) : wp (fX12_line fu N l) (fun v N1 => (v = 1 ∧ TOK fu s r 7 (N 0 0 41) M (N1 0 0 41) ∧ (N1 0 0 41 < l → ¬ (s (N1 0 0 41) = 98 ∨ s (N1 0 0 41) = 43 ∨ s (N1 0 0 41) = 61 ∨ s (N1 0 0 41) = 45 ∨ s (N1 0 0 41) = 103 ∨ s (N1 0 0 41) = 104 ∨ s (N1 0 0 41) = 46))) ∨ (v = 0 ∧ TNO fu s l r (N 0 0 41) M (N1 0 0 41))) := by
  unfold fX12_line
  have b41 : 0 ≤ N 0 0 41 ∧ N 0 0 41 ≤ 60 := iN 0 0 41
  have bn : 0 ≤ nn N ∧ nn N ≤ 100 := nn_box iN
  have eT : N 34 0 (N 0 0 41) = s (N 0 0 41) := hT.1 _ (by omega) (by omega)
  refine wp_bp (x_isSign2 iN l 58 hl) (fun v1 hv1 => ?_)
  rw [eT] at hv1
  refine wp_ite (fun c => ?_) (fun c => ?_)
  · have hno : N 0 0 41 < l → s (N 0 0 41) ≠ 58 := fun q w => by omega
    have pre : PRE s l u r 0 N M 0 0 0 [] [] C := ⟨⟨iN, h1, by omega⟩, hT, ⟨iM, hu, hA⟩, ⟨Or.inl rfl, Or.inl rfl, fun _ => rfl⟩, fun _ x V e => (by cases e), fun _ q => Or.inr (hno q), (by simp only [List.length_nil]; omega), (by simp only [List.length_nil]; omega), fun q => absurd q (by decide)⟩
    refine wp_b (show wp (fX12_some fu N l) _ from sim_fR fu hfu s hs l u r hl hr hu2 500 0 N M 0 0 0 [] [] C (by decide) (by omega) pre) (fun v5 N6 h6 => ?_)
    obtain ⟨hPO, h6⟩ := h6
    have hT6 := hPO.2.1.tape hT
    have i6 : bI bx2 N6 := hPO.2.1.1
    have b6 : 0 ≤ N6 0 0 41 ∧ N6 0 0 41 ≤ 60 := i6 0 0 41
    have a6 := hPO.2.1.2.2.1
    have n6 := hPO.2.1.2.2.2.2.2.1
    have l6 := hPO.2.1.2.2.2.1
    have eT6 : N6 34 0 (N6 0 0 41) = s (N6 0 0 41) := hT6.1 _ (by omega) (by omega)
    refine wp_ite (fun c2 => ?_) (fun c2 => ?_)
    · refine wp_ret (Or.inr ⟨rfl, ?_⟩)
      rcases h6 with z | z
      · omega
      · exact z.2.tno l6
    rcases h6 with z | z
    case inr => omega
    obtain ⟨-, n, M1, cmp1, dg1, P, Er, e41, hrun, i1, k1, hA1, hPl, -, hc01, hnx, hlen, -⟩ := z
    rw [List.append_nil] at hA1
    obtain ⟨-, l7⟩ := ltx_kp k1
    obtain ⟨vk0, -⟩ := lvk_val
    refine wp_bp (x_isSign2 i6 l 58 hl) (fun v9 hv9 => ?_)
    rw [eT6] at hv9
    refine wp_ite (fun c3 => ?_) (fun c3 => ?_)
    · refine wp_ret (Or.inr ⟨rfl, n, M1, e41, hrun, i1, k1.toI, ?_⟩)
      by_cases hlt : N6 0 0 41 < l
      · have hn58 : s (N6 0 0 41) ≠ 58 := fun w => by omega
        have hz := lv_any (s (N6 0 0 41))
        have hx := hnx hlt
        exact Or.inr ⟨hlt, y_be_no hfu hr i1 (hs _) hA1 (by simp) hx.1 (fun w => absurd w hn58) (fun _ => rfl) (fun _ _ => by omega)⟩
      · have e2 := hA1.1.1
        exact Or.inl ⟨by omega, by omega, by omega, fun w => by omega⟩
    · have hlt : N6 0 0 41 < l ∧ s (N6 0 0 41) = 58 := by omega
      obtain ⟨M2, run2, i2, k2, hA2⟩ := YL.run (y_colon2 hfu hr i1 (hs (N6 0 0 41)) hA1 hlt.2 (fun x hx => by have := hPl x hx; omega) (by simp only [List.length_append]; omega))
      rw [if_neg (by omega)] at hA2
      have hrun2 := hrun.app (show RunN fu s 1 (N 0 0 41 + (n : Int)) M1 M2 by rw [← e41]; exact run2)
      refine wp_mono (g_line_38 fu hfu s hs l u r hl hr N6 M2 cmp1 0 _ i6 hlt.1 (by omega) hT6 i2 hA2 (by simp only [List.length_append, List.length_reverse, List.length_map]; omega)) (fun v N1 q => ?_)
      rcases q with ⟨z1, z2, z3⟩ | ⟨z1, z2⟩
      · exact Or.inl ⟨z1, z2.pre (n := n + 1) (by omega) hrun2 (k1.toI.trI k2), z3⟩
      · exact Or.inr ⟨z1, z2.pre (n := n + 1) (by omega) hrun2 (k1.toI.trI k2)⟩
  · have hlt : N 0 0 41 < l ∧ s (N 0 0 41) = 58 := by omega
    obtain ⟨M2, run2, i2, k2, hA2⟩ := YL.run (y_colon0 hfu hr iM (hs (N 0 0 41)) hA hlt.2 h7 (by omega))
    refine wp_b (x_marks2 (l := l) iN 1 (jm_inL (by decide) (by decide)) h1 (by omega)) (fun v13 N14 h14 => ?_)
    obtain ⟨-, p14, e14, -, n14, -⟩ := h14
    have q := g_line_38 fu hfu s hs l u r hl hr N14 M2 0 0 C p14.1 (by omega) (by omega) (p14.tape hT) i2 hA2 (by omega)
    rw [e14] at q
    refine wp_mono q (fun v N1 q => ?_)
    rcases q with ⟨z1, z2, z3⟩ | ⟨z1, z2⟩
    · exact Or.inl ⟨z1, z2.pre (n := 1) (by omega) run2 k2, z3⟩
    · exact Or.inr ⟨z1, z2.pre (n := 1) (by omega) run2 k2⟩
def GS (fu : Nat) (s : Int → Int) (l r x : Int) (M0 : jm_M) (v : Int) (N1 : jm_M) : Prop := (v = 1 ∧ N1 0 0 41 = l ∧ TOK fu s r 7 x M0 l) ∨ (v = 0 ∧ TNO fu s l r x M0 (N1 0 0 41))
theorem g_lines_6 (fu : Nat) (hfu : 4000 ≤ fu) (s : Int → Int) (hs : ∀ j : Int, jm_in (s j)) (l u r : Int) (hl : l ≤ 60) (hr : 0 ≤ r ∧ r ≤ 16) (hu2 : u = 0 ∨ u = 1) (x : Int) (M0 : jm_M) (hu : ltx M0 = u) (h7 : M0 6 0 7 ≠ 0) : ∀ (n : Nat) (N : jm_M) (l2 : Int), (l2 = 0 ∨ l2 = 1) → bI bx2 N → N 0 0 41 ≤ l → ((∀ j : Int, 0 ≤ j → j < 100 → N 34 0 j = s j) ∧ N 0 0 43 = u + 2) → (l2 = 1 → 3 * nn N ≤ 4 * N 0 0 41 + 4 ∧ TOK fu s r 7 x M0 (N 0 0 41) ∧ (N 0 0 41 < l → ¬ (s (N 0 0 41) = 98 ∨ s (N 0 0 41) = 43 ∨ s (N 0 0 41) = 61 ∨ s (N 0 0 41) = 45 ∨ s (N 0 0 41) = 103 ∨ s (N 0 0 41) = 104 ∨ s (N 0 0 41) = 46))) → (l2 = 0 → TNO fu s l r x M0 (N 0 0 41)) → (l - N 0 0 41 + l2 ≤ (n : Int) ∧ 1 ≤ n) → wp (fX12_lines_6 fu n N l l2) (GS fu s l r x M0) := by
  intro n
  induction n with
  | zero =>
    intro N l2 _ _ _ _ _ _ hm
    exfalso; omega
  | succ n ih =>
    intro N l2 hb iN h1 hT hok hno hm
    show wp (gX12_lines_6 fu (fX12_lines_6 fu n) N l l2) _
    unfold gX12_lines_6
    have b41 : 0 ≤ N 0 0 41 ∧ N 0 0 41 ≤ 60 := iN 0 0 41
    have bn : 0 ≤ nn N ∧ nn N ≤ 100 := nn_box iN
    have eT : N 34 0 (N 0 0 41) = s (N 0 0 41) := hT.1 _ (by omega) (by omega)
    refine wp_ite (fun c => ?_) (fun c => ?_)
    · unfold gX12_lines_39
      exact wp_T c (wp_ret (Or.inr ⟨rfl, hno c⟩))
    obtain ⟨hw, hK, hna⟩ := hok (by omega)
    refine wp_bp (x_isSign2 iN l 59 hl) (fun v2 h2 => ?_)
    rw [eT] at h2
    obtain ⟨m, M1, cmp, dg, C, e41, hrun, i1, k1, hA1, hC⟩ := hK
    obtain ⟨lu1, l71⟩ := ltx_kpI k1
    refine wp_ite (fun c2 => ?_) (fun c2 => ?_)
    · unfold gX12_lines_39
      refine wp_F c ?_
      refine wp_ite (fun c3 => ?_) (fun c3 => ?_)
      · exact wp_ret (Or.inl ⟨rfl, c3, m, M1, cmp, dg, C, by omega, hrun, i1, k1, hA1, by omega⟩)
      · have hlt : N 0 0 41 < l := by omega
        have h59 : s (N 0 0 41) ≠ 59 := fun w => by omega
        have hn := hna hlt
        exact wp_ret (Or.inr ⟨rfl, m, M1, e41, hrun, i1, k1, Or.inr ⟨hlt, y_actn hA1 (Or.inr rfl) (fun w => hn (by omega)) (fun w => absurd w h59)⟩⟩)
    · have hlt : N 0 0 41 < l ∧ s (N 0 0 41) = 59 := by omega
      obtain ⟨pa, ha, ea⟩ := PE_at iN hl hlt.1
      refine wp_si iN (by have := pa.1 0 0 41; rw [ea] at this; rw [jm_wid (by omega) (by omega)]; exact this) (fun N7 u7 i7 => ?_)
      rw [← u7] at pa ha ea
      have n7 : nn N7 = nn N := by
        unfold nn
        rw [u7, jm_une_f (by decide), jm_une_k (by decide)]
      obtain ⟨M2, run2, i2, k2, hA2⟩ := YL.run (y_semi (fu := fu) (s := s (N 0 0 41)) i1 hA1 hlt.2)
      have hrun2 := hrun.app (show RunN fu s 1 (x + (m : Int)) M1 M2 by rw [← e41]; exact run2)
      have k12 := k1.trI k2
      obtain ⟨lu2, l72⟩ := ltx_kpI k12
      refine wp_b (wp_and (s_line fu hfu l hl N7 i7 (by omega) (by omega)) (g_line fu hfu s hs l u r hl hr hu2 N7 M2 C i7 (by omega) (by omega) (pa.tape hT) i2 (by omega) (by omega) hA2 (by omega))) (fun v8 N9 h9 => ?_)
      obtain ⟨⟨r9, p9, w9⟩, g9⟩ := h9
      have a9 := p9.2.2.1
      have e7 : N7 0 0 41 = x + ((m + 1 : Nat) : Int) := by omega
      refine ih N9 v8 r9 p9.1 p9.2.2.2.1 (p9.tape (pa.tape hT)) (fun q => ?_) (fun q => ?_) (by omega)
      · rcases g9 with ⟨z1, z2, z3⟩ | z
        · exact ⟨(w9 q).1, z2.pre (n := m + 1) e7 hrun2 k12, z3⟩
        · omega
      · rcases g9 with z | ⟨z1, z2⟩
        · omega
        · exact z2.pre (n := m + 1) e7 hrun2 k12
theorem g_lines (fu : Nat) (hfu : 4000 ≤ fu) (s : Int → Int) (hs : ∀ j : Int, jm_in (s j)) (l u r : Int) (hl : l ≤ 60) (hr : 0 ≤ r ∧ r ≤ 16) (hu2 : u = 0 ∨ u = 1) (N M : jm_M) (C : List Int) (iN : bI bx2 N) (h1 : N 0 0 41 ≤ l) (h3 : 3 * nn N ≤ 4 * N 0 0 41) (hT : ((∀ j : Int, 0 ≤ j → j < 100 → N 34 0 j = s j) ∧ N 0 0 43 = u + 2)) (iM : bI bx1 M) (hu : ltx M = u) (h7 : M 6 0 7 ≠ 0) (hA : AB r M 0 0 0 [] [] C) (hC : (C.length : Int) ≤ N 0 0 41) : wp (fX12_lines fu N l) (GS fu s l r (N 0 0 41) M) := by
  unfold fX12_lines
  refine wp_b (wp_and (s_line fu hfu l hl N iN h1 h3) (g_line fu hfu s hs l u r hl hr hu2 N M C iN h1 h3 hT iM hu h7 hA hC)) (fun v1 N2 h => ?_)
  obtain ⟨⟨r2, p2, w2⟩, g2⟩ := h
  have b41 : 0 ≤ N2 0 0 41 ∧ N2 0 0 41 ≤ 60 := p2.1 0 0 41
  refine g_lines_6 fu hfu s hs l u r hl hr hu2 (N 0 0 41) M hu h7 fu N2 v1 r2 p2.1 p2.2.2.2.1 (p2.tape hT) (fun q => ?_) (fun q => ?_) (by omega)
  · rcases g2 with ⟨z1, z2, z3⟩ | z
    · exact ⟨(w2 q).1, z2, z3⟩
    · omega
  · rcases g2 with z | ⟨z1, z2⟩
    · omega
    · exact z2
