/-! a plan's text, line by line -/
theorem LR.pw {u t l p q r b c : Int} {M N M1 N1 : jm_M} (h : LR u M N t l p q r) (hr : r < b) (m21 : M1 21 t l = M 21 t l) (mf : frm M1 t l = frm M t l) (hc : M 21 t l ≤ c) (m20 : ∀ k : Int, 0 ≤ k → k < c → M1 20 t k = M 20 t k) (m22 : M1 22 t l = M 22 t l) (m23 : M1 23 t l = M 23 t l) (m24 : M1 24 t l = M 24 t l) (kn : ∀ k : Int, k < b → N1 35 0 k = N 35 0 k) : LR u M1 N1 t l p q r := by
  obtain ⟨h1, h2, ⟨h3, h4, h5, h6⟩, h7⟩ := h
  have pq : p ≤ q := by
    rcases h2 with ⟨g1, g2, -, -⟩ | ⟨g1, g2, -⟩
    · omega
    · omega
  refine ⟨by rw [mf, m21]; exact h1, ?_, ⟨by rw [kn q (by omega)]; exact h3, h4, by rw [kn r hr]; exact h5, fun j y1 y2 => by rw [kn j (by omega)]; exact h6 j y1 y2⟩, ?_⟩
  · rcases h2 with ⟨g1, g2, g3, g4⟩ | ⟨g1, g2, g3⟩
    · refine Or.inl ⟨by rw [mf, m21]; exact g1, by rw [mf, m21]; exact g2, ?_, fun j y1 y2 => ?_⟩
      · rw [mf, m21, hg_congr (c := N1 35 0) (d := N 35 0) (M 21 t l - frm M t l).toNat p 0 (fun j y1 y2 => kn j (by omega))]
        exact g3
      · rw [mf, m21] at y2
        rw [mf, m20 _ (by omega) (by omega), kn (p + j) (by omega)]
        exact g4 j y1 y2
    · exact Or.inr ⟨by rw [mf, m21]; exact g1, g2, by rw [kn p (by omega)]; exact g3⟩
  · rw [m22, m23, m24, aF_cg (N1 35 0) (N 35 0) (r - q - 1).toNat (q + 1) (9, 9, -1) (fun j y1 y2 => kn j (by omega))]
    exact h7
/-- the text so far, at a line's start -/
def TXI (u r a : Int) (M N : jm_M) : Prop := TXT u M N r a (100 * N 0 0 42 + nn N) ∧ M 11 r 1 = frm M r (M 11 r 6) ∧ ∀ l : Int, 0 ≤ l → l < M 11 r 6 → M 21 r l ≤ M 11 r 1
theorem TXI.mv {u r a : Int} {M N M1 N1 : jm_M} {C : List Int} (h : TXI u r a M N) (n : NT r M M1) (c0 : M 11 r 1 = (C.length : Int) ∧ PLS (M 20 r) C) (c1 : M1 11 r 1 = (C.length : Int) ∧ PLS (M1 20 r) C) (w : N1 0 0 42 = N 0 0 42) (en : nn N1 = nn N) (k : ∀ j : Int, N1 35 0 j = N 35 0 j) : TXI u r a M1 N1 := by
  obtain ⟨⟨h1, P, p0, pe, hl⟩, h2, h3⟩ := h
  have m21 : ∀ j : Int, M1 21 r j = M 21 r j := fun j => n.2 21 j (by decide) (by decide)
  have mf : ∀ j : Int, frm M1 r j = frm M r j := fun j => by
    unfold frm
    rw [m21]
  unfold TXI TXT
  rw [n.1, w, en]
  refine ⟨⟨h1, P, p0, pe, fun l y1 y2 => ?_⟩, ?_, fun l y1 y2 => ?_⟩
  · obtain ⟨q, rr, g1, g2, g3, g4⟩ := hl l y1 y2
    exact ⟨q, rr, g1.pw g4 (m21 l) (mf l) (h3 l y1 y2) (fun j y3 y4 => PLS.eq c1.2 c0.2 j y3 (by omega)) (n.2 22 l (by decide) (by decide)) (n.2 23 l (by decide) (by decide)) (n.2 24 l (by decide) (by decide)) (fun j _ => k j), g2, g3, g4⟩
  · rw [mf, c1.1, ← c0.1]; exact h2
  · rw [m21, c1.1, ← c0.1]; exact h3 l y1 y2
theorem TXI.add {u r a q : Int} {M N M1 N1 : jm_M} {X C : List Int} (h : TXI u r a M N) (ha : a ≤ 100 * N 0 0 42 + nn N) (hL : M 11 r 6 ≤ 19) (c0 : M 11 r 1 = (C.length : Int) ∧ PLS (M 20 r) C) (c1 : M1 11 r 1 = ((X ++ C).length : Int) ∧ PLS (M1 20 r) (X ++ C)) (c60 : ((X ++ C).length : Int) ≤ 60) (e6 : M1 11 r 6 = M 11 r 6 + 1) (e21 : M1 21 r (M 11 r 6) = ((X ++ C).length : Int)) (fr : LFr r (M 11 r 6) M M1) (w : N1 0 0 42 = N 0 0 42) (lo : ∀ j : Int, j < 100 * N 0 0 42 + nn N → N1 35 0 j = N 35 0 j) (b17 : 100 * N1 0 0 42 + nn N1 ≤ 1700) (cond : (0 < X.length ∧ q = 100 * N 0 0 42 + nn N + (X.length : Int) ∧ hg (N1 35 0) X.length (100 * N 0 0 42 + nn N) 0 = some 1 ∧ ∀ j : Int, 0 ≤ j → j < (X.length : Int) → CS u (M1 20 r ((C.length : Int) + j)) (N1 35 0 (100 * N 0 0 42 + nn N + j))) ∨ (X.length = 0 ∧ q = 100 * N 0 0 42 + nn N + 1 ∧ N1 35 0 (100 * N 0 0 42 + nn N) = 1)) (e300 : N1 35 0 q = -300) (ac : q < 100 * N1 0 0 42 + nn N1 - 1 ∧ N1 35 0 (100 * N1 0 0 42 + nn N1 - 1) = -302 ∧ ∀ j : Int, q < j → j < 100 * N1 0 0 42 + nn N1 - 1 → N1 35 0 j ≠ -302 ∧ N1 35 0 j ≤ 1003) (tr : (M1 22 r (M 11 r 6), M1 23 r (M 11 r 6), M1 24 r (M 11 r 6)) = aF (N1 35 0) (100 * N1 0 0 42 + nn N1 - 1 - q - 1).toNat (q + 1) (9, 9, -1)) : TXI u r a M1 N1 := by
  obtain ⟨⟨⟨h0, h20, a0, bb⟩, P, p0, pe, hl⟩, h2, h3⟩ := h
  obtain ⟨L, hLL⟩ : ∃ L : Int, L = M 11 r 6 := ⟨_, rfl⟩
  obtain ⟨p, hp⟩ : ∃ p : Int, p = 100 * N 0 0 42 + nn N := ⟨_, rfl⟩
  obtain ⟨b, hb⟩ : ∃ b : Int, b = 100 * N1 0 0 42 + nn N1 := ⟨_, rfl⟩
  rw [← hLL] at h0 h20 hL e6 e21 fr tr pe h2 h3
  rw [← hp] at ha lo cond pe bb hl
  rw [← hb] at ac tr b17
  have hl' := fun (l : Int) (y1 : 0 ≤ l) (y2 : l < L) => hl l y1 (by omega)
  have lenX : ((X ++ C).length : Int) = (X.length : Int) + (C.length : Int) := by
    rw [List.length_append]
    omega
  have mf : ∀ j : Int, 0 ≤ j → j ≤ L → frm M1 r j = frm M r j := fun j y1 y2 => by
    unfold frm
    by_cases e : j = 0
    · rw [if_pos e, if_pos e]
    · rw [if_neg e, if_neg e]
      exact fr 21 (j - 1) (by decide) (by decide) (by omega)
  have qp : p < q := by
    rcases cond with z | z <;> omega
  have fL : frm M1 r L = (C.length : Int) := by rw [mf L h0 (Int.le_refl _), ← h2]; exact c0.1
  unfold TXI TXT
  rw [e6, ← hb]
  refine ⟨⟨⟨by omega, by omega, a0, b17⟩, fun l => if l = L + 1 then b else P l, by show (if (0 : Int) = L + 1 then b else P 0) = a; rw [if_neg (by omega)]; exact p0, if_pos rfl, fun l y1 y2 => ?_⟩, ?_, fun l y1 y2 => ?_⟩
  · by_cases e : l = L
    · have P1 : (if l = L + 1 then b else P l) = p := by rw [if_neg (by omega), e]; exact pe
      have P2 : (if l + 1 = L + 1 then b else P (l + 1)) = b := if_pos (by omega)
      refine ⟨q, b - 1, ?_, by show (if l + 1 = L + 1 then b else P (l + 1)) = b - 1 + 1; rw [P2]; omega, by show a ≤ (if l = L + 1 then b else P l); rw [P1]; exact ha, by omega⟩
      show LR u M1 N1 r l (if l = L + 1 then b else P l) q (b - 1)
      rw [P1, e]
      refine ⟨⟨by rw [fL]; omega, by rw [fL, e21]; omega, by rw [e21]; exact c60⟩, ?_, ⟨e300, ac.1, ac.2.1, fun j y3 y4 => ac.2.2 j y3 y4⟩, tr⟩
      rcases cond with ⟨x1, x2, x3, x4⟩ | ⟨x1, x2, x3⟩
      · have el : M1 21 r L - frm M1 r L = (X.length : Int) := by rw [e21, fL]; omega
        refine Or.inl ⟨by omega, by rw [el]; exact x2, by rw [el, Int.toNat_natCast]; exact x3, fun j y3 y4 => ?_⟩
        rw [el] at y4
        rw [fL]
        exact x4 j y3 y4
      · exact Or.inr ⟨by rw [fL, e21]; omega, x2, x3⟩
    · have y2' : l < L := by omega
      obtain ⟨q2, rr, g1, g2, g3, g4⟩ := hl' l y1 y2'
      have P1 : (if l = L + 1 then b else P l) = P l := if_neg (by omega)
      have P2 : (if l + 1 = L + 1 then b else P (l + 1)) = P (l + 1) := if_neg (by omega)
      refine ⟨q2, rr, ?_, by show (if l + 1 = L + 1 then b else P (l + 1)) = rr + 1; rw [P2]; exact g2, by show a ≤ (if l = L + 1 then b else P l); rw [P1]; exact g3, by omega⟩
      show LR u M1 N1 r l (if l = L + 1 then b else P l) q2 rr
      rw [P1]
      exact g1.pw g4 (fr 21 l (by decide) (by decide) e) (mf l y1 (by omega)) (h3 l y1 y2') (fun j y3 y4 => PLS.eq (PLS.drop c1.2) c0.2 j y3 (by omega)) (fr 22 l (by decide) (by decide) e) (fr 23 l (by decide) (by decide) e) (fr 24 l (by decide) (by decide) e) (fun j y3 => lo j y3)
  · unfold frm
    rw [if_neg (by omega), show L + 1 - 1 = L by omega, e21]
    exact c1.1
  · by_cases e : l = L
    · rw [e, e21, c1.1]
      exact Int.le_refl _
    · rw [fr 21 l (by decide) (by decide) e]
      have := h3 l y1 (by omega)
      omega
/-- a colon and the acts behind it -/
def ZB (r : Int) (M N M1 N1 : jm_M) : Prop := (M1 11 r 6 = M 11 r 6 ∧ (∀ k : Int, M1 21 r k = M 21 r k) ∧ LFr r (M 11 r 6 - 1) M M1) ∧ (N1 0 0 42 = N 0 0 42 ∧ (∀ j : Int, j < 100 * N 0 0 42 + nn N → N1 35 0 j = N 35 0 j) ∧ N1 35 0 (100 * N 0 0 42 + nn N) = -300) ∧ (100 * N 0 0 42 + nn N < 100 * N1 0 0 42 + nn N1 - 1 ∧ N1 35 0 (100 * N1 0 0 42 + nn N1 - 1) = -302 ∧ ∀ j : Int, 100 * N 0 0 42 + nn N < j → j < 100 * N1 0 0 42 + nn N1 - 1 → N1 35 0 j ≠ -302 ∧ N1 35 0 j ≤ 1003) ∧ (M1 22 r (M 11 r 6 - 1), M1 23 r (M 11 r 6 - 1), M1 24 r (M 11 r 6 - 1)) = aF (N1 35 0) (100 * N1 0 0 42 + nn N1 - 1 - (100 * N 0 0 42 + nn N) - 1).toNat (100 * N 0 0 42 + nn N + 1) (9, 9, -1)
theorem h_line_38 (fu : Nat) (hfu : 4000 ≤ fu) (s : Int → Int) (hs : ∀ j : Int, jm_in (s j)) (l u r : Int) (hl : l ≤ 60) (hr : 0 ≤ r ∧ r ≤ 16) (N M : jm_M) (cmp dg : Int) (C : List Int) (iN : bI bx2 N) (hlt : N 0 0 41 < l) (hn : nn N ≤ N 0 0 41 + 39) (hT : ((∀ j : Int, 0 ≤ j → j < 100 → N 34 0 j = s j) ∧ N 0 0 43 = u + 2)) (iM : bI bx1 M) (hA : AB r M 6 cmp dg [] [] C) (hC : (C.length : Int) ≤ N 0 0 41 + 1) (hL : 1 ≤ M 11 r 6 ∧ M 11 r 6 ≤ 21) (h9 : M 22 r (M 11 r 6 - 1) = 9 ∧ M 23 r (M 11 r 6 - 1) = 9 ∧ M 24 r (M 11 r 6 - 1) = -1) : wp (gX12_line_38 fu N l) (fun v N1 => v = 1 → N 0 0 41 + 2 ≤ N1 0 0 41 ∧ TOK2 fu s r 7 (N 0 0 41 + 1) M (N1 0 0 41) (fun C1 M1 => C1 = C ∧ ZB r M N M1 N1)) := by
  unfold gX12_line_38
  have b41 : 0 ≤ N 0 0 41 ∧ N 0 0 41 ≤ 60 := iN 0 0 41
  obtain ⟨pa, ha, ea⟩ := PE_at iN hl hlt
  refine wp_si iN (by have := pa.1 0 0 41; rw [ea] at this; rw [jm_wid (by omega) (by omega)]; exact this) (fun N2 u2 i2 => ?_)
  rw [← u2] at pa ha ea
  have n2 : nn N2 = nn N := by
    unfold nn
    rw [u2, jm_une_f (by decide), jm_une_k (by decide)]
  have w2 := pa.w42
  have f2 : ∀ j : Int, N2 35 0 j = N 35 0 j := fun j => by rw [u2]; exact jm_une_f (by decide)
  refine wp_b (x_marks2 (l := l) i2 (-300) (jm_inL (by decide) (by decide)) (by omega) (by omega)) (fun v3 N4 h4 => ?_)
  obtain ⟨-, p4, e4, mk4, -, -⟩ := h4
  obtain ⟨n4, v4⟩ := MK1 mk4
  have e41 : N4 0 0 41 = N 0 0 41 + 1 := by omega
  have w4 : N4 0 0 42 = N 0 0 42 := p4.w42.trans w2
  have v4' : N4 35 0 (100 * N 0 0 42 + nn N) = -300 := by rw [← w2, ← n2]; exact v4
  have lo4 : ∀ j : Int, j < 100 * N 0 0 42 + nn N → N4 35 0 j = N 35 0 j := fun j y => by rw [p4.low (by rw [w2, n2]; exact y), f2]
  have act : ACT r (100 * N 0 0 42 + nn N) M N4 := by
    unfold ACT
    rw [w4, n4, n2, show (100 * N 0 0 42 + (nn N + 1) - (100 * N 0 0 42 + nn N) - 1).toNat = 0 by omega, h9.1, h9.2.1, h9.2.2]
    exact ⟨rfl, by omega, fun j y1 y2 => by exfalso; omega⟩
  have q := h_acts fu s hs l u r hl hr (100 * N 0 0 42 + nn N) fu N4 M 0 cmp dg C p4.1 (by omega) (by omega) (p4.tape (pa.tape hT)) iM (Or.inl ⟨rfl, hA⟩) (by omega) hL act (by omega)
  rw [e41] at q
  refine wp_mono q (fun v N1 z hv => ?_)
  obtain ⟨z1, z2⟩ := z hv
  refine ⟨by omega, z2.pre (n := 0) (by omega) rfl Kp.rf (fun X x zx => ⟨zx.1, ?_⟩)⟩
  obtain ⟨-, a1, ⟨a2, a3⟩, a4, a5⟩ := zx
  refine ⟨a1, ⟨a2.trans w4, fun j y => (a3 j (by rw [w4]; omega)).trans (lo4 j y), (a3 _ (by rw [w4]; omega)).trans v4'⟩, a4, a5⟩
theorem h_line (fu : Nat) (hfu : 4000 ≤ fu) (s : Int → Int) (hs : ∀ j : Int, jm_in (s j)) (l u r a : Int) (hl : l ≤ 60) (hr : 0 ≤ r ∧ r ≤ 16) (hu2 : u = 0 ∨ u = 1) (N M : jm_M) (C : List Int) (iN : bI bx2 N) (h1 : N 0 0 41 ≤ l) (h3 : 3 * nn N ≤ 4 * N 0 0 41) (hT : ((∀ j : Int, 0 ≤ j → j < 100 → N 34 0 j = s j) ∧ N 0 0 43 = u + 2)) (iM : bI bx1 M) (hu : ltx M = u) (h7 : M 6 0 7 ≠ 0) (hA : AB r M 0 0 0 [] [] C) (hC : (C.length : Int) ≤ N 0 0 41) (tx : TXI u r a M N) (ha : a ≤ 100 * N 0 0 42) (h3L : 3 * M 11 r 6 ≤ N 0 0 41) : wp (fX12_line fu N l) (fun v N1 => v = 1 → nn N1 ≤ 100 → TOK2 fu s r 7 (N 0 0 41) M (N1 0 0 41) (fun _ M1 => TXI u r a M1 N1 ∧ N1 0 0 42 = N 0 0 42 ∧ 3 * M1 11 r 6 ≤ N1 0 0 41 + 1)) := by
  unfold fX12_line
  have b41 : 0 ≤ N 0 0 41 ∧ N 0 0 41 ≤ 60 := iN 0 0 41
  have b42 : 0 ≤ N 0 0 42 ∧ N 0 0 42 ≤ 16 := iN 0 0 42
  have bn : 0 ≤ nn N ∧ nn N ≤ 100 := nn_box iN
  have b6 : 0 ≤ M 11 r 6 ∧ M 11 r 6 ≤ 21 := iM 11 r 6
  have eT : N 34 0 (N 0 0 41) = s (N 0 0 41) := hT.1 _ (by omega) (by omega)
  refine wp_bp (x_isSign2 iN l 58 hl) (fun v1 hv1 => ?_)
  rw [eT] at hv1
  refine wp_ite (fun c => ?_) (fun c => ?_)
  · have hno : N 0 0 41 < l → s (N 0 0 41) ≠ 58 := fun q w => by omega
    have pre : PRE s l u r 0 N M 0 0 0 [] [] C := ⟨⟨iN, h1, by omega⟩, hT, ⟨iM, hu, hA⟩, ⟨Or.inl rfl, Or.inl rfl, fun _ => rfl⟩, fun _ x V e => (by cases e), fun _ q => Or.inr (hno q), (by simp only [List.length_nil]; omega), (by simp only [List.length_nil]; omega), fun q => absurd q (by decide)⟩
    refine wp_b (show wp (fX12_some fu N l) _ from sim_fR fu hfu s hs l u r hl hr hu2 500 0 N M 0 0 0 [] [] C (by decide) (by omega) pre) (fun v5 N6 h6 => ?_)
    obtain ⟨hPO, h6⟩ := h6
    have hT6 := hPO.2.1.tape hT
    have i6 : bI bx2 N6 := hPO.2.1.1
    have b6' : 0 ≤ N6 0 0 41 ∧ N6 0 0 41 ≤ 60 := i6 0 0 41
    have a6 := hPO.2.1.2.2.1
    have n6 := hPO.2.1.2.2.2.2.2.1
    have l6 := hPO.2.1.2.2.2.1
    have w6 := hPO.2.1.w42
    have eT6 : N6 34 0 (N6 0 0 41) = s (N6 0 0 41) := hT6.1 _ (by omega) (by omega)
    refine wp_ite (fun c2 => wp_ret (fun hv => absurd hv (by decide))) (fun c2 => ?_)
    rcases h6 with z | z
    case inr => omega
    have hph := hPO.2.2 (by have := z.1; omega)
    obtain ⟨-, n, M1, cmp1, dg1, P, Er, e41, hrun, i1, k1, hA1, hPl, -, hc01, hnx, hlen, hmk⟩ := z
    rw [List.append_nil] at hA1
    obtain ⟨-, l7⟩ := ltx_kp k1
    obtain ⟨vk0, -⟩ := lvk_val
    have nt1 := NT.ts k1
    refine wp_bp (x_isSign2 i6 l 58 hl) (fun v9 hv9 => ?_)
    rw [eT6] at hv9
    refine wp_ite (fun c3 => wp_ret (fun hv => absurd hv (by decide))) (fun c3 => ?_)
    have hlt : N6 0 0 41 < l ∧ s (N6 0 0 41) = 58 := by omega
    have hP1 : ∀ x ∈ P, 1 ≤ lv x ∧ 0 ≤ x ∧ x ≤ 255 := fun x hx => by have := hPl x hx; omega
    have hCP : (Er ++ C).length + P.length ≤ 60 := by simp only [List.length_append]; omega
    obtain ⟨M2, run2, ⟨i2, k2, hA2⟩, ec2⟩ := RunN.of (y_colon2 hfu hr i1 (hs (N6 0 0 41)) hA1 hlt.2 hP1 hCP) (y_colon2X hfu hr i1 (hs (N6 0 0 41)) hA1 hlt.2 hP1 hCP (by rw [nt1.1]; omega))
    have ec := nt1.ec ec2
    rw [if_neg (by omega)] at hA2
    have hrun2 := hrun.app (show RunN fu s 1 (N 0 0 41 + (n : Int)) M1 M2 by rw [← e41]; exact run2)
    have eL : M2 11 r 6 - 1 = M 11 r 6 := by have := ec.1; omega
    refine wp_mono (h_line_38 fu hfu s hs l u r hl hr N6 M2 cmp1 0 _ i6 hlt.1 (by omega) hT6 i2 hA2 (by simp only [List.length_append, List.length_reverse, List.length_map]; omega) (by have := ec.1; omega) (by rw [eL]; exact ec.2.2.1)) (fun v N1 z hv hnn1 => ?_)
    obtain ⟨z1, m, M3, cm3, dg3, C3, ⟨y1, y2⟩, ⟨y3, y4, y5, y6⟩, y7, y8⟩ := z hv
    rw [← tot_rev] at y7
    rw [y7] at y5 y6
    obtain ⟨⟨f1, f2, f3⟩, ⟨g1, g2, g3⟩, g4, g5⟩ := y8
    rw [eL] at f3 g5
    have tl := tot_len (Er := Er) (P := P)
    have nE : nn N6 = nn N + ((tot Er P).length : Int) := by
      have := hmk.1
      rw [List.length_map] at this
      exact this
    have i11 : 0 ≤ nn N1 := by
      rw [w6] at g1
      rw [g1, w6] at g4
      omega
    refine ⟨n + 1 + m, M3, cm3, dg3, _, ⟨by omega, hrun2.app (by rw [show N 0 0 41 + ((n + 1 : Nat) : Int) = N6 0 0 41 + 1 by omega]; exact y2)⟩, ⟨y3, (k1.toI.trI k2).trI y4, y5, y6⟩, ?_, g1.trans w6, ?_⟩
    · have lo : ∀ j : Int, j < 100 * N 0 0 42 + nn N → N1 35 0 j = N 35 0 j := fun j y => by rw [g2 j (by rw [w6]; omega), hPO.2.1.low y]
      have bx3 : 0 ≤ M3 11 r 1 ∧ M3 11 r 1 ≤ 60 := y3 11 r 1
      refine TXI.add (X := (tot Er P).reverse) (C := C) (q := 100 * N6 0 0 42 + nn N6) tx (by omega) (by omega) hA.2.2.2 y5.2.2.2 (by rw [← y5.2.2.2.1]; exact bx3.2) (by rw [f1]; exact ec.1) (by rw [f2, ec.2.1, hA2.2.2.2.1, ← tot_rev]) (fun f k x1 x2 x3 => (f3 f k x1 x2 x3).trans (ec.2.2.2 f k x1 x2 x3)) (g1.trans w6) lo ?_ (Or.inl ⟨?_, ?_, ?_, fun j x1 x2 => ?_⟩) g3 g4 g5
      · have q16 : N1 0 0 42 ≤ 16 := by rw [g1, w6]; exact b42.2
        have q100 : nn N1 ≤ 100 := hnn1
        omega
      · rw [List.length_reverse]
        refine Nat.pos_of_ne_zero (fun e0 => ?_)
        have hph := hph
        unfold PH at hph
        rw [nE, e0] at hph
        rw [show (nn N + ((0 : Nat) : Int) - nn N).toNat = 0 by omega] at hph
        exact absurd (show (some 0 : Option Nat) = some 1 from hph) (by decide)
      · rw [List.length_reverse, w6]
        omega
      · rw [List.length_reverse]
        have hph := hph
        unfold PH at hph
        rw [show (nn N6 - nn N).toNat = (tot Er P).length by omega] at hph
        rw [hg_congr (c := N1 35 0) (d := N6 35 0) (tot Er P).length (100 * N 0 0 42 + nn N) 0 (fun j x1 x2 => g2 j (by rw [w6]; omega))]
        exact hph
      · rw [List.length_reverse] at x2
        refine code_rel hu2 (tot Er P) C (100 * N 0 0 42 + nn N) y5.2.2.2.2 ?_ (tot_ok hlen.2 (fun x hx => (hP1 x hx).1)) j x1 x2
        refine FS.congr hmk.2 (fun i x3 x4 => g2 i ?_)
        rw [List.length_map] at x4
        rw [w6]
        omega
    · have := ec.1
      omega
  · have hlt : N 0 0 41 < l ∧ s (N 0 0 41) = 58 := by omega
    obtain ⟨M2, run2, ⟨i2, k2, hA2⟩, ec⟩ := RunN.of (y_colon0 hfu hr iM (hs (N 0 0 41)) hA hlt.2 h7 (by omega)) (y_colon0X hfu hr iM (hs (N 0 0 41)) hA hlt.2 h7 (by omega) (by omega))
    refine wp_b (x_marks2 (l := l) iN 1 (jm_inL (by decide) (by decide)) h1 (by omega)) (fun v13 N14 h14 => ?_)
    obtain ⟨-, p14, e14, mk14, -, -⟩ := h14
    obtain ⟨n14, v14⟩ := MK1 mk14
    have w14 := p14.w42
    have eL : M2 11 r 6 - 1 = M 11 r 6 := by have := ec.1; omega
    have q := h_line_38 fu hfu s hs l u r hl hr N14 M2 0 0 C p14.1 (by omega) (by omega) (p14.tape hT) i2 hA2 (by omega) (by have := ec.1; omega) (by rw [eL]; exact ec.2.2.1)
    rw [e14] at q
    refine wp_mono q (fun v N1 z hv hnn1 => ?_)
    obtain ⟨z1, m, M3, cm3, dg3, C3, ⟨y1, y2⟩, ⟨y3, y4, y5, y6⟩, y7, y8⟩ := z hv
    rw [y7] at y5 y6
    obtain ⟨⟨f1, f2, f3⟩, ⟨g1, g2, g3⟩, g4, g5⟩ := y8
    rw [eL] at f3 g5
    refine ⟨1 + m, M3, cm3, dg3, C, ⟨by omega, run2.app y2⟩, ⟨y3, k2.trI y4, y5, y6⟩, ?_, g1.trans w14, ?_⟩
    · have lo : ∀ j : Int, j < 100 * N 0 0 42 + nn N → N1 35 0 j = N 35 0 j := fun j y => by rw [g2 j (by rw [w14, n14]; omega), p14.low y]
      have bx3 : 0 ≤ M3 11 r 1 ∧ M3 11 r 1 ≤ 60 := y3 11 r 1
      refine TXI.add (X := []) (C := C) (q := 100 * N14 0 0 42 + nn N14) tx (by omega) (by omega) hA.2.2.2 y5.2.2.2 (by rw [List.nil_append, ← y5.2.2.2.1]; exact bx3.2) (by rw [f1]; exact ec.1) (by rw [f2, ec.2.1, hA2.2.2.2.1, List.nil_append]) (fun f k x1 x2 x3 => (f3 f k x1 x2 x3).trans (ec.2.2.2 f k x1 x2 x3)) (g1.trans w14) lo ?_ (Or.inr ⟨rfl, by rw [w14, n14]; omega, ?_⟩) g3 g4 g5
      · have q16 : N1 0 0 42 ≤ 16 := by rw [g1, w14]; exact b42.2
        have q100 : nn N1 ≤ 100 := hnn1
        omega
      · rw [g2 _ (by rw [w14, n14]; omega)]
        exact v14
    · have := ec.1
      omega
