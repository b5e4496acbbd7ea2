theorem WFl_congr {c d : Int → Int} {a b : Int} (h : ∀ j : Int, a ≤ j → j < b → c j = d j) (w : WFl c a b) : WFl d a b := by
  obtain ⟨e, x, q1, q2, q3, q4, q5, q6, q7⟩ := w
  refine ⟨e, x, q1, ?_, ?_, q4, fun j z1 z2 => ?_, ?_, q7⟩
  · rw [← q2]
    exact (hg_congr _ _ _ (fun j z1 z2 => h j z1 (by omega))).symm
  · rw [← h e q1 (by omega)]; exact q3
  · rw [← h j (by omega) (by omega)]; exact q5 j z1 z2
  · rw [← h x (by omega) (by omega)]; exact q6
theorem WFl_lt {c : Int → Int} {a b : Int} (w : WFl c a b) : a + 2 ≤ b := by
  obtain ⟨e, x, q1, -, -, q4, -, -, q7⟩ := w
  omega
theorem WFt_congr {c d : Int → Int} : ∀ (k : Nat) (a b : Int), (∀ j : Int, a ≤ j → j < b → c j = d j) → WFt c k a b → WFt d k a b := by
  intro k
  induction k with
  | zero => intro a b _ w; exact w
  | succ k ih =>
    intro a b h w
    obtain ⟨y, w1, w2⟩ := w
    have l1 := WFl_lt w1
    have l2 := WFt_le k y b w2
    exact ⟨y, WFl_congr (fun j z1 z2 => h j z1 (by omega)) w1, ih y b (fun j z1 z2 => h j (by omega) z2) w2⟩
theorem WFt_snoc {c : Int → Int} : ∀ (k : Nat) (a b y : Int), WFt c k a b → WFl c b y → WFt c (k + 1) a y := by
  intro k
  induction k with
  | zero =>
    intro a b y w v
    have w : a = b := w
    subst w
    exact ⟨y, v, rfl⟩
  | succ k ih =>
    intro a b y w v
    obtain ⟨z, w1, w2⟩ := w
    exact ⟨z, w1, ih z b y w2 v⟩
def LA (l : Int) (M4 : jm_M) (r : Int) (M1 : jm_M) : Prop := (r = 0 ∨ r = 1) ∧ PE l 1 M4 M1 ∧ (r = 1 → M4 0 0 41 + 1 ≤ M1 0 0 41 ∧ (∀ j : Int, 100 * M4 0 0 42 + nn M4 ≤ j → j + 1 < 100 * M4 0 0 42 + nn M1 → M1 35 0 j ≠ -302) ∧ nn M4 + 1 ≤ nn M1 ∧ M1 35 0 (100 * M4 0 0 42 + nn M1 - 1) = -302)
theorem s_line_57 (fu : Nat) (l : Int) (hl : l ≤ 60) (M4 : jm_M) (h0 : nn M4 ≤ M4 0 0 41 + 39) : ∀ (n : Nat) (M : jm_M) (l2 : Int), PE l 0 M4 M → ((l2 = 0 ∧ nn M = nn M4) ∨ (l2 = 1 ∧ M4 0 0 41 + 1 ≤ M 0 0 41)) → (∀ j : Int, 100 * M4 0 0 42 + nn M4 ≤ j → j < 100 * M4 0 0 42 + nn M → M 35 0 j ≠ -302) → l - M 0 0 41 < (n : Int) → wp (fX12_line_57 fu n M l l2) (LA l M4) := by
  intro n
  induction n with
  | zero =>
    intro M l2 hp _ _ hm
    have := hp.2.2.2.1
    exfalso; omega
  | succ n ih =>
    intro M l2 hp hv hj hm
    show wp (gX12_line_57 fu (fX12_line_57 fu n) M l l2) _
    unfold gX12_line_57
    have iM := hp.1
    have e42 := hp.into
    have b41 : 0 ≤ M 0 0 41 ∧ M 0 0 41 ≤ 60 := iM 0 0 41
    have a1 := hp.2.2.1
    have a2 := hp.2.2.2.1
    have n1 := hp.2.2.2.2.1
    have n2 := hp.2.2.2.2.2.1
    refine wp_bp (x_isOf iM l 8 hl) (fun v1 h1 => ?_)
    refine wp_ite (fun c => ?_) (fun c => ?_)
    · refine wp_b (x_marks (l := l) iM (-302) (jm_inL (by decide) (by decide)) a2 (by omega)) (fun v5 M6 h6 => ?_)
      obtain ⟨-, p6, e6, k6, c6, -⟩ := h6
      refine wp_T (by omega) (wp_ret ⟨by omega, (hp.tr p6).slack (by omega), fun q => ⟨by omega, fun j z1 z2 => ?_, by omega, ?_⟩⟩)
      · rw [p6.2.2.2.2.2.2.2 j (by rw [e42]; omega)]
        exact hj j z1 (by omega)
      · rw [← e42, show 100 * M 0 0 42 + nn M6 - 1 = 100 * M 0 0 42 + nn M by omega]
        exact c6
    · obtain ⟨hlt, hch⟩ : M 0 0 41 < l ∧ M 34 0 (M 0 0 41) ∈ jm_sl 8 := by
        rcases h1 with q | q
        · exact ⟨q.2.1, q.2.2.2.2⟩
        · exact absurd q c
      have hcv : 43 ≤ M 34 0 (M 0 0 41) ∧ M 34 0 (M 0 0 41) ≤ 104 := by
        have q : M 34 0 (M 0 0 41) ∈ ([98, 43, 61, 45, 103, 104, 46] : List Int) := hch
        simp at q
        omega
      refine wp_T ⟨by omega, by omega⟩ ?_
      refine wp_e (iM 34 0 _) (fun v10 e10 _ => ?_)
      obtain ⟨pa, ha, ea⟩ := PE_at iM hl hlt
      refine wp_si iM (by have := pa.1 0 0 41; rw [ea] at this; rw [jm_wid (by omega) (by omega)]; exact this) (fun M13 u13 i13 => ?_)
      rw [← u13] at pa ha ea
      have n13 : nn M13 = nn M := by
        unfold nn
        rw [u13, jm_une_f (by decide), jm_une_k (by decide)]
      have e42' : M13 0 0 42 = M 0 0 42 := pa.into
      have c13 : ∀ j : Int, M13 35 0 j = M 35 0 j := fun j => by rw [u13]; exact jm_une_f (by decide)
      have b13 : 0 ≤ M13 0 0 41 ∧ M13 0 0 41 ≤ 60 := i13 0 0 41
      -- one act more: its mark is no end of a line
      have act : ∀ (m : Int) (M5 : jm_M), PE l 1 M13 M5 → nn M5 = nn M13 + 1 → M5 35 0 (100 * M13 0 0 42 + nn M13) = m → m ≠ -302 → ∀ j : Int, 100 * M4 0 0 42 + nn M4 ≤ j → j < 100 * M4 0 0 42 + nn M5 → M5 35 0 j ≠ -302 := by
        intro m M5 p5 k5 c5 hm' j z1 z2
        by_cases q : j = 100 * M13 0 0 42 + nn M13
        · rw [q, c5]; exact hm'
        · rw [p5.2.2.2.2.2.2.2 j (by rw [e42', e42]; rw [e42', e42] at q; omega), c13 j]
          exact hj j z1 (by rw [e42', e42] at q; omega)
      refine wp_ite (fun c2 => ?_) (fun c2 => ?_)
      · refine wp_bp (x_isOf i13 l 9 hl) (fun v15 h15 => ?_)
        refine wp_ite (fun c3 => wp_ret ⟨Or.inl rfl, (hp.tr pa).slack (by omega), fun q => absurd q (by decide)⟩) (fun c3 => ?_)
        obtain ⟨hlt2, hch2⟩ : M13 0 0 41 < l ∧ M13 34 0 (M13 0 0 41) ∈ jm_sl 9 := by
          rcases h15 with q | q
          · exact ⟨q.2.1, q.2.2.2.2⟩
          · exact absurd q c3
        have hcv2 : 48 ≤ M13 34 0 (M13 0 0 41) ∧ M13 34 0 (M13 0 0 41) ≤ 51 := by
          have q : M13 34 0 (M13 0 0 41) ∈ ([48, 49, 50, 51] : List Int) := hch2
          simp at q
          omega
        refine wp_T ⟨by omega, by omega⟩ ?_
        have wm : jm_w (jm_w (1000 + M13 34 0 (M13 0 0 41)) - 48) = 1000 + M13 34 0 (M13 0 0 41) - 48 := by
          rw [jm_wid (x := 1000 + M13 34 0 (M13 0 0 41)) (by omega) (by omega)]
          exact jm_wid (by omega) (by omega)
        rw [wm]
        refine wp_b (x_marks (l := l) i13 _ (jm_inL (by omega) (by omega)) (by omega) (by omega)) (fun v22 M23 h23 => ?_)
        obtain ⟨-, p23, e23, k23, c23, -⟩ := h23
        have i23 := p23.1
        obtain ⟨pb, hb, eb⟩ := PE_at i23 hl (by omega)
        refine wp_si i23 (by have := pb.1 0 0 41; rw [eb] at this; rw [jm_wid (by omega) (by omega)]; exact this) (fun M25 u25 i25 => ?_)
        rw [← u25] at pb hb eb
        have n25 : nn M25 = nn M23 := by
          unfold nn
          rw [u25, jm_une_f (by decide), jm_une_k (by decide)]
        have p25 : PE l 0 M4 M25 := (hp.tr (pa.tr (p23.tr pb))).slack (by omega)
        refine ih M25 1 p25 (Or.inr ⟨rfl, by omega⟩) (fun j z1 z2 => ?_) (by omega)
        rw [u25, jm_une_f (by decide)]
        exact act _ M23 p23 k23 c23 (by omega) j z1 (by omega)
      · refine wp_b (x_marks (l := l) i13 v10 (jm_inL (by omega) (by omega)) (by omega) (by omega)) (fun v22 M23 h23 => ?_)
        obtain ⟨-, p23, e23, k23, c23, -⟩ := h23
        have p25 : PE l 0 M4 M23 := (hp.tr (pa.tr p23)).slack (by omega)
        exact ih M23 1 p25 (Or.inr ⟨rfl, by omega⟩) (fun j z1 z2 => act _ M23 p23 k23 c23 (by omega) j z1 z2) (by omega)
def LO (l : Int) (M : jm_M) (r : Int) (M1 : jm_M) : Prop := (r = 0 ∨ r = 1) ∧ PE l 100 M M1 ∧ (r = 1 → 3 * nn M1 ≤ 4 * M1 0 0 41 + 4 ∧ WFl (M1 35 0) (100 * M 0 0 42 + nn M) (100 * M 0 0 42 + nn M1))
theorem s_line_38 (fu : Nat) (hfu : 4000 ≤ fu) (l : Int) (hl : l ≤ 60) (M Mc : jm_M) (h3 : 3 * nn M ≤ 4 * M 0 0 41) (i0 : bI bx2 M) (hp : PE l 1 M Mc) (hh : PH M Mc 0 1) (hlt : Mc 0 0 41 < l) : wp (gX12_line_38 fu Mc l) (LO l M) := by
  unfold gX12_line_38
  have ic := hp.1
  have e42 := hp.into
  have b0 : 0 ≤ M 0 0 41 ∧ M 0 0 41 ≤ 60 := i0 0 0 41
  have bn0 : 0 ≤ nn M ∧ nn M ≤ 100 := i0 36 0 (M 0 0 42)
  have bc : 0 ≤ Mc 0 0 41 ∧ Mc 0 0 41 ≤ 60 := ic 0 0 41
  have a1 := hp.2.2.1
  have n1 := hp.2.2.2.2.1
  have n2 := hp.2.2.2.2.2.1
  obtain ⟨pa, ha, ea⟩ := PE_at ic hl hlt
  refine wp_si ic (by have := pa.1 0 0 41; rw [ea] at this; rw [jm_wid (by omega) (by omega)]; exact this) (fun M2 u2 i2 => ?_)
  rw [← u2] at pa ha ea
  have k2 : nn M2 = nn Mc := by
    unfold nn
    rw [u2, jm_une_f (by decide), jm_une_k (by decide)]
  have b2 : 0 ≤ M2 0 0 41 ∧ M2 0 0 41 ≤ 60 := i2 0 0 41
  refine wp_b (x_marks (l := l) i2 (-300) (jm_inL (by decide) (by decide)) (by omega) (by omega)) (fun v3 M4 h4 => ?_)
  obtain ⟨-, p4, e4, k4, c4, -⟩ := h4
  have i4 := p4.1
  have pc4 : PE l 0 Mc M4 := (pa.tr p4).slack (by omega)
  have b4 : 0 ≤ M4 0 0 41 ∧ M4 0 0 41 ≤ 60 := i4 0 0 41
  have f42 : M4 0 0 42 = M 0 0 42 := by rw [pc4.into, e42]
  have e2' : M2 0 0 42 = M 0 0 42 := by rw [pa.into, e42]
  refine wp_mono (s_line_57 fu l hl M4 (by omega) fu M4 0 (PE.rf i4 (by omega)) (Or.inl ⟨rfl, rfl⟩) (fun j z1 z2 => by exfalso; omega) (by omega)) (fun r M1 h => ?_)
  obtain ⟨hr, p1, hs⟩ := h
  have bn1 : 0 ≤ nn M1 ∧ nn M1 ≤ 100 := by
    have q : 0 ≤ M1 36 0 (M1 0 0 42) ∧ M1 36 0 (M1 0 0 42) ≤ 100 := p1.1 36 0 (M1 0 0 42)
    exact q
  have m1 := p1.2.2.1
  have m2 := p1.2.2.2.2.1
  have m3 := p1.2.2.2.2.2.1
  refine ⟨hr, (hp.tr (pc4.tr p1)).imp (by omega), fun q => ?_⟩
  obtain ⟨g1, g2, g3, g4⟩ := hs q
  rw [f42] at g2 g4
  rw [e2'] at c4
  have keep : ∀ j : Int, j < 100 * M 0 0 42 + nn M4 → M1 35 0 j = M4 35 0 j := fun j z => p1.2.2.2.2.2.2.2 j (by rw [f42]; omega)
  refine ⟨by omega, 100 * M 0 0 42 + nn Mc, 100 * M 0 0 42 + nn M1 - 1, by omega, ?_, ?_, by omega, fun j z1 z2 => g2 j (by omega) (by omega), g4, by omega⟩
  · rw [show (100 * M 0 0 42 + nn Mc - (100 * M 0 0 42 + nn M)).toNat = (nn Mc - nn M).toNat by omega, ← hh]
    refine hg_congr _ _ _ (fun j z1 z2 => ?_)
    rw [keep j (by omega)]
    exact pc4.2.2.2.2.2.2.2 j (by rw [e42]; omega)
  · rw [keep _ (by omega), ← k2]
    exact c4
theorem s_line (fu : Nat) (hfu : 4000 ≤ fu) (l : Int) (hl : l ≤ 60) (M : jm_M) (iM : bI bx2 M) (h1 : M 0 0 41 ≤ l) (h3 : 3 * nn M ≤ 4 * M 0 0 41) : wp (fX12_line fu M l) (LO l M) := by
  unfold fX12_line
  have b0 : 0 ≤ M 0 0 41 ∧ M 0 0 41 ≤ 60 := iM 0 0 41
  have bn0 : 0 ≤ nn M ∧ nn M ≤ 100 := iM 36 0 (M 0 0 42)
  refine wp_bp (x_isSign iM l 58 hl) (fun v1 hv1 => ?_)
  refine wp_ite (fun c => ?_) (fun c => ?_)
  · refine wp_b (s_fX12_some fu hfu l hl M iM h1 (by omega)) (fun v5 M6 h6 => ?_)
    have n6 := h6.2.1.2.2.2.2.2.1
    refine wp_ite (fun c2 => wp_ret ⟨Or.inl rfl, h6.2.1.slack (by omega), fun q => absurd q (by decide)⟩) (fun c2 => ?_)
    refine wp_bp (x_isSign h6.2.1.1 l 58 hl) (fun v9 hv9 => ?_)
    refine wp_ite (fun c3 => wp_ret ⟨Or.inl rfl, h6.2.1.slack (by omega), fun q => absurd q (by decide)⟩) (fun c3 => ?_)
    exact s_line_38 fu hfu l hl M M6 h3 iM (h6.2.1.slack (by omega)) (h6.2.2 (by have := h6.1; omega)) (by omega)
  · refine wp_b (x_marks (l := l) iM 1 (jm_inL (by decide) (by decide)) h1 (by omega)) (fun v13 M14 h14 => ?_)
    obtain ⟨-, p14, e14, -, -, t14⟩ := h14
    exact s_line_38 fu hfu l hl M M14 h3 iM p14 (t14 0 1 (tk_push (by decide) 0)) (by omega)
def LQ (l : Int) (M : jm_M) (r : Int) (M1 : jm_M) : Prop := (r = 0 ∨ r = 1) ∧ PE l 100 M M1 ∧ (r = 1 → ∃ k : Nat, WFt (M1 35 0) k (100 * M 0 0 42 + nn M) (100 * M 0 0 42 + nn M1))
theorem nn_box {M : jm_M} (i : bI bx2 M) : 0 ≤ nn M ∧ nn M ≤ 100 := i 36 0 (M 0 0 42)
theorem s_lines_6 (fu : Nat) (hfu : 4000 ≤ fu) (l : Int) (hl : l ≤ 60) (M0 : jm_M) (i0 : bI bx2 M0) : ∀ (n : Nat) (M : jm_M) (l2 : Int), (l2 = 0 ∨ l2 = 1) → PE l 100 M0 M → (l2 = 1 → 3 * nn M ≤ 4 * M 0 0 41 + 4 ∧ ∃ k : Nat, WFt (M 35 0) k (100 * M0 0 0 42 + nn M0) (100 * M0 0 0 42 + nn M)) → l - M 0 0 41 < (n : Int) → wp (fX12_lines_6 fu n M l l2) (LQ l M0) := by
  intro n
  induction n with
  | zero =>
    intro M l2 _ hp _ hm
    have := hp.2.2.2.1
    exfalso; omega
  | succ n ih =>
    intro M l2 hb hp hw hm
    show wp (gX12_lines_6 fu (fX12_lines_6 fu n) M l l2) _
    unfold gX12_lines_6
    have iM := hp.1
    have e42 := hp.into
    have b41 : 0 ≤ M 0 0 41 ∧ M 0 0 41 ≤ 60 := iM 0 0 41
    have bn0 := nn_box i0
    have bn := nn_box iM
    have a1 := hp.2.2.1
    have z39 : wp (gX12_lines_39 fu M l l2) (LQ l M0) := by
      unfold gX12_lines_39
      refine wp_ite (fun c => wp_ret ⟨Or.inl rfl, hp, fun q => absurd q (by decide)⟩) (fun c => ?_)
      exact wp_ite (fun c2 => wp_ret ⟨Or.inr rfl, hp, fun _ => (hw (by omega)).2⟩) (fun c2 => wp_ret ⟨Or.inl rfl, hp, fun q => absurd q (by decide)⟩)
    refine wp_ite (fun c => z39) (fun c => ?_)
    refine wp_bp (x_isSign iM l 59 hl) (fun v2 h2 => ?_)
    refine wp_ite (fun c2 => z39) (fun c2 => ?_)
    have hlt : M 0 0 41 < l := by
      rcases h2 with q | q
      · exact q.2
      · exact absurd q c2
    obtain ⟨hw1, k, hw2⟩ := hw (by omega)
    obtain ⟨pa, ha, ea⟩ := PE_at iM hl hlt
    refine wp_si iM (by have := pa.1 0 0 41; rw [ea] at this; rw [jm_wid (by omega) (by omega)]; exact this) (fun M7 u7 i7 => ?_)
    rw [← u7] at pa ha ea
    have n7 : nn M7 = nn M := by
      unfold nn
      rw [u7, jm_une_f (by decide), jm_une_k (by decide)]
    have c7 : ∀ j : Int, M7 35 0 j = M 35 0 j := fun j => by rw [u7]; exact jm_une_f (by decide)
    have f42 : M7 0 0 42 = M0 0 0 42 := by rw [pa.into, e42]
    refine wp_b (s_line fu hfu l hl M7 i7 (by omega) (by omega)) (fun v8 M9 h9 => ?_)
    obtain ⟨r9, p9, w9⟩ := h9
    have a9 := p9.2.2.1
    have bn9 := nn_box p9.1
    have n9 := p9.2.2.2.2.1
    refine ih M9 v8 r9 ((hp.tr (pa.tr p9)).imp (by omega)) (fun q => ?_) (by omega)
    obtain ⟨q1, q2⟩ := w9 q
    refine ⟨q1, k + 1, ?_⟩
    rw [f42, n7] at q2
    refine WFt_snoc k _ _ _ (WFt_congr k _ _ (fun j z1 z2 => ?_) hw2) q2
    rw [p9.2.2.2.2.2.2.2 j (by rw [f42, n7]; omega), c7 j]
theorem s_lines (fu : Nat) (hfu : 4000 ≤ fu) (l : Int) (hl : l ≤ 60) (M : jm_M) (iM : bI bx2 M) (h1 : M 0 0 41 ≤ l) (h3 : 3 * nn M ≤ 4 * M 0 0 41) : wp (fX12_lines fu M l) (LQ l M) := by
  unfold fX12_lines
  refine wp_b (s_line fu hfu l hl M iM h1 h3) (fun v1 M2 h => ?_)
  have b41 : 0 ≤ M2 0 0 41 ∧ M2 0 0 41 ≤ 60 := h.2.1.1 0 0 41
  exact s_lines_6 fu hfu l hl M iM fu M2 v1 h.1 h.2.1 (fun q => ⟨(h.2.2 q).1, 1, _, (h.2.2 q).2, rfl⟩) (by omega)
/-! a rule's law -/
def TPL (f : Nat) (i k : Int) : Prop := f ≠ 35 ∧ f ≠ 36 ∧ f ≠ 62 ∧ (f = 0 → k ≠ 41)
def PW (M M1 : jm_M) : Prop := bI bx2 M1 ∧ Kp TPL M M1 ∧ nn M ≤ nn M1 ∧ (∀ k : Int, k ≠ M 0 0 42 → M1 36 0 k = M 36 0 k) ∧ (∀ j : Int, ¬ (100 * M 0 0 42 + nn M ≤ j ∧ j < 100 * M 0 0 42 + nn M1) → M1 35 0 j = M 35 0 j)
theorem PW.of {l s : Int} {M M1 : jm_M} (h : PE l s M M1) : PW M M1 := ⟨h.1, fun f i k q => h.2.1 f i k ⟨q.1, q.2.1, q.2.2.2⟩, h.2.2.2.2.1, h.2.2.2.2.2.2.1, h.2.2.2.2.2.2.2⟩
theorem PW.same {M M1 M2 : jm_M} (h : PW M M1) (i : bI bx2 M2) (k : Kp TPL M1 M2) (e35 : ∀ j : Int, M2 35 0 j = M1 35 0 j) (e36 : ∀ j : Int, M2 36 0 j = M1 36 0 j) : PW M M2 ∧ nn M2 = nn M1 ∧ ∀ a b : Nat, PH M M1 a b → PH M M2 a b := by
  have en : nn M2 = nn M1 := by
    unfold nn
    rw [e36, k 0 0 42 (by unfold TPL; omega)]
  refine ⟨⟨i, h.2.1.tr k (fun _ _ _ h => h), by rw [en]; exact h.2.2.1, fun j q => by rw [e36]; exact h.2.2.2.1 j q, fun j q => by rw [e35]; exact h.2.2.2.2 j (by rw [← en]; exact q)⟩, en, fun a b q => ?_⟩
  unfold PH at *
  rw [en, ← q]
  exact hg_congr _ _ _ (fun j _ _ => e35 j)
theorem PW.at' {M M1 : jm_M} (h : PW M M1) (v : Int) (hv : 0 ≤ v ∧ v ≤ 60) : PW M (jm_u M1 0 0 41 v) ∧ nn (jm_u M1 0 0 41 v) = nn M1 ∧ ∀ a b : Nat, PH M M1 a b → PH M (jm_u M1 0 0 41 v) a b :=
  h.same (bI_u h.1 hv) (fun f i k q => jm_une (fun z => q.2.2.2 z.1 z.2.2)) (fun j => jm_une_f (by decide)) (fun j => jm_une_f (by decide))
theorem PW.w62 {M M1 : jm_M} (h : PW M M1) (k v : Int) (hv : jm_in v) : PW M (jm_u M1 62 0 k v) ∧ nn (jm_u M1 62 0 k v) = nn M1 ∧ ∀ a b : Nat, PH M M1 a b → PH M (jm_u M1 62 0 k v) a b :=
  h.same (bI_u h.1 hv) (fun f i k q => jm_une_f q.2.2.1) (fun j => jm_une_f (by decide)) (fun j => jm_une_f (by decide))
def LW (M : jm_M) (r : Int) (M1 : jm_M) : Prop := (r = 0 ∨ r = 1) ∧ PW M M1 ∧ (r = 1 → PH M M1 0 1)
theorem s_law_154 (fu : Nat) (l : Int) (M0 M : jm_M) (l2 l3 : Int) (h2 : jm_in l2) (hp : PW M0 M) (hh : PH M0 M 0 1) : wp (gX12_law_154 fu M l l2 l3) (LW M0) := by
  unfold gX12_law_154
  have b72 : 0 ≤ M 0 0 72 ∧ M 0 0 72 ≤ 10 := hp.1 0 0 72
  obtain ⟨q1, q2, q3⟩ := hp.w62 (M 0 0 72) l2 h2
  refine wp_T ⟨by omega, by omega⟩ ?_
  refine wp_si hp.1 h2 (fun M3 u3 i3 => ?_)
  rw [← u3] at q1 q2 q3
  refine wp_ite (fun c => wp_ret ⟨Or.inl rfl, q1, fun _ => q3 _ _ hh⟩) (fun c => ?_)
  exact wp_ite (fun c => wp_ret ⟨Or.inr rfl, q1, fun _ => q3 _ _ hh⟩) (fun c => wp_ret ⟨Or.inl rfl, q1, fun _ => q3 _ _ hh⟩)
theorem s_law_103 (fu : Nat) (l : Int) (hl : l ≤ 60) (M0 : jm_M) (l3 : Int) : ∀ (n : Nat) (M : jm_M) (l2 : Int), jm_in l2 → PW M0 M → PH M0 M 0 1 → M 0 0 41 ≤ l → l - M 0 0 41 < (n : Int) → wp (fX12_law_103 fu n M l l2 l3) (LW M0) := by
  intro n
  induction n with
  | zero => intro M l2 _ _ _ h1 hm; exfalso; omega
  | succ n ih =>
    intro M l2 h2 hp hh h1 hm
    show wp (gX12_law_103 fu (fX12_law_103 fu n) M l l2 l3) _
    unfold gX12_law_103
    have iM := hp.1
    have b41 : 0 ≤ M 0 0 41 ∧ M 0 0 41 ≤ 60 := iM 0 0 41
    refine wp_ite (fun c => s_law_154 fu l M0 M l2 l3 h2 hp hh) (fun c => ?_)
    refine wp_bp (x_isOf iM l 5 hl) (fun v3 h3 => ?_)
    refine wp_ite (fun c2 => s_law_154 fu l M0 M l2 l3 h2 hp hh) (fun c2 => ?_)
    have hlt : M 0 0 41 < l := by
      rcases h3 with q | q
      · exact q.2.1
      · exact absurd q c2
    refine wp_T ⟨by omega, by omega⟩ ?_
    refine wp_e (jm_w_in _) (fun v10 e10 b10 => ?_)
    rw [jm_wid (x := M 0 0 41 + 1) (by omega) (by omega)]
    obtain ⟨q1, q2, q3⟩ := hp.at' (M 0 0 41 + 1) ⟨by omega, by omega⟩
    refine wp_si iM (show 0 ≤ M 0 0 41 + 1 ∧ M 0 0 41 + 1 ≤ 60 by omega) (fun M13 u13 i13 => ?_)
    have e13 : M13 0 0 41 = M 0 0 41 + 1 := by rw [u13]; exact jm_ueq
    rw [← u13] at q1 q3
    exact ih M13 v10 b10 q1 (q3 _ _ hh) (by omega) (by omega)
theorem s_law (fu : Nat) (hfu : 4000 ≤ fu) (l : Int) (hl : l ≤ 60) (M : jm_M) (iM : bI bx2 M) (h1 : M 0 0 41 ≤ l) (h0 : nn M ≤ M 0 0 41 + 39) : wp (fX12_law fu M l) (LW M) := by
  unfold fX12_law
  have b41 : 0 ≤ M 0 0 41 ∧ M 0 0 41 ≤ 60 := iM 0 0 41
  refine wp_b (s_fX12_some fu hfu l hl M iM h1 h0) (fun v1 M2 h => ?_)
  have p2 := PW.of h.2.1
  have i2 := p2.1
  have b2 : 0 ≤ M2 0 0 41 ∧ M2 0 0 41 ≤ 60 := i2 0 0 41
  refine wp_ite (fun c => wp_ret ⟨Or.inl rfl, p2, fun q => absurd q (by decide)⟩) (fun c => ?_)
  have hh : PH M M2 0 1 := h.2.2 (by have := h.1; omega)
  refine wp_bp (x_isSign i2 l 58 hl) (fun v5 h5 => ?_)
  refine wp_ite (fun c => wp_ret ⟨Or.inl rfl, p2, fun q => absurd q (by decide)⟩) (fun c2 => ?_)
  have hlt : M2 0 0 41 < l := by
    rcases h5 with q | q
    · exact q.2
    · exact absurd q c2
  rw [jm_wid (x := M2 0 0 41 + 1) (by omega) (by omega)]
  obtain ⟨q1, q2, q3⟩ := p2.at' (M2 0 0 41 + 1) ⟨by omega, by omega⟩
  refine wp_si i2 (show 0 ≤ M2 0 0 41 + 1 ∧ M2 0 0 41 + 1 ≤ 60 by omega) (fun M10 u10 i10 => ?_)
  have e10 : M10 0 0 41 = M2 0 0 41 + 1 := by rw [u10]; exact jm_ueq
  rw [← u10] at q1 q3
  have hh10 := q3 _ _ hh
  refine wp_bp (x_isSign i10 l 88 hl) (fun v11 h11 => ?_)
  refine wp_ite (fun c3 => ?_) (fun c3 => ?_)
  · refine wp_bp (x_isSign i10 l 43 hl) (fun v15 h15 => ?_)
    refine wp_ite (fun c => wp_ret ⟨Or.inl rfl, q1, fun q => absurd q (by decide)⟩) (fun c4 => ?_)
    have hlt2 : M10 0 0 41 < l := by
      rcases h15 with q | q
      · exact q.2
      · exact absurd q c4
    rw [jm_wid (x := M10 0 0 41 + 1) (by omega) (by omega)]
    obtain ⟨s1, s2, s3⟩ := q1.at' (M10 0 0 41 + 1) ⟨by omega, by omega⟩
    refine wp_si i10 (show 0 ≤ M10 0 0 41 + 1 ∧ M10 0 0 41 + 1 ≤ 60 by omega) (fun M20 u20 i20 => ?_)
    have e20 : M20 0 0 41 = M10 0 0 41 + 1 := by rw [u20]; exact jm_ueq
    rw [← u20] at s1 s3
    refine wp_e (bx2_in (i20 0 0 41)) (fun v22 e22 _ => ?_)
    exact s_law_103 fu l hl M v22 fu M20 0 (jm_inL (by decide) (by decide)) s1 (s3 _ _ hh10) (by omega) (by omega)
  · have hlt2 : M10 0 0 41 < l := by
      rcases h11 with q | q
      · exact q.2
      · exact absurd q c3
    rw [jm_wid (x := M10 0 0 41 + 1) (by omega) (by omega)]
    obtain ⟨s1, s2, s3⟩ := q1.at' (M10 0 0 41 + 1) ⟨by omega, by omega⟩
    refine wp_si i10 (show 0 ≤ M10 0 0 41 + 1 ∧ M10 0 0 41 + 1 ≤ 60 by omega) (fun M25 u25 i25 => ?_)
    rw [← u25] at s1 s3
    have b72 : 0 ≤ M25 0 0 72 ∧ M25 0 0 72 ≤ 10 := i25 0 0 72
    refine wp_T ⟨by omega, by omega⟩ ?_
    have z : jm_in (-1) := jm_inL (by decide) (by decide)
    obtain ⟨t1, t2, t3⟩ := s1.w62 (M25 0 0 72) (-1) z
    refine wp_si i25 z (fun M28 u28 i28 => ?_)
    rw [← u28] at t1 t3
    exact wp_ite (fun _ => wp_ret ⟨Or.inr rfl, t1, fun _ => t3 _ _ (s3 _ _ hh10)⟩) (fun _ => wp_ret ⟨Or.inl rfl, t1, fun _ => t3 _ _ (s3 _ _ hh10)⟩)
