/-! the parser: what an expression leaves -/
def nn (M : jm_M) : Int := M 36 0 (M 0 0 42)
def TPA (f : Nat) (i k : Int) : Prop := f ≠ 35 ∧ f ≠ 36 ∧ (f = 0 → k ≠ 41)
def PE (l s : Int) (M M1 : jm_M) : Prop := bI bx2 M1 ∧ Kp TPA M M1 ∧ M 0 0 41 ≤ M1 0 0 41 ∧ M1 0 0 41 ≤ l ∧ nn M ≤ nn M1 ∧ nn M1 - nn M ≤ M1 0 0 41 - M 0 0 41 + s ∧ (∀ k : Int, k ≠ M 0 0 42 → M1 36 0 k = M 36 0 k) ∧ (∀ j : Int, ¬ (100 * M 0 0 42 + nn M ≤ j ∧ j < 100 * M 0 0 42 + nn M1) → M1 35 0 j = M 35 0 j)
def PH (M M1 : jm_M) (a b : Nat) : Prop := hg (M1 35 0) (nn M1 - nn M).toNat (100 * M 0 0 42 + nn M) a = some b
theorem PE.into {l s : Int} {M M1 : jm_M} (h : PE l s M M1) : M1 0 0 42 = M 0 0 42 := h.2.1 0 0 42 (by unfold TPA; omega)
theorem PE.rf {l : Int} {M : jm_M} (i : bI bx2 M) (h : M 0 0 41 ≤ l) : PE l 0 M M := ⟨i, Kp.rf, Int.le_refl _, h, Int.le_refl _, by omega, fun _ _ => rfl, fun _ _ => rfl⟩
theorem PE.tr {l s s2 : Int} {M M1 M2 : jm_M} (h : PE l s M M1) (g : PE l s2 M1 M2) : PE l (s + s2) M M2 := by
  have e := h.into
  obtain ⟨_, k1, a1, a2, n1, n2, o1, c1⟩ := h
  obtain ⟨i2, k2, b1, b2, m1, m2, o2, c2⟩ := g
  refine ⟨i2, k1.tr k2 (fun _ _ _ h => h), by omega, b2, by omega, by omega, fun k q => ?_, fun j q => ?_⟩
  · rw [o2 k (by rw [e]; exact q), o1 k q]
  · rw [c2 j (by rw [e]; omega), c1 j (by omega)]
theorem PE.slack {l s s2 : Int} {M M1 : jm_M} (h : PE l s M M1) (q : s ≤ s2) : PE l s2 M M1 := by
  obtain ⟨i1, k1, a1, a2, n1, n2, o1, c1⟩ := h
  exact ⟨i1, k1, a1, a2, n1, by omega, o1, c1⟩
theorem PH.rf {M : jm_M} (a : Nat) : PH M M a a := by
  unfold PH
  rw [show (nn M - nn M).toNat = 0 by omega]
  rfl
theorem PH.tr {l s s2 : Int} {M M1 M2 : jm_M} {a b c : Nat} (h : PE l s M M1) (g : PE l s2 M1 M2) (p : PH M M1 a b) (q : PH M1 M2 b c) : PH M M2 a c := by
  have e := h.into
  obtain ⟨_, k1, a1, a2, n1, n2, o1, c1⟩ := h
  obtain ⟨i2, k2, b1, b2, m1, m2, o2, c2⟩ := g
  unfold PH at *
  rw [e] at q c2
  rw [show (nn M2 - nn M).toNat = (nn M1 - nn M).toNat + (nn M2 - nn M1).toNat by omega]
  have p2 : hg (M2 35 0) (nn M1 - nn M).toNat (100 * M 0 0 42 + nn M) a = some b := by
    rw [← p]
    exact hg_congr _ _ _ (fun j q1 q2 => c2 j (by omega))
  rw [hg_app _ _ _ _ _ _ p2, show 100 * M 0 0 42 + nn M + ((nn M1 - nn M).toNat : Int) = 100 * M 0 0 42 + nn M1 by omega]
  exact q
theorem PH.up {M M1 : jm_M} {a b : Nat} (k : Nat) (p : PH M M1 a b) : PH M M1 (a + k) (b + k) := hg_mono _ _ _ _ _ k p
theorem PE_at {l : Int} {M : jm_M} (i : bI bx2 M) (hl : l ≤ 60) (h : M 0 0 41 < l) : PE l (-1) M (jm_u M 0 0 41 (jm_w (M 0 0 41 + 1))) ∧ (∀ a : Nat, PH M (jm_u M 0 0 41 (jm_w (M 0 0 41 + 1))) a a) ∧ jm_u M 0 0 41 (jm_w (M 0 0 41 + 1)) 0 0 41 = M 0 0 41 + 1 := by
  have b : 0 ≤ M 0 0 41 ∧ M 0 0 41 ≤ 60 := i 0 0 41
  have w : jm_w (M 0 0 41 + 1) = M 0 0 41 + 1 := jm_wid (by omega) (by omega)
  rw [w]
  have e : jm_u M 0 0 41 (M 0 0 41 + 1) 0 0 41 = M 0 0 41 + 1 := jm_ueq
  have en : nn (jm_u M 0 0 41 (M 0 0 41 + 1)) = nn M := by
    unfold nn
    rw [jm_une_f (by decide), jm_une_k (by decide)]
  refine ⟨⟨bI_u i (show 0 ≤ M 0 0 41 + 1 ∧ M 0 0 41 + 1 ≤ 60 by omega), fun f i2 k q => jm_une (fun z => q.2.2 z.1 z.2.2), by omega, by omega, by omega, by omega, fun k _ => jm_une_f (by decide), fun j _ => jm_une_f (by decide)⟩, fun a => ?_, e⟩
  unfold PH
  rw [en, show (nn M - nn M).toNat = 0 by omega]
  rfl
theorem x_marks {l : Int} {M : jm_M} (i : bI bx2 M) (m : Int) (hm : jm_in m) (h : M 0 0 41 ≤ l) (hn : nn M ≤ 99) : wp (fX12_marks M m) (fun r M1 => r = 0 ∧ PE l 1 M M1 ∧ M1 0 0 41 = M 0 0 41 ∧ nn M1 = nn M + 1 ∧ M1 35 0 (100 * M 0 0 42 + nn M) = m ∧ ∀ a b : Nat, tk m a = some b → PH M M1 a b) := by
  have b42 : 0 ≤ M 0 0 42 ∧ M 0 0 42 ≤ 16 := i 0 0 42
  have bn : 0 ≤ nn M ∧ nn M ≤ 100 := i 36 0 (M 0 0 42)
  have w1 : jm_w (100 * M 0 0 42) = 100 * M 0 0 42 := jm_wid (by omega) (by omega)
  have w2 : jm_w (100 * M 0 0 42 + nn M) = 100 * M 0 0 42 + nn M := jm_wid (by omega) (by omega)
  have w3 : jm_w (nn M + 1) = nn M + 1 := jm_wid (by omega) (by omega)
  unfold fX12_marks
  refine wp_T ⟨by omega, by omega⟩ ?_
  rw [w1, show M 36 0 (M 0 0 42) = nn M from rfl, w2]
  refine wp_T ⟨by omega, by omega⟩ ?_
  refine wp_si i hm (fun M6 u6 i6 => ?_)
  have e42 : M6 0 0 42 = M 0 0 42 := by rw [u6]; exact jm_une_f (by decide)
  rw [e42]
  refine wp_T ⟨by omega, by omega⟩ ?_
  refine wp_T ⟨by omega, by omega⟩ ?_
  have e36 : M6 36 0 (M 0 0 42) = nn M := by rw [u6]; exact jm_une_f (by decide)
  rw [e36, w3]
  refine wp_si i6 (show 0 ≤ nn M + 1 ∧ nn M + 1 ≤ 100 by omega) (fun M11 u11 i11 => ?_)
  have f42 : M11 0 0 42 = M 0 0 42 := by rw [u11, jm_une_f (by decide)]; exact e42
  have f41 : M11 0 0 41 = M 0 0 41 := by rw [u11, jm_une_f (by decide), u6]; exact jm_une_f (by decide)
  have fn : nn M11 = nn M + 1 := by
    unfold nn
    rw [f42, u11]
    exact jm_ueq
  have fc : M11 35 0 (100 * M 0 0 42 + nn M) = m := by rw [u11, jm_une_f (by decide), u6]; exact jm_ueq
  refine wp_ret ⟨rfl, ⟨i11, fun f i2 k q => ?_, by omega, by omega, by omega, by omega, fun k q => ?_, fun j q => ?_⟩, f41, fn, fc, fun a b ht => ?_⟩
  · rw [u11, jm_une_f q.2.1, u6, jm_une_f q.1]
  · rw [u11, jm_une_k q, u6, jm_une_f (by decide)]
  · rw [u11, jm_une_f (by decide), u6, jm_une_k (by omega)]
  · unfold PH
    rw [fn, show (nn M + 1 - nn M).toNat = 0 + 1 by omega]
    show (match tk (M11 35 0 (100 * M 0 0 42 + nn M)) a with | none => none | some m => hg (M11 35 0) 0 (100 * M 0 0 42 + nn M + 1) m) = some b
    rw [fc, ht]
    rfl
theorem jm_sxl_f (c : Int) : ∀ (l : List Int) (k : Int), 0 ≤ k → jm_sxl c l k = -1 ∨ (k ≤ jm_sxl c l k ∧ jm_sxl c l k < k + l.length ∧ c ∈ l) := by
  intro l
  induction l with
  | nil => intro k _; exact Or.inl rfl
  | cons b l ih =>
    intro k hk
    unfold jm_sxl
    split
    · rename_i e
      refine Or.inr ⟨Int.le_refl _, by simp only [List.length_cons]; omega, ?_⟩
      rw [e]
      exact List.mem_cons_self
    · rcases ih (k + 1) (by omega) with q | ⟨q1, q2, q3⟩
      · exact Or.inl q
      · exact Or.inr ⟨by omega, by simp only [List.length_cons]; omega, List.mem_cons_of_mem _ q3⟩
theorem jm_sl_13 (s : Int) : (jm_sl s).length ≤ 13 := by
  have h : ∀ j : Nat, j < 11 → (jm_sl (j : Int)).length ≤ 13 := by decide +kernel
  by_cases q : s.toNat < 11
  · have := h s.toNat q
    unfold jm_sl at *
    exact this
  · unfold jm_sl
    rw [List.getD_eq_getElem?_getD, List.getElem?_eq_none (by simp; omega)]
    simp
theorem jm_sx_f (s c : Int) : jm_sx s c = -1 ∨ (0 ≤ jm_sx s c ∧ jm_sx s c ≤ 12 ∧ c ∈ jm_sl s) := by
  have := jm_sl_13 s
  rcases jm_sxl_f c (jm_sl s) 0 (Int.le_refl 0) with q | ⟨q1, q2, q3⟩
  · exact Or.inl q
  · exact Or.inr ⟨q1, by unfold jm_sx; omega, q3⟩
theorem x_isOf {M : jm_M} (i : bI bx2 M) (l w : Int) (hl : l ≤ 60) : wp (fX12_isOf M l w) (fun r M1 => M1 = M ∧ ((r = 1 ∧ M 0 0 41 < l ∧ 0 ≤ jm_sx w (M 34 0 (M 0 0 41)) ∧ jm_sx w (M 34 0 (M 0 0 41)) ≤ 12 ∧ M 34 0 (M 0 0 41) ∈ jm_sl w) ∨ r = 0)) := by
  have b : 0 ≤ M 0 0 41 ∧ M 0 0 41 ≤ 60 := i 0 0 41
  unfold fX12_isOf
  refine wp_ite (fun c => wp_ret ⟨rfl, Or.inr rfl⟩) (fun c => ?_)
  refine wp_T ⟨by omega, by omega⟩ ?_
  refine wp_ite (fun c => wp_ret ⟨rfl, Or.inr rfl⟩) (fun c2 => ?_)
  refine wp_T ⟨by omega, by omega⟩ ?_
  refine wp_bp (M := M) (P := fun r => r = jm_sx w (M 34 0 (M 0 0 41))) ⟨_, _, rfl, rfl, rfl⟩ (fun v hv => ?_)
  refine wp_ite (fun c => wp_ret ⟨rfl, Or.inr rfl⟩) (fun c3 => ?_)
  rcases jm_sx_f w (M 34 0 (M 0 0 41)) with q | ⟨q1, q2, q3⟩
  · exfalso; omega
  · exact wp_ret ⟨rfl, Or.inl ⟨rfl, by omega, q1, q2, q3⟩⟩
theorem x_isSign {M : jm_M} (i : bI bx2 M) (l w : Int) (hl : l ≤ 60) : wp (fX12_isSign M l w) (fun r M1 => M1 = M ∧ ((r = 1 ∧ M 0 0 41 < l) ∨ r = 0)) := by
  have b : 0 ≤ M 0 0 41 ∧ M 0 0 41 ≤ 60 := i 0 0 41
  unfold fX12_isSign
  refine wp_ite (fun c => wp_ret ⟨rfl, Or.inr rfl⟩) (fun c => ?_)
  refine wp_T ⟨by omega, by omega⟩ ?_
  exact wp_ite (fun c2 => wp_ret ⟨rfl, Or.inl ⟨rfl, by omega⟩⟩) (fun c2 => wp_ret ⟨rfl, Or.inr rfl⟩)
theorem x_act {M : jm_M} (c : Int) (h : 0 ≤ c ∧ c ≤ 255) : wp (fX12_act M c) (fun r M1 => M1 = M ∧ r = c - 200) := ⟨_, _, rfl, rfl, jm_wid (by omega) (by omega)⟩
/-- an expression's outcome -/
def PO (l : Int) (M : jm_M) (r : Int) (M1 : jm_M) : Prop := (r = 0 ∨ r = 1) ∧ PE l 0 M M1 ∧ (r = 1 → PH M M1 0 1)
/-- a call one deeper -/
def RCh (l : Int) (rc : Nat → jm_M → Int → jm_R) (d : Int) : Prop := ∀ (k : Nat) (M : jm_M), k ≤ 6 → bI bx2 M → M 0 0 41 ≤ l → nn M ≤ M 0 0 41 + 39 → 7 * (l - M 0 0 41) + 7 - k ≤ d → wp (rc k M l) (PO l M)
theorem tk_bin {m : Int} (h1 : m < -13) (h2 : m ≠ -300) (h3 : ¬ (m = -167 ∨ m = -74)) : tk m 2 = some 1 := by
  unfold tk
  rw [if_neg h2, if_neg (by omega), if_neg h3]
  rfl
theorem s_some_6 (fu : Nat) (l : Int) (hl : l ≤ 60) (rc : Nat → jm_M → Int → jm_R) (d : Int) (hrc : RCh l rc d) (M0 : jm_M) (h0 : nn M0 ≤ M0 0 0 41 + 39) (hd : 7 * (l - M0 0 0 41) + 7 - 0 ≤ d + 1) : ∀ (n : Nat) (M : jm_M) (l2 : Int), PO l M0 l2 M → l - M 0 0 41 < (n : Int) → wp (fX12_some_6 rc fu n M l l2) (PO l M0) := by
  intro n
  induction n with
  | zero =>
    intro M l2 hR hm
    have := hR.2.1.2.2.2.1
    exfalso; omega
  | succ n ih =>
    intro M l2 hR hm
    show wp (gX12_some_6 rc fu (fX12_some_6 rc fu n) M l l2) _
    unfold gX12_some_6
    have iM : bI bx2 M := hR.2.1.1
    have b41 : 0 ≤ M 0 0 41 ∧ M 0 0 41 ≤ 60 := iM 0 0 41
    have hb := hR.1
    have a1 := hR.2.1.2.2.1
    have n2 := hR.2.1.2.2.2.2.2.1
    refine wp_ite (fun c => wp_T (by omega) (wp_ret hR)) (fun c => ?_)
    · have hp : PH M0 M 0 1 := hR.2.2 (by omega)
      refine wp_bp (x_isSign iM l 124 hl) (fun v2 h2 => ?_)
      refine wp_ite (fun c2 => wp_T (by omega) (wp_ret hR)) (fun c2 => ?_)
      have hlt : M 0 0 41 < l := by
        rcases h2 with q | q
        · exact q.2
        · exact absurd q c2
      obtain ⟨pa, ha, ea⟩ := PE_at iM hl hlt
      refine wp_si iM (by have := pa.1 0 0 41; rw [ea] at this; rw [jm_wid (by omega) (by omega)]; exact this) (fun M7 u7 i7 => ?_)
      rw [← u7] at pa ha ea
      have n7 := pa.2.2.2.2.2.1
      refine wp_b (hrc 1 M7 (by decide) i7 (by omega) (by omega) (by omega)) (fun v8 M9 h8 => ?_)
      have p9 : PE l (-1) M M9 := (pa.tr h8.2.1).slack (by omega)
      have a9 := p9.2.2.1
      have a9l := p9.2.2.2.1
      have n9 := p9.2.2.2.2.2.1
      have a79 := h8.2.1.2.2.1
      refine wp_ite (fun c3 => ?_) (fun c3 => ?_)
      · exact ih M9 v8 ⟨h8.1, (hR.2.1.tr p9).slack (by omega), fun q => absurd c3 (by omega)⟩ (by omega)
      · have hp9 : PH M M9 1 2 := PH.tr pa h8.2.1 (ha 1) ((h8.2.2 (by have := h8.1; omega)).up 1)
        refine wp_bp (x_act 124 ⟨by decide, by decide⟩) (fun v12 h12 => ?_)
        refine wp_b (x_marks (l := l) h8.2.1.1 v12 (jm_inL (by omega) (by omega)) a9l (by omega)) (fun v15 M16 h15 => ?_)
        obtain ⟨-, p16, e16, -, -, t16⟩ := h15
        have hp16 : PH M M16 1 1 := PH.tr p9 p16 hp9 (t16 2 1 (tk_bin (by omega) (by omega) (by omega)))
        exact ih M16 v8 ⟨h8.1, (hR.2.1.tr (p9.tr p16)).slack (by omega), fun _ => PH.tr hR.2.1 (p9.tr p16) hp hp16⟩ (by omega)
theorem s_some (fu : Nat) (hfu : 4000 ≤ fu) (l : Int) (hl : l ≤ 60) (rc : Nat → jm_M → Int → jm_R) (d : Int) (hrc : RCh l rc d) (M : jm_M) (iM : bI bx2 M) (h1 : M 0 0 41 ≤ l) (h0 : nn M ≤ M 0 0 41 + 39) (hd : 7 * (l - M 0 0 41) + 7 - 0 ≤ d + 1) : wp (gX12_some rc fu M l) (PO l M) := by
  unfold gX12_some
  have b41 : 0 ≤ M 0 0 41 ∧ M 0 0 41 ≤ 60 := iM 0 0 41
  refine wp_b (hrc 1 M (by decide) iM h1 h0 (by omega)) (fun v1 M2 h1' => ?_)
  have b2 : 0 ≤ M2 0 0 41 ∧ M2 0 0 41 ≤ 60 := h1'.2.1.1 0 0 41
  exact s_some_6 fu l hl rc d hrc M h0 hd fu M2 v1 h1' (by omega)
theorem s_every_6 (fu : Nat) (l : Int) (hl : l ≤ 60) (rc : Nat → jm_M → Int → jm_R) (d : Int) (hrc : RCh l rc d) (M0 : jm_M) (h0 : nn M0 ≤ M0 0 0 41 + 39) (hd : 7 * (l - M0 0 0 41) + 7 - 1 ≤ d + 1) : ∀ (n : Nat) (M : jm_M) (l2 : Int), PO l M0 l2 M → l - M 0 0 41 < (n : Int) → wp (fX12_every_6 rc fu n M l l2) (PO l M0) := by
  intro n
  induction n with
  | zero =>
    intro M l2 hR hm
    have := hR.2.1.2.2.2.1
    exfalso; omega
  | succ n ih =>
    intro M l2 hR hm
    show wp (gX12_every_6 rc fu (fX12_every_6 rc fu n) M l l2) _
    unfold gX12_every_6
    have iM : bI bx2 M := hR.2.1.1
    have b41 : 0 ≤ M 0 0 41 ∧ M 0 0 41 ≤ 60 := iM 0 0 41
    have hb := hR.1
    have a1 := hR.2.1.2.2.1
    have n2 := hR.2.1.2.2.2.2.2.1
    refine wp_ite (fun c => wp_T (by omega) (wp_ret hR)) (fun c => ?_)
    · have hp : PH M0 M 0 1 := hR.2.2 (by omega)
      refine wp_bp (x_isSign iM l 38 hl) (fun v2 h2 => ?_)
      refine wp_ite (fun c2 => wp_T (by omega) (wp_ret hR)) (fun c2 => ?_)
      have hlt : M 0 0 41 < l := by
        rcases h2 with q | q
        · exact q.2
        · exact absurd q c2
      obtain ⟨pa, ha, ea⟩ := PE_at iM hl hlt
      refine wp_si iM (by have := pa.1 0 0 41; rw [ea] at this; rw [jm_wid (by omega) (by omega)]; exact this) (fun M7 u7 i7 => ?_)
      rw [← u7] at pa ha ea
      have n7 := pa.2.2.2.2.2.1
      refine wp_b (hrc 2 M7 (by decide) i7 (by omega) (by omega) (by omega)) (fun v8 M9 h8 => ?_)
      have p9 : PE l (-1) M M9 := (pa.tr h8.2.1).slack (by omega)
      have a9 := p9.2.2.1
      have a9l := p9.2.2.2.1
      have n9 := p9.2.2.2.2.2.1
      have a79 := h8.2.1.2.2.1
      refine wp_ite (fun c3 => ?_) (fun c3 => ?_)
      · exact ih M9 v8 ⟨h8.1, (hR.2.1.tr p9).slack (by omega), fun q => absurd c3 (by omega)⟩ (by omega)
      · have hp9 : PH M M9 1 2 := PH.tr pa h8.2.1 (ha 1) ((h8.2.2 (by have := h8.1; omega)).up 1)
        refine wp_bp (x_act 38 ⟨by decide, by decide⟩) (fun v12 h12 => ?_)
        refine wp_b (x_marks (l := l) h8.2.1.1 v12 (jm_inL (by omega) (by omega)) a9l (by omega)) (fun v15 M16 h15 => ?_)
        obtain ⟨-, p16, e16, -, -, t16⟩ := h15
        have hp16 : PH M M16 1 1 := PH.tr p9 p16 hp9 (t16 2 1 (tk_bin (by omega) (by omega) (by omega)))
        exact ih M16 v8 ⟨h8.1, (hR.2.1.tr (p9.tr p16)).slack (by omega), fun _ => PH.tr hR.2.1 (p9.tr p16) hp hp16⟩ (by omega)
theorem s_every (fu : Nat) (hfu : 4000 ≤ fu) (l : Int) (hl : l ≤ 60) (rc : Nat → jm_M → Int → jm_R) (d : Int) (hrc : RCh l rc d) (M : jm_M) (iM : bI bx2 M) (h1 : M 0 0 41 ≤ l) (h0 : nn M ≤ M 0 0 41 + 39) (hd : 7 * (l - M 0 0 41) + 7 - 1 ≤ d + 1) : wp (gX12_every rc fu M l) (PO l M) := by
  unfold gX12_every
  have b41 : 0 ≤ M 0 0 41 ∧ M 0 0 41 ≤ 60 := iM 0 0 41
  refine wp_b (hrc 2 M (by decide) iM h1 h0 (by omega)) (fun v1 M2 h1' => ?_)
  have b2 : 0 ≤ M2 0 0 41 ∧ M2 0 0 41 ≤ 60 := h1'.2.1.1 0 0 41
  exact s_every_6 fu l hl rc d hrc M h0 hd fu M2 v1 h1' (by omega)
theorem s_total_6 (fu : Nat) (l : Int) (hl : l ≤ 60) (rc : Nat → jm_M → Int → jm_R) (d : Int) (hrc : RCh l rc d) (M0 : jm_M) (h0 : nn M0 ≤ M0 0 0 41 + 39) (hd : 7 * (l - M0 0 0 41) + 7 - 3 ≤ d + 1) : ∀ (n : Nat) (M : jm_M) (l2 : Int), PO l M0 l2 M → l - M 0 0 41 < (n : Int) → wp (fX12_total_6 rc fu n M l l2) (PO l M0) := by
  intro n
  induction n with
  | zero =>
    intro M l2 hR hm
    have := hR.2.1.2.2.2.1
    exfalso; omega
  | succ n ih =>
    intro M l2 hR hm
    show wp (gX12_total_6 rc fu (fX12_total_6 rc fu n) M l l2) _
    unfold gX12_total_6
    have iM : bI bx2 M := hR.2.1.1
    have b41 : 0 ≤ M 0 0 41 ∧ M 0 0 41 ≤ 60 := iM 0 0 41
    have hb := hR.1
    have a1 := hR.2.1.2.2.1
    have n2 := hR.2.1.2.2.2.2.2.1
    refine wp_ite (fun c => wp_T (by omega) (wp_ret hR)) (fun c => ?_)
    · have hp : PH M0 M 0 1 := hR.2.2 (by omega)
      refine wp_bp (x_isOf iM l 6 hl) (fun v2 h2 => ?_)
      refine wp_ite (fun c2 => wp_T (by omega) (wp_ret hR)) (fun c2 => ?_)
      obtain ⟨hlt, hch⟩ : M 0 0 41 < l ∧ M 34 0 (M 0 0 41) ∈ jm_sl 6 := by
        rcases h2 with q | q
        · exact ⟨q.2.1, q.2.2.2.2⟩
        · exact absurd q c2
      have hcv : M 34 0 (M 0 0 41) = 43 ∨ M 34 0 (M 0 0 41) = 45 := by
        have q : M 34 0 (M 0 0 41) ∈ ([43, 45] : List Int) := hch
        simpa using q
      refine wp_T ⟨by omega, by omega⟩ ?_
      refine wp_e (iM 34 0 _) (fun v9 e9 _ => ?_)
      obtain ⟨pa, ha, ea⟩ := PE_at iM hl hlt
      refine wp_si iM (by have := pa.1 0 0 41; rw [ea] at this; rw [jm_wid (by omega) (by omega)]; exact this) (fun M7 u7 i7 => ?_)
      rw [← u7] at pa ha ea
      have n7 := pa.2.2.2.2.2.1
      refine wp_b (hrc 4 M7 (by decide) i7 (by omega) (by omega) (by omega)) (fun v8 M9 h8 => ?_)
      have p9 : PE l (-1) M M9 := (pa.tr h8.2.1).slack (by omega)
      have a9 := p9.2.2.1
      have a9l := p9.2.2.2.1
      have n9 := p9.2.2.2.2.2.1
      have a79 := h8.2.1.2.2.1
      refine wp_ite (fun c3 => ?_) (fun c3 => ?_)
      · exact ih M9 v8 ⟨h8.1, (hR.2.1.tr p9).slack (by omega), fun q => absurd c3 (by omega)⟩ (by omega)
      · have hp9 : PH M M9 1 2 := PH.tr pa h8.2.1 (ha 1) ((h8.2.2 (by have := h8.1; omega)).up 1)
        refine wp_bp (x_act v9 ⟨by omega, by omega⟩) (fun v12 h12 => ?_)
        refine wp_b (x_marks (l := l) h8.2.1.1 v12 (jm_inL (by omega) (by omega)) a9l (by omega)) (fun v15 M16 h15 => ?_)
        obtain ⟨-, p16, e16, -, -, t16⟩ := h15
        have hp16 : PH M M16 1 1 := PH.tr p9 p16 hp9 (t16 2 1 (tk_bin (by omega) (by omega) (by omega)))
        exact ih M16 v8 ⟨h8.1, (hR.2.1.tr (p9.tr p16)).slack (by omega), fun _ => PH.tr hR.2.1 (p9.tr p16) hp hp16⟩ (by omega)
theorem s_total (fu : Nat) (hfu : 4000 ≤ fu) (l : Int) (hl : l ≤ 60) (rc : Nat → jm_M → Int → jm_R) (d : Int) (hrc : RCh l rc d) (M : jm_M) (iM : bI bx2 M) (h1 : M 0 0 41 ≤ l) (h0 : nn M ≤ M 0 0 41 + 39) (hd : 7 * (l - M 0 0 41) + 7 - 3 ≤ d + 1) : wp (gX12_total rc fu M l) (PO l M) := by
  unfold gX12_total
  have b41 : 0 ≤ M 0 0 41 ∧ M 0 0 41 ≤ 60 := iM 0 0 41
  refine wp_b (hrc 4 M (by decide) iM h1 h0 (by omega)) (fun v1 M2 h1' => ?_)
  have b2 : 0 ≤ M2 0 0 41 ∧ M2 0 0 41 ≤ 60 := h1'.2.1.1 0 0 41
  exact s_total_6 fu l hl rc d hrc M h0 hd fu M2 v1 h1' (by omega)
theorem s_product_6 (fu : Nat) (l : Int) (hl : l ≤ 60) (rc : Nat → jm_M → Int → jm_R) (d : Int) (hrc : RCh l rc d) (M0 : jm_M) (h0 : nn M0 ≤ M0 0 0 41 + 39) (hd : 7 * (l - M0 0 0 41) + 7 - 4 ≤ d + 1) : ∀ (n : Nat) (M : jm_M) (l2 : Int), PO l M0 l2 M → l - M 0 0 41 < (n : Int) → wp (fX12_product_6 rc fu n M l l2) (PO l M0) := by
  intro n
  induction n with
  | zero =>
    intro M l2 hR hm
    have := hR.2.1.2.2.2.1
    exfalso; omega
  | succ n ih =>
    intro M l2 hR hm
    show wp (gX12_product_6 rc fu (fX12_product_6 rc fu n) M l l2) _
    unfold gX12_product_6
    have iM : bI bx2 M := hR.2.1.1
    have b41 : 0 ≤ M 0 0 41 ∧ M 0 0 41 ≤ 60 := iM 0 0 41
    have hb := hR.1
    have a1 := hR.2.1.2.2.1
    have n2 := hR.2.1.2.2.2.2.2.1
    refine wp_ite (fun c => wp_T (by omega) (wp_ret hR)) (fun c => ?_)
    · have hp : PH M0 M 0 1 := hR.2.2 (by omega)
      refine wp_bp (x_isSign iM l 42 hl) (fun v2 h2 => ?_)
      refine wp_ite (fun c2 => wp_T (by omega) (wp_ret hR)) (fun c2 => ?_)
      have hlt : M 0 0 41 < l := by
        rcases h2 with q | q
        · exact q.2
        · exact absurd q c2
      obtain ⟨pa, ha, ea⟩ := PE_at iM hl hlt
      refine wp_si iM (by have := pa.1 0 0 41; rw [ea] at this; rw [jm_wid (by omega) (by omega)]; exact this) (fun M7 u7 i7 => ?_)
      rw [← u7] at pa ha ea
      have n7 := pa.2.2.2.2.2.1
      refine wp_b (hrc 5 M7 (by decide) i7 (by omega) (by omega) (by omega)) (fun v8 M9 h8 => ?_)
      have p9 : PE l (-1) M M9 := (pa.tr h8.2.1).slack (by omega)
      have a9 := p9.2.2.1
      have a9l := p9.2.2.2.1
      have n9 := p9.2.2.2.2.2.1
      have a79 := h8.2.1.2.2.1
      refine wp_ite (fun c3 => ?_) (fun c3 => ?_)
      · exact ih M9 v8 ⟨h8.1, (hR.2.1.tr p9).slack (by omega), fun q => absurd c3 (by omega)⟩ (by omega)
      · have hp9 : PH M M9 1 2 := PH.tr pa h8.2.1 (ha 1) ((h8.2.2 (by have := h8.1; omega)).up 1)
        refine wp_bp (x_act 42 ⟨by decide, by decide⟩) (fun v12 h12 => ?_)
        refine wp_b (x_marks (l := l) h8.2.1.1 v12 (jm_inL (by omega) (by omega)) a9l (by omega)) (fun v15 M16 h15 => ?_)
        obtain ⟨-, p16, e16, -, -, t16⟩ := h15
        have hp16 : PH M M16 1 1 := PH.tr p9 p16 hp9 (t16 2 1 (tk_bin (by omega) (by omega) (by omega)))
        exact ih M16 v8 ⟨h8.1, (hR.2.1.tr (p9.tr p16)).slack (by omega), fun _ => PH.tr hR.2.1 (p9.tr p16) hp hp16⟩ (by omega)
theorem s_product (fu : Nat) (hfu : 4000 ≤ fu) (l : Int) (hl : l ≤ 60) (rc : Nat → jm_M → Int → jm_R) (d : Int) (hrc : RCh l rc d) (M : jm_M) (iM : bI bx2 M) (h1 : M 0 0 41 ≤ l) (h0 : nn M ≤ M 0 0 41 + 39) (hd : 7 * (l - M 0 0 41) + 7 - 4 ≤ d + 1) : wp (gX12_product rc fu M l) (PO l M) := by
  unfold gX12_product
  have b41 : 0 ≤ M 0 0 41 ∧ M 0 0 41 ≤ 60 := iM 0 0 41
  refine wp_b (hrc 5 M (by decide) iM h1 h0 (by omega)) (fun v1 M2 h1' => ?_)
  have b2 : 0 ≤ M2 0 0 41 ∧ M2 0 0 41 ≤ 60 := h1'.2.1.1 0 0 41
  exact s_product_6 fu l hl rc d hrc M h0 hd fu M2 v1 h1' (by omega)
theorem s_compared (l : Int) (hl : l ≤ 60) (rc : Nat → jm_M → Int → jm_R) (d : Int) (hrc : RCh l rc d) (M : jm_M) (iM : bI bx2 M) (h1 : M 0 0 41 ≤ l) (h0 : nn M ≤ M 0 0 41 + 39) (hd : 7 * (l - M 0 0 41) + 7 - 2 ≤ d + 1) : wp (gX12_compared rc M l) (PO l M) := by
  unfold gX12_compared
  have b41 : 0 ≤ M 0 0 41 ∧ M 0 0 41 ≤ 60 := iM 0 0 41
  refine wp_b (hrc 3 M (by decide) iM h1 h0 (by omega)) (fun v1 M2 hR => ?_)
  have i2 := hR.2.1.1
  have hb := hR.1
  have a1 := hR.2.1.2.2.1
  have n2 := hR.2.1.2.2.2.2.2.1
  have b2 : 0 ≤ M2 0 0 41 ∧ M2 0 0 41 ≤ 60 := i2 0 0 41
  refine wp_ite (fun c => wp_T (by omega) (wp_ret hR)) (fun c => ?_)
  refine wp_bp (x_isOf i2 l 7 hl) (fun v5 h5 => ?_)
  refine wp_ite (fun c2 => wp_T (by omega) (wp_ret hR)) (fun c2 => ?_)
  obtain ⟨hlt, hch⟩ : M2 0 0 41 < l ∧ M2 34 0 (M2 0 0 41) ∈ jm_sl 7 := by
    rcases h5 with q | q
    · exact ⟨q.2.1, q.2.2.2.2⟩
    · exact absurd q c2
  have hcv : M2 34 0 (M2 0 0 41) = 60 ∨ M2 34 0 (M2 0 0 41) = 62 ∨ M2 34 0 (M2 0 0 41) = 61 := by
    have q : M2 34 0 (M2 0 0 41) ∈ ([60, 62, 61] : List Int) := hch
    simpa using q
  refine wp_T ⟨by omega, by omega⟩ ?_
  refine wp_e (i2 34 0 _) (fun v12 e12 _ => ?_)
  obtain ⟨pa, ha, ea⟩ := PE_at i2 hl hlt
  refine wp_si i2 (by have := pa.1 0 0 41; rw [ea] at this; rw [jm_wid (by omega) (by omega)]; exact this) (fun M15 u15 i15 => ?_)
  rw [← u15] at pa ha ea
  have n15 := pa.2.2.2.2.2.1
  refine wp_b (hrc 3 M15 (by decide) i15 (by omega) (by omega) (by omega)) (fun v16 M17 h16 => ?_)
  have p17 : PE l (-1) M2 M17 := (pa.tr h16.2.1).slack (by omega)
  have a17 := p17.2.2.1
  have a17l := p17.2.2.2.1
  have n17 := p17.2.2.2.2.2.1
  have hb16 := h16.1
  refine wp_ite (fun c3 => wp_T (by omega) (wp_ret ⟨hb16, (hR.2.1.tr p17).slack (by omega), fun q => absurd c3 (by omega)⟩)) (fun c3 => ?_)
  have hp17 : PH M2 M17 1 2 := PH.tr pa h16.2.1 (ha 1) ((h16.2.2 (by omega)).up 1)
  refine wp_bp (x_act v12 ⟨by omega, by omega⟩) (fun v20 h20 => ?_)
  refine wp_b (x_marks (l := l) h16.2.1.1 v20 (jm_inL (by omega) (by omega)) a17l (by omega)) (fun v23 M24 h23 => ?_)
  obtain ⟨-, p24, e24, -, -, t24⟩ := h23
  have hp24 : PH M2 M24 1 1 := PH.tr p17 p24 hp17 (t24 2 1 (tk_bin (by omega) (by omega) (by omega)))
  exact wp_T (by omega) (wp_ret ⟨hb16, (hR.2.1.tr (p17.tr p24)).slack (by omega), fun _ => PH.tr hR.2.1 (p17.tr p24) (hR.2.2 (by omega)) hp24⟩)
theorem s_unary (l : Int) (hl : l ≤ 60) (rc : Nat → jm_M → Int → jm_R) (d : Int) (hrc : RCh l rc d) (M : jm_M) (iM : bI bx2 M) (h1 : M 0 0 41 ≤ l) (h0 : nn M ≤ M 0 0 41 + 39) (hd : 7 * (l - M 0 0 41) + 7 - 5 ≤ d + 1) : wp (gX12_unary rc M l) (PO l M) := by
  unfold gX12_unary
  have b41 : 0 ≤ M 0 0 41 ∧ M 0 0 41 ≤ 60 := iM 0 0 41
  refine wp_bp (x_isOf iM l 4 hl) (fun v1 h1' => ?_)
  refine wp_ite (fun c => ?_) (fun c => ?_)
  · refine wp_b (hrc 6 M (by decide) iM h1 h0 (by omega)) (fun v5 M6 h5 => ?_)
    exact wp_T h5.1 (wp_ret h5)
  · have hlt : M 0 0 41 < l := by
      rcases h1' with q | q
      · exact q.2.1
      · exact absurd q c
    refine wp_T ⟨by omega, by omega⟩ ?_
    refine wp_e (iM 34 0 _) (fun v11 e11 _ => ?_)
    obtain ⟨pa, ha, ea⟩ := PE_at iM hl hlt
    refine wp_si iM (by have := pa.1 0 0 41; rw [ea] at this; rw [jm_wid (by omega) (by omega)]; exact this) (fun M14 u14 i14 => ?_)
    rw [← u14] at pa ha ea
    have n14 := pa.2.2.2.2.2.1
    refine wp_b (hrc 5 M14 (by decide) i14 (by omega) (by omega) (by omega)) (fun v15 M16 h15 => ?_)
    have p16 : PE l (-1) M M16 := (pa.tr h15.2.1).slack (by omega)
    have a16 := p16.2.2.1
    have a16l := p16.2.2.2.1
    have n16 := p16.2.2.2.2.2.1
    have hb15 := h15.1
    refine wp_ite (fun c3 => wp_ret ⟨Or.inl rfl, p16.slack (by omega), fun q => absurd q (by decide)⟩) (fun c3 => ?_)
    have hp16 : PH M M16 0 1 := PH.tr pa h15.2.1 (ha 0) (h15.2.2 (by omega))
    refine wp_ite (fun c4 => ?_) (fun c4 => ?_)
    · refine wp_bp (x_act 33 ⟨by decide, by decide⟩) (fun v20 h20 => ?_)
      refine wp_b (x_marks (l := l) h15.2.1.1 v20 (jm_inL (by omega) (by omega)) a16l (by omega)) (fun v23 M24 h23 => ?_)
      obtain ⟨-, p24, e24, -, -, t24⟩ := h23
      exact wp_ret ⟨Or.inr rfl, (p16.tr p24).slack (by omega), fun _ => PH.tr p16 p24 hp16 (t24 1 1 (by rw [h20]; decide))⟩
    · refine wp_bp (x_act 126 ⟨by decide, by decide⟩) (fun v20 h20 => ?_)
      refine wp_b (x_marks (l := l) h15.2.1.1 v20 (jm_inL (by omega) (by omega)) a16l (by omega)) (fun v23 M24 h23 => ?_)
      obtain ⟨-, p24, e24, -, -, t24⟩ := h23
      exact wp_ret ⟨Or.inr rfl, (p16.tr p24).slack (by omega), fun _ => PH.tr p16 p24 hp16 (t24 1 1 (by rw [h20]; decide))⟩
theorem PE.imp {l s s2 : Int} {M M1 : jm_M} (h : PE l s M M1) (q : nn M1 - nn M ≤ M1 0 0 41 - M 0 0 41 + s2) : PE l s2 M M1 := by
  obtain ⟨i1, k1, a1, a2, n1, n2, o1, c1⟩ := h
  exact ⟨i1, k1, a1, a2, n1, q, o1, c1⟩
theorem tk_push {m : Int} (h : -13 ≤ m) (n : Nat) : tk m n = some (n + 1) := by
  unfold tk
  rw [if_neg (by omega), if_pos h]
theorem s_numeral_58 (fu : Nat) (l : Int) (M0 M : jm_M) (l2 : Int) (hp : PE l 0 M0 M) (hn : nn M = nn M0) (hn9 : nn M0 ≤ 99) (h3 : M0 0 0 41 + 1 ≤ M 0 0 41) (h2 : 0 ≤ l2 ∧ l2 ≤ 999) (hph : ∀ a : Nat, PH M0 M a a) : wp (gX12_numeral_58 fu M l2 (M0 0 0 41)) (fun r M1 => r = 1 ∧ PE l 0 M0 M1 ∧ PH M0 M1 0 1) := by
  unfold gX12_numeral_58
  refine wp_b (x_marks (l := l) hp.1 l2 (jm_inL (by omega) (by omega)) hp.2.2.2.1 (by omega)) (fun v1 M2 h => ?_)
  obtain ⟨-, p2, e2, n2, -, t2⟩ := h
  refine wp_F (by omega) ?_
  exact wp_ret ⟨rfl, (hp.tr p2).imp (by omega), PH.tr hp p2 (hph 0) (t2 0 1 (tk_push (by omega) 0))⟩
theorem s_numeral_7 (fu : Nat) (l : Int) (hl : l ≤ 60) (M0 : jm_M) (i0 : bI bx2 M0) (hn9 : nn M0 ≤ 99) : ∀ (n : Nat) (M : jm_M) (l2 : Int), PE l 0 M0 M → nn M = nn M0 → (∀ a : Nat, PH M0 M a a) → ((M 0 0 41 = M0 0 0 41 + 1 ∧ 0 ≤ l2 ∧ l2 ≤ 9) ∨ (M 0 0 41 = M0 0 0 41 + 2 ∧ 0 ≤ l2 ∧ l2 ≤ 99) ∨ (M 0 0 41 = M0 0 0 41 + 3 ∧ 0 ≤ l2 ∧ l2 ≤ 999)) → M0 0 0 41 + 3 - M 0 0 41 < (n : Int) → wp (fX12_numeral_7 fu n M l l2 (M0 0 0 41)) (fun r M1 => r = 1 ∧ PE l 0 M0 M1 ∧ PH M0 M1 0 1) := by
  intro n
  induction n with
  | zero => intro M l2 _ _ _ hv hm; exfalso; omega
  | succ n ih =>
    intro M l2 hp hn hph hv hm
    show wp (gX12_numeral_7 fu (fX12_numeral_7 fu n) M l l2 (M0 0 0 41)) _
    unfold gX12_numeral_7
    have iM := hp.1
    have b0 : 0 ≤ M0 0 0 41 ∧ M0 0 0 41 ≤ 60 := i0 0 0 41
    have b41 : 0 ≤ M 0 0 41 ∧ M 0 0 41 ≤ 60 := iM 0 0 41
    have w3 : jm_w (M0 0 0 41 + 3) = M0 0 0 41 + 3 := jm_wid (by omega) (by omega)
    rw [w3]
    refine wp_ite (fun c => s_numeral_58 fu l M0 M l2 hp hn hn9 (by omega) (by omega) hph) (fun c => ?_)
    refine wp_bp (x_isOf iM l 5 hl) (fun v3 h3 => ?_)
    refine wp_ite (fun c2 => s_numeral_58 fu l M0 M l2 hp hn hn9 (by omega) (by omega) hph) (fun c2 => ?_)
    obtain ⟨hlt, hch⟩ : M 0 0 41 < l ∧ M 34 0 (M 0 0 41) ∈ jm_sl 5 := by
      rcases h3 with q | q
      · exact ⟨q.2.1, q.2.2.2.2⟩
      · exact absurd q c2
    have hcv : 48 ≤ M 34 0 (M 0 0 41) ∧ M 34 0 (M 0 0 41) ≤ 57 := by
      have q : M 34 0 (M 0 0 41) ∈ ([48, 49, 50, 51, 52, 53, 54, 55, 56, 57] : List Int) := hch
      simp at q
      omega
    refine wp_T ⟨by omega, by omega⟩ ?_
    have wa : jm_w (10 * l2) = 10 * l2 := jm_wid (by omega) (by omega)
    have wb : jm_w (jm_w (10 * l2) + M 34 0 (M 0 0 41)) = 10 * l2 + M 34 0 (M 0 0 41) := by rw [wa]; exact jm_wid (by omega) (by omega)
    have wc : jm_w (jm_w (jm_w (10 * l2) + M 34 0 (M 0 0 41)) - 48) = 10 * l2 + M 34 0 (M 0 0 41) - 48 := by rw [wb]; exact jm_wid (by omega) (by omega)
    refine wp_e (jm_w_in _) (fun v10 e10 _ => ?_)
    rw [wc] at e10
    obtain ⟨pa, ha, ea⟩ := PE_at iM hl hlt
    refine wp_si iM (by have := pa.1 0 0 41; rw [ea] at this; rw [jm_wid (by omega) (by omega)]; exact this) (fun M13 u13 i13 => ?_)
    rw [← u13] at pa ha ea
    have n13 : nn M13 = nn M := by
      unfold nn
      rw [u13, jm_une_f (by decide), jm_une_k (by decide)]
    exact ih M13 v10 ((hp.tr pa).slack (by omega)) (by omega) (fun a => PH.tr hp pa (hph a) (ha a)) (by omega) (by omega)
theorem x_isOf2 {M : jm_M} (i : bI bx2 M) (l w : Int) (hl : l ≤ 60) : wp (fX12_isOf M l w) (fun r M1 => M1 = M ∧ ((r = 1 ∧ (M 0 0 41 < l ∧ 0 < M 34 0 (M 0 0 41) ∧ 0 ≤ jm_sx w (M 34 0 (M 0 0 41)))) ∨ (r = 0 ∧ ¬ (M 0 0 41 < l ∧ 0 < M 34 0 (M 0 0 41) ∧ 0 ≤ jm_sx w (M 34 0 (M 0 0 41)))))) := by
  have b : 0 ≤ M 0 0 41 ∧ M 0 0 41 ≤ 60 := i 0 0 41
  unfold fX12_isOf
  refine wp_ite (fun c => wp_ret ⟨rfl, Or.inr ⟨rfl, by omega⟩⟩) (fun c => ?_)
  refine wp_T ⟨by omega, by omega⟩ ?_
  refine wp_ite (fun c => wp_ret ⟨rfl, Or.inr ⟨rfl, by omega⟩⟩) (fun c2 => ?_)
  refine wp_T ⟨by omega, by omega⟩ ?_
  refine wp_bp (M := M) (P := fun r => r = jm_sx w (M 34 0 (M 0 0 41))) ⟨_, _, rfl, rfl, rfl⟩ (fun v hv => ?_)
  refine wp_ite (fun c => wp_ret ⟨rfl, Or.inr ⟨rfl, by omega⟩⟩) (fun c3 => wp_ret ⟨rfl, Or.inl ⟨rfl, by omega, by omega, by omega⟩⟩)
theorem s_numeral (fu : Nat) (hfu : 4000 ≤ fu) (l : Int) (hl : l ≤ 60) (M : jm_M) (iM : bI bx2 M) (hn9 : nn M ≤ 99) (hD : M 0 0 41 < l ∧ 0 < M 34 0 (M 0 0 41) ∧ 0 ≤ jm_sx 5 (M 34 0 (M 0 0 41))) : wp (fX12_numeral fu M l) (fun r M1 => r = 1 ∧ PE l 0 M M1 ∧ PH M M1 0 1) := by
  have b41 : 0 ≤ M 0 0 41 ∧ M 0 0 41 ≤ 60 := iM 0 0 41
  unfold fX12_numeral
  refine wp_e (bx2_in (iM 0 0 41)) (fun v2 e2 _ => ?_)
  rw [e2]
  obtain ⟨m, hm⟩ : ∃ m : Nat, fu = m + 1 := ⟨fu - 1, by omega⟩
  have key : wp (gX12_numeral_7 fu (fX12_numeral_7 fu m) M l 0 (M 0 0 41)) (fun r M1 => r = 1 ∧ PE l 0 M M1 ∧ PH M M1 0 1) := by
    unfold gX12_numeral_7
    have w3 : jm_w (M 0 0 41 + 3) = M 0 0 41 + 3 := jm_wid (by omega) (by omega)
    rw [w3]
    refine wp_F (by omega) ?_
    refine wp_bp (x_isOf2 iM l 5 hl) (fun v3 h3 => ?_)
    refine wp_F (by
      rcases h3 with q | q
      · omega
      · exact absurd hD q.2) ?_
    have hcv : 48 ≤ M 34 0 (M 0 0 41) ∧ M 34 0 (M 0 0 41) ≤ 57 := by
      rcases jm_sx_f 5 (M 34 0 (M 0 0 41)) with q | q
      · exfalso; omega
      · have q : M 34 0 (M 0 0 41) ∈ ([48, 49, 50, 51, 52, 53, 54, 55, 56, 57] : List Int) := q.2.2
        simp at q
        omega
    refine wp_T ⟨by omega, by omega⟩ ?_
    have wa : jm_w (10 * 0) = 0 := by decide
    have wb : jm_w (jm_w (10 * 0) + M 34 0 (M 0 0 41)) = M 34 0 (M 0 0 41) := by rw [wa, jm_wid (by omega) (by omega)]; omega
    have wc : jm_w (jm_w (jm_w (10 * 0) + M 34 0 (M 0 0 41)) - 48) = M 34 0 (M 0 0 41) - 48 := by rw [wb]; exact jm_wid (by omega) (by omega)
    refine wp_e (jm_w_in _) (fun v10 e10 _ => ?_)
    rw [wc] at e10
    obtain ⟨pa, ha, ea⟩ := PE_at iM hl hD.1
    refine wp_si iM (by have := pa.1 0 0 41; rw [ea] at this; rw [jm_wid (by omega) (by omega)]; exact this) (fun M13 u13 i13 => ?_)
    rw [← u13] at pa ha ea
    have n13 : nn M13 = nn M := by
      unfold nn
      rw [u13, jm_une_f (by decide), jm_une_k (by decide)]
    exact s_numeral_7 fu l hl M iM hn9 m M13 v10 (pa.slack (by omega)) n13 ha (Or.inl ⟨by omega, by omega, by omega⟩) (by omega)
  rw [show fX12_numeral_7 fu fu M l 0 (M 0 0 41) = gX12_numeral_7 fu (fX12_numeral_7 fu m) M l 0 (M 0 0 41) by
    conv => lhs; arg 2; rw [hm]
    rfl]
  exact key
theorem s_thing (fu : Nat) (hfu : 4000 ≤ fu) (l : Int) (hl : l ≤ 60) (rc : Nat → jm_M → Int → jm_R) (d : Int) (hrc : RCh l rc d) (M : jm_M) (iM : bI bx2 M) (h1 : M 0 0 41 ≤ l) (h0 : nn M ≤ M 0 0 41 + 39) (hd : 7 * (l - M 0 0 41) + 7 - 6 ≤ d + 1) : wp (gX12_thing rc fu M l) (PO l M) := by
  unfold gX12_thing
  have b41 : 0 ≤ M 0 0 41 ∧ M 0 0 41 ≤ 60 := iM 0 0 41
  have b43 : 0 ≤ M 0 0 43 ∧ M 0 0 43 ≤ 10 := iM 0 0 43
  refine wp_T ⟨by omega, by omega⟩ ?_
  refine wp_bp (x_isOf iM l (M 0 0 43) hl) (fun v2 h2 => ?_)
  refine wp_ite (fun c => ?_) (fun c => ?_)
  · refine wp_bp (x_isSign iM l 40 hl) (fun v6 h6 => ?_)
    refine wp_ite (fun c2 => ?_) (fun c2 => ?_)
    · refine wp_bp (x_isOf2 iM l 5 hl) (fun v10 h10 => ?_)
      refine wp_ite (fun c3 => wp_ret ⟨Or.inl rfl, PE.rf iM h1, fun q => absurd q (by decide)⟩) (fun c3 => ?_)
      have hD : M 0 0 41 < l ∧ 0 < M 34 0 (M 0 0 41) ∧ 0 ≤ jm_sx 5 (M 34 0 (M 0 0 41)) := by
        rcases h10 with q | q
        · exact q.2
        · exact absurd q.1 c3
      refine wp_b (s_numeral fu hfu l hl M iM (by omega) hD) (fun v14 M15 h14 => ?_)
      exact wp_ite (fun q => absurd q (by have := h14.1; omega)) (fun _ => wp_ret ⟨Or.inr rfl, h14.2.1, fun _ => h14.2.2⟩)
    · have hlt : M 0 0 41 < l := by
        rcases h6 with q | q
        · exact q.2
        · exact absurd q c2
      obtain ⟨pa, ha, ea⟩ := PE_at iM hl hlt
      refine wp_si iM (by have := pa.1 0 0 41; rw [ea] at this; rw [jm_wid (by omega) (by omega)]; exact this) (fun M19 u19 i19 => ?_)
      rw [← u19] at pa ha ea
      have n19 := pa.2.2.2.2.2.1
      refine wp_b (hrc 0 M19 (by decide) i19 (by omega) (by omega) (by omega)) (fun v20 M21 h20 => ?_)
      have p21 : PE l (-1) M M21 := (pa.tr h20.2.1).slack (by omega)
      have hb20 := h20.1
      refine wp_ite (fun c3 => wp_ret ⟨Or.inl rfl, p21.slack (by omega), fun q => absurd q (by decide)⟩) (fun c3 => ?_)
      have i21 := p21.1
      refine wp_bp (x_isSign i21 l 41 hl) (fun v24 h24 => ?_)
      refine wp_ite (fun c4 => wp_ret ⟨Or.inl rfl, p21.slack (by omega), fun q => absurd q (by decide)⟩) (fun c4 => ?_)
      have hlt2 : M21 0 0 41 < l := by
        rcases h24 with q | q
        · exact q.2
        · exact absurd q c4
      have b21 : 0 ≤ M21 0 0 41 ∧ M21 0 0 41 ≤ 60 := i21 0 0 41
      obtain ⟨pb, hb, eb⟩ := PE_at i21 hl hlt2
      refine wp_si i21 (by have := pb.1 0 0 41; rw [eb] at this; rw [jm_wid (by omega) (by omega)]; exact this) (fun M29 u29 i29 => ?_)
      rw [← u29] at pb hb eb
      have hp21 : PH M M21 0 1 := PH.tr pa h20.2.1 (ha 0) (h20.2.2 (by omega))
      exact wp_ret ⟨Or.inr rfl, (p21.tr pb).slack (by omega), fun _ => PH.tr p21 pb hp21 (hb 1)⟩
  · obtain ⟨hlt, hx0, hx1⟩ : M 0 0 41 < l ∧ 0 ≤ jm_sx (M 0 0 43) (M 34 0 (M 0 0 41)) ∧ jm_sx (M 0 0 43) (M 34 0 (M 0 0 41)) ≤ 12 := by
      rcases h2 with q | q
      · exact ⟨q.2.1, q.2.2.1, q.2.2.2.1⟩
      · exact absurd q c
    refine wp_T ⟨by omega, by omega⟩ ?_
    refine wp_T ⟨by omega, by omega⟩ ?_
    refine wp_bp (M := M) (P := fun r => r = jm_sx (M 0 0 43) (M 34 0 (M 0 0 41))) ⟨_, _, rfl, rfl, rfl⟩ (fun v34 h34 => ?_)
    have wm : jm_w ((-1) - v34) = (-1) - v34 := jm_wid (by omega) (by omega)
    rw [wm]
    refine wp_b (x_marks (l := l) iM ((-1) - v34) (jm_inL (by omega) (by omega)) h1 (by omega)) (fun v37 M38 h37 => ?_)
    obtain ⟨-, p38, e38, -, -, t38⟩ := h37
    have i38 := p38.1
    have b38 : 0 ≤ M38 0 0 41 ∧ M38 0 0 41 ≤ 60 := i38 0 0 41
    obtain ⟨pb, hb, eb⟩ := PE_at i38 hl (by omega)
    refine wp_si i38 (by have := pb.1 0 0 41; rw [eb] at this; rw [jm_wid (by omega) (by omega)]; exact this) (fun M40 u40 i40 => ?_)
    rw [← u40] at pb hb eb
    exact wp_ret ⟨Or.inr rfl, (p38.tr pb).slack (by omega), fun _ => PH.tr p38 pb (t38 0 1 (tk_push (by omega) 0)) (hb 1)⟩
theorem s_fR (fu : Nat) (hfu : 4000 ≤ fu) (l : Int) (hl : l ≤ 60) : ∀ d : Nat, RCh l (fR fu d) d := by
  intro d
  induction d with
  | zero => intro k M hk iM h1 _ hd; exfalso; omega
  | succ d ih =>
    intro k M hk iM h1 h0 hd
    have hk7 : k = 0 ∨ k = 1 ∨ k = 2 ∨ k = 3 ∨ k = 4 ∨ k = 5 ∨ k = 6 := by omega
    rcases hk7 with rfl | rfl | rfl | rfl | rfl | rfl | rfl
    · exact s_some fu hfu l hl (fR fu d) d ih M iM h1 h0 (by omega)
    · exact s_every fu hfu l hl (fR fu d) d ih M iM h1 h0 (by omega)
    · exact s_compared l hl (fR fu d) d ih M iM h1 h0 (by omega)
    · exact s_total fu hfu l hl (fR fu d) d ih M iM h1 h0 (by omega)
    · exact s_product fu hfu l hl (fR fu d) d ih M iM h1 h0 (by omega)
    · exact s_unary l hl (fR fu d) d ih M iM h1 h0 (by omega)
    · exact s_thing fu hfu l hl (fR fu d) d ih M iM h1 h0 (by omega)
theorem s_fX12_some (fu : Nat) (hfu : 4000 ≤ fu) (l : Int) (hl : l ≤ 60) (M : jm_M) (iM : bI bx2 M) (h1 : M 0 0 41 ≤ l) (h0 : nn M ≤ M 0 0 41 + 39) : wp (fX12_some fu M l) (PO l M) := by
  have b41 : 0 ≤ M 0 0 41 ∧ M 0 0 41 ≤ 60 := iM 0 0 41
  unfold fX12_some
  exact s_fR fu hfu l hl 500 0 M (by decide) iM h1 h0 (by omega)
