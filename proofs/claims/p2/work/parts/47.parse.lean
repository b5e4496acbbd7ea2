/-! the parser: what an expression leaves -/
def nn (M : jm_M) : Int := M 36 0 (M 0 0 42)
def TPA (f : Nat) (i k : Int) : Prop := f ≠ 35 ∧ f ≠ 36 ∧ (f = 0 → k ≠ 41)
def PE (l s : Int) (M M1 : jm_M) : Prop := bI bx2 M1 ∧ Kp TPA M M1 ∧ M 0 0 41 ≤ M1 0 0 41 ∧ M1 0 0 41 ≤ l ∧ nn M ≤ nn M1 ∧ nn M1 - nn M ≤ M1 0 0 41 - M 0 0 41 + s ∧ (∀ k : Int, k ≠ M 0 0 42 → M1 36 0 k = M 36 0 k) ∧ (∀ j : Int, ¬ (100 * M 0 0 42 + nn M ≤ j ∧ j < 100 * M 0 0 42 + nn M1) → M1 35 0 j = M 35 0 j)
def PH (M M1 : jm_M) (a b : Nat) : Prop := hg (M1 35 0) (nn M1 - nn M).toNat (100 * M 0 0 42 + nn M) a = some b
theorem PE.into {l s : Int} {M M1 : jm_M} (h : PE l s M M1) : M1 0 0 42 = M 0 0 42 := h.2.1 0 0 42 (by unfold TPA; omega)
theorem PE.rf {l : Int} {M : jm_M} (i : bI bx2 M) (h : M 0 0 41 ≤ l) : PE l 0 M M := ⟨i, Kp.rf, Int.le_refl _, h, Int.le_refl _, by omega, fun _ _ => rfl, fun _ _ => rfl⟩
theorem PE.tr {l s s2 : Int} {M M1 M2 : jm_M} (h : PE l s M M1) (g : PE l s2 M1 M2) : PE l (s + s2) M M2 := by
  have e := h.into
  obtain ⟨_, k1, a1, a2, n1, n2, o1, c1⟩ := h
  obtain ⟨i2, k2, b1, b2, m1, m2, o2, c2⟩ := g
  refine ⟨i2, k1.tr k2 (fun _ _ _ h => h), by omega, b2, by omega, by omega, fun k q => ?_, fun j q => ?_⟩
  · rw [o2 k (by rw [e]; exact q), o1 k q]
  · rw [c2 j (by rw [e]; omega), c1 j (by omega)]
theorem PE.slack {l s s2 : Int} {M M1 : jm_M} (h : PE l s M M1) (q : s ≤ s2) : PE l s2 M M1 := by
  obtain ⟨i1, k1, a1, a2, n1, n2, o1, c1⟩ := h
  exact ⟨i1, k1, a1, a2, n1, by omega, o1, c1⟩
theorem PH.rf {M : jm_M} (a : Nat) : PH M M a a := by
  unfold PH
  rw [show (nn M - nn M).toNat = 0 by omega]
  rfl
theorem PH.tr {l s s2 : Int} {M M1 M2 : jm_M} {a b c : Nat} (h : PE l s M M1) (g : PE l s2 M1 M2) (p : PH M M1 a b) (q : PH M1 M2 b c) : PH M M2 a c := by
  have e := h.into
  obtain ⟨_, k1, a1, a2, n1, n2, o1, c1⟩ := h
  obtain ⟨i2, k2, b1, b2, m1, m2, o2, c2⟩ := g
  unfold PH at *
  rw [e] at q c2
  rw [show (nn M2 - nn M).toNat = (nn M1 - nn M).toNat + (nn M2 - nn M1).toNat by omega]
  have p2 : hg (M2 35 0) (nn M1 - nn M).toNat (100 * M 0 0 42 + nn M) a = some b := by
    rw [← p]
    exact hg_congr _ _ _ (fun j q1 q2 => c2 j (by omega))
  rw [hg_app _ _ _ _ _ _ p2, show 100 * M 0 0 42 + nn M + ((nn M1 - nn M).toNat : Int) = 100 * M 0 0 42 + nn M1 by omega]
  exact q
theorem PH.up {M M1 : jm_M} {a b : Nat} (k : Nat) (p : PH M M1 a b) : PH M M1 (a + k) (b + k) := hg_mono _ _ _ _ _ k p
theorem PE_at {l : Int} {M : jm_M} (i : bI bx2 M) (hl : l ≤ 60) (h : M 0 0 41 < l) : PE l (-1) M (jm_u M 0 0 41 (jm_w (M 0 0 41 + 1))) ∧ (∀ a : Nat, PH M (jm_u M 0 0 41 (jm_w (M 0 0 41 + 1))) a a) ∧ jm_u M 0 0 41 (jm_w (M 0 0 41 + 1)) 0 0 41 = M 0 0 41 + 1 := by
  have b : 0 ≤ M 0 0 41 ∧ M 0 0 41 ≤ 60 := i 0 0 41
  have w : jm_w (M 0 0 41 + 1) = M 0 0 41 + 1 := jm_wid (by omega) (by omega)
  rw [w]
  have e : jm_u M 0 0 41 (M 0 0 41 + 1) 0 0 41 = M 0 0 41 + 1 := jm_ueq
  have en : nn (jm_u M 0 0 41 (M 0 0 41 + 1)) = nn M := by
    unfold nn
    rw [jm_une_f (by decide), jm_une_k (by decide)]
  refine ⟨⟨bI_u i (show 0 ≤ M 0 0 41 + 1 ∧ M 0 0 41 + 1 ≤ 60 by omega), fun f i2 k q => jm_une (fun z => q.2.2 z.1 z.2.2), by omega, by omega, by omega, by omega, fun k _ => jm_une_f (by decide), fun j _ => jm_une_f (by decide)⟩, fun a => ?_, e⟩
  unfold PH
  rw [en, show (nn M - nn M).toNat = 0 by omega]
  rfl
theorem x_marks {l : Int} {M : jm_M} (i : bI bx2 M) (m : Int) (hm : jm_in m) (h : M 0 0 41 ≤ l) (hn : nn M ≤ 99) : wp (fX12_marks M m) (fun r M1 => r = 0 ∧ PE l 1 M M1 ∧ M1 0 0 41 = M 0 0 41 ∧ nn M1 = nn M + 1 ∧ M1 35 0 (100 * M 0 0 42 + nn M) = m ∧ ∀ a b : Nat, tk m a = some b → PH M M1 a b) := by
  have b42 : 0 ≤ M 0 0 42 ∧ M 0 0 42 ≤ 16 := i 0 0 42
  have bn : 0 ≤ nn M ∧ nn M ≤ 100 := i 36 0 (M 0 0 42)
  have w1 : jm_w (100 * M 0 0 42) = 100 * M 0 0 42 := jm_wid (by omega) (by omega)
  have w2 : jm_w (100 * M 0 0 42 + nn M) = 100 * M 0 0 42 + nn M := jm_wid (by omega) (by omega)
  have w3 : jm_w (nn M + 1) = nn M + 1 := jm_wid (by omega) (by omega)
  unfold fX12_marks
  refine wp_T ⟨by omega, by omega⟩ ?_
  rw [w1, show M 36 0 (M 0 0 42) = nn M from rfl, w2]
  refine wp_T ⟨by omega, by omega⟩ ?_
  refine wp_si i hm (fun M6 u6 i6 => ?_)
  have e42 : M6 0 0 42 = M 0 0 42 := by rw [u6]; exact jm_une_f (by decide)
  rw [e42]
  refine wp_T ⟨by omega, by omega⟩ ?_
  refine wp_T ⟨by omega, by omega⟩ ?_
  have e36 : M6 36 0 (M 0 0 42) = nn M := by rw [u6]; exact jm_une_f (by decide)
  rw [e36, w3]
  refine wp_si i6 (show 0 ≤ nn M + 1 ∧ nn M + 1 ≤ 100 by omega) (fun M11 u11 i11 => ?_)
  have f42 : M11 0 0 42 = M 0 0 42 := by rw [u11, jm_une_f (by decide)]; exact e42
  have f41 : M11 0 0 41 = M 0 0 41 := by rw [u11, jm_une_f (by decide), u6]; exact jm_une_f (by decide)
  have fn : nn M11 = nn M + 1 := by
    unfold nn
    rw [f42, u11]
    exact jm_ueq
  have fc : M11 35 0 (100 * M 0 0 42 + nn M) = m := by rw [u11, jm_une_f (by decide), u6]; exact jm_ueq
  refine wp_ret ⟨rfl, ⟨i11, fun f i2 k q => ?_, by omega, by omega, by omega, by omega, fun k q => ?_, fun j q => ?_⟩, f41, fn, fc, fun a b ht => ?_⟩
  · rw [u11, jm_une_f q.2.1, u6, jm_une_f q.1]
  · rw [u11, jm_une_k q, u6, jm_une_f (by decide)]
  · rw [u11, jm_une_f (by decide), u6, jm_une_k (by omega)]
  · unfold PH
    rw [fn, show (nn M + 1 - nn M).toNat = 0 + 1 by omega]
    show (match tk (M11 35 0 (100 * M 0 0 42 + nn M)) a with | none => none | some m => hg (M11 35 0) 0 (100 * M 0 0 42 + nn M + 1) m) = some b
    rw [fc, ht]
    rfl
theorem jm_sxl_f (c : Int) : ∀ (l : List Int) (k : Int), 0 ≤ k → jm_sxl c l k = -1 ∨ (k ≤ jm_sxl c l k ∧ jm_sxl c l k < k + l.length ∧ c ∈ l) := by
  intro l
  induction l with
  | nil => intro k _; exact Or.inl rfl
  | cons b l ih =>
    intro k hk
    unfold jm_sxl
    split
    · rename_i e
      refine Or.inr ⟨Int.le_refl _, by simp only [List.length_cons]; omega, ?_⟩
      rw [e]
      exact List.mem_cons_self
    · rcases ih (k + 1) (by omega) with q | ⟨q1, q2, q3⟩
      · exact Or.inl q
      · exact Or.inr ⟨by omega, by simp only [List.length_cons]; omega, List.mem_cons_of_mem _ q3⟩
theorem jm_sl_13 (s : Int) : (jm_sl s).length ≤ 13 := by
  have h : ∀ j : Nat, j < 11 → (jm_sl (j : Int)).length ≤ 13 := by decide +kernel
  by_cases q : s.toNat < 11
  · have := h s.toNat q
    unfold jm_sl at *
    exact this
  · unfold jm_sl
    rw [List.getD_eq_getElem?_getD, List.getElem?_eq_none (by simp; omega)]
    simp
theorem jm_sx_f (s c : Int) : jm_sx s c = -1 ∨ (0 ≤ jm_sx s c ∧ jm_sx s c ≤ 12 ∧ c ∈ jm_sl s) := by
  have := jm_sl_13 s
  rcases jm_sxl_f c (jm_sl s) 0 (Int.le_refl 0) with q | ⟨q1, q2, q3⟩
  · exact Or.inl q
  · exact Or.inr ⟨q1, by unfold jm_sx; omega, q3⟩
theorem x_isOf {M : jm_M} (i : bI bx2 M) (l w : Int) (hl : l ≤ 60) : wp (fX12_isOf M l w) (fun r M1 => M1 = M ∧ ((r = 1 ∧ M 0 0 41 < l ∧ 0 ≤ jm_sx w (M 34 0 (M 0 0 41)) ∧ jm_sx w (M 34 0 (M 0 0 41)) ≤ 12 ∧ M 34 0 (M 0 0 41) ∈ jm_sl w) ∨ r = 0)) := by
  have b : 0 ≤ M 0 0 41 ∧ M 0 0 41 ≤ 60 := i 0 0 41
  unfold fX12_isOf
  refine wp_ite (fun c => wp_ret ⟨rfl, Or.inr rfl⟩) (fun c => ?_)
  refine wp_T ⟨by omega, by omega⟩ ?_
  refine wp_ite (fun c => wp_ret ⟨rfl, Or.inr rfl⟩) (fun c2 => ?_)
  refine wp_T ⟨by omega, by omega⟩ ?_
  refine wp_bp (M := M) (P := fun r => r = jm_sx w (M 34 0 (M 0 0 41))) ⟨_, _, rfl, rfl, rfl⟩ (fun v hv => ?_)
  refine wp_ite (fun c => wp_ret ⟨rfl, Or.inr rfl⟩) (fun c3 => ?_)
  rcases jm_sx_f w (M 34 0 (M 0 0 41)) with q | ⟨q1, q2, q3⟩
  · exfalso; omega
  · exact wp_ret ⟨rfl, Or.inl ⟨rfl, by omega, q1, q2, q3⟩⟩
theorem x_isSign {M : jm_M} (i : bI bx2 M) (l w : Int) (hl : l ≤ 60) : wp (fX12_isSign M l w) (fun r M1 => M1 = M ∧ ((r = 1 ∧ M 0 0 41 < l) ∨ r = 0)) := by
  have b : 0 ≤ M 0 0 41 ∧ M 0 0 41 ≤ 60 := i 0 0 41
  unfold fX12_isSign
  refine wp_ite (fun c => wp_ret ⟨rfl, Or.inr rfl⟩) (fun c => ?_)
  refine wp_T ⟨by omega, by omega⟩ ?_
  exact wp_ite (fun c2 => wp_ret ⟨rfl, Or.inl ⟨rfl, by omega⟩⟩) (fun c2 => wp_ret ⟨rfl, Or.inr rfl⟩)
theorem x_act {M : jm_M} (c : Int) (h : 0 ≤ c ∧ c ≤ 255) : wp (fX12_act M c) (fun r M1 => M1 = M ∧ r = c - 200) := ⟨_, _, rfl, rfl, jm_wid (by omega) (by omega)⟩
/-- an expression's outcome -/
def PO (l : Int) (M : jm_M) (r : Int) (M1 : jm_M) : Prop := (r = 0 ∨ r = 1) ∧ PE l 0 M M1 ∧ (r = 1 → PH M M1 0 1)
/-- a call one deeper -/
def RCh (l : Int) (rc : Nat → jm_M → Int → jm_R) (d : Int) : Prop := ∀ (k : Nat) (M : jm_M), k ≤ 6 → bI bx2 M → M 0 0 41 ≤ l → nn M ≤ M 0 0 41 + 39 → 7 * (l - M 0 0 41) + 7 - k ≤ d → wp (rc k M l) (PO l M)
theorem tk_bin {m : Int} (h1 : m < -13) (h2 : m ≠ -300) (h3 : ¬ (m = -167 ∨ m = -74)) : tk m 2 = some 1 := by
  unfold tk
  rw [if_neg h2, if_neg (by omega), if_neg h3]
  rfl
theorem s_some_6 (fu : Nat) (l : Int) (hl : l ≤ 60) (rc : Nat → jm_M → Int → jm_R) (d : Int) (hrc : RCh l rc d) (M0 : jm_M) (h0 : nn M0 ≤ M0 0 0 41 + 39) (hd : 7 * (l - M0 0 0 41) + 7 - 0 ≤ d + 1) : ∀ (n : Nat) (M : jm_M) (l2 : Int), PO l M0 l2 M → l - M 0 0 41 < (n : Int) → wp (fX12_some_6 rc fu n M l l2) (PO l M0) := by
  intro n
  induction n with
  | zero =>
    intro M l2 hR hm
    have := hR.2.1.2.2.2.1
    exfalso; omega
  | succ n ih =>
    intro M l2 hR hm
    show wp (gX12_some_6 rc fu (fX12_some_6 rc fu n) M l l2) _
    unfold gX12_some_6
    have iM : bI bx2 M := hR.2.1.1
    have b41 : 0 ≤ M 0 0 41 ∧ M 0 0 41 ≤ 60 := iM 0 0 41
    have hb := hR.1
    have a1 := hR.2.1.2.2.1
    have n2 := hR.2.1.2.2.2.2.2.1
    refine wp_ite (fun c => wp_T (by omega) (wp_ret hR)) (fun c => ?_)
    · have hp : PH M0 M 0 1 := hR.2.2 (by omega)
      refine wp_bp (x_isSign iM l 124 hl) (fun v2 h2 => ?_)
      refine wp_ite (fun c2 => wp_T (by omega) (wp_ret hR)) (fun c2 => ?_)
      have hlt : M 0 0 41 < l := by
        rcases h2 with q | q
        · exact q.2
        · exact absurd q c2
      obtain ⟨pa, ha, ea⟩ := PE_at iM hl hlt
      refine wp_si iM (by have := pa.1 0 0 41; rw [ea] at this; rw [jm_wid (by omega) (by omega)]; exact this) (fun M7 u7 i7 => ?_)
      rw [← u7] at pa ha ea
      have n7 := pa.2.2.2.2.2.1
      refine wp_b (hrc 1 M7 (by decide) i7 (by omega) (by omega) (by omega)) (fun v8 M9 h8 => ?_)
      have p9 : PE l (-1) M M9 := (pa.tr h8.2.1).slack (by omega)
      have a9 := p9.2.2.1
      have a9l := p9.2.2.2.1
      have n9 := p9.2.2.2.2.2.1
      have a79 := h8.2.1.2.2.1
      refine wp_ite (fun c3 => ?_) (fun c3 => ?_)
      · exact ih M9 v8 ⟨h8.1, (hR.2.1.tr p9).slack (by omega), fun q => absurd c3 (by omega)⟩ (by omega)
      · have hp9 : PH M M9 1 2 := PH.tr pa h8.2.1 (ha 1) ((h8.2.2 (by have := h8.1; omega)).up 1)
        refine wp_bp (x_act 124 ⟨by decide, by decide⟩) (fun v12 h12 => ?_)
        refine wp_b (x_marks (l := l) h8.2.1.1 v12 (jm_inL (by omega) (by omega)) a9l (by omega)) (fun v15 M16 h15 => ?_)
        obtain ⟨-, p16, e16, -, -, t16⟩ := h15
        have hp16 : PH M M16 1 1 := PH.tr p9 p16 hp9 (t16 2 1 (tk_bin (by omega) (by omega) (by omega)))
        exact ih M16 v8 ⟨h8.1, (hR.2.1.tr (p9.tr p16)).slack (by omega), fun _ => PH.tr hR.2.1 (p9.tr p16) hp hp16⟩ (by omega)
theorem s_some (fu : Nat) (hfu : 4000 ≤ fu) (l : Int) (hl : l ≤ 60) (rc : Nat → jm_M → Int → jm_R) (d : Int) (hrc : RCh l rc d) (M : jm_M) (iM : bI bx2 M) (h1 : M 0 0 41 ≤ l) (h0 : nn M ≤ M 0 0 41 + 39) (hd : 7 * (l - M 0 0 41) + 7 - 0 ≤ d + 1) : wp (gX12_some rc fu M l) (PO l M) := by
  unfold gX12_some
  have b41 : 0 ≤ M 0 0 41 ∧ M 0 0 41 ≤ 60 := iM 0 0 41
  refine wp_b (hrc 1 M (by decide) iM h1 h0 (by omega)) (fun v1 M2 h1' => ?_)
  have b2 : 0 ≤ M2 0 0 41 ∧ M2 0 0 41 ≤ 60 := h1'.2.1.1 0 0 41
  exact s_some_6 fu l hl rc d hrc M h0 hd fu M2 v1 h1' (by omega)
theorem s_every_6 (fu : Nat) (l : Int) (hl : l ≤ 60) (rc : Nat → jm_M → Int → jm_R) (d : Int) (hrc : RCh l rc d) (M0 : jm_M) (h0 : nn M0 ≤ M0 0 0 41 + 39) (hd : 7 * (l - M0 0 0 41) + 7 - 1 ≤ d + 1) : ∀ (n : Nat) (M : jm_M) (l2 : Int), PO l M0 l2 M → l - M 0 0 41 < (n : Int) → wp (fX12_every_6 rc fu n M l l2) (PO l M0) := by
  intro n
  induction n with
  | zero =>
    intro M l2 hR hm
    have := hR.2.1.2.2.2.1
    exfalso; omega
  | succ n ih =>
    intro M l2 hR hm
    show wp (gX12_every_6 rc fu (fX12_every_6 rc fu n) M l l2) _
    unfold gX12_every_6
    have iM : bI bx2 M := hR.2.1.1
    have b41 : 0 ≤ M 0 0 41 ∧ M 0 0 41 ≤ 60 := iM 0 0 41
    have hb := hR.1
    have a1 := hR.2.1.2.2.1
    have n2 := hR.2.1.2.2.2.2.2.1
    refine wp_ite (fun c => wp_T (by omega) (wp_ret hR)) (fun c => ?_)
    · have hp : PH M0 M 0 1 := hR.2.2 (by omega)
      refine wp_bp (x_isSign iM l 38 hl) (fun v2 h2 => ?_)
      refine wp_ite (fun c2 => wp_T (by omega) (wp_ret hR)) (fun c2 => ?_)
      have hlt : M 0 0 41 < l := by
        rcases h2 with q | q
        · exact q.2
        · exact absurd q c2
      obtain ⟨pa, ha, ea⟩ := PE_at iM hl hlt
      refine wp_si iM (by have := pa.1 0 0 41; rw [ea] at this; rw [jm_wid (by omega) (by omega)]; exact this) (fun M7 u7 i7 => ?_)
      rw [← u7] at pa ha ea
      have n7 := pa.2.2.2.2.2.1
      refine wp_b (hrc 2 M7 (by decide) i7 (by omega) (by omega) (by omega)) (fun v8 M9 h8 => ?_)
      have p9 : PE l (-1) M M9 := (pa.tr h8.2.1).slack (by omega)
      have a9 := p9.2.2.1
      have a9l := p9.2.2.2.1
      have n9 := p9.2.2.2.2.2.1
      have a79 := h8.2.1.2.2.1
      refine wp_ite (fun c3 => ?_) (fun c3 => ?_)
      · exact ih M9 v8 ⟨h8.1, (hR.2.1.tr p9).slack (by omega), fun q => absurd c3 (by omega)⟩ (by omega)
      · have hp9 : PH M M9 1 2 := PH.tr pa h8.2.1 (ha 1) ((h8.2.2 (by have := h8.1; omega)).up 1)
        refine wp_bp (x_act 38 ⟨by decide, by decide⟩) (fun v12 h12 => ?_)
        refine wp_b (x_marks (l := l) h8.2.1.1 v12 (jm_inL (by omega) (by omega)) a9l (by omega)) (fun v15 M16 h15 => ?_)
        obtain ⟨-, p16, e16, -, -, t16⟩ := h15
        have hp16 : PH M M16 1 1 := PH.tr p9 p16 hp9 (t16 2 1 (tk_bin (by omega) (by omega) (by omega)))
        exact ih M16 v8 ⟨h8.1, (hR.2.1.tr (p9.tr p16)).slack (by omega), fun _ => PH.tr hR.2.1 (p9.tr p16) hp hp16⟩ (by omega)
theorem s_every (fu : Nat) (hfu : 4000 ≤ fu) (l : Int) (hl : l ≤ 60) (rc : Nat → jm_M → Int → jm_R) (d : Int) (hrc : RCh l rc d) (M : jm_M) (iM : bI bx2 M) (h1 : M 0 0 41 ≤ l) (h0 : nn M ≤ M 0 0 41 + 39) (hd : 7 * (l - M 0 0 41) + 7 - 1 ≤ d + 1) : wp (gX12_every rc fu M l) (PO l M) := by
  unfold gX12_every
  have b41 : 0 ≤ M 0 0 41 ∧ M 0 0 41 ≤ 60 := iM 0 0 41
  refine wp_b (hrc 2 M (by decide) iM h1 h0 (by omega)) (fun v1 M2 h1' => ?_)
  have b2 : 0 ≤ M2 0 0 41 ∧ M2 0 0 41 ≤ 60 := h1'.2.1.1 0 0 41
  exact s_every_6 fu l hl rc d hrc M h0 hd fu M2 v1 h1' (by omega)
theorem s_total_6 (fu : Nat) (l : Int) (hl : l ≤ 60) (rc : Nat → jm_M → Int → jm_R) (d : Int) (hrc : RCh l rc d) (M0 : jm_M) (h0 : nn M0 ≤ M0 0 0 41 + 39) (hd : 7 * (l - M0 0 0 41) + 7 - 3 ≤ d + 1) : ∀ (n : Nat) (M : jm_M) (l2 : Int), PO l M0 l2 M → l - M 0 0 41 < (n : Int) → wp (fX12_total_6 rc fu n M l l2) (PO l M0) := by
  intro n
  induction n with
  | zero =>
    intro M l2 hR hm
    have := hR.2.1.2.2.2.1
    exfalso; omega
  | succ n ih =>
    intro M l2 hR hm
    show wp (gX12_total_6 rc fu (fX12_total_6 rc fu n) M l l2) _
    unfold gX12_total_6
    have iM : bI bx2 M := hR.2.1.1
    have b41 : 0 ≤ M 0 0 41 ∧ M 0 0 41 ≤ 60 := iM 0 0 41
    have hb := hR.1
    have a1 := hR.2.1.2.2.1
    have n2 := hR.2.1.2.2.2.2.2.1
    refine wp_ite (fun c => wp_T (by omega) (wp_ret hR)) (fun c => ?_)
    · have hp : PH M0 M 0 1 := hR.2.2 (by omega)
      refine wp_bp (x_isOf iM l 6 hl) (fun v2 h2 => ?_)
      refine wp_ite (fun c2 => wp_T (by omega) (wp_ret hR)) (fun c2 => ?_)
      obtain ⟨hlt, hch⟩ : M 0 0 41 < l ∧ M 34 0 (M 0 0 41) ∈ jm_sl 6 := by
        rcases h2 with q | q
        · exact ⟨q.2.1, q.2.2.2.2⟩
        · exact absurd q c2
      have hcv : M 34 0 (M 0 0 41) = 43 ∨ M 34 0 (M 0 0 41) = 45 := by
        have q : M 34 0 (M 0 0 41) ∈ ([43, 45] : List Int) := hch
        simpa using q
      refine wp_T ⟨by omega, by omega⟩ ?_
      refine wp_e (iM 34 0 _) (fun v9 e9 _ => ?_)
      obtain ⟨pa, ha, ea⟩ := PE_at iM hl hlt
      refine wp_si iM (by have := pa.1 0 0 41; rw [ea] at this; rw [jm_wid (by omega) (by omega)]; exact this) (fun M7 u7 i7 => ?_)
      rw [← u7] at pa ha ea
      have n7 := pa.2.2.2.2.2.1
      refine wp_b (hrc 4 M7 (by decide) i7 (by omega) (by omega) (by omega)) (fun v8 M9 h8 => ?_)
      have p9 : PE l (-1) M M9 := (pa.tr h8.2.1).slack (by omega)
      have a9 := p9.2.2.1
      have a9l := p9.2.2.2.1
      have n9 := p9.2.2.2.2.2.1
      have a79 := h8.2.1.2.2.1
      refine wp_ite (fun c3 => ?_) (fun c3 => ?_)
      · exact ih M9 v8 ⟨h8.1, (hR.2.1.tr p9).slack (by omega), fun q => absurd c3 (by omega)⟩ (by omega)
      · have hp9 : PH M M9 1 2 := PH.tr pa h8.2.1 (ha 1) ((h8.2.2 (by have := h8.1; omega)).up 1)
        refine wp_bp (x_act v9 ⟨by omega, by omega⟩) (fun v12 h12 => ?_)
        refine wp_b (x_marks (l := l) h8.2.1.1 v12 (jm_inL (by omega) (by omega)) a9l (by omega)) (fun v15 M16 h15 => ?_)
        obtain ⟨-, p16, e16, -, -, t16⟩ := h15
        have hp16 : PH M M16 1 1 := PH.tr p9 p16 hp9 (t16 2 1 (tk_bin (by omega) (by omega) (by omega)))
        exact ih M16 v8 ⟨h8.1, (hR.2.1.tr (p9.tr p16)).slack (by omega), fun _ => PH.tr hR.2.1 (p9.tr p16) hp hp16⟩ (by omega)
theorem s_total (fu : Nat) (hfu : 4000 ≤ fu) (l : Int) (hl : l ≤ 60) (rc : Nat → jm_M → Int → jm_R) (d : Int) (hrc : RCh l rc d) (M : jm_M) (iM : bI bx2 M) (h1 : M 0 0 41 ≤ l) (h0 : nn M ≤ M 0 0 41 + 39) (hd : 7 * (l - M 0 0 41) + 7 - 3 ≤ d + 1) : wp (gX12_total rc fu M l) (PO l M) := by
  unfold gX12_total
  have b41 : 0 ≤ M 0 0 41 ∧ M 0 0 41 ≤ 60 := iM 0 0 41
  refine wp_b (hrc 4 M (by decide) iM h1 h0 (by omega)) (fun v1 M2 h1' => ?_)
  have b2 : 0 ≤ M2 0 0 41 ∧ M2 0 0 41 ≤ 60 := h1'.2.1.1 0 0 41
  exact s_total_6 fu l hl rc d hrc M h0 hd fu M2 v1 h1' (by omega)
theorem s_product_6 (fu : Nat) (l : Int) (hl : l ≤ 60) (rc : Nat → jm_M → Int → jm_R) (d : Int) (hrc : RCh l rc d) (M0 : jm_M) (h0 : nn M0 ≤ M0 0 0 41 + 39) (hd : 7 * (l - M0 0 0 41) + 7 - 4 ≤ d + 1) : ∀ (n : Nat) (M : jm_M) (l2 : Int), PO l M0 l2 M → l - M 0 0 41 < (n : Int) → wp (fX12_product_6 rc fu n M l l2) (PO l M0) := by
  intro n
  induction n with
  | zero =>
    intro M l2 hR hm
    have := hR.2.1.2.2.2.1
    exfalso; omega
  | succ n ih =>
    intro M l2 hR hm
    show wp (gX12_product_6 rc fu (fX12_product_6 rc fu n) M l l2) _
    unfold gX12_product_6
    have iM : bI bx2 M := hR.2.1.1
    have b41 : 0 ≤ M 0 0 41 ∧ M 0 0 41 ≤ 60 := iM 0 0 41
    have hb := hR.1
    have a1 := hR.2.1.2.2.1
    have n2 := hR.2.1.2.2.2.2.2.1
    refine wp_ite (fun c => wp_T (by omega) (wp_ret hR)) (fun c => ?_)
    · have hp : PH M0 M 0 1 := hR.2.2 (by omega)
      refine wp_bp (x_isSign iM l 42 hl) (fun v2 h2 => ?_)
      refine wp_ite (fun c2 => wp_T (by omega) (wp_ret hR)) (fun c2 => ?_)
      have hlt : M 0 0 41 < l := by
        rcases h2 with q | q
        · exact q.2
        · exact absurd q c2
      obtain ⟨pa, ha, ea⟩ := PE_at iM hl hlt
      refine wp_si iM (by have := pa.1 0 0 41; rw [ea] at this; rw [jm_wid (by omega) (by omega)]; exact this) (fun M7 u7 i7 => ?_)
      rw [← u7] at pa ha ea
      have n7 := pa.2.2.2.2.2.1
      refine wp_b (hrc 5 M7 (by decide) i7 (by omega) (by omega) (by omega)) (fun v8 M9 h8 => ?_)
      have p9 : PE l (-1) M M9 := (pa.tr h8.2.1).slack (by omega)
      have a9 := p9.2.2.1
      have a9l := p9.2.2.2.1
      have n9 := p9.2.2.2.2.2.1
      have a79 := h8.2.1.2.2.1
      refine wp_ite (fun c3 => ?_) (fun c3 => ?_)
      · exact ih M9 v8 ⟨h8.1, (hR.2.1.tr p9).slack (by omega), fun q => absurd c3 (by omega)⟩ (by omega)
      · have hp9 : PH M M9 1 2 := PH.tr pa h8.2.1 (ha 1) ((h8.2.2 (by have := h8.1; omega)).up 1)
        refine wp_bp (x_act 42 ⟨by decide, by decide⟩) (fun v12 h12 => ?_)
        refine wp_b (x_marks (l := l) h8.2.1.1 v12 (jm_inL (by omega) (by omega)) a9l (by omega)) (fun v15 M16 h15 => ?_)
        obtain ⟨-, p16, e16, -, -, t16⟩ := h15
        have hp16 : PH M M16 1 1 := PH.tr p9 p16 hp9 (t16 2 1 (tk_bin (by omega) (by omega) (by omega)))
        exact ih M16 v8 ⟨h8.1, (hR.2.1.tr (p9.tr p16)).slack (by omega), fun _ => PH.tr hR.2.1 (p9.tr p16) hp hp16⟩ (by omega)
theorem s_product (fu : Nat) (hfu : 4000 ≤ fu) (l : Int) (hl : l ≤ 60) (rc : Nat → jm_M → Int → jm_R) (d : Int) (hrc : RCh l rc d) (M : jm_M) (iM : bI bx2 M) (h1 : M 0 0 41 ≤ l) (h0 : nn M ≤ M 0 0 41 + 39) (hd : 7 * (l - M 0 0 41) + 7 - 4 ≤ d + 1) : wp (gX12_product rc fu M l) (PO l M) := by
  unfold gX12_product
  have b41 : 0 ≤ M 0 0 41 ∧ M 0 0 41 ≤ 60 := iM 0 0 41
  refine wp_b (hrc 5 M (by decide) iM h1 h0 (by omega)) (fun v1 M2 h1' => ?_)
  have b2 : 0 ≤ M2 0 0 41 ∧ M2 0 0 41 ≤ 60 := h1'.2.1.1 0 0 41
  exact s_product_6 fu l hl rc d hrc M h0 hd fu M2 v1 h1' (by omega)
