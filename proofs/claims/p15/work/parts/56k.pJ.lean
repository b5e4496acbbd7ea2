/-! both readings: the whole of a text -/
theorem fw_run (fu : Nat) (hfu : 4000 ≤ fu) (s : Int → Int) (hs : ∀ j : Int, jm_in (s j)) (t : Int) : ∀ (n m : Nat) (x : Int) (M M1 : jm_M), RunN fu s n x M M1 → bI bx1 M → 0 ≤ M 6 0 8 → -x ≤ M 6 0 1 → 0 ≤ x → (∀ j : Int, 0 ≤ j → j < t → M 12 0 j = s j) → x + (n : Int) ≤ t → x + (n : Int) ≤ 60 → fX3_firstWrong_a12_25 fu (n + m) M t x = fX3_firstWrong_a12_25 fu m M1 t (x + (n : Int)) ∧ (∀ j : Int, 0 ≤ j → j < t → M1 12 0 j = s j) := by
  intro n
  induction n with
  | zero =>
    intro m x M M1 h _ _ _ _ hT _ _
    have h : M1 = M := h
    subst h
    rw [Nat.zero_add, show x + ((0 : Nat) : Int) = x by omega]
    exact ⟨rfl, hT⟩
  | succ n ih =>
    intro m x M M1 h iM h8 hw hx hT ht h60
    obtain ⟨M2, e, h⟩ := h
    obtain ⟨v, M3, e2, i3, k3, hv⟩ := s_fX3_takes fu hfu M iM (s x) (hs x) h8 (by omega)
    rw [e] at e2
    obtain ⟨rfl, rfl⟩ := Prod.mk.inj (Option.some.inj e2)
    have q8 : M2 6 0 8 = M 6 0 8 := k3 6 0 8 (by unfold TR; omega)
    have q12 : ∀ j : Int, M2 12 0 j = M 12 0 j := fun j => k3 12 0 j (by unfold TR; omega)
    have z := ih m (x + 1) M2 M1 h i3 (by omega) (by omega) (by omega) (fun j h1 h2 => (q12 j).trans (hT j h1 h2)) (by omega) (by omega)
    rw [show x + 1 + (n : Int) = x + ((n + 1 : Nat) : Int) by omega] at z
    refine ⟨?_, z.2⟩
    rw [← z.1, show n + 1 + m = (n + m) + 1 by omega]
    show gX3_firstWrong_a12_25 fu (fX3_firstWrong_a12_25 fu (n + m)) M t x = _
    unfold gX3_firstWrong_a12_25
    rw [if_neg (by omega), if_neg (by omega), if_neg (by omega), if_pos ⟨by omega, by omega⟩, hT x (by omega) (by omega), e]
    show (if (1 : Int) = 0 then some (x, M2) else fX3_firstWrong_a12_25 fu (n + m) M2 t (jm_w (x + 1))) = _
    rw [if_neg (by decide), jm_wid (by omega) (by omega)]
theorem fw_stop (fu : Nat) (s : Int → Int) (t y : Int) (m : Nat) (M : jm_M) (hT : ∀ j : Int, 0 ≤ j → j < t → M 12 0 j = s j) (hy : 0 ≤ y ∧ y < t ∧ y < 60) (h : wp (fX3_takes fu M (s y)) YN) : wp (fX3_firstWrong_a12_25 fu (m + 1) M t y) (fun v _ => v = y) := by
  show wp (gX3_firstWrong_a12_25 fu (fX3_firstWrong_a12_25 fu m) M t y) _
  unfold gX3_firstWrong_a12_25
  refine wp_F (by omega) (wp_F (by omega) (wp_F (by omega) (wp_T ⟨by omega, by omega⟩ ?_)))
  rw [hT y (by omega) (by omega)]
  refine wp_b h (fun v M1 q => ?_)
  exact wp_T q (wp_ret rfl)
theorem fw_full (fu : Nat) (t y : Int) (m : Nat) (M : jm_M) (hy : t ≤ y ∨ 60 ≤ y) {Q : Int → jm_M → Prop} (h : wp (gX3_firstWrong_a12_65 fu M t) Q) : wp (fX3_firstWrong_a12_25 fu (m + 1) M t y) Q := by
  show wp (gX3_firstWrong_a12_25 fu (fX3_firstWrong_a12_25 fu m) M t y) _
  unfold gX3_firstWrong_a12_25
  refine wp_ite (fun _ => h) (fun c => ?_)
  exact wp_T (by omega) h
theorem TNO.le {fu : Nat} {s : Int → Int} {l r x y : Int} {M : jm_M} (h : TNO fu s l r x M y) : y ≤ l := by
  obtain ⟨n, M1, e, hrun, i1, k1, h⟩ := h
  rcases h with z | z
  · exact Int.le_of_eq z.1
  · exact Int.le_of_lt z.1
theorem fw_no (fu : Nat) (hfu : 4000 ≤ fu) (s : Int → Int) (hs : ∀ j : Int, jm_in (s j)) (l r t y : Int) (M : jm_M) (hl : l ≤ 60 ∧ l ≤ t ∧ (l = t ∨ l = 60)) (iM : bI bx1 M) (h8 : 0 ≤ M 6 0 8) (hw : 0 ≤ M 6 0 1) (hT : ∀ j : Int, 0 ≤ j → j < t → M 12 0 j = s j) (h : TNO fu s l r 0 M y) : wp (fX3_firstWrong_a12_25 fu fu M t 0) (fun v _ => v = y) := by
  have hy := h.le
  obtain ⟨n, M1, e, hrun, i1, k1, h⟩ := h
  obtain ⟨e1, hT1⟩ := fw_run fu hfu s hs t n (fu - n) 0 M M1 hrun iM h8 (by omega) (by omega) hT (by omega) (by omega)
  rw [show n + (fu - n) = fu by omega, ← e] at e1
  obtain ⟨m, em⟩ : ∃ m, fu - n = m + 1 := ⟨fu - n - 1, by omega⟩
  rw [e1, em]
  rcases h with ⟨z1, z2, z3, z4⟩ | ⟨z1, z2⟩
  · refine fw_full fu t y m M1 (by omega) ?_
    unfold gX3_firstWrong_a12_65
    refine wp_ite (fun c => ?_) (fun c => wp_ret (by omega))
    refine wp_ite (fun c2 => ?_) (fun c2 => wp_F z2 (wp_ret (by omega)))
    refine wp_F z3 ?_
    refine wp_ite (fun c3 => wp_T (z4 c3) (wp_ret (by omega))) (fun c3 => wp_ret (by omega))
  · exact fw_stop fu s t y m M1 hT1 (by omega) z2
theorem fw_ok (fu : Nat) (hfu : 4000 ≤ fu) (s : Int → Int) (hs : ∀ j : Int, jm_in (s j)) (l r t : Int) (M : jm_M) (hl : l ≤ 60 ∧ l ≤ t ∧ (l = t ∨ l = 60)) (iM : bI bx1 M) (h8 : 0 ≤ M 6 0 8) (hw : 0 ≤ M 6 0 1) (hT : ∀ j : Int, 0 ≤ j → j < t → M 12 0 j = s j) (h : (M 6 0 7 ≠ 0 ∧ TOK fu s r 7 0 M l) ∨ (M 6 0 7 = 0 ∧ TOL fu s r 0 M l)) : wp (fX3_firstWrong_a12_25 fu fu M t 0) (fun v _ => v = if t ≤ 60 then -1 else 60) := by
  obtain ⟨n, M1, e, hrun, k1, h⟩ : ∃ (n : Nat) (M1 : jm_M), l = 0 + (n : Int) ∧ RunN fu s n 0 M M1 ∧ Kp (TI r) M M1 ∧ ((M 6 0 7 ≠ 0 ∧ M1 6 0 6 = 7) ∨ (M 6 0 7 = 0 ∧ (M1 6 0 6 = 5 ∨ (M1 6 0 6 = 4 ∧ 1 ≤ M1 6 0 5)))) := by
    rcases h with ⟨z, n, M1, cmp, dg, C, q1, q2, q3, q4, q5, q6⟩ | ⟨z, n, M1, q1, q2, q3, q4, q5⟩
    · exact ⟨n, M1, q1, q2, q4, Or.inl ⟨z, q5.1.1⟩⟩
    · exact ⟨n, M1, q1, q2, q4, Or.inr ⟨z, q5⟩⟩
  obtain ⟨-, l7⟩ := ltx_kpI k1
  obtain ⟨e1, hT1⟩ := fw_run fu hfu s hs t n (fu - n) 0 M M1 hrun iM h8 (by omega) (by omega) hT (by omega) (by omega)
  rw [show n + (fu - n) = fu by omega, ← e] at e1
  obtain ⟨m, em⟩ : ∃ m, fu - n = m + 1 := ⟨fu - n - 1, by omega⟩
  rw [e1, em]
  refine fw_full fu t l m M1 (by omega) ?_
  unfold gX3_firstWrong_a12_65 gX3_firstWrong_a12_121 gX3_firstWrong_a12_125
  refine wp_ite (fun c => ?_) (fun c => wp_ret (by rw [if_neg c]))
  rcases h with ⟨z1, z2⟩ | ⟨z1, z2⟩
  · exact wp_F (by omega) (wp_T z2 (wp_ret (by rw [if_pos c])))
  · refine wp_T (by omega) ?_
    refine wp_ite (fun c2 => wp_ret (by rw [if_pos c])) (fun c2 => ?_)
    exact wp_T (by omega) (wp_F (by omega) (wp_ret (by rw [if_pos c])))
theorem r_71 (fu : Nat) {M : jm_M} (i : bI bx2 M) (t v l : Int) (hl : l ≤ 60 ∧ l ≤ t ∧ (l = t ∨ l = 60)) (hv : v = 0 ∨ v = 1) (hm : M 0 0 41 ≤ l) : wp (gX12_reads_71 fu M t v) (fun r M1 => M1 = M ∧ r = if v = 1 then (if t ≤ 60 then 1 else -61) else -1 - M 0 0 41) := by
  have b41 : 0 ≤ M 0 0 41 ∧ M 0 0 41 ≤ 60 := i 0 0 41
  have w : jm_w ((-1) - M 0 0 41) = (-1) - M 0 0 41 := jm_wid (by omega) (by omega)
  unfold gX12_reads_71 gX12_reads_96
  rw [w]
  rcases hv with rfl | rfl
  · have e0 : (if (0 : Int) = 1 then (if t ≤ 60 then (1 : Int) else -61) else -1 - M 0 0 41) = -1 - M 0 0 41 := if_neg (by decide)
    refine wp_mono (Q := fun r M1 => M1 = M ∧ r = -1 - M 0 0 41) ?_ (fun r M1 q => ⟨q.1, q.2.trans e0.symm⟩)
    refine wp_ite (fun c => wp_T rfl (wp_ret ⟨rfl, rfl⟩)) (fun c => wp_T rfl ?_)
    exact wp_ite (fun c2 => wp_T rfl (wp_ret ⟨rfl, rfl⟩)) (fun c2 => wp_ret ⟨rfl, by omega⟩)
  · have e1 : (if (1 : Int) = 1 then (if t ≤ 60 then (1 : Int) else -61) else -1 - M 0 0 41) = if t ≤ 60 then (1 : Int) else -61 := if_pos rfl
    refine wp_mono (Q := fun r M1 => M1 = M ∧ r = if t ≤ 60 then (1 : Int) else -61) ?_ (fun r M1 q => ⟨q.1, q.2.trans e1.symm⟩)
    exact wp_ite (fun c => wp_F (by decide) (wp_ret ⟨rfl, (if_pos c).symm⟩)) (fun c => wp_F (by decide) (wp_ret ⟨rfl, (if_neg c).symm⟩))
