/-! numbers told, plans dropped, the tape, options cleared -/
theorem cc_sector {M : jm_M} (iM : bI bx1 M) (l1 l2 l3 : Int) (h1 : jm_in l1) (h2 : jm_in l2) (h3 : jm_in l3) : wp (fX11_sector M l1 l2 l3) (fun _ M1 => (¬ (0 ≤ l1 ∧ l1 < M 1 0 0 ∧ 5000 ≤ l2 ∧ l2 ≤ 60000 ∧ -1 ≤ l3 ∧ l3 ≤ 5000) ∧ M1 = M) ∨ ((0 ≤ l1 ∧ l1 < M 1 0 0 ∧ 5000 ≤ l2 ∧ l2 ≤ 60000 ∧ -1 ≤ l3 ∧ l3 ≤ 5000) ∧ M1 = jm_u (jm_u (jm_u M 14 0 l1 l2) 15 0 l1 l3) 2 0 7 0)) := by
  have b1 : 2 ≤ M 1 0 0 ∧ M 1 0 0 ≤ 5 := iM 1 0 0
  unfold fX11_sector
  refine wp_bp (s_fX9_hasSector M iM l1 h1) (fun v1 g1 => wp_ite (fun _ => wp_ret (Or.inl ⟨by omega, rfl⟩)) (fun z1 => ?_))
  refine wp_bp (s_fX11_isWithin M iM l2 5000 60000 h2 (jm_inL (by decide) (by decide)) (jm_inL (by decide) (by decide))) (fun v2 g2 => wp_ite (fun _ => wp_ret (Or.inl ⟨by omega, rfl⟩)) (fun z2 => ?_))
  refine wp_bp (s_fX11_isWithin M iM l3 (-1) 5000 h3 (jm_inL (by decide) (by decide)) (jm_inL (by decide) (by decide))) (fun v3 g3 => wp_ite (fun _ => wp_ret (Or.inl ⟨by omega, rfl⟩)) (fun z3 => ?_))
  exact wp_T ⟨by omega, by omega⟩ (wp_sv (fun M14 u14 => wp_T ⟨by omega, by omega⟩ (wp_sv (fun M16 u16 => wp_sv (fun M17 u17 => wp_ret (Or.inr ⟨by omega, by rw [u17, u16, u14]⟩))))))
theorem dd_sector {N : jm_M} (iN : bI bx2 N) (l1 l2 l3 : Int) (h1 : jm_in l1) (h2 : jm_in l2) (h3 : jm_in l3) : wp (fX12_sector N l1 l2 l3) (fun _ N1 => (¬ (0 ≤ l1 ∧ l1 < N 0 0 1 ∧ 5000 ≤ l2 ∧ l2 ≤ 60000 ∧ -1 ≤ l3 ∧ l3 ≤ 5000) ∧ N1 = jm_u N 0 0 0 0) ∨ ((0 ≤ l1 ∧ l1 < N 0 0 1 ∧ 5000 ≤ l2 ∧ l2 ≤ 60000 ∧ -1 ≤ l3 ∧ l3 ≤ 5000) ∧ N1 = jm_u (jm_u (jm_u N 0 0 0 0) 1 0 l1 l2) 2 0 l1 l3)) := by
  have b1 : 2 ≤ N 0 0 1 ∧ N 0 0 1 ≤ 5 := iN 0 0 1
  unfold fX12_sector
  refine wp_sv (fun N1 u1 => ?_)
  have j1 : bI bx2 N1 := by rw [u1]; exact bI_u iN (jm_inL (by decide) (by decide))
  have o1 : ∀ (f : Nat) (i k : Int), ¬ (f = 0 ∧ i = 0 ∧ k = 0) → N1 f i k = N f i k := fun f i k y => by rw [u1]; exact jm_une y
  have e1 : N1 0 0 1 = N 0 0 1 := o1 0 0 1 (by omega)
  refine wp_bp (s_fX12_isSector N1 j1 l1 h1) (fun v1 g1 => wp_ite (fun _ => wp_ret (Or.inl ⟨by omega, u1⟩)) (fun z1 => ?_))
  refine wp_bp (s_fX12_in N1 j1 l2 5000 60000 h2 ⟨by decide, by decide⟩ ⟨by decide, by decide⟩) (fun v2 g2 => wp_ite (fun _ => wp_ret (Or.inl ⟨by omega, u1⟩)) (fun z2 => ?_))
  refine wp_bp (s_fX12_in N1 j1 l3 (-1) 5000 h3 ⟨by decide, by decide⟩ ⟨by decide, by decide⟩) (fun v3 g3 => wp_ite (fun _ => wp_ret (Or.inl ⟨by omega, u1⟩)) (fun z3 => ?_))
  exact wp_T ⟨by omega, by omega⟩ (wp_sv (fun P1 w1 => wp_T ⟨by omega, by omega⟩ (wp_sv (fun P2 w2 => wp_ret (Or.inr ⟨by omega, by rw [w2, w1, u1]⟩)))))
theorem cc_tyres {M : jm_M} (iM : bI bx1 M) (l1 l2 l3 : Int) (h1 : jm_in l1) (h2 : jm_in l2) (h3 : jm_in l3) : wp (fX11_tyres M l1 l2 l3) (fun _ M1 => (¬ (0 ≤ l1 ∧ l1 < 4 ∧ 0 ≤ l2 ∧ l2 < 6 ∧ 0 ≤ l3 ∧ l3 ≤ jm_z 4 l2) ∧ M1 = M) ∨ ((0 ≤ l1 ∧ l1 < 4 ∧ 0 ≤ l2 ∧ l2 < 6 ∧ 0 ≤ l3 ∧ l3 ≤ jm_z 4 l2) ∧ M1 = jm_u (jm_u M 17 0 (l1 * 6 + l2) l3) 2 0 7 0)) := by
  unfold fX11_tyres
  refine wp_bp (x_isIndex M l1 4) (fun v1 g1 => wp_ite (fun _ => wp_ret (Or.inl ⟨by omega, rfl⟩)) (fun z1 => ?_))
  refine wp_bp (x_isIndex M l2 6) (fun v2 g2 => wp_ite (fun _ => wp_ret (Or.inl ⟨by omega, rfl⟩)) (fun z2 => ?_))
  refine wp_T ⟨by omega, by omega⟩ ?_
  refine wp_bp (s_fX11_isWithin M iM l3 0 (jm_z 4 l2) h3 (jm_inL (by decide) (by decide)) (jm_z_in 4 l2)) (fun v3 g3 => wp_ite (fun _ => wp_ret (Or.inl ⟨by omega, rfl⟩)) (fun z3 => ?_))
  have ix : jm_w (jm_w (l1 * 6) + l2) = l1 * 6 + l2 := by rw [jm_wid (x := l1 * 6) (by omega) (by omega)]; exact jm_wid (by omega) (by omega)
  refine wp_bp (s_fX9_tyreNumber M iM l1 l2 h1 ⟨by omega, by omega⟩) (fun v4 _ => ?_)
  rw [ix]
  exact wp_T ⟨by omega, by omega⟩ (wp_sv (fun M18 u18 => wp_sv (fun M19 u19 => wp_ret (Or.inr ⟨by omega, by rw [u19, u18]⟩))))
theorem dd_tyres {N : jm_M} (iN : bI bx2 N) (l1 l2 l3 : Int) (h1 : jm_in l1) (h2 : jm_in l2) (h3 : jm_in l3) : wp (fX12_tyres N l1 l2 l3) (fun _ N1 => (¬ (0 ≤ l1 ∧ l1 < 4 ∧ 0 ≤ l3 ∧ ((l2 = 0 ∧ l3 ≤ 3000) ∨ (l2 = 1 ∧ l3 ≤ 100) ∨ (l2 = 2 ∧ l3 ≤ 200) ∨ (l2 = 3 ∧ l3 ≤ 5000) ∨ (l2 = 4 ∧ l3 ≤ 100) ∨ (l2 = 5 ∧ l3 ≤ 100))) ∧ N1 = jm_u N 0 0 0 0) ∨ ((0 ≤ l1 ∧ l1 < 4 ∧ 0 ≤ l3 ∧ ((l2 = 0 ∧ l3 ≤ 3000) ∨ (l2 = 1 ∧ l3 ≤ 100) ∨ (l2 = 2 ∧ l3 ≤ 200) ∨ (l2 = 3 ∧ l3 ≤ 5000) ∨ (l2 = 4 ∧ l3 ≤ 100) ∨ (l2 = 5 ∧ l3 ≤ 100))) ∧ N1 = jm_u (jm_u N 0 0 0 0) 4 0 (l1 * 6 + l2) l3)) := by
  unfold fX12_tyres
  refine wp_sv (fun N1 u1 => ?_)
  have j1 : bI bx2 N1 := by rw [u1]; exact bI_u iN (jm_inL (by decide) (by decide))
  have o1 : ∀ (f : Nat) (i k : Int), ¬ (f = 0 ∧ i = 0 ∧ k = 0) → N1 f i k = N f i k := fun f i k y => by rw [u1]; exact jm_une y
  refine wp_bp (s_fX12_in N1 j1 l1 0 3 h1 ⟨by decide, by decide⟩ ⟨by decide, by decide⟩) (fun v1 g1 => wp_ite (fun _ => wp_ret (Or.inl ⟨by omega, u1⟩)) (fun z1 => ?_))
  refine wp_bp (s_fX12_in N1 j1 l2 0 5 h2 ⟨by decide, by decide⟩ ⟨by decide, by decide⟩) (fun v2 g2 => wp_ite (fun _ => wp_ret (Or.inl ⟨by omega, u1⟩)) (fun z2 => ?_))
  refine wp_bp (s_fX12_mostOfTyres N1 j1 l2 ⟨by omega, by omega⟩) (fun v3 g3 => ?_)
  refine wp_bp (s_fX12_in N1 j1 l3 0 v3 h3 ⟨by decide, by decide⟩ ⟨by omega, by omega⟩) (fun v4 g4 => wp_ite (fun _ => wp_ret (Or.inl ⟨by omega, u1⟩)) (fun z4 => ?_))
  have ix : jm_w (jm_w (6 * l1) + l2) = l1 * 6 + l2 := by rw [jm_wid (x := 6 * l1) (by omega) (by omega), jm_wid (by omega) (by omega)]; omega
  have c2 : 0 ≤ l1 ∧ l1 < 4 ∧ 0 ≤ l3 ∧ ((l2 = 0 ∧ l3 ≤ 3000) ∨ (l2 = 1 ∧ l3 ≤ 100) ∨ (l2 = 2 ∧ l3 ≤ 200) ∨ (l2 = 3 ∧ l3 ≤ 5000) ∨ (l2 = 4 ∧ l3 ≤ 100) ∨ (l2 = 5 ∧ l3 ≤ 100)) := by omega
  rw [ix]
  exact wp_T ⟨by omega, by omega⟩ (wp_e (j1 4 0 _) (fun v19 _ _ => wp_T ⟨by omega, by omega⟩ (wp_sv (fun P1 w1 => wp_ret (Or.inr ⟨c2, by rw [w1, u1]⟩)))))
theorem cc_set {M : jm_M} (iM : bI bx1 M) (l1 l2 : Int) (h1 : jm_in l1) (h2 : jm_in l2) : wp (fX11_set M l1 l2) (fun _ M1 => (¬ (0 ≤ l1 ∧ l1 < 8 ∧ jm_z 1 l1 ≤ l2 ∧ l2 ≤ jm_z 2 l1) ∧ M1 = M) ∨ ((0 ≤ l1 ∧ l1 < 8 ∧ jm_z 1 l1 ≤ l2 ∧ l2 ≤ jm_z 2 l1) ∧ M1 = jm_u (jm_u M 18 0 l1 l2) 2 0 7 0)) := by
  unfold fX11_set
  refine wp_bp (x_isIndex M l1 8) (fun v1 g1 => wp_ite (fun _ => wp_ret (Or.inl ⟨by omega, rfl⟩)) (fun z1 => ?_))
  refine wp_T ⟨by omega, by omega⟩ (wp_T ⟨by omega, by omega⟩ ?_)
  refine wp_bp (s_fX11_isWithin M iM l2 (jm_z 1 l1) (jm_z 2 l1) h2 (jm_z_in 1 l1) (jm_z_in 2 l1)) (fun v2 g2 => wp_ite (fun _ => wp_ret (Or.inl ⟨by omega, rfl⟩)) (fun z2 => ?_))
  exact wp_T ⟨by omega, by omega⟩ (wp_e (iM 18 0 l1) (fun v13 _ _ => wp_T ⟨by omega, by omega⟩ (wp_sv (fun M16 u16 => wp_sv (fun M17 u17 => wp_ret (Or.inr ⟨by omega, by rw [u17, u16]⟩))))))
theorem dd_set30 (fu : Nat) {N1 : jm_M} (j1 : bI bx2 N1) (l1 l2 s0 : Int) (h2 : jm_in l2) (hl : 0 ≤ l1 ∧ l1 ≤ 7) (hs : (l1 = 0 ∧ s0 = 100) ∨ (l1 ≠ 0 ∧ s0 = 0)) : wp (gX12_set_30 fu N1 l1 l2 s0 l2) (fun _ N2 => (¬ ((l1 = 0 ∧ 100 ≤ l2 ∧ l2 ≤ 2000) ∨ (l1 = 1 ∧ 0 ≤ l2 ∧ l2 ≤ 50) ∨ (l1 = 2 ∧ 0 ≤ l2 ∧ l2 ≤ 500) ∨ (l1 = 3 ∧ 0 ≤ l2 ∧ l2 ≤ 60000) ∨ (l1 = 4 ∧ 0 ≤ l2 ∧ l2 ≤ 20000) ∨ (l1 = 5 ∧ 0 ≤ l2 ∧ l2 ≤ 200) ∨ (l1 = 6 ∧ 0 ≤ l2 ∧ l2 ≤ 2000) ∨ (l1 = 7 ∧ 0 ≤ l2 ∧ l2 ≤ 9)) ∧ N2 = N1) ∨ (((l1 = 0 ∧ 100 ≤ l2 ∧ l2 ≤ 2000) ∨ (l1 = 1 ∧ 0 ≤ l2 ∧ l2 ≤ 50) ∨ (l1 = 2 ∧ 0 ≤ l2 ∧ l2 ≤ 500) ∨ (l1 = 3 ∧ 0 ≤ l2 ∧ l2 ≤ 60000) ∨ (l1 = 4 ∧ 0 ≤ l2 ∧ l2 ≤ 20000) ∨ (l1 = 5 ∧ 0 ≤ l2 ∧ l2 ≤ 200) ∨ (l1 = 6 ∧ 0 ≤ l2 ∧ l2 ≤ 2000) ∨ (l1 = 7 ∧ 0 ≤ l2 ∧ l2 ≤ 9)) ∧ N2 = jm_u N1 5 0 l1 l2)) := by
  unfold gX12_set_30
  refine wp_bp (s_fX12_mostOf N1 j1 l1 hl) (fun v1 g1 => ?_)
  have key : Nonempty _ := ⟨set30_iff (l2 := l2) g1 hs⟩
  refine wp_bp (s_fX12_in N1 j1 l2 s0 v1 h2 ⟨by omega, by omega⟩ ⟨by omega, by omega⟩) (fun v4 g4 => ?_)
  clear g1
  refine wp_ite (fun z => ?_) (fun z => ?_)
  · have f : ¬ (s0 ≤ l2 ∧ l2 ≤ v1) := by omega
    exact wp_ret (Or.inl ⟨fun q => key.elim (fun k => f (k.1 q)), rfl⟩)
  · have f : s0 ≤ l2 ∧ l2 ≤ v1 := by omega
    exact wp_T ⟨by omega, by omega⟩ (wp_e (j1 5 0 l1) (fun v10 _ _ => wp_T ⟨by omega, by omega⟩ (wp_sv (fun P1 w1 => wp_ret (Or.inr ⟨key.elim (fun k => k.2 f), w1⟩)))))
theorem dd_set (fu : Nat) {N : jm_M} (iN : bI bx2 N) (l1 l2 : Int) (h1 : jm_in l1) (h2 : jm_in l2) : wp (fX12_set fu N l1 l2) (fun _ N1 => (¬ ((l1 = 0 ∧ 100 ≤ l2 ∧ l2 ≤ 2000) ∨ (l1 = 1 ∧ 0 ≤ l2 ∧ l2 ≤ 50) ∨ (l1 = 2 ∧ 0 ≤ l2 ∧ l2 ≤ 500) ∨ (l1 = 3 ∧ 0 ≤ l2 ∧ l2 ≤ 60000) ∨ (l1 = 4 ∧ 0 ≤ l2 ∧ l2 ≤ 20000) ∨ (l1 = 5 ∧ 0 ≤ l2 ∧ l2 ≤ 200) ∨ (l1 = 6 ∧ 0 ≤ l2 ∧ l2 ≤ 2000) ∨ (l1 = 7 ∧ 0 ≤ l2 ∧ l2 ≤ 9)) ∧ N1 = jm_u N 0 0 0 0) ∨ (((l1 = 0 ∧ 100 ≤ l2 ∧ l2 ≤ 2000) ∨ (l1 = 1 ∧ 0 ≤ l2 ∧ l2 ≤ 50) ∨ (l1 = 2 ∧ 0 ≤ l2 ∧ l2 ≤ 500) ∨ (l1 = 3 ∧ 0 ≤ l2 ∧ l2 ≤ 60000) ∨ (l1 = 4 ∧ 0 ≤ l2 ∧ l2 ≤ 20000) ∨ (l1 = 5 ∧ 0 ≤ l2 ∧ l2 ≤ 200) ∨ (l1 = 6 ∧ 0 ≤ l2 ∧ l2 ≤ 2000) ∨ (l1 = 7 ∧ 0 ≤ l2 ∧ l2 ≤ 9)) ∧ N1 = jm_u (jm_u N 0 0 0 0) 5 0 l1 l2)) := by
  unfold fX12_set
  refine wp_sv (fun N1 u1 => ?_)
  have j1 : bI bx2 N1 := by rw [u1]; exact bI_u iN (jm_inL (by decide) (by decide))
  have o1 : ∀ (f : Nat) (i k : Int), ¬ (f = 0 ∧ i = 0 ∧ k = 0) → N1 f i k = N f i k := fun f i k y => by rw [u1]; exact jm_une y
  refine wp_bp (s_fX12_in N1 j1 l1 0 7 h1 ⟨by decide, by decide⟩ ⟨by decide, by decide⟩) (fun v1 g1 => wp_ite (fun _ => wp_ret (Or.inl ⟨fun q => ?_, u1⟩)) (fun z1 => ?_))
  · have q2 : 0 ≤ l1 ∧ l1 ≤ 7 := by rcases q with q | q | q | q | q | q | q | q <;> omega
    omega
  · refine wp_ite (fun z2 => ?_) (fun z2 => ?_)
    · rw [← u1]
      exact dd_set30 fu j1 l1 l2 100 h2 ⟨by omega, by omega⟩ (by omega)
    · rw [← u1]
      exact dd_set30 fu j1 l1 l2 0 h2 ⟨by omega, by omega⟩ (by omega)
theorem cc_lost {M : jm_M} (iM : bI bx1 M) (l1 l2 : Int) (h1 : jm_in l1) (h2 : 0 ≤ l2 ∧ l2 ≤ 1) : wp (fX11_lost M l1 l2) (fun _ M1 => (¬ (0 ≤ l1 ∧ l1 < M 1 0 0 - 1) ∧ M1 = M) ∨ ((0 ≤ l1 ∧ l1 < M 1 0 0 - 1) ∧ M1 = jm_u M 16 0 l1 l2)) := by
  have b1 : 2 ≤ M 1 0 0 ∧ M 1 0 0 ≤ 5 := iM 1 0 0
  unfold fX11_lost
  refine wp_bp (s_fX9_hasSector M iM l1 h1) (fun v1 g1 => wp_ite (fun _ => wp_ret (Or.inl ⟨by omega, rfl⟩)) (fun z1 => ?_))
  have w1 : jm_w (M 1 0 0 - 1) = M 1 0 0 - 1 := jm_wid (by omega) (by omega)
  rw [w1]
  refine wp_ite (fun _ => wp_ret (Or.inl ⟨by omega, rfl⟩)) (fun z2 => ?_)
  exact wp_T ⟨by omega, by omega⟩ (wp_T (by omega) (wp_sv (fun M8 u8 => wp_ret (Or.inr ⟨by omega, u8⟩))))
theorem dd_lost {N : jm_M} (iN : bI bx2 N) (l1 l2 : Int) (h1 : jm_in l1) (h2 : 0 ≤ l2 ∧ l2 ≤ 1) : wp (fX12_lost N l1 l2) (fun _ N1 => (¬ (0 ≤ l1 ∧ l1 < N 0 0 1 - 1) ∧ N1 = jm_u N 0 0 0 0) ∨ ((0 ≤ l1 ∧ l1 < N 0 0 1 - 1) ∧ N1 = jm_u (jm_u N 0 0 0 0) 3 0 l1 l2)) := by
  have b1 : 2 ≤ N 0 0 1 ∧ N 0 0 1 ≤ 5 := iN 0 0 1
  unfold fX12_lost
  refine wp_sv (fun N1 u1 => ?_)
  have j1 : bI bx2 N1 := by rw [u1]; exact bI_u iN (jm_inL (by decide) (by decide))
  have o1 : ∀ (f : Nat) (i k : Int), ¬ (f = 0 ∧ i = 0 ∧ k = 0) → N1 f i k = N f i k := fun f i k y => by rw [u1]; exact jm_une y
  have e1 : N1 0 0 1 = N 0 0 1 := o1 0 0 1 (by omega)
  have w1 : jm_w (N1 0 0 1 - 2) = N 0 0 1 - 2 := by rw [e1]; exact jm_wid (by omega) (by omega)
  rw [w1]
  refine wp_bp (s_fX12_in N1 j1 l1 0 (N 0 0 1 - 2) h1 ⟨by decide, by decide⟩ ⟨by omega, by omega⟩) (fun v1 g1 => wp_ite (fun _ => wp_ret (Or.inl ⟨by omega, u1⟩)) (fun z1 => ?_))
  exact wp_T ⟨by omega, by omega⟩ (wp_T (by omega) (wp_sv (fun P1 w1 => wp_ret (Or.inr ⟨by omega, by rw [w1, u1]⟩))))
theorem cc_unplan {M : jm_M} (iM : bI bx1 M) (l1 : Int) (h1 : jm_in l1) : wp (fX11_unplan M l1) (fun _ M1 => (¬ (0 ≤ l1 ∧ l1 < M 2 0 5 ∧ M 8 l1 12 ≠ 0) ∧ M1 = M) ∨ ((0 ≤ l1 ∧ l1 < M 2 0 5 ∧ M 8 l1 12 ≠ 0) ∧ M1 = jm_u (jm_u M 8 l1 12 0) 2 0 7 0)) := by
  have b5 : 0 ≤ M 2 0 5 ∧ M 2 0 5 ≤ 6 := iM 2 0 5
  unfold fX11_unplan
  refine wp_bp (s_fX2_has M iM l1 h1) (fun v1 g1 => wp_ite (fun _ => wp_ret (Or.inl ⟨by omega, rfl⟩)) (fun z1 => ?_))
  refine wp_T ⟨by omega, by omega⟩ (wp_ite (fun z2 => wp_ret (Or.inl ⟨fun q => q.2.2 z2, rfl⟩)) (fun z2 => ?_))
  exact wp_T ⟨by omega, by omega⟩ (wp_sv (fun M9 u9 => wp_sv (fun M10 u10 => wp_ret (Or.inr ⟨⟨by omega, by omega, z2⟩, by rw [u10, u9]⟩))))
theorem dd_unplan27 (fu : Nat) {N1 : jm_M} (l1 s0 : Int) (hs : s0 = 0 ∨ (s0 = 1 ∧ 0 ≤ l1 ∧ l1 < 6)) : wp (gX12_unplan_27 fu N1 l1 s0) (fun _ N2 => (s0 = 0 ∧ N2 = N1) ∨ (s0 = 1 ∧ N2 = jm_u N1 30 0 l1 0)) := by
  unfold gX12_unplan_27
  refine wp_ite (fun z => wp_T (by omega) (wp_ret (Or.inl ⟨z, rfl⟩))) (fun z => ?_)
  exact wp_T ⟨by omega, by omega⟩ (wp_T (Or.inl rfl) (wp_sv (fun P1 w1 => wp_T (by omega) (wp_ret (Or.inr ⟨by omega, w1⟩)))))
theorem dd_unplan (fu : Nat) {N : jm_M} (iN : bI bx2 N) (l1 : Int) (h1 : jm_in l1) : wp (fX12_unplan fu N l1) (fun _ N1 => (¬ (0 ≤ l1 ∧ l1 < N 0 0 17 ∧ N 30 0 l1 ≠ 0) ∧ N1 = jm_u N 0 0 0 0) ∨ ((0 ≤ l1 ∧ l1 < N 0 0 17 ∧ N 30 0 l1 ≠ 0) ∧ N1 = jm_u (jm_u N 0 0 0 0) 30 0 l1 0)) := by
  have b17 : 0 ≤ N 0 0 17 ∧ N 0 0 17 ≤ 6 := iN 0 0 17
  unfold fX12_unplan
  refine wp_sv (fun N1 u1 => ?_)
  have j1 : bI bx2 N1 := by rw [u1]; exact bI_u iN (jm_inL (by decide) (by decide))
  have o1 : ∀ (f : Nat) (i k : Int), ¬ (f = 0 ∧ i = 0 ∧ k = 0) → N1 f i k = N f i k := fun f i k y => by rw [u1]; exact jm_une y
  have e17 : N1 0 0 17 = N 0 0 17 := o1 0 0 17 (by omega)
  have e30 : N1 30 0 l1 = N 30 0 l1 := o1 30 0 l1 (by omega)
  refine wp_bp (s_fX12_isCar N1 j1 l1 h1) (fun v1 g1 => wp_ite (fun _ => ?_) (fun z1 => wp_T ⟨by omega, by omega⟩ ?_))
  · refine wp_mono (dd_unplan27 fu (N1 := N1) l1 0 (Or.inl rfl)) (fun r N2 q => ?_)
    rcases q with ⟨-, q⟩ | ⟨q, -⟩
    · exact Or.inl ⟨by omega, q.trans u1⟩
    · exfalso; omega
  · rw [e30]
    refine wp_ite (fun z2 => ?_) (fun z2 => ?_)
    · refine wp_mono (dd_unplan27 fu (N1 := N1) l1 0 (Or.inl rfl)) (fun r N2 q => ?_)
      rcases q with ⟨-, q⟩ | ⟨q, -⟩
      · exact Or.inl ⟨fun y => y.2.2 z2, q.trans u1⟩
      · exfalso; omega
    · refine wp_mono (dd_unplan27 fu (N1 := N1) l1 1 (Or.inr ⟨rfl, by omega, by omega⟩)) (fun r N2 q => ?_)
      rcases q with ⟨q, -⟩ | ⟨-, q⟩
      · exfalso; omega
      · exact Or.inr ⟨⟨by omega, by omega, z2⟩, by rw [q, u1]⟩
theorem t_sector (fu : Nat) (hfu : 4000 ≤ fu) (M N : jm_M) (iv : IW M N) (it : IT M N) (ca : CA fu M N) (l1 l2 l3 : Int) (h1 : jm_in l1) (h2 : jm_in l2) (h3 : jm_in l3) : J2 (fX11_sector M l1 l2 l3) (fX12_sector N l1 l2 l3) (fun _ M1 _ N1 => IT M1 N1 ∧ CA fu M1 N1) := by
  have iM := iv.1.1
  have iN := iv.1.2.1
  obtain ⟨⟨t1, t2, t3, t4, t5⟩, t6, t7, t8⟩ := id it.1
  obtain ⟨⟨s0, s1, s5⟩, n18, n17, n14⟩ := id t6
  have b17 : 0 ≤ N 0 0 17 ∧ N 0 0 17 ≤ 6 := iN 0 0 17
  obtain ⟨v, M1, e1, ca1⟩ := cc_sector iM l1 l2 l3 h1 h2 h3
  obtain ⟨w, N1, e2, cb⟩ := dd_sector iN l1 l2 l3 h1 h2 h3
  refine ⟨v, M1, w, N1, e1, e2, ?_⟩
  rcases ca1 with ⟨ca1, m1⟩ | ⟨ca1, m1⟩
  · rcases cb with ⟨cb, m2⟩ | ⟨cb, m2⟩
    · exact it.no ca iN (Or.inl m1) m2
    · exfalso; omega
  · rcases cb with ⟨cb, m2⟩ | ⟨cb, m2⟩
    · exfalso; omega
    have kM : ∀ (f : Nat) (i k : Int), ¬ (f = 14 ∧ i = 0 ∧ k = l1) → ¬ (f = 15 ∧ i = 0 ∧ k = l1) → ¬ (f = 2 ∧ i = 0 ∧ k = 7) → M1 f i k = M f i k := fun f i k y1 y2 y3 => by
      rw [m1, jm_une y3, jm_une y2, jm_une y1]
    have kN : ∀ (f : Nat) (i k : Int), ¬ (f = 0 ∧ i = 0 ∧ k = 0) → ¬ (f = 1 ∧ i = 0 ∧ k = l1) → ¬ (f = 2 ∧ i = 0 ∧ k = l1) → N1 f i k = N f i k := fun f i k y1 y2 y3 => by
      rw [m2, jm_une y3, jm_une y2, jm_une y1]
    have new : TNUM M1 N1 := by
      refine ⟨⟨(kM 1 0 0 (by omega) (by omega) (by omega)).trans (s0.trans (kN 0 0 1 (by omega) (by omega) (by omega)).symm), (kM 1 0 1 (by omega) (by omega) (by omega)).trans (s1.trans (kN 0 0 2 (by omega) (by omega) (by omega)).symm), (kM 2 0 5 (by omega) (by omega) (by omega)).trans (s5.trans (kN 0 0 17 (by omega) (by omega) (by omega)).symm)⟩, fun k y1 y2 => (kM 18 0 k (by omega) (by omega) (by omega)).trans ((n18 k y1 y2).trans (kN 5 0 k (by omega) (by omega) (by omega)).symm), fun k y1 y2 => (kM 17 0 k (by omega) (by omega) (by omega)).trans ((n17 k y1 y2).trans (kN 4 0 k (by omega) (by omega) (by omega)).symm), fun i y1 y2 => ?_⟩
      by_cases e : i = l1
      · rw [e, m1, m2]
        refine ⟨?_, ?_⟩
        · rw [jm_une_f (by decide), jm_une_f (by decide), jm_ueq, jm_une_f (by decide), jm_ueq]
        · rw [jm_une_f (by decide), jm_ueq, jm_ueq]
      · exact ⟨(kM 14 0 i (by omega) (by omega) (by omega)).trans ((n14 i y1 y2).1.trans (kN 1 0 i (by omega) (by omega) (by omega)).symm), (kM 15 0 i (by omega) (by omega) (by omega)).trans ((n14 i y1 y2).2.trans (kN 2 0 i (by omega) (by omega) (by omega)).symm)⟩
    have lim : LIM N1 := by
      obtain ⟨z1, z2, z3, z4⟩ := t8
      have n4 : N1 4 0 = N 4 0 := funext fun k => kN 4 0 k (by omega) (by omega) (by omega)
      have n5 : N1 5 0 = N 5 0 := funext fun k => kN 5 0 k (by omega) (by omega) (by omega)
      have n13 : N1 13 0 = N 13 0 := funext fun k => kN 13 0 k (by omega) (by omega) (by omega)
      have n14 : N1 14 0 = N 14 0 := funext fun k => kN 14 0 k (by omega) (by omega) (by omega)
      have n15 : N1 15 0 = N 15 0 := funext fun k => kN 15 0 k (by omega) (by omega) (by omega)
      have n18 : N1 18 0 = N 18 0 := funext fun k => kN 18 0 k (by omega) (by omega) (by omega)
      have n19 : N1 19 0 = N 19 0 := funext fun k => kN 19 0 k (by omega) (by omega) (by omega)
      have n21 : N1 21 0 = N 21 0 := funext fun k => kN 21 0 k (by omega) (by omega) (by omega)
      have a17 : N1 0 0 17 = N 0 0 17 := kN 0 0 17 (by omega) (by omega) (by omega)
      unfold LIM
      rw [n4, n5, n13, n14, n15, n18, n19, n21, a17]
      refine ⟨z1, z2, fun i y1 y2 => ?_, z4⟩
      by_cases e : i = l1
      · rw [e, m2, jm_une_f (by decide), jm_ueq, jm_ueq]
        omega
      · rw [kN 1 0 i (by omega) (by omega) (by omega), kN 2 0 i (by omega) (by omega) (by omega)]
        exact z3 i y1 y2
    exact ⟨⟨⟨⟨t1.kk (fun f i k y => kM f i k (by unfold C1r at y; omega) (by unfold C1r at y; omega) (by unfold C1r at y; omega)) (fun f i k y => kN f i k (by unfold C2r at y; omega) (by unfold C2r at y; omega) (by unfold C2r at y; omega)), t2.kk (fun f i k y => kM f i k (by unfold C1f at y; omega) (by unfold C1f at y; omega) (by unfold C1f at y; omega)) (fun f i k y => kN f i k (by unfold C2f at y; omega) (by unfold C2f at y; omega) (by unfold C2f at y; omega)), t3.kk b17.2 (fun f i k y => kM f i k (by unfold C1s at y; omega) (by unfold C1s at y; omega) (by unfold C1s at y; omega)) (fun f i k y => kN f i k (by unfold C2s at y; omega) (by unfold C2s at y; omega) (by unfold C2s at y; omega)), t4.kk b17.2 (fun f i k y => kM f i k (by unfold C1p at y; omega) (by unfold C1p at y; omega) (by unfold C1p at y; omega)) (fun f i k y => kN f i k (by unfold C2p at y; omega) (by unfold C2p at y; omega) (by unfold C2p at y; omega)), t5.kk b17.2 (fun f i k y => kM f i k (by unfold C1o at y; omega) (by unfold C1o at y; omega) (by unfold C1o at y; omega)) (fun f i k y => kN f i k (by unfold C2o at y; omega) (by unfold C2o at y; omega) (by unfold C2o at y; omega))⟩, new, t7.kk iN (fun f i k y => kM f i k (by unfold C1c at y; omega) (by unfold C1c at y; omega) (by unfold C1c at y; omega)) (fun c f k _ _ _ y => kM f _ k (by unfold CTX at y; omega) (by unfold CTX at y; omega) (by unfold CTX at y; omega)) (fun f i k y => kN f i k (by unfold C2c at y; omega) (by unfold C2c at y; omega) (by unfold C2c at y; omega)), lim⟩, fun c y1 y2 => (kN 60 0 c (by omega) (by omega) (by omega)).trans (it.2 c y1 y2)⟩, CA.zero (by rw [m1]; exact jm_ueq)⟩
theorem t_tyres (fu : Nat) (hfu : 4000 ≤ fu) (M N : jm_M) (iv : IW M N) (it : IT M N) (ca : CA fu M N) (l1 l2 l3 : Int) (h1 : jm_in l1) (h2 : jm_in l2) (h3 : jm_in l3) : J2 (fX11_tyres M l1 l2 l3) (fX12_tyres N l1 l2 l3) (fun _ M1 _ N1 => IT M1 N1 ∧ CA fu M1 N1) := by
  have iM := iv.1.1
  have iN := iv.1.2.1
  obtain ⟨⟨t1, t2, t3, t4, t5⟩, t6, t7, t8⟩ := id it.1
  obtain ⟨⟨s0, s1, s5⟩, n18, n17, n14⟩ := id t6
  have b17 : 0 ≤ N 0 0 17 ∧ N 0 0 17 ≤ 6 := iN 0 0 17
  obtain ⟨v, M1, e1, ca1⟩ := cc_tyres iM l1 l2 l3 h1 h2 h3
  obtain ⟨w, N1, e2, cb⟩ := dd_tyres iN l1 l2 l3 h1 h2 h3
  refine ⟨v, M1, w, N1, e1, e2, ?_⟩
  rcases ca1 with ⟨ca1, m1⟩ | ⟨ca1, m1⟩
  · rcases cb with ⟨cb, m2⟩ | ⟨cb, m2⟩
    · exact it.no ca iN (Or.inl m1) m2
    · exact absurd ((zc_tyres l1 l2 l3).2 cb) ca1
  · rcases cb with ⟨cb, m2⟩ | ⟨cb, m2⟩
    · exact absurd ((zc_tyres l1 l2 l3).1 ca1) cb
    have c1 := id ca1
    have c3 := cb.2.2.2
    have kM : ∀ (f : Nat) (i k : Int), ¬ (f = 17 ∧ i = 0 ∧ k = (l1 * 6 + l2)) → ¬ (f = 2 ∧ i = 0 ∧ k = 7) → M1 f i k = M f i k := fun f i k y1 y2 => by
      rw [m1, jm_une y2, jm_une y1]
    have kN : ∀ (f : Nat) (i k : Int), ¬ (f = 0 ∧ i = 0 ∧ k = 0) → ¬ (f = 4 ∧ i = 0 ∧ k = (l1 * 6 + l2)) → N1 f i k = N f i k := fun f i k y1 y2 => by
      rw [m2, jm_une y2, jm_une y1]
    have new : TNUM M1 N1 := by
      refine ⟨⟨(kM 1 0 0 (by omega) (by omega)).trans (s0.trans (kN 0 0 1 (by omega) (by omega)).symm), (kM 1 0 1 (by omega) (by omega)).trans (s1.trans (kN 0 0 2 (by omega) (by omega)).symm), (kM 2 0 5 (by omega) (by omega)).trans (s5.trans (kN 0 0 17 (by omega) (by omega)).symm)⟩, fun k y1 y2 => (kM 18 0 k (by omega) (by omega)).trans ((n18 k y1 y2).trans (kN 5 0 k (by omega) (by omega)).symm), fun k y1 y2 => ?_, fun i y1 y2 => ⟨(kM 14 0 i (by omega) (by omega)).trans ((n14 i y1 y2).1.trans (kN 1 0 i (by omega) (by omega)).symm), (kM 15 0 i (by omega) (by omega)).trans ((n14 i y1 y2).2.trans (kN 2 0 i (by omega) (by omega)).symm)⟩⟩
      by_cases e : k = l1 * 6 + l2
      · rw [e, m1, m2, jm_une_f (by decide), jm_ueq, jm_ueq]
      · exact (kM 17 0 k (by omega) (by omega)).trans ((n17 k y1 y2).trans (kN 4 0 k (by omega) (by omega)).symm)
    have lim : LIM N1 := by
      obtain ⟨z1, z2, z3, z4⟩ := t8
      have n1 : N1 1 0 = N 1 0 := funext fun k => kN 1 0 k (by omega) (by omega)
      have n2 : N1 2 0 = N 2 0 := funext fun k => kN 2 0 k (by omega) (by omega)
      have n5 : N1 5 0 = N 5 0 := funext fun k => kN 5 0 k (by omega) (by omega)
      have n13 : N1 13 0 = N 13 0 := funext fun k => kN 13 0 k (by omega) (by omega)
      have n14 : N1 14 0 = N 14 0 := funext fun k => kN 14 0 k (by omega) (by omega)
      have n15 : N1 15 0 = N 15 0 := funext fun k => kN 15 0 k (by omega) (by omega)
      have n18 : N1 18 0 = N 18 0 := funext fun k => kN 18 0 k (by omega) (by omega)
      have n19 : N1 19 0 = N 19 0 := funext fun k => kN 19 0 k (by omega) (by omega)
      have n21 : N1 21 0 = N 21 0 := funext fun k => kN 21 0 k (by omega) (by omega)
      have a17 : N1 0 0 17 = N 0 0 17 := kN 0 0 17 (by omega) (by omega)
      unfold LIM
      rw [n1, n2, n5, n13, n14, n15, n18, n19, n21, a17]
      refine ⟨z1, fun k y1 y2 => ?_, z3, z4⟩
      have b4 := z2 k y1 y2
      have nk : ∀ d : Int, 0 ≤ d → d < 6 → ¬ (k = l1 ∧ d = l2) → N1 4 0 (6 * k + d) = N 4 0 (6 * k + d) := fun d y3 y4 y5 => kN 4 0 (6 * k + d) (by omega) (by omega)
      have ny : ∀ d : Int, k = l1 → d = l2 → N1 4 0 (6 * k + d) = l3 := fun d y3 y4 => by
        rw [m2, show 6 * k + d = l1 * 6 + l2 by omega]
        exact jm_ueq
      have bd : ∀ (d m : Int), 0 ≤ d → d < 6 → (l2 = d → l3 ≤ m) → (0 ≤ N 4 0 (6 * k + d) ∧ N 4 0 (6 * k + d) ≤ m) → 0 ≤ N1 4 0 (6 * k + d) ∧ N1 4 0 (6 * k + d) ≤ m := fun d m y3 y4 y5 y6 => by
        by_cases q : k = l1 ∧ d = l2
        · rw [ny d q.1 q.2]
          have := y5 q.2.symm
          exact ⟨c1.2.2.2.2.1, this⟩
        · rw [nk d y3 y4 q]
          exact y6
      have b40 : 0 ≤ N 4 0 (6 * k + 0) ∧ N 4 0 (6 * k + 0) ≤ 3000 := by rw [Int.add_zero]; exact ⟨b4.1, b4.2.1⟩
      have x0 := bd 0 3000 (by decide) (by decide) (by omega) b40
      rw [Int.add_zero] at x0
      have x1 := bd 1 100 (by decide) (by decide) (by omega) ⟨b4.2.2.1, b4.2.2.2.1⟩
      have x2 := bd 2 200 (by decide) (by decide) (by omega) ⟨b4.2.2.2.2.1, b4.2.2.2.2.2.1⟩
      have x3 := bd 3 5000 (by decide) (by decide) (by omega) ⟨b4.2.2.2.2.2.2.1, b4.2.2.2.2.2.2.2.1⟩
      have x4 := bd 4 100 (by decide) (by decide) (by omega) ⟨b4.2.2.2.2.2.2.2.2.1, b4.2.2.2.2.2.2.2.2.2.1⟩
      have x5 := bd 5 100 (by decide) (by decide) (by omega) ⟨b4.2.2.2.2.2.2.2.2.2.2.1, b4.2.2.2.2.2.2.2.2.2.2.2⟩
      exact ⟨x0.1, x0.2, x1.1, x1.2, x2.1, x2.2, x3.1, x3.2, x4.1, x4.2, x5.1, x5.2⟩
    exact ⟨⟨⟨⟨t1.kk (fun f i k y => kM f i k (by unfold C1r at y; omega) (by unfold C1r at y; omega)) (fun f i k y => kN f i k (by unfold C2r at y; omega) (by unfold C2r at y; omega)), t2.kk (fun f i k y => kM f i k (by unfold C1f at y; omega) (by unfold C1f at y; omega)) (fun f i k y => kN f i k (by unfold C2f at y; omega) (by unfold C2f at y; omega)), t3.kk b17.2 (fun f i k y => kM f i k (by unfold C1s at y; omega) (by unfold C1s at y; omega)) (fun f i k y => kN f i k (by unfold C2s at y; omega) (by unfold C2s at y; omega)), t4.kk b17.2 (fun f i k y => kM f i k (by unfold C1p at y; omega) (by unfold C1p at y; omega)) (fun f i k y => kN f i k (by unfold C2p at y; omega) (by unfold C2p at y; omega)), t5.kk b17.2 (fun f i k y => kM f i k (by unfold C1o at y; omega) (by unfold C1o at y; omega)) (fun f i k y => kN f i k (by unfold C2o at y; omega) (by unfold C2o at y; omega))⟩, new, t7.kk iN (fun f i k y => kM f i k (by unfold C1c at y; omega) (by unfold C1c at y; omega)) (fun c f k _ _ _ y => kM f _ k (by unfold CTX at y; omega) (by unfold CTX at y; omega)) (fun f i k y => kN f i k (by unfold C2c at y; omega) (by unfold C2c at y; omega)), lim⟩, fun c y1 y2 => (kN 60 0 c (by omega) (by omega)).trans (it.2 c y1 y2)⟩, CA.zero (by rw [m1]; exact jm_ueq)⟩
theorem t_setn (fu : Nat) (hfu : 4000 ≤ fu) (M N : jm_M) (iv : IW M N) (it : IT M N) (ca : CA fu M N) (l1 l2 : Int) (h1 : jm_in l1) (h2 : jm_in l2) : J2 (fX11_set M l1 l2) (fX12_set fu N l1 l2) (fun _ M1 _ N1 => IT M1 N1 ∧ CA fu M1 N1) := by
  have iM := iv.1.1
  have iN := iv.1.2.1
  obtain ⟨⟨t1, t2, t3, t4, t5⟩, t6, t7, t8⟩ := id it.1
  obtain ⟨⟨s0, s1, s5⟩, n18, n17, n14⟩ := id t6
  have b17 : 0 ≤ N 0 0 17 ∧ N 0 0 17 ≤ 6 := iN 0 0 17
  obtain ⟨v, M1, e1, ca1⟩ := cc_set iM l1 l2 h1 h2
  obtain ⟨w, N1, e2, cb⟩ := dd_set fu iN l1 l2 h1 h2
  refine ⟨v, M1, w, N1, e1, e2, ?_⟩
  rcases ca1 with ⟨ca1, m1⟩ | ⟨ca1, m1⟩
  · rcases cb with ⟨cb, m2⟩ | ⟨cb, m2⟩
    · exact it.no ca iN (Or.inl m1) m2
    · exact absurd ((zc_set l1 l2).2 cb) ca1
  · rcases cb with ⟨cb, m2⟩ | ⟨cb, m2⟩
    · exact absurd ((zc_set l1 l2).1 ca1) cb
    have kM : ∀ (f : Nat) (i k : Int), ¬ (f = 18 ∧ i = 0 ∧ k = l1) → ¬ (f = 2 ∧ i = 0 ∧ k = 7) → M1 f i k = M f i k := fun f i k y1 y2 => by
      rw [m1, jm_une y2, jm_une y1]
    have kN : ∀ (f : Nat) (i k : Int), ¬ (f = 0 ∧ i = 0 ∧ k = 0) → ¬ (f = 5 ∧ i = 0 ∧ k = l1) → N1 f i k = N f i k := fun f i k y1 y2 => by
      rw [m2, jm_une y2, jm_une y1]
    have new : TNUM M1 N1 := by
      refine ⟨⟨(kM 1 0 0 (by omega) (by omega)).trans (s0.trans (kN 0 0 1 (by omega) (by omega)).symm), (kM 1 0 1 (by omega) (by omega)).trans (s1.trans (kN 0 0 2 (by omega) (by omega)).symm), (kM 2 0 5 (by omega) (by omega)).trans (s5.trans (kN 0 0 17 (by omega) (by omega)).symm)⟩, fun k y1 y2 => ?_, fun k y1 y2 => (kM 17 0 k (by omega) (by omega)).trans ((n17 k y1 y2).trans (kN 4 0 k (by omega) (by omega)).symm), fun i y1 y2 => ⟨(kM 14 0 i (by omega) (by omega)).trans ((n14 i y1 y2).1.trans (kN 1 0 i (by omega) (by omega)).symm), (kM 15 0 i (by omega) (by omega)).trans ((n14 i y1 y2).2.trans (kN 2 0 i (by omega) (by omega)).symm)⟩⟩
      by_cases e : k = l1
      · rw [e, m1, m2, jm_une_f (by decide), jm_ueq, jm_ueq]
      · exact (kM 18 0 k (by omega) (by omega)).trans ((n18 k y1 y2).trans (kN 5 0 k (by omega) (by omega)).symm)
    have lim : LIM N1 := by
      obtain ⟨z1, z2, z3, z4⟩ := t8
      have n1 : N1 1 0 = N 1 0 := funext fun k => kN 1 0 k (by omega) (by omega)
      have n2 : N1 2 0 = N 2 0 := funext fun k => kN 2 0 k (by omega) (by omega)
      have n4 : N1 4 0 = N 4 0 := funext fun k => kN 4 0 k (by omega) (by omega)
      have n13 : N1 13 0 = N 13 0 := funext fun k => kN 13 0 k (by omega) (by omega)
      have n14 : N1 14 0 = N 14 0 := funext fun k => kN 14 0 k (by omega) (by omega)
      have n15 : N1 15 0 = N 15 0 := funext fun k => kN 15 0 k (by omega) (by omega)
      have n18 : N1 18 0 = N 18 0 := funext fun k => kN 18 0 k (by omega) (by omega)
      have n19 : N1 19 0 = N 19 0 := funext fun k => kN 19 0 k (by omega) (by omega)
      have n21 : N1 21 0 = N 21 0 := funext fun k => kN 21 0 k (by omega) (by omega)
      have a17 : N1 0 0 17 = N 0 0 17 := kN 0 0 17 (by omega) (by omega)
      unfold LIM
      rw [n1, n2, n4, n13, n14, n15, n18, n19, n21, a17]
      refine ⟨?_, z2, z3, z4⟩
      have ne : ∀ k : Int, k ≠ l1 → N1 5 0 k = N 5 0 k := fun k q => kN 5 0 k (by omega) (by omega)
      have nw : N1 5 0 l1 = l2 := by rw [m2]; exact jm_ueq
      rcases cb with cb | cb | cb | cb | cb | cb | cb | cb
      · have e := cb.1
        rw [e] at nw
        rw [ne 1 (by omega), ne 2 (by omega), ne 3 (by omega), ne 4 (by omega), ne 5 (by omega), ne 6 (by omega), ne 7 (by omega), nw]
        exact ⟨cb.2.1, cb.2.2, z1.2.2.1, z1.2.2.2.1, z1.2.2.2.2.1, z1.2.2.2.2.2.1, z1.2.2.2.2.2.2.1, z1.2.2.2.2.2.2.2.1, z1.2.2.2.2.2.2.2.2.1, z1.2.2.2.2.2.2.2.2.2.1, z1.2.2.2.2.2.2.2.2.2.2.1, z1.2.2.2.2.2.2.2.2.2.2.2.1, z1.2.2.2.2.2.2.2.2.2.2.2.2.1, z1.2.2.2.2.2.2.2.2.2.2.2.2.2.1, z1.2.2.2.2.2.2.2.2.2.2.2.2.2.2.1, z1.2.2.2.2.2.2.2.2.2.2.2.2.2.2.2⟩
      · have e := cb.1
        rw [e] at nw
        rw [ne 0 (by omega), ne 2 (by omega), ne 3 (by omega), ne 4 (by omega), ne 5 (by omega), ne 6 (by omega), ne 7 (by omega), nw]
        exact ⟨z1.1, z1.2.1, cb.2.1, cb.2.2, z1.2.2.2.2.1, z1.2.2.2.2.2.1, z1.2.2.2.2.2.2.1, z1.2.2.2.2.2.2.2.1, z1.2.2.2.2.2.2.2.2.1, z1.2.2.2.2.2.2.2.2.2.1, z1.2.2.2.2.2.2.2.2.2.2.1, z1.2.2.2.2.2.2.2.2.2.2.2.1, z1.2.2.2.2.2.2.2.2.2.2.2.2.1, z1.2.2.2.2.2.2.2.2.2.2.2.2.2.1, z1.2.2.2.2.2.2.2.2.2.2.2.2.2.2.1, z1.2.2.2.2.2.2.2.2.2.2.2.2.2.2.2⟩
      · have e := cb.1
        rw [e] at nw
        rw [ne 0 (by omega), ne 1 (by omega), ne 3 (by omega), ne 4 (by omega), ne 5 (by omega), ne 6 (by omega), ne 7 (by omega), nw]
        exact ⟨z1.1, z1.2.1, z1.2.2.1, z1.2.2.2.1, cb.2.1, cb.2.2, z1.2.2.2.2.2.2.1, z1.2.2.2.2.2.2.2.1, z1.2.2.2.2.2.2.2.2.1, z1.2.2.2.2.2.2.2.2.2.1, z1.2.2.2.2.2.2.2.2.2.2.1, z1.2.2.2.2.2.2.2.2.2.2.2.1, z1.2.2.2.2.2.2.2.2.2.2.2.2.1, z1.2.2.2.2.2.2.2.2.2.2.2.2.2.1, z1.2.2.2.2.2.2.2.2.2.2.2.2.2.2.1, z1.2.2.2.2.2.2.2.2.2.2.2.2.2.2.2⟩
      · have e := cb.1
        rw [e] at nw
        rw [ne 0 (by omega), ne 1 (by omega), ne 2 (by omega), ne 4 (by omega), ne 5 (by omega), ne 6 (by omega), ne 7 (by omega), nw]
        exact ⟨z1.1, z1.2.1, z1.2.2.1, z1.2.2.2.1, z1.2.2.2.2.1, z1.2.2.2.2.2.1, cb.2.1, cb.2.2, z1.2.2.2.2.2.2.2.2.1, z1.2.2.2.2.2.2.2.2.2.1, z1.2.2.2.2.2.2.2.2.2.2.1, z1.2.2.2.2.2.2.2.2.2.2.2.1, z1.2.2.2.2.2.2.2.2.2.2.2.2.1, z1.2.2.2.2.2.2.2.2.2.2.2.2.2.1, z1.2.2.2.2.2.2.2.2.2.2.2.2.2.2.1, z1.2.2.2.2.2.2.2.2.2.2.2.2.2.2.2⟩
      · have e := cb.1
        rw [e] at nw
        rw [ne 0 (by omega), ne 1 (by omega), ne 2 (by omega), ne 3 (by omega), ne 5 (by omega), ne 6 (by omega), ne 7 (by omega), nw]
        exact ⟨z1.1, z1.2.1, z1.2.2.1, z1.2.2.2.1, z1.2.2.2.2.1, z1.2.2.2.2.2.1, z1.2.2.2.2.2.2.1, z1.2.2.2.2.2.2.2.1, cb.2.1, cb.2.2, z1.2.2.2.2.2.2.2.2.2.2.1, z1.2.2.2.2.2.2.2.2.2.2.2.1, z1.2.2.2.2.2.2.2.2.2.2.2.2.1, z1.2.2.2.2.2.2.2.2.2.2.2.2.2.1, z1.2.2.2.2.2.2.2.2.2.2.2.2.2.2.1, z1.2.2.2.2.2.2.2.2.2.2.2.2.2.2.2⟩
      · have e := cb.1
        rw [e] at nw
        rw [ne 0 (by omega), ne 1 (by omega), ne 2 (by omega), ne 3 (by omega), ne 4 (by omega), ne 6 (by omega), ne 7 (by omega), nw]
        exact ⟨z1.1, z1.2.1, z1.2.2.1, z1.2.2.2.1, z1.2.2.2.2.1, z1.2.2.2.2.2.1, z1.2.2.2.2.2.2.1, z1.2.2.2.2.2.2.2.1, z1.2.2.2.2.2.2.2.2.1, z1.2.2.2.2.2.2.2.2.2.1, cb.2.1, cb.2.2, z1.2.2.2.2.2.2.2.2.2.2.2.2.1, z1.2.2.2.2.2.2.2.2.2.2.2.2.2.1, z1.2.2.2.2.2.2.2.2.2.2.2.2.2.2.1, z1.2.2.2.2.2.2.2.2.2.2.2.2.2.2.2⟩
      · have e := cb.1
        rw [e] at nw
        rw [ne 0 (by omega), ne 1 (by omega), ne 2 (by omega), ne 3 (by omega), ne 4 (by omega), ne 5 (by omega), ne 7 (by omega), nw]
        exact ⟨z1.1, z1.2.1, z1.2.2.1, z1.2.2.2.1, z1.2.2.2.2.1, z1.2.2.2.2.2.1, z1.2.2.2.2.2.2.1, z1.2.2.2.2.2.2.2.1, z1.2.2.2.2.2.2.2.2.1, z1.2.2.2.2.2.2.2.2.2.1, z1.2.2.2.2.2.2.2.2.2.2.1, z1.2.2.2.2.2.2.2.2.2.2.2.1, cb.2.1, cb.2.2, z1.2.2.2.2.2.2.2.2.2.2.2.2.2.2.1, z1.2.2.2.2.2.2.2.2.2.2.2.2.2.2.2⟩
      · have e := cb.1
        rw [e] at nw
        rw [ne 0 (by omega), ne 1 (by omega), ne 2 (by omega), ne 3 (by omega), ne 4 (by omega), ne 5 (by omega), ne 6 (by omega), nw]
        exact ⟨z1.1, z1.2.1, z1.2.2.1, z1.2.2.2.1, z1.2.2.2.2.1, z1.2.2.2.2.2.1, z1.2.2.2.2.2.2.1, z1.2.2.2.2.2.2.2.1, z1.2.2.2.2.2.2.2.2.1, z1.2.2.2.2.2.2.2.2.2.1, z1.2.2.2.2.2.2.2.2.2.2.1, z1.2.2.2.2.2.2.2.2.2.2.2.1, z1.2.2.2.2.2.2.2.2.2.2.2.2.1, z1.2.2.2.2.2.2.2.2.2.2.2.2.2.1, cb.2.1, cb.2.2⟩
    exact ⟨⟨⟨⟨t1.kk (fun f i k y => kM f i k (by unfold C1r at y; omega) (by unfold C1r at y; omega)) (fun f i k y => kN f i k (by unfold C2r at y; omega) (by unfold C2r at y; omega)), t2.kk (fun f i k y => kM f i k (by unfold C1f at y; omega) (by unfold C1f at y; omega)) (fun f i k y => kN f i k (by unfold C2f at y; omega) (by unfold C2f at y; omega)), t3.kk b17.2 (fun f i k y => kM f i k (by unfold C1s at y; omega) (by unfold C1s at y; omega)) (fun f i k y => kN f i k (by unfold C2s at y; omega) (by unfold C2s at y; omega)), t4.kk b17.2 (fun f i k y => kM f i k (by unfold C1p at y; omega) (by unfold C1p at y; omega)) (fun f i k y => kN f i k (by unfold C2p at y; omega) (by unfold C2p at y; omega)), t5.kk b17.2 (fun f i k y => kM f i k (by unfold C1o at y; omega) (by unfold C1o at y; omega)) (fun f i k y => kN f i k (by unfold C2o at y; omega) (by unfold C2o at y; omega))⟩, new, t7.kk iN (fun f i k y => kM f i k (by unfold C1c at y; omega) (by unfold C1c at y; omega)) (fun c f k _ _ _ y => kM f _ k (by unfold CTX at y; omega) (by unfold CTX at y; omega)) (fun f i k y => kN f i k (by unfold C2c at y; omega) (by unfold C2c at y; omega)), lim⟩, fun c y1 y2 => (kN 60 0 c (by omega) (by omega)).trans (it.2 c y1 y2)⟩, CA.zero (by rw [m1]; exact jm_ueq)⟩
theorem t_lost (fu : Nat) (hfu : 4000 ≤ fu) (M N : jm_M) (iv : IW M N) (it : IT M N) (ca : CA fu M N) (l1 l2 : Int) (h1 : jm_in l1) (h2 : 0 ≤ l2 ∧ l2 ≤ 1) : J2 (fX11_lost M l1 l2) (fX12_lost N l1 l2) (fun _ M1 _ N1 => IT M1 N1 ∧ CA fu M1 N1) := by
  have iM := iv.1.1
  have iN := iv.1.2.1
  obtain ⟨⟨t1, t2, t3, t4, t5⟩, t6, t7, t8⟩ := id it.1
  obtain ⟨⟨s0, s1, s5⟩, n18, n17, n14⟩ := id t6
  have b17 : 0 ≤ N 0 0 17 ∧ N 0 0 17 ≤ 6 := iN 0 0 17
  obtain ⟨v, M1, e1, ca1⟩ := cc_lost iM l1 l2 h1 h2
  obtain ⟨w, N1, e2, cb⟩ := dd_lost iN l1 l2 h1 h2
  refine ⟨v, M1, w, N1, e1, e2, ?_⟩
  rcases ca1 with ⟨ca1, m1⟩ | ⟨ca1, m1⟩
  · rcases cb with ⟨cb, m2⟩ | ⟨cb, m2⟩
    · exact it.no ca iN (Or.inl m1) m2
    · exfalso; omega
  · rcases cb with ⟨cb, m2⟩ | ⟨cb, m2⟩
    · exfalso; omega
    have kM : ∀ (f : Nat) (i k : Int), ¬ (f = 16 ∧ i = 0 ∧ k = l1) → M1 f i k = M f i k := fun f i k y1 => by
      rw [m1, jm_une y1]
    have kN : ∀ (f : Nat) (i k : Int), ¬ (f = 0 ∧ i = 0 ∧ k = 0) → ¬ (f = 3 ∧ i = 0 ∧ k = l1) → N1 f i k = N f i k := fun f i k y1 y2 => by
      rw [m2, jm_une y2, jm_une y1]
    exact ⟨it.keep iN (fun f i k y => kM f i k (by unfold RL1 C1r C1f C1s C1p C1o C1n C1c at y; omega)) (fun c f k _ _ _ y => kM f _ k (by unfold CTX at y; omega)) (fun f i k y => kN f i k (by unfold RL2 C2r C2f C2s C2p C2o C2n C2c C2l at y; omega) (by unfold RL2 C2r C2f C2s C2p C2o C2n C2c C2l at y; omega)), ca.keep iN (fun f i k y => kM f i k (by unfold CR7 at y; omega)) (fun f i k y => kN f i k (by unfold RL2 C2r C2f C2s C2p C2o C2n C2c C2l at y; omega) (by unfold RL2 C2r C2f C2s C2p C2o C2n C2c C2l at y; omega))⟩
theorem t_unplan (fu : Nat) (hfu : 4000 ≤ fu) (M N : jm_M) (iv : IW M N) (it : IT M N) (ca : CA fu M N) (l1 : Int) (h1 : jm_in l1) : J2 (fX11_unplan M l1) (fX12_unplan fu N l1) (fun _ M1 _ N1 => IT M1 N1 ∧ CA fu M1 N1) := by
  have iM := iv.1.1
  have iN := iv.1.2.1
  obtain ⟨⟨t1, t2, t3, t4, t5⟩, t6, t7, t8⟩ := id it.1
  obtain ⟨⟨s0, s1, s5⟩, n18, n17, n14⟩ := id t6
  have b17 : 0 ≤ N 0 0 17 ∧ N 0 0 17 ≤ 6 := iN 0 0 17
  obtain ⟨v, M1, e1, ca1⟩ := cc_unplan iM l1 h1
  obtain ⟨w, N1, e2, cb⟩ := dd_unplan fu iN l1 h1
  refine ⟨v, M1, w, N1, e1, e2, ?_⟩
  rcases ca1 with ⟨ca1, m1⟩ | ⟨ca1, m1⟩
  · rcases cb with ⟨cb, m2⟩ | ⟨cb, m2⟩
    · exact it.no ca iN (Or.inl m1) m2
    · have rx : 0 ≤ l1 → l1 < N 0 0 17 → M 8 l1 12 = N 30 0 l1 := fun q1 q2 => (t7 l1 q1 q2).2.1.1
      exact absurd ⟨cb.1, by omega, fun z => cb.2.2 ((rx cb.1 cb.2.1).symm.trans z)⟩ ca1
  · rcases cb with ⟨cb, m2⟩ | ⟨cb, m2⟩
    · have rx : 0 ≤ l1 → l1 < N 0 0 17 → M 8 l1 12 = N 30 0 l1 := fun q1 q2 => (t7 l1 q1 q2).2.1.1
      exact absurd ⟨ca1.1, by omega, fun z => ca1.2.2 ((rx ca1.1 (by omega)).trans z)⟩ cb
    have kM : ∀ (f : Nat) (i k : Int), ¬ (f = 8 ∧ i = l1 ∧ k = 12) → ¬ (f = 2 ∧ i = 0 ∧ k = 7) → M1 f i k = M f i k := fun f i k y1 y2 => by
      rw [m1, jm_une y2, jm_une y1]
    have kN : ∀ (f : Nat) (i k : Int), ¬ (f = 0 ∧ i = 0 ∧ k = 0) → ¬ (f = 30 ∧ i = 0 ∧ k = l1) → N1 f i k = N f i k := fun f i k y1 y2 => by
      rw [m2, jm_une y2, jm_une y1]
    have new : TCAR M1 N1 := by
      intro c y1 y2
      rw [kN 0 0 17 (by omega) (by omega)] at y2
      obtain ⟨⟨a0, a1, a2, a3, a4, a5⟩, ⟨b0, b1⟩, tx⟩ := t7 c y1 y2
      refine ⟨⟨(kM 8 c 0 (by omega) (by omega)).trans (a0.trans (kN 13 0 c (by omega) (by omega)).symm), (kM 8 c 1 (by omega) (by omega)).trans (a1.trans (kN 14 0 c (by omega) (by omega)).symm), (kM 8 c 2 (by omega) (by omega)).trans (a2.trans (kN 15 0 c (by omega) (by omega)).symm), (kM 8 c 3 (by omega) (by omega)).trans (a3.trans (kN 16 0 c (by omega) (by omega)).symm), (kM 8 c 4 (by omega) (by omega)).trans (a4.trans (kN 17 0 c (by omega) (by omega)).symm), (kM 8 c 5 (by omega) (by omega)).trans (a5.trans (kN 18 0 c (by omega) (by omega)).symm)⟩, ⟨?_, (kM 8 c 13 (by omega) (by omega)).trans (b1.trans (kN 60 0 c (by omega) (by omega)).symm)⟩, fun y => ?_⟩
      · by_cases e : c = l1
        · rw [e, m1, m2, jm_une_f (by decide), jm_ueq, jm_ueq]
        · exact (kM 8 c 12 (by omega) (by omega)).trans (b0.trans (kN 30 0 c (by omega) (by omega)).symm)
      · have e : c ≠ l1 := fun e => y (by rw [e, m2]; exact jm_ueq)
        rw [kN 30 0 c (by omega) (by omega)] at y
        rw [kM 8 c 11 (by omega) (by omega), kN 36 0 c (by omega) (by omega)]
        exact (tx y).kk (fun f k q => kM f _ k (by unfold CTX at q; omega) (by unfold CTX at q; omega)) (fun k q1 q2 => kN 35 0 k (by omega) (by omega))
    exact ⟨⟨⟨⟨t1.kk (fun f i k y => kM f i k (by unfold C1r at y; omega) (by unfold C1r at y; omega)) (fun f i k y => kN f i k (by unfold C2r at y; omega) (by unfold C2r at y; omega)), t2.kk (fun f i k y => kM f i k (by unfold C1f at y; omega) (by unfold C1f at y; omega)) (fun f i k y => kN f i k (by unfold C2f at y; omega) (by unfold C2f at y; omega)), t3.kk b17.2 (fun f i k y => kM f i k (by unfold C1s at y; omega) (by unfold C1s at y; omega)) (fun f i k y => kN f i k (by unfold C2s at y; omega) (by unfold C2s at y; omega)), t4.kk b17.2 (fun f i k y => kM f i k (by unfold C1p at y; omega) (by unfold C1p at y; omega)) (fun f i k y => kN f i k (by unfold C2p at y; omega) (by unfold C2p at y; omega)), t5.kk b17.2 (fun f i k y => kM f i k (by unfold C1o at y; omega) (by unfold C1o at y; omega)) (fun f i k y => kN f i k (by unfold C2o at y; omega) (by unfold C2o at y; omega))⟩, t6.kk (fun f i k y => kM f i k (by unfold C1n at y; omega) (by unfold C1n at y; omega)) (fun f i k y => kN f i k (by unfold C2n at y; omega) (by unfold C2n at y; omega)), new, t8.kk (fun f i k y => kN f i k (by unfold C2l at y; omega) (by unfold C2l at y; omega))⟩, fun c y1 y2 => (kN 60 0 c (by omega) (by omega)).trans (it.2 c y1 y2)⟩, CA.zero (by rw [m1]; exact jm_ueq)⟩
def KSG (f : Nat) (_ k : Int) : Prop := f ≠ 34 ∧ ¬ (f = 0 ∧ (k = 0 ∨ k = 40))
def KEN (f : Nat) (_ k : Int) : Prop := ¬ (f = 0 ∧ (k = 0 ∨ k = 40))
def KSM (f : Nat) (i _ : Int) : Prop := f ≠ 0 ∧ f ≠ 12 ∧ ¬ (f = 10 ∧ 18 ≤ i ∧ i < 24)
theorem IT.same {fu : Nat} {M N M1 N1 : jm_M} (h : IT M N) (ca : CA fu M N) (iN : bI bx2 N) (kM : Kp KSM M M1) (kN : Kp RL2 N N1) : IT M1 N1 ∧ CA fu M1 N1 :=
  ⟨h.keep iN (fun f i k y => kM f i k (by unfold RL1 C1r C1f C1s C1p C1o C1n C1c at y; unfold KSM; omega)) (fun c f k _ _ _ y => kM f _ k (by unfold CTX at y; unfold KSM; omega)) kN, ca.keep iN (fun f i k y => kM f i k (by unfold CR7 at y; unfold KSM; omega)) kN⟩
theorem d_signk_18 (fu : Nat) (M0 : jm_M) (l1 : Int) : ∀ (n : Nat) (M : jm_M) (d : Int), bI bx2 M → 0 ≤ d → d ≤ 4 → (M 0 0 40 ≤ 96) → Kp KSG M0 M → 4 - d < (n : Int) → wp (fX12_sign_18 fu n M l1 d) (fun _ M1 => Kp KSG M0 M1) := by
  intro n
  induction n with
  | zero => intro M d _ _ h1 _ _ hm; exfalso; omega
  | succ n ih =>
    intro M d iM h0 h1 h40 kM hm
    show wp (gX12_sign_18 fu (fX12_sign_18 fu n) M l1 d) _
    unfold gX12_sign_18
    have b40 : 0 ≤ M 0 0 40 ∧ M 0 0 40 ≤ 100 := iM 0 0 40
    refine wp_ite (fun c => wp_sv (fun M3 u3 => wp_ret (fun f i k q => ?_))) (fun c => ?_)
    · rw [u3, jm_une (by unfold KSG at q; omega)]
      exact kM f i k q
    · have w1 : jm_w (M 0 0 40 + d) = M 0 0 40 + d := jm_wid (by omega) (by omega)
      have w3 : jm_w (d + 1) = d + 1 := jm_wid (by omega) (by omega)
      rw [w1, w3]
      refine wp_T ⟨by omega, by omega⟩ ?_
      refine wp_si iM (jm_and_in _ _) (fun M7 u7 i7 => ?_)
      refine wp_e (jm_inL (by omega) (by omega)) (fun v e _ => ?_)
      rw [e]
      refine ih M7 (d + 1) i7 (by omega) (by omega) (by rw [u7, jm_une_f (by decide)]; exact h40) (fun f i k q => ?_) (by omega)
      rw [u7, jm_une_f q.1]
      exact kM f i k q
theorem d_signk (fu : Nat) (hfu : 4000 ≤ fu) (M : jm_M) (iM : bI bx2 M) (l1 : Int) : wp (fX12_sign fu M l1) (fun _ M1 => Kp KSG M M1) := by
  unfold fX12_sign
  refine wp_si iM (bx2_in (show bx2 39 0 0 0 from jm_inL (by decide) (by decide))) (fun M1 u1 i1 => ?_)
  have k1 : Kp KSG M M1 := fun f i k q => by rw [u1, jm_une (by unfold KSG at q; omega)]
  exact wp_ite (fun c => d_signk_18 fu M l1 fu M1 0 i1 (by omega) (by omega) c k1 (by omega)) (fun c => wp_ret k1)
theorem d_endk (M : jm_M) (iM : bI bx2 M) (l1 : Int) (h1 : jm_in l1) : wp (fX12_end M l1) (fun _ M1 => Kp KEN M M1) := by
  unfold fX12_end
  refine wp_si iM (bx2_in (show bx2 39 0 0 0 from jm_inL (by decide) (by decide))) (fun M1 u1 i1 => ?_)
  have k1 : Kp KEN M M1 := fun f i k q => by rw [u1, jm_une (by unfold KEN at q; omega)]
  have b40 : 0 ≤ M1 0 0 40 ∧ M1 0 0 40 ≤ 100 := i1 0 0 40
  refine wp_bp (s_fX12_in M1 i1 l1 0 (M1 0 0 40) h1 ⟨by decide, by decide⟩ ⟨by omega, by omega⟩) (fun v3 _ => wp_ite (fun _ => wp_ret k1) (fun _ => wp_sv (fun M7 u7 => wp_ret (fun f i k q => ?_))))
  rw [u7, jm_une (by unfold KEN at q; omega)]
  exact k1 f i k q
theorem t_sign (fu : Nat) (hfu : 4000 ≤ fu) (M N : jm_M) (iv : IW M N) (it : IT M N) (ca : CA fu M N) (l1 : Int) (h1 : jm_in l1) : J2 (fX11_sign fu M l1) (fX12_sign fu N l1) (fun _ M1 _ N1 => IT M1 N1 ∧ CA fu M1 N1) := by
  have iM := iv.1.1
  have iN := iv.1.2.1
  obtain ⟨v, M1, e1, c1⟩ := c_sign fu hfu M iM l1
  obtain ⟨w, N1, e2, c2⟩ := d_signk fu hfu N iN l1
  exact ⟨v, M1, w, N1, e1, e2, it.same ca iN (fun f i k y => c1.1 f i k ⟨y.1, y.2.1⟩) (fun f i k y => c2 f i k (by unfold RL2 C2r C2f C2s C2p C2o C2n C2c C2l at y; unfold KSG; omega))⟩
theorem t_end (fu : Nat) (hfu : 4000 ≤ fu) (M N : jm_M) (iv : IW M N) (it : IT M N) (ca : CA fu M N) (l1 : Int) (h1 : jm_in l1) : J2 (fX11_end M l1) (fX12_end N l1) (fun _ M1 _ N1 => IT M1 N1 ∧ CA fu M1 N1) := by
  have iM := iv.1.1
  have iN := iv.1.2.1
  obtain ⟨v, M1, e1, c1⟩ := c_end M l1
  obtain ⟨w, N1, e2, c2⟩ := d_endk N iN l1 h1
  exact ⟨v, M1, w, N1, e1, e2, it.same ca iN (fun f i k y => c1 f i k y.1) (fun f i k y => c2 f i k (by unfold RL2 C2r C2f C2s C2p C2o C2n C2c C2l at y; unfold KEN; omega))⟩
theorem t_clear (fu : Nat) (hfu : 4000 ≤ fu) (M N : jm_M) (iv : IW M N) (it : IT M N) (ca : CA fu M N) : J2 (fX11_clear fu M ) (fX12_clear fu N ) (fun _ M1 _ N1 => IT M1 N1 ∧ CA fu M1 N1) := by
  have iM := iv.1.1
  have iN := iv.1.2.1
  obtain ⟨v, M1, e1, c1⟩ := s_fX11_clear fu hfu M iM
  obtain ⟨w, N1, e2, c2⟩ := s_fX12_clear fu hfu N iN
  exact ⟨v, M1, w, N1, e1, e2, it.same ca iN (fun f i k y => c1.2.2.1 f i k y.2.2) (fun f i k y => c2.2.2.1 f i k (by unfold RL2 C2r C2f C2s C2p C2o C2n C2c C2l at y; show f ≠ 31 ∧ (f = 0 → k ≠ 0); omega))⟩
theorem t_count (fu : Nat) (hfu : 4000 ≤ fu) (M N : jm_M) (iv : IW M N) (it : IT M N) (ca : CA fu M N) (l1 : Int) (h1 : jm_in l1) : J2 (fX11_count fu M l1) (fX12_count fu N l1) (fun _ M1 _ N1 => IT M1 N1 ∧ CA fu M1 N1) := by
  have iM := iv.1.1
  have iN := iv.1.2.1
  obtain ⟨v, M1, e1, c1⟩ := s_fX11_count fu hfu M iM l1 h1
  obtain ⟨w, N1, e2, c2⟩ := s_fX12_count fu hfu N iN l1 h1
  exact ⟨v, M1, w, N1, e1, e2, it.same ca iN (fun f i k y => by rw [c1.1]) (fun f i k y => c2.2.1 f i k (by unfold RL2 C2r C2f C2s C2p C2o C2n C2c C2l at y; unfold TA2; omega))⟩
theorem t_row (fu : Nat) (hfu : 4000 ≤ fu) (M N : jm_M) (iv : IW M N) (it : IT M N) (ca : CA fu M N) (l1 : Int) (h1 : jm_in l1) : J2 (fX11_row M l1) (fX12_row N l1) (fun _ M1 _ N1 => IT M1 N1 ∧ CA fu M1 N1) := by
  have iM := iv.1.1
  have iN := iv.1.2.1
  obtain ⟨v, M1, e1, c1⟩ := s_fX11_row M iM l1 h1
  obtain ⟨w, N1, e2, c2⟩ := s_fX12_row N iN l1 h1
  exact ⟨v, M1, w, N1, e1, e2, it.same ca iN (fun f i k y => by rw [c1.1]) (fun f i k y => c2.2.1 f i k (by unfold RL2 C2r C2f C2s C2p C2o C2n C2c C2l at y; unfold TA2; omega))⟩
