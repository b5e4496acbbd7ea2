/-- sum, a number or thrown -/
theorem wt_sum (fu : Nat) (hfu : fu = 4000) (M N : jm_M) (h : IX M N) (l1 l2 : Int) (h1 : jm_in l1) (h2 : jm_in l2) : PT IX (fX11_sum fu M l1 l2) (fX12_sum fu N l1 l2) := by
  subst hfu
  obtain ⟨r, M1, s, N1, e1, e2, ix, -⟩ := uu_sum 4000 rfl M N h l1 l2 h1 h2
  exact ⟨r, M1, s, N1, e1, e2, ix, (aa_sum 4000 (by decide) M N h.1 h.2.1 h.2.2.1 h.2.2.2.2 l1 l2 h1 h2).at e1 e2⟩
