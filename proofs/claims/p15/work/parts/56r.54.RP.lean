/-- a call that may throw: both do, or both answer alike -/
def PT (I : jm_M → jm_M → Prop) (x y : jm_R) : Prop := ∃ (r : Int) (M1 : jm_M) (s : Int) (N1 : jm_M), x = some (r, M1) ∧ y = some (s, N1) ∧ I M1 N1 ∧ ((r = 4294967296 ∧ N1 0 0 0 = 1) ∨ (jm_in r ∧ N1 0 0 0 = 0 ∧ r = s))
