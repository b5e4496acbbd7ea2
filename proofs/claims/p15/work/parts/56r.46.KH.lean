/-! the race tried, in the reference: stops put aside and put back -/
def CLN (G : jm_M → Prop) : Prop := ∀ (M : jm_M) (f : Nat) (i k v : Int), ((37 ≤ f ∧ f ≤ 59) ∨ f = 67 ∨ f = 68 ∨ f = 69 ∨ (74 ≤ f ∧ f ≤ 79) ∨ (f = 0 ∧ (k = 0 ∨ k = 47 ∨ k = 70 ∨ k = 82 ∨ (88 ≤ k ∧ k ≤ 90)))) → G M → G (jm_u M f i k v)
theorem rn_gX12_starts_273 {G : jm_M → Prop} (hu : CLN G) (fu : Nat) (k31 : jm_M → Int → jm_R) (hk31 : ∀ (M : jm_M) (b0 : Int), G M → pw (k31 M b0) (G)) (k273 : jm_M → Int → Int → jm_R) (hk273 : ∀ (M : jm_M) (b0 b1 : Int), G M → pw (k273 M b0 b1) (G)) {M : jm_M} (l1 l2 : Int) (h : G M) : pw (gX12_starts_273 fu k31 k273 M l1 l2) (G) := by
  unfold gX12_starts_273
  exact pw_ite (pw_e (fun v2 => hk31 M v2 h)) (pw_ite (pw_s (P := G) (hu _ _ _ _ _ (Or.inl ⟨by decide, by decide⟩) h) (fun M5 h5 => pw_e (fun v6 => hk273 M5 l1 v6 h5))) (pw_none))
theorem rn_fX12_starts_273 {G : jm_M → Prop} (hu : CLN G) (fu : Nat) (k31 : jm_M → Int → jm_R) (hk31 : ∀ (M : jm_M) (b0 : Int), G M → pw (k31 M b0) (G)) : ∀ (n : Nat) {M : jm_M} (a0 a1 : Int), G M → pw (fX12_starts_273 fu k31 n M a0 a1) (G) := by
  intro n
  induction n with
  | zero => intro M a0 a1 h; exact pw_none
  | succ n ih =>
    intro M a0 a1 h
    exact rn_gX12_starts_273 hu fu k31 hk31 (fX12_starts_273 fu k31 n) (fun M a0 a1 h => ih a0 a1 h) a0 a1 h
theorem rn_gX12_starts_249 {G : jm_M → Prop} (hu : CLN G) (fu : Nat) (k31 : jm_M → Int → jm_R) (hk31 : ∀ (M : jm_M) (b0 : Int), G M → pw (k31 M b0) (G)) (k249 : jm_M → Int → Int → jm_R) (hk249 : ∀ (M : jm_M) (b0 b1 : Int), G M → pw (k249 M b0 b1) (G)) {M : jm_M} (l1 l2 : Int) (h : G M) : pw (gX12_starts_249 fu k31 k249 M l1 l2) (G) := by
  unfold gX12_starts_249
  exact pw_ite (rn_fX12_starts_273 hu fu k31 hk31 fu l1 0 h) (pw_ite (pw_s (P := G) (hu _ _ _ _ _ (Or.inl ⟨by decide, by decide⟩) h) (fun M3 h3 => pw_e (fun v4 => hk249 M3 l1 v4 h3))) (pw_none))
theorem rn_fX12_starts_249 {G : jm_M → Prop} (hu : CLN G) (fu : Nat) (k31 : jm_M → Int → jm_R) (hk31 : ∀ (M : jm_M) (b0 : Int), G M → pw (k31 M b0) (G)) : ∀ (n : Nat) {M : jm_M} (a0 a1 : Int), G M → pw (fX12_starts_249 fu k31 n M a0 a1) (G) := by
  intro n
  induction n with
  | zero => intro M a0 a1 h; exact pw_none
  | succ n ih =>
    intro M a0 a1 h
    exact rn_gX12_starts_249 hu fu k31 hk31 (fX12_starts_249 fu k31 n) (fun M a0 a1 h => ih a0 a1 h) a0 a1 h
theorem rn_gX12_starts_223 {G : jm_M → Prop} (hu : CLN G) (fu : Nat) (k31 : jm_M → Int → jm_R) (hk31 : ∀ (M : jm_M) (b0 : Int), G M → pw (k31 M b0) (G)) (k223 : jm_M → Int → Int → jm_R) (hk223 : ∀ (M : jm_M) (b0 b1 : Int), G M → pw (k223 M b0 b1) (G)) {M : jm_M} (l1 l2 : Int) (h : G M) : pw (gX12_starts_223 fu k31 k223 M l1 l2) (G) := by
  unfold gX12_starts_223
  exact pw_ite (rn_fX12_starts_249 hu fu k31 hk31 fu l1 0 h) (pw_ite (pw_s (P := G) (hu _ _ _ _ _ (Or.inl ⟨by decide, by decide⟩) h) (fun M3 h3 => pw_e (fun v4 => hk223 M3 l1 v4 h3))) (pw_none))
theorem rn_fX12_starts_223 {G : jm_M → Prop} (hu : CLN G) (fu : Nat) (k31 : jm_M → Int → jm_R) (hk31 : ∀ (M : jm_M) (b0 : Int), G M → pw (k31 M b0) (G)) : ∀ (n : Nat) {M : jm_M} (a0 a1 : Int), G M → pw (fX12_starts_223 fu k31 n M a0 a1) (G) := by
  intro n
  induction n with
  | zero => intro M a0 a1 h; exact pw_none
  | succ n ih =>
    intro M a0 a1 h
    exact rn_gX12_starts_223 hu fu k31 hk31 (fX12_starts_223 fu k31 n) (fun M a0 a1 h => ih a0 a1 h) a0 a1 h
theorem rn_gX12_starts_190 {G : jm_M → Prop} (hu : CLN G) (fu : Nat) (k31 : jm_M → Int → jm_R) (hk31 : ∀ (M : jm_M) (b0 : Int), G M → pw (k31 M b0) (G)) (k190 : jm_M → Int → Int → jm_R) (hk190 : ∀ (M : jm_M) (b0 b1 : Int), G M → pw (k190 M b0 b1) (G)) {M : jm_M} (l1 l2 : Int) (h : G M) : pw (gX12_starts_190 fu k31 k190 M l1 l2) (G) := by
  unfold gX12_starts_190
  exact pw_ite (rn_fX12_starts_223 hu fu k31 hk31 fu l1 0 h) (pw_ite (pw_ite (pw_s (P := G) (hu _ _ _ _ _ (Or.inl ⟨by decide, by decide⟩) h) (fun M5 h5 => pw_e (fun v6 => hk190 M5 l1 v6 h5))) (pw_none)) (pw_none))
theorem rn_fX12_starts_190 {G : jm_M → Prop} (hu : CLN G) (fu : Nat) (k31 : jm_M → Int → jm_R) (hk31 : ∀ (M : jm_M) (b0 : Int), G M → pw (k31 M b0) (G)) : ∀ (n : Nat) {M : jm_M} (a0 a1 : Int), G M → pw (fX12_starts_190 fu k31 n M a0 a1) (G) := by
  intro n
  induction n with
  | zero => intro M a0 a1 h; exact pw_none
  | succ n ih =>
    intro M a0 a1 h
    exact rn_gX12_starts_190 hu fu k31 hk31 (fX12_starts_190 fu k31 n) (fun M a0 a1 h => ih a0 a1 h) a0 a1 h
theorem rn_gX12_starts_131 {G : jm_M → Prop} (hu : CLN G) (fu : Nat) (k31 : jm_M → Int → jm_R) (hk31 : ∀ (M : jm_M) (b0 : Int), G M → pw (k31 M b0) (G)) {M : jm_M} (l1 s0 s1 : Int) (h : G M) : pw (gX12_starts_131 fu k31 M l1 s0 s1) (G) := by
  unfold gX12_starts_131
  exact pw_ite (pw_s (P := G) (hu _ _ _ _ _ (Or.inl ⟨by decide, by decide⟩) h) (fun M2 h2 => pw_ite (pw_s (P := G) (hu _ _ _ _ _ (Or.inl ⟨by decide, by decide⟩) h2) (fun M4 h4 => pw_ite (pw_s (P := G) (hu _ _ _ _ _ (Or.inl ⟨by decide, by decide⟩) h4) (fun M6 h6 => pw_ite (pw_s (P := G) (hu _ _ _ _ _ (Or.inl ⟨by decide, by decide⟩) h6) (fun M8 h8 => pw_ite (pw_s (P := G) (hu _ _ _ _ _ (Or.inl ⟨by decide, by decide⟩) h8) (fun M10 h10 => pw_ite (pw_s (P := G) (hu _ _ _ _ _ (Or.inl ⟨by decide, by decide⟩) h10) (fun M12 h12 => pw_ite (pw_s (P := G) (hu _ _ _ _ _ (Or.inl ⟨by decide, by decide⟩) h12) (fun M14 h14 => pw_ite (pw_s (P := G) (hu _ _ _ _ _ (Or.inl ⟨by decide, by decide⟩) h14) (fun M16 h16 => pw_ite (pw_s (P := G) (hu _ _ _ _ _ (Or.inl ⟨by decide, by decide⟩) h16) (fun M18 h18 => rn_fX12_starts_190 hu fu k31 hk31 fu l1 0 h18)) (pw_none))) (pw_none))) (pw_none))) (pw_none))) (pw_none))) (pw_none))) (pw_none))) (pw_none))) (pw_none)
theorem rn_gX12_starts_58 {G : jm_M → Prop} (hu : CLN G) (fu : Nat) (k31 : jm_M → Int → jm_R) (hk31 : ∀ (M : jm_M) (b0 : Int), G M → pw (k31 M b0) (G)) {M : jm_M} (l1 s0 s1 : Int) (h : G M) : pw (gX12_starts_58 fu k31 M l1 s0 s1) (G) := by
  unfold gX12_starts_58
  exact pw_ite (pw_s (P := G) (hu _ _ _ _ _ (Or.inl ⟨by decide, by decide⟩) h) (fun M2 h2 => pw_ite (pw_ite (pw_s (P := G) (hu _ _ _ _ _ (Or.inl ⟨by decide, by decide⟩) h2) (fun M6 h6 => pw_ite (pw_ite (pw_s (P := G) (hu _ _ _ _ _ (Or.inl ⟨by decide, by decide⟩) h6) (fun M10 h10 => pw_ite (pw_s (P := G) (hu _ _ _ _ _ (Or.inl ⟨by decide, by decide⟩) h10) (fun M12 h12 => pw_ite (pw_s (P := G) (hu _ _ _ _ _ (Or.inl ⟨by decide, by decide⟩) h12) (fun M14 h14 => pw_ite (pw_ite (pw_s (P := G) (hu _ _ _ _ _ (Or.inl ⟨by decide, by decide⟩) h14) (fun M18 h18 => pw_ite (pw_ite (rn_gX12_starts_131 hu fu k31 hk31 l1 (-1) l1 h18) (rn_gX12_starts_131 hu fu k31 hk31 l1 0 l1 h18)) (pw_none))) (pw_none)) (pw_none))) (pw_none))) (pw_none))) (pw_none)) (pw_none))) (pw_none)) (pw_none))) (pw_none)
theorem rn_gX12_starts_31 {G : jm_M → Prop} (hu : CLN G) (fu : Nat) (k31 : jm_M → Int → jm_R) (hk31 : ∀ (M : jm_M) (b0 : Int), G M → pw (k31 M b0) (G)) {M : jm_M} (l1 : Int) (h : G M) : pw (gX12_starts_31 fu k31 M l1) (G) := by
  unfold gX12_starts_31
  exact pw_ite (pw_ret h) (pw_ite (pw_ite (rn_gX12_starts_58 hu fu k31 hk31 l1 2 l1 h) (rn_gX12_starts_58 hu fu k31 hk31 l1 0 l1 h)) (pw_none))
theorem rn_fX12_starts_31 {G : jm_M → Prop} (hu : CLN G) (fu : Nat) : ∀ (n : Nat) {M : jm_M} (a0 : Int), G M → pw (fX12_starts_31 fu n M a0) (G) := by
  intro n
  induction n with
  | zero => intro M a0 h; exact pw_none
  | succ n ih =>
    intro M a0 h
    exact rn_gX12_starts_31 hu fu (fX12_starts_31 fu n) (fun M a0 h => ih a0 h) a0 h
theorem rn_gX12_starts_7 {G : jm_M → Prop} (hu : CLN G) (fu : Nat) (k7 : jm_M → Int → jm_R) (hk7 : ∀ (M : jm_M) (b0 : Int), G M → pw (k7 M b0) (G)) {M : jm_M} (l1 : Int) (h : G M) : pw (gX12_starts_7 fu k7 M l1) (G) := by
  unfold gX12_starts_7
  exact pw_ite (rn_fX12_starts_31 hu fu fu 0 h) (pw_ite (pw_s (P := G) (hu _ _ _ _ _ (Or.inl ⟨by decide, by decide⟩) h) (fun M3 h3 => pw_e (fun v4 => hk7 M3 v4 h3))) (pw_none))
theorem rn_fX12_starts_7 {G : jm_M → Prop} (hu : CLN G) (fu : Nat) : ∀ (n : Nat) {M : jm_M} (a0 : Int), G M → pw (fX12_starts_7 fu n M a0) (G) := by
  intro n
  induction n with
  | zero => intro M a0 h; exact pw_none
  | succ n ih =>
    intro M a0 h
    exact rn_gX12_starts_7 hu fu (fX12_starts_7 fu n) (fun M a0 h => ih a0 h) a0 h
theorem rn_fX12_starts {G : jm_M → Prop} (hu : CLN G) (fu : Nat) {M : jm_M} (h : G M) : pw (fX12_starts fu M ) (G) := by
  unfold fX12_starts
  exact pw_s (P := G) (hu _ _ _ _ _ (Or.inr (Or.inr (Or.inr (Or.inr (Or.inr (⟨rfl, (Or.inr (Or.inr (Or.inl rfl)))⟩)))))) h) (fun M1 h1 => rn_fX12_starts_7 hu fu fu 0 h1)
theorem rn_fX12_goesOn {G : jm_M → Prop} (hu : CLN G) {M : jm_M} (l1 : Int) (h : G M) : pw (fX12_goesOn M l1) (G) := by
  unfold fX12_goesOn
  exact pw_ite (pw_ite (pw_ret h) (pw_ret h)) (pw_none)
theorem rn_gX12_next_4 {G : jm_M → Prop} (hu : CLN G) (fu : Nat) (k4 : jm_M → Int → Int → jm_R) (hk4 : ∀ (M : jm_M) (b0 b1 : Int), G M → pw (k4 M b0 b1) (G)) {M : jm_M} (l1 l2 : Int) (h : G M) : pw (gX12_next_4 fu k4 M l1 l2) (G) := by
  unfold gX12_next_4
  exact pw_ite (pw_ret h) (pw_b (rn_fX12_goesOn hu  l2 h) (fun v3 M4 h4 => pw_ite (pw_e (fun v7 => hk4 M4 l1 v7 h4)) (pw_ite (pw_e (fun v10 => hk4 M4 l2 v10 h4)) (pw_ite (pw_ite (pw_ite (pw_e (fun v17 => hk4 M4 l2 v17 h4)) (pw_ite (pw_ite (pw_ite (pw_ite (pw_ite (pw_ite (pw_e (fun v29 => hk4 M4 l1 v29 h4)) (pw_e (fun v31 => hk4 M4 l2 v31 h4))) (pw_none)) (pw_none)) (pw_e (fun v33 => hk4 M4 l1 v33 h4))) (pw_none)) (pw_none))) (pw_none)) (pw_none)))))
theorem rn_fX12_next_4 {G : jm_M → Prop} (hu : CLN G) (fu : Nat) : ∀ (n : Nat) {M : jm_M} (a0 a1 : Int), G M → pw (fX12_next_4 fu n M a0 a1) (G) := by
  intro n
  induction n with
  | zero => intro M a0 a1 h; exact pw_none
  | succ n ih =>
    intro M a0 a1 h
    exact rn_gX12_next_4 hu fu (fX12_next_4 fu n) (fun M a0 a1 h => ih a0 a1 h) a0 a1 h
theorem rn_fX12_next {G : jm_M → Prop} (hu : CLN G) (fu : Nat) {M : jm_M} (h : G M) : pw (fX12_next fu M ) (G) := by
  unfold fX12_next
  exact rn_fX12_next_4 hu fu fu (-1) 0 h
theorem rn_gX12_hears_72 {G : jm_M → Prop} (hu : CLN G) (fu : Nat) (k5 : jm_M → Int → Int → Int → jm_R) (hk5 : ∀ (M : jm_M) (b0 b1 b2 : Int), G M → pw (k5 M b0 b1 b2) (G)) {M : jm_M} (l1 l2 l3 s0 s1 : Int) (h : G M) : pw (gX12_hears_72 fu k5 M l1 l2 l3 s0 s1) (G) := by
  unfold gX12_hears_72
  exact pw_ite (pw_s (P := G) (hu _ _ _ _ _ (Or.inl ⟨by decide, by decide⟩) h) (fun M2 h2 => pw_ite (pw_ite (pw_ite (pw_ite (pw_s (P := G) (hu _ _ _ _ _ (Or.inl ⟨by decide, by decide⟩) h2) (fun M9 h9 => pw_e (fun v10 => hk5 M9 l1 l2 v10 h9))) (pw_none)) (pw_none)) (pw_ite (pw_ite (pw_s (P := G) (hu _ _ _ _ _ (Or.inl ⟨by decide, by decide⟩) h2) (fun M15 h15 => pw_e (fun v16 => hk5 M15 l1 l2 v16 h15))) (pw_none)) (pw_none))) (pw_none))) (pw_none)
theorem rn_gX12_hears_5 {G : jm_M → Prop} (hu : CLN G) (fu : Nat) (k5 : jm_M → Int → Int → Int → jm_R) (hk5 : ∀ (M : jm_M) (b0 b1 b2 : Int), G M → pw (k5 M b0 b1 b2) (G)) {M : jm_M} (l1 l2 l3 : Int) (h : G M) : pw (gX12_hears_5 fu k5 M l1 l2 l3) (G) := by
  unfold gX12_hears_5
  exact pw_ite (pw_ite (pw_ret h) (pw_ite (pw_ite (pw_ite (pw_ite (pw_ite (pw_ite (rn_gX12_hears_72 hu fu k5 hk5 l1 l2 l3 (M 25 0 l3) l1 h) (pw_none)) (pw_ite (rn_gX12_hears_72 hu fu k5 hk5 l1 l2 l3 (M 47 0 l1) l1 h) (pw_none))) (pw_none)) (pw_e (fun v17 => hk5 M l1 l2 v17 h))) (pw_none)) (pw_none))) (pw_none)
theorem rn_fX12_hears_5 {G : jm_M → Prop} (hu : CLN G) (fu : Nat) : ∀ (n : Nat) {M : jm_M} (a0 a1 a2 : Int), G M → pw (fX12_hears_5 fu n M a0 a1 a2) (G) := by
  intro n
  induction n with
  | zero => intro M a0 a1 a2 h; exact pw_none
  | succ n ih =>
    intro M a0 a1 a2 h
    exact rn_gX12_hears_5 hu fu (fX12_hears_5 fu n) (fun M a0 a1 a2 h => ih a0 a1 a2 h) a0 a1 a2 h
theorem rn_fX12_hears {G : jm_M → Prop} (hu : CLN G) (fu : Nat) {M : jm_M} (l1 l2 : Int) (h : G M) : pw (fX12_hears fu M l1 l2) (G) := by
  unfold fX12_hears
  exact pw_e (fun v1 => rn_fX12_hears_5 hu fu fu l1 l2 v1 h)
theorem rn_gX12_isSlow_4 {G : jm_M → Prop} (hu : CLN G) (fu : Nat) (k4 : jm_M → Int → Int → Int → jm_R) (hk4 : ∀ (M : jm_M) (b0 b1 b2 : Int), G M → pw (k4 M b0 b1 b2) (G)) {M : jm_M} (l1 l2 l3 : Int) (h : G M) : pw (gX12_isSlow_4 fu k4 M l1 l2 l3) (G) := by
  unfold gX12_isSlow_4
  exact pw_ite (pw_ite (pw_ret h) (pw_none)) (pw_ite (pw_ite (pw_ite (pw_ite (pw_ite (pw_e (fun v10 => hk4 M l1 0 v10 h)) (pw_ite (pw_ite (pw_e (fun v15 => hk4 M l1 0 v15 h)) (pw_e (fun v17 => hk4 M l1 1 v17 h))) (pw_none))) (pw_none)) (pw_e (fun v19 => hk4 M l1 0 v19 h))) (pw_none)) (pw_e (fun v21 => hk4 M l1 1 v21 h)))
theorem rn_fX12_isSlow_4 {G : jm_M → Prop} (hu : CLN G) (fu : Nat) : ∀ (n : Nat) {M : jm_M} (a0 a1 a2 : Int), G M → pw (fX12_isSlow_4 fu n M a0 a1 a2) (G) := by
  intro n
  induction n with
  | zero => intro M a0 a1 a2 h; exact pw_none
  | succ n ih =>
    intro M a0 a1 a2 h
    exact rn_gX12_isSlow_4 hu fu (fX12_isSlow_4 fu n) (fun M a0 a1 a2 h => ih a0 a1 a2 h) a0 a1 a2 h
theorem rn_fX12_isSlow {G : jm_M → Prop} (hu : CLN G) (fu : Nat) {M : jm_M} (l1 : Int) (h : G M) : pw (fX12_isSlow fu M l1) (G) := by
  unfold fX12_isSlow
  exact rn_fX12_isSlow_4 hu fu fu l1 0 0 h
theorem rn_gX12_wet_5 {G : jm_M → Prop} (hu : CLN G) (fu : Nat) (k5 : jm_M → Int → Int → Int → Int → jm_R) (hk5 : ∀ (M : jm_M) (b0 b1 b2 b3 : Int), G M → pw (k5 M b0 b1 b2 b3) (G)) {M : jm_M} (l1 l2 l3 l4 : Int) (h : G M) : pw (gX12_wet_5 fu k5 M l1 l2 l3 l4) (G) := by
  unfold gX12_wet_5
  exact pw_ite (pw_ite (pw_ite (pw_ret h) (pw_none)) (pw_ret h)) (pw_ite (pw_ite (pw_ite (pw_ite (pw_e (fun v12 => hk5 M l1 l2 l3 v12 h)) (pw_ite (pw_e (fun v15 => hk5 M l1 l2 l4 v15 h)) (pw_ite (pw_ite (pw_ite (pw_e (fun v22 => hk5 M l1 l2 l3 v22 h)) (pw_e (fun v24 => hk5 M l1 l2 l4 v24 h))) (pw_none)) (pw_none)))) (pw_none)) (pw_e (fun v26 => hk5 M l1 l2 l3 v26 h))) (pw_none))
theorem rn_fX12_wet_5 {G : jm_M → Prop} (hu : CLN G) (fu : Nat) : ∀ (n : Nat) {M : jm_M} (a0 a1 a2 a3 : Int), G M → pw (fX12_wet_5 fu n M a0 a1 a2 a3) (G) := by
  intro n
  induction n with
  | zero => intro M a0 a1 a2 a3 h; exact pw_none
  | succ n ih =>
    intro M a0 a1 a2 a3 h
    exact rn_gX12_wet_5 hu fu (fX12_wet_5 fu n) (fun M a0 a1 a2 a3 h => ih a0 a1 a2 a3 h) a0 a1 a2 a3 h
theorem rn_fX12_wet {G : jm_M → Prop} (hu : CLN G) (fu : Nat) {M : jm_M} (l1 l2 : Int) (h : G M) : pw (fX12_wet fu M l1 l2) (G) := by
  unfold fX12_wet
  exact rn_fX12_wet_5 hu fu fu l1 l2 (-1) 0 h
theorem rn_gX12_takes_145 {G : jm_M → Prop} (hu : CLN G) (fu : Nat) {M : jm_M} (l1 l2 l3 l6 s0 s1 : Int) (h : G M) : pw (gX12_takes_145 fu M l1 l2 l3 l6 s0 s1) (G) := by
  unfold gX12_takes_145
  exact pw_e (fun v1 => pw_ite (pw_b (rn_fX12_wet hu fu l2 l3 h) (fun v5 M6 h6 => pw_ite (pw_ite (pw_ite (pw_e (fun v14 => pw_ret h6)) (pw_none)) (pw_none)) (pw_none))) (pw_none))
theorem rn_gX12_isFront_4 {G : jm_M → Prop} (hu : CLN G) (fu : Nat) (k4 : jm_M → Int → Int → Int → jm_R) (hk4 : ∀ (M : jm_M) (b0 b1 b2 : Int), G M → pw (k4 M b0 b1 b2) (G)) {M : jm_M} (l1 l2 l3 : Int) (h : G M) : pw (gX12_isFront_4 fu k4 M l1 l2 l3) (G) := by
  unfold gX12_isFront_4
  exact pw_ite (pw_ite (pw_ret h) (pw_none)) (pw_ite (pw_e (fun v4 => hk4 M l1 0 v4 h)) (pw_ite (pw_e (fun v7 => hk4 M l1 1 v7 h)) (pw_b (rn_fX12_goesOn hu  l3 h) (fun v9 M10 h10 => pw_ite (pw_e (fun v13 => hk4 M10 l1 1 v13 h10)) (pw_ite (pw_ite (pw_ite (pw_e (fun v20 => hk4 M10 l1 0 v20 h10)) (pw_e (fun v22 => hk4 M10 l1 1 v22 h10))) (pw_none)) (pw_none))))))
theorem rn_fX12_isFront_4 {G : jm_M → Prop} (hu : CLN G) (fu : Nat) : ∀ (n : Nat) {M : jm_M} (a0 a1 a2 : Int), G M → pw (fX12_isFront_4 fu n M a0 a1 a2) (G) := by
  intro n
  induction n with
  | zero => intro M a0 a1 a2 h; exact pw_none
  | succ n ih =>
    intro M a0 a1 a2 h
    exact rn_gX12_isFront_4 hu fu (fX12_isFront_4 fu n) (fun M a0 a1 a2 h => ih a0 a1 a2 h) a0 a1 a2 h
theorem rn_fX12_isFront {G : jm_M → Prop} (hu : CLN G) (fu : Nat) {M : jm_M} (l1 : Int) (h : G M) : pw (fX12_isFront fu M l1) (G) := by
  unfold fX12_isFront
  exact rn_fX12_isFront_4 hu fu fu l1 1 0 h
theorem rn_fX12_takes {G : jm_M → Prop} (hu : CLN G) (fu : Nat) {M : jm_M} (l1 l2 l3 l4 : Int) (h : G M) : pw (fX12_takes fu M l1 l2 l3 l4) (G) := by
  unfold fX12_takes
  exact pw_ite (pw_ite (pw_e (fun v4 => pw_ite (pw_e (fun v8 => pw_ite (pw_ite (pw_ite (pw_ite (pw_ite (pw_ite (pw_ite (pw_e (fun v24 => pw_ite (pw_ite (pw_ite (rn_gX12_takes_145 hu fu l1 l2 l3 v8 0 v24 h) (pw_ite (rn_gX12_takes_145 hu fu l1 l2 l3 v8 (M 4 0 (jm_w (v8 + 3))) v24 h) (pw_none))) (pw_none)) (pw_none))) (pw_none)) (pw_none)) (pw_none)) (pw_none)) (pw_none)) (pw_none)) (pw_none))) (pw_none))) (pw_none)) (pw_ite (pw_b (rn_fX12_isFront hu fu l1 h) (fun v35 M36 h36 => pw_ite (pw_ret h36) (pw_ret h36))) (pw_none))
theorem rn_gX12_isYellow_46 {G : jm_M → Prop} (hu : CLN G) (fu : Nat) (k5 : jm_M → Int → Int → Int → Int → jm_R) (hk5 : ∀ (M : jm_M) (b0 b1 b2 b3 : Int), G M → pw (k5 M b0 b1 b2 b3) (G)) {M : jm_M} (l1 l2 l3 l4 s0 : Int) (h : G M) : pw (gX12_isYellow_46 fu k5 M l1 l2 l3 l4 s0) (G) := by
  unfold gX12_isYellow_46
  exact pw_ite (pw_ite (pw_ite (pw_ite (pw_e (fun v6 => hk5 M l1 l2 0 v6 h)) (pw_ite (pw_ite (pw_e (fun v11 => hk5 M l1 l2 0 v11 h)) (pw_ite (pw_ite (pw_e (fun v16 => hk5 M l1 l2 0 v16 h)) (pw_e (fun v18 => hk5 M l1 l2 1 v18 h))) (pw_none))) (pw_none))) (pw_e (fun v20 => hk5 M l1 l2 0 v20 h))) (pw_none)) (pw_e (fun v22 => hk5 M l1 l2 1 v22 h))
theorem rn_gX12_isYellow_5 {G : jm_M → Prop} (hu : CLN G) (fu : Nat) (k5 : jm_M → Int → Int → Int → Int → jm_R) (hk5 : ∀ (M : jm_M) (b0 b1 b2 b3 : Int), G M → pw (k5 M b0 b1 b2 b3) (G)) {M : jm_M} (l1 l2 l3 l4 : Int) (h : G M) : pw (gX12_isYellow_5 fu k5 M l1 l2 l3 l4) (G) := by
  unfold gX12_isYellow_5
  exact pw_ite (pw_ite (pw_ret h) (pw_none)) (pw_ite (rn_gX12_isYellow_46 hu fu k5 hk5 l1 l2 l3 l4 1 h) (pw_ite (pw_ite (rn_gX12_isYellow_46 hu fu k5 hk5 l1 l2 l3 l4 1 h) (pw_ite (pw_ite (rn_gX12_isYellow_46 hu fu k5 hk5 l1 l2 l3 l4 1 h) (rn_gX12_isYellow_46 hu fu k5 hk5 l1 l2 l3 l4 0 h)) (pw_none))) (pw_none)))
theorem rn_fX12_isYellow_5 {G : jm_M → Prop} (hu : CLN G) (fu : Nat) : ∀ (n : Nat) {M : jm_M} (a0 a1 a2 a3 : Int), G M → pw (fX12_isYellow_5 fu n M a0 a1 a2 a3) (G) := by
  intro n
  induction n with
  | zero => intro M a0 a1 a2 a3 h; exact pw_none
  | succ n ih =>
    intro M a0 a1 a2 a3 h
    exact rn_gX12_isYellow_5 hu fu (fX12_isYellow_5 fu n) (fun M a0 a1 a2 a3 h => ih a0 a1 a2 a3 h) a0 a1 a2 a3 h
theorem rn_fX12_isYellow {G : jm_M → Prop} (hu : CLN G) (fu : Nat) {M : jm_M} (l1 l2 : Int) (h : G M) : pw (fX12_isYellow fu M l1 l2) (G) := by
  unfold fX12_isYellow
  exact rn_fX12_isYellow_5 hu fu fu l1 l2 0 0 h
theorem rn_gX12_latest_6 {G : jm_M → Prop} (hu : CLN G) (fu : Nat) (k6 : jm_M → Int → Int → Int → Int → Int → jm_R) (hk6 : ∀ (M : jm_M) (b0 b1 b2 b3 b4 : Int), G M → pw (k6 M b0 b1 b2 b3 b4) (G)) {M : jm_M} (l1 l2 l3 l4 l5 : Int) (h : G M) : pw (gX12_latest_6 fu k6 M l1 l2 l3 l4 l5) (G) := by
  unfold gX12_latest_6
  exact pw_ite (pw_ret h) (pw_ite (pw_e (fun v5 => pw_ite (pw_e (fun v8 => hk6 M l1 l2 l3 l4 v8 h)) (pw_ite (pw_e (fun v11 => hk6 M l1 l2 l3 l4 v11 h)) (pw_ite (pw_e (fun v14 => hk6 M l1 l2 l3 l4 v14 h)) (pw_ite (pw_e (fun v17 => hk6 M l1 l2 l3 l5 v17 h)) (pw_ite (pw_ite (pw_e (fun v22 => hk6 M l1 l2 l3 l4 v22 h)) (pw_e (fun v24 => hk6 M l1 l2 l3 l5 v24 h))) (pw_none))))))) (pw_none))
theorem rn_fX12_latest_6 {G : jm_M → Prop} (hu : CLN G) (fu : Nat) : ∀ (n : Nat) {M : jm_M} (a0 a1 a2 a3 a4 : Int), G M → pw (fX12_latest_6 fu n M a0 a1 a2 a3 a4) (G) := by
  intro n
  induction n with
  | zero => intro M a0 a1 a2 a3 a4 h; exact pw_none
  | succ n ih =>
    intro M a0 a1 a2 a3 a4 h
    exact rn_gX12_latest_6 hu fu (fX12_latest_6 fu n) (fun M a0 a1 a2 a3 a4 h => ih a0 a1 a2 a3 a4 h) a0 a1 a2 a3 a4 h
theorem rn_fX12_latest {G : jm_M → Prop} (hu : CLN G) (fu : Nat) {M : jm_M} (l1 l2 l3 : Int) (h : G M) : pw (fX12_latest fu M l1 l2 l3) (G) := by
  unfold fX12_latest
  exact rn_fX12_latest_6 hu fu fu l1 l2 l3 (-1) 0 h
theorem rn_gX12_held_134 {G : jm_M → Prop} (hu : CLN G) (fu : Nat) {M : jm_M} (l1 l9 : Int) (h : G M) : pw (gX12_held_134 fu M l1 l9) (G) := by
  unfold gX12_held_134
  exact pw_ite (pw_ite (pw_s (P := G) (hu _ _ _ _ _ (Or.inl ⟨by decide, by decide⟩) h) (fun M4 h4 => pw_ite (pw_ret h4) (pw_none))) (pw_none)) (pw_none)
theorem rn_gX12_held_181 {G : jm_M → Prop} (hu : CLN G) (fu : Nat) (k37 : jm_M → Int → Int → Int → Int → Int → jm_R) (hk37 : ∀ (M : jm_M) (b0 b1 b2 b3 b4 : Int), G M → pw (k37 M b0 b1 b2 b3 b4) (G)) {M : jm_M} (l1 l2 l6 l7 l8 s0 s1 s2 : Int) (h : G M) : pw (gX12_held_181 fu k37 M l1 l2 l6 l7 l8 s0 s1 s2) (G) := by
  unfold gX12_held_181
  exact pw_ite (pw_s (P := G) (hu _ _ _ _ _ (Or.inl ⟨by decide, by decide⟩) h) (fun M2 h2 => pw_ite (pw_b (rn_fX12_latest hu fu l1 l2 (M2 56 0 (jm_w ((jm_w (5 * l8)) + l2))) h2) (fun v5 M6 h6 => hk37 M6 l1 l2 l6 l7 v5 h6)) (pw_none))) (pw_none)
theorem rn_gX12_held_154 {G : jm_M → Prop} (hu : CLN G) (fu : Nat) (k37 : jm_M → Int → Int → Int → Int → Int → jm_R) (hk37 : ∀ (M : jm_M) (b0 b1 b2 b3 b4 : Int), G M → pw (k37 M b0 b1 b2 b3 b4) (G)) {M : jm_M} (l1 l2 l6 l7 l8 : Int) (h : G M) : pw (gX12_held_154 fu k37 M l1 l2 l6 l7 l8) (G) := by
  unfold gX12_held_154
  exact pw_ite (pw_ite (pw_s (P := G) (hu _ _ _ _ _ (Or.inl ⟨by decide, by decide⟩) h) (fun M4 h4 => pw_ite (pw_ite (rn_gX12_held_181 hu fu k37 hk37 l1 l2 l6 l7 l8 0 (M4 51 0 l1) l1 h4) (rn_gX12_held_181 hu fu k37 hk37 l1 l2 l6 l7 l8 1 (M4 51 0 l1) l1 h4)) (pw_none))) (pw_none)) (pw_none)
theorem rn_gX12_held_103 {G : jm_M → Prop} (hu : CLN G) (fu : Nat) (k37 : jm_M → Int → Int → Int → Int → Int → jm_R) (hk37 : ∀ (M : jm_M) (b0 b1 b2 b3 b4 : Int), G M → pw (k37 M b0 b1 b2 b3 b4) (G)) {M : jm_M} (l1 l2 l6 l7 l8 l9 s0 : Int) (h : G M) : pw (gX12_held_103 fu k37 M l1 l2 l6 l7 l8 l9 s0) (G) := by
  unfold gX12_held_103
  exact pw_ite (rn_gX12_held_134 hu fu l1 l9 h) (pw_ite (rn_gX12_held_134 hu fu l1 l9 h) (pw_ite (rn_gX12_held_154 hu fu k37 hk37 l1 l2 l6 l7 l8 h) (pw_ite (pw_ite (rn_gX12_held_134 hu fu l1 l9 h) (rn_gX12_held_154 hu fu k37 hk37 l1 l2 l6 l7 l8 h)) (pw_none))))
theorem rn_gX12_held_37 {G : jm_M → Prop} (hu : CLN G) (fu : Nat) (k37 : jm_M → Int → Int → Int → Int → Int → jm_R) (hk37 : ∀ (M : jm_M) (b0 b1 b2 b3 b4 : Int), G M → pw (k37 M b0 b1 b2 b3 b4) (G)) {M : jm_M} (l1 l2 l6 l7 l8 : Int) (h : G M) : pw (gX12_held_37 fu k37 M l1 l2 l6 l7 l8) (G) := by
  unfold gX12_held_37
  exact pw_ite (pw_ret h) (pw_ite (pw_e (fun v4 => pw_ite (pw_ite (pw_ite (pw_ite (pw_ite (pw_ite (rn_gX12_held_103 hu fu k37 hk37 l1 l2 l6 l7 l8 v4 (M 2 0 l2) h) (pw_none)) (rn_gX12_held_103 hu fu k37 hk37 l1 l2 l6 l7 l8 v4 0 h)) (pw_none)) (pw_none)) (pw_ret h)) (pw_none))) (pw_none))
theorem rn_fX12_held_37 {G : jm_M → Prop} (hu : CLN G) (fu : Nat) : ∀ (n : Nat) {M : jm_M} (a0 a1 a2 a3 a4 : Int), G M → pw (fX12_held_37 fu n M a0 a1 a2 a3 a4) (G) := by
  intro n
  induction n with
  | zero => intro M a0 a1 a2 a3 a4 h; exact pw_none
  | succ n ih =>
    intro M a0 a1 a2 a3 a4 h
    exact rn_gX12_held_37 hu fu (fX12_held_37 fu n) (fun M a0 a1 a2 a3 a4 h => ih a0 a1 a2 a3 a4 h) a0 a1 a2 a3 a4 h
theorem rn_gX12_held_23 {G : jm_M → Prop} (hu : CLN G) (fu : Nat) {M : jm_M} (l1 l2 l6 s0 : Int) (h : G M) : pw (gX12_held_23 fu M l1 l2 l6 s0) (G) := by
  unfold gX12_held_23
  exact pw_b (rn_fX12_latest hu fu l1 l2 (M 0 0 70) h) (fun v2 M3 h3 => rn_fX12_held_37 hu fu fu l1 l2 l6 s0 v2 h3)
theorem rn_fX12_held {G : jm_M → Prop} (hu : CLN G) (fu : Nat) {M : jm_M} (l1 l2 l3 l4 l5 : Int) (h : G M) : pw (fX12_held fu M l1 l2 l3 l4 l5) (G) := by
  unfold fX12_held
  exact pw_ite (pw_b (rn_fX12_isYellow hu fu l2 l3 h) (fun v2 M3 h3 => pw_ite (rn_gX12_held_23 hu fu l1 l2 l4 0 h3) (rn_gX12_held_23 hu fu l1 l2 l4 1 h3))) (rn_gX12_held_23 hu fu l1 l2 l4 1 h)
theorem rn_gX12_endsLap_19 {G : jm_M → Prop} (hu : CLN G) (fu : Nat) {M : jm_M} (l1 l3 : Int) (h : G M) : pw (gX12_endsLap_19 fu M l1 l3) (G) := by
  unfold gX12_endsLap_19
  exact pw_ite (pw_s (P := G) (hu _ _ _ _ _ (Or.inl ⟨by decide, by decide⟩) h) (fun M2 h2 => pw_ite (pw_s (P := G) (hu _ _ _ _ _ (Or.inl ⟨by decide, by decide⟩) h2) (fun M4 h4 => pw_ret h4)) (pw_none))) (pw_none)
theorem rn_gX12_isOver_5 {G : jm_M → Prop} (hu : CLN G) (fu : Nat) (k5 : jm_M → Int → Int → Int → Int → jm_R) (hk5 : ∀ (M : jm_M) (b0 b1 b2 b3 : Int), G M → pw (k5 M b0 b1 b2 b3) (G)) {M : jm_M} (l1 l2 l3 l4 : Int) (h : G M) : pw (gX12_isOver_5 fu k5 M l1 l2 l3 l4) (G) := by
  unfold gX12_isOver_5
  exact pw_ite (pw_ite (pw_ret h) (pw_none)) (pw_ite (pw_e (fun v7 => pw_ite (pw_ite (pw_e (fun v11 => hk5 M l1 l2 0 v11 h)) (pw_ite (pw_e (fun v14 => hk5 M l1 l2 0 v14 h)) (pw_ite (pw_e (fun v17 => hk5 M l1 l2 0 v17 h)) (pw_e (fun v19 => hk5 M l1 l2 1 v19 h))))) (pw_e (fun v21 => hk5 M l1 l2 1 v21 h)))) (pw_none))
theorem rn_fX12_isOver_5 {G : jm_M → Prop} (hu : CLN G) (fu : Nat) : ∀ (n : Nat) {M : jm_M} (a0 a1 a2 a3 : Int), G M → pw (fX12_isOver_5 fu n M a0 a1 a2 a3) (G) := by
  intro n
  induction n with
  | zero => intro M a0 a1 a2 a3 h; exact pw_none
  | succ n ih =>
    intro M a0 a1 a2 a3 h
    exact rn_gX12_isOver_5 hu fu (fX12_isOver_5 fu n) (fun M a0 a1 a2 a3 h => ih a0 a1 a2 a3 h) a0 a1 a2 a3 h
theorem rn_fX12_isOver {G : jm_M → Prop} (hu : CLN G) (fu : Nat) {M : jm_M} (l1 l2 : Int) (h : G M) : pw (fX12_isOver fu M l1 l2) (G) := by
  unfold fX12_isOver
  exact rn_fX12_isOver_5 hu fu fu l1 l2 0 0 h
theorem rn_gX12_boxes_132 {G : jm_M → Prop} (hu : CLN G) (fu : Nat) {M : jm_M} (l1 l7 l8 s0 s1 : Int) (h : G M) : pw (gX12_boxes_132 fu M l1 l7 l8 s0 s1) (G) := by
  unfold gX12_boxes_132
  exact pw_ite (pw_s (P := G) (hu _ _ _ _ _ (Or.inl ⟨by decide, by decide⟩) h) (fun M2 h2 => pw_ite (pw_ite (pw_s (P := G) (hu _ _ _ _ _ (Or.inl ⟨by decide, by decide⟩) h2) (fun M6 h6 => pw_ite (pw_ite (pw_s (P := G) (hu _ _ _ _ _ (Or.inl ⟨by decide, by decide⟩) h6) (fun M10 h10 => pw_ite (pw_s (P := G) (hu _ _ _ _ _ (Or.inl ⟨by decide, by decide⟩) h10) (fun M12 h12 => pw_ite (pw_ite (pw_s (P := G) (hu _ _ _ _ _ (Or.inl ⟨by decide, by decide⟩) h12) (fun M16 h16 => pw_ret h16)) (pw_none)) (pw_none))) (pw_none))) (pw_none)) (pw_none))) (pw_none)) (pw_none))) (pw_none)
theorem rn_gX12_boxes_99 {G : jm_M → Prop} (hu : CLN G) (fu : Nat) {M : jm_M} (l1 l2 l6 l7 s0 s1 : Int) (h : G M) : pw (gX12_boxes_99 fu M l1 l2 l6 l7 s0 s1) (G) := by
  unfold gX12_boxes_99
  exact pw_ite (pw_e (fun v3 => pw_ite (pw_ite (rn_gX12_boxes_132 hu fu l1 l7 v3 (M 45 0 l1) l1 h) (pw_none)) (rn_gX12_boxes_132 hu fu l1 l7 v3 l2 l1 h))) (pw_none)
theorem rn_gX12_boxes_61 {G : jm_M → Prop} (hu : CLN G) (fu : Nat) {M : jm_M} (l1 l2 l3 l5 s0 : Int) (h : G M) : pw (gX12_boxes_61 fu M l1 l2 l3 l5 s0) (G) := by
  unfold gX12_boxes_61
  exact pw_ite (pw_ite (pw_e (fun v5 => pw_ite (rn_gX12_boxes_99 hu fu l1 l2 s0 v5 0 l5 h) (pw_ite (rn_gX12_boxes_99 hu fu l1 l2 s0 v5 (M 5 0 4) l5 h) (pw_none)))) (pw_none)) (pw_none)
theorem rn_fX12_boxes {G : jm_M → Prop} (hu : CLN G) (fu : Nat) {M : jm_M} (l1 l2 l3 l4 : Int) (h : G M) : pw (fX12_boxes fu M l1 l2 l3 l4) (G) := by
  unfold fX12_boxes
  exact pw_ite (pw_ite (pw_e (fun v5 => pw_ite (pw_ite (pw_s (P := G) (hu _ _ _ _ _ (Or.inl ⟨by decide, by decide⟩) h) (fun M10 h10 => pw_ite (rn_gX12_boxes_61 hu fu l1 l2 l3 v5 0 h10) (pw_ite (pw_ite (rn_gX12_boxes_61 hu fu l1 l2 l3 v5 0 h10) (pw_ite (pw_ite (rn_gX12_boxes_61 hu fu l1 l2 l3 v5 0 h10) (rn_gX12_boxes_61 hu fu l1 l2 l3 v5 1 h10)) (pw_none))) (pw_none)))) (pw_none)) (pw_none))) (pw_none)) (pw_none)
theorem rn_gX12_endsLap_92 {G : jm_M → Prop} (hu : CLN G) (fu : Nat) (k92 : jm_M → Int → Int → Int → Int → Int → Int → jm_R) (hk92 : ∀ (M : jm_M) (b0 b1 b2 b3 b4 b5 : Int), G M → pw (k92 M b0 b1 b2 b3 b4 b5) (G)) {M : jm_M} (l1 l2 l3 l4 l5 l6 : Int) (h : G M) : pw (gX12_endsLap_92 fu k92 M l1 l2 l3 l4 l5 l6) (G) := by
  unfold gX12_endsLap_92
  exact pw_ite (pw_ite (pw_ite (pw_ret h) (pw_ite (pw_b (rn_fX12_boxes hu fu l1 l4 l5 (jm_w (l3 + (M 5 0 3))) h) (fun v7 M8 h8 => pw_ret h8)) (pw_none))) (pw_ite (pw_ite (pw_ite (pw_e (fun v14 => pw_ite (pw_e (fun v18 => pw_e (fun v20 => hk92 M l1 l2 l3 v14 v18 v20 h))) (pw_none))) (pw_none)) (pw_e (fun v22 => hk92 M l1 l2 l3 l4 l5 v22 h))) (pw_none))) (pw_none)
theorem rn_fX12_endsLap_92 {G : jm_M → Prop} (hu : CLN G) (fu : Nat) : ∀ (n : Nat) {M : jm_M} (a0 a1 a2 a3 a4 a5 : Int), G M → pw (fX12_endsLap_92 fu n M a0 a1 a2 a3 a4 a5) (G) := by
  intro n
  induction n with
  | zero => intro M a0 a1 a2 a3 a4 a5 h; exact pw_none
  | succ n ih =>
    intro M a0 a1 a2 a3 a4 a5 h
    exact rn_gX12_endsLap_92 hu fu (fX12_endsLap_92 fu n) (fun M a0 a1 a2 a3 a4 a5 h => ih a0 a1 a2 a3 a4 a5 h) a0 a1 a2 a3 a4 a5 h
theorem rn_fX12_truth {G : jm_M → Prop} (hu : CLN G) {M : jm_M} (l0 : Int) (h : G M) : pw (fX12_truth M l0) (G) := by
  unfold fX12_truth
  exact pw_ite (pw_ret h) (pw_ret h)
theorem rn_gX12_speaks_146 {G : jm_M → Prop} (hu : CLN G) (fu : Nat) {M : jm_M} (l1 l3 l4 l7 s0 s1 : Int) (h : G M) : pw (gX12_speaks_146 fu M l1 l3 l4 l7 s0 s1) (G) := by
  unfold gX12_speaks_146
  exact pw_ite (pw_s (P := G) (hu _ _ _ _ _ (Or.inl ⟨by decide, by decide⟩) h) (fun M2 h2 => pw_ite (pw_ite (pw_s (P := G) (hu _ _ _ _ _ (Or.inl ⟨by decide, by decide⟩) h2) (fun M6 h6 => pw_ite (pw_ite (pw_s (P := G) (hu _ _ _ _ _ (Or.inl ⟨by decide, by decide⟩) h6) (fun M12 h12 => pw_ite (pw_ite (pw_s (P := G) (hu _ _ _ _ _ (Or.inl ⟨by decide, by decide⟩) h12) (fun M16 h16 => pw_ite (pw_ite (pw_s (P := G) (hu _ _ _ _ _ (Or.inl ⟨by decide, by decide⟩) h16) (fun M20 h20 => pw_b (rn_fX12_wet hu fu 0 l3 h20) (fun v21 M22 h22 => pw_ite (pw_s (P := G) (hu _ _ _ _ _ (Or.inl ⟨by decide, by decide⟩) h22) (fun M25 h25 => pw_b (rn_fX12_isSlow hu fu l3 h25) (fun v26 M27 h27 => pw_b (rn_fX12_truth hu  v26 h27) (fun v29 M30 h30 => pw_ite (pw_s (P := G) (hu _ _ _ _ _ (Or.inl ⟨by decide, by decide⟩) h30) (fun M33 h33 => pw_b (rn_fX12_isYellow hu fu (-1) l3 h33) (fun v34 M35 h35 => pw_b (rn_fX12_truth hu  v34 h35) (fun v37 M38 h38 => pw_ite (pw_s (P := G) (hu _ _ _ _ _ (Or.inl ⟨by decide, by decide⟩) h38) (fun M41 h41 => pw_ite (pw_ite (pw_s (P := G) (hu _ _ _ _ _ (Or.inl ⟨by decide, by decide⟩) h41) (fun M45 h45 => pw_ite (pw_ite (pw_ite (pw_ite (pw_b (rn_fX12_truth hu  0 h45) (fun v53 M54 h54 => pw_ite (pw_s (P := G) (hu _ _ _ _ _ (Or.inl ⟨by decide, by decide⟩) h54) (fun M57 h57 => pw_ret h57)) (pw_none))) (pw_b (rn_fX12_truth hu  1 h45) (fun v58 M59 h59 => pw_ite (pw_s (P := G) (hu _ _ _ _ _ (Or.inl ⟨by decide, by decide⟩) h59) (fun M62 h62 => pw_ret h62)) (pw_none)))) (pw_none)) (pw_none)) (pw_none))) (pw_none)) (pw_none))) (pw_none))))) (pw_none))))) (pw_none)))) (pw_none)) (pw_none))) (pw_none)) (pw_none))) (pw_none)) (pw_none))) (pw_none)) (pw_none))) (pw_none)
theorem rn_gX12_speaks_21 {G : jm_M → Prop} (hu : CLN G) (fu : Nat) (k21 : jm_M → Int → Int → Int → Int → Int → Int → Int → jm_R) (hk21 : ∀ (M : jm_M) (b0 b1 b2 b3 b4 b5 b6 : Int), G M → pw (k21 M b0 b1 b2 b3 b4 b5 b6) (G)) {M : jm_M} (l1 l2 l3 l4 l5 l6 l7 : Int) (h : G M) : pw (gX12_speaks_21 fu k21 M l1 l2 l3 l4 l5 l6 l7) (G) := by
  unfold gX12_speaks_21
  exact pw_ite (pw_ite (pw_e (fun v5 => pw_ite (pw_s (P := G) (hu _ _ _ _ _ (Or.inl ⟨by decide, by decide⟩) h) (fun M8 h8 => pw_ite (pw_s (P := G) (hu _ _ _ _ _ (Or.inl ⟨by decide, by decide⟩) h8) (fun M11 h11 => pw_ite (pw_s (P := G) (hu _ _ _ _ _ (Or.inl ⟨by decide, by decide⟩) h11) (fun M13 h13 => pw_ite (rn_gX12_speaks_146 hu fu l1 l3 l4 v5 (jm_div (jm_w (l3 - l6)) 100) 3 h13) (rn_gX12_speaks_146 hu fu l1 l3 l4 v5 999 3 h13))) (pw_none))) (pw_none))) (pw_none))) (pw_none)) (pw_ite (pw_e (fun v17 => pw_ite (pw_e (fun v20 => hk21 M l1 l2 l3 l4 l5 l6 v20 h)) (pw_ite (pw_e (fun v23 => hk21 M l1 l2 l3 l4 l5 l6 v23 h)) (pw_ite (pw_e (fun v26 => hk21 M l1 l2 l3 l4 l5 l6 v26 h)) (pw_e (fun v28 => pw_e (fun v30 => pw_e (fun v32 => hk21 M l1 l2 l3 l4 v28 v30 v32 h)))))))) (pw_none))
theorem rn_fX12_speaks_21 {G : jm_M → Prop} (hu : CLN G) (fu : Nat) : ∀ (n : Nat) {M : jm_M} (a0 a1 a2 a3 a4 a5 a6 : Int), G M → pw (fX12_speaks_21 fu n M a0 a1 a2 a3 a4 a5 a6) (G) := by
  intro n
  induction n with
  | zero => intro M a0 a1 a2 a3 a4 a5 a6 h; exact pw_none
  | succ n ih =>
    intro M a0 a1 a2 a3 a4 a5 a6 h
    exact rn_gX12_speaks_21 hu fu (fX12_speaks_21 fu n) (fun M a0 a1 a2 a3 a4 a5 a6 h => ih a0 a1 a2 a3 a4 a5 a6 h) a0 a1 a2 a3 a4 a5 a6 h
theorem rn_fX12_speaks {G : jm_M → Prop} (hu : CLN G) (fu : Nat) {M : jm_M} (l1 l2 l3 : Int) (h : G M) : pw (fX12_speaks fu M l1 l2 l3) (G) := by
  unfold fX12_speaks
  exact pw_e (fun v2 => rn_fX12_speaks_21 hu fu fu l1 l2 l3 v2 1 (-1) 0 h)
theorem rn_fX12_act {G : jm_M → Prop} (hu : CLN G) {M : jm_M} (l0 : Int) (h : G M) : pw (fX12_act M l0) (G) := by
  unfold fX12_act
  exact pw_ret h
theorem rn_fX12_acted {G : jm_M → Prop} (hu : CLN G) {M : jm_M} (l0 l1 l2 : Int) (h : G M) : pw (fX12_acted M l0 l1 l2) (G) := by
  unfold fX12_acted
  exact pw_ite (pw_ite (pw_b (rn_fX12_truth hu  0 h) (fun v3 M4 h4 => pw_ret h4)) (pw_ite (pw_b (rn_fX12_truth hu  0 h) (fun v7 M8 h8 => pw_ret h8)) (pw_b (rn_fX12_truth hu  1 h) (fun v10 M11 h11 => pw_ret h11)))) (pw_ite (pw_ret h) (pw_ite (pw_ret h) (pw_ite (pw_ret h) (pw_ite (pw_ite (pw_b (rn_fX12_truth hu  0 h) (fun v18 M19 h19 => pw_ret h19)) (pw_b (rn_fX12_truth hu  1 h) (fun v21 M22 h22 => pw_ret h22))) (pw_ite (pw_ite (pw_b (rn_fX12_truth hu  1 h) (fun v26 M27 h27 => pw_ret h27)) (pw_b (rn_fX12_truth hu  0 h) (fun v29 M30 h30 => pw_ret h30))) (pw_ite (pw_ite (pw_b (rn_fX12_truth hu  0 h) (fun v34 M35 h35 => pw_ret h35)) (pw_b (rn_fX12_truth hu  1 h) (fun v37 M38 h38 => pw_ret h38))) (pw_ite (pw_ite (pw_b (rn_fX12_truth hu  0 h) (fun v43 M44 h44 => pw_ret h44)) (pw_b (rn_fX12_truth hu  1 h) (fun v46 M47 h47 => pw_ret h47))) (pw_b (rn_fX12_truth hu  1 h) (fun v49 M50 h50 => pw_ret h50)))))))))
theorem rn_gX12_gives_5 {G : jm_M → Prop} (hu : CLN G) (fu : Nat) (k5 : jm_M → Int → Int → Int → jm_R) (hk5 : ∀ (M : jm_M) (b0 b1 b2 : Int), G M → pw (k5 M b0 b1 b2) (G)) {M : jm_M} (l2 l3 l4 : Int) (h : G M) : pw (gX12_gives_5 fu k5 M l2 l3 l4) (G) := by
  unfold gX12_gives_5
  exact pw_ite (pw_s (P := G) (hu _ _ _ _ _ (Or.inr (Or.inr (Or.inr (Or.inr (Or.inr (⟨rfl, (Or.inr (Or.inl rfl))⟩)))))) h) (fun M2 h2 => pw_ite (pw_ret h2) (pw_none))) (pw_ite (pw_ite (pw_s (P := G) (hu _ _ _ _ _ (Or.inr (Or.inr (Or.inr (Or.inr (Or.inr (⟨rfl, (Or.inr (Or.inl rfl))⟩)))))) h) (fun M8 h8 => pw_ite (pw_ret h8) (pw_none))) (pw_ite (pw_e (fun v13 => pw_ite (pw_ite (pw_b (rn_fX12_act hu  33 h) (fun v17 M18 h18 => pw_ite (pw_ite (pw_ite (pw_b (rn_fX12_truth hu  1 h18) (fun v24 M25 h25 => pw_ite (pw_s (P := G) (hu _ _ _ _ _ (Or.inl ⟨by decide, by decide⟩) h25) (fun M28 h28 => pw_e (fun v29 => hk5 M28 l2 l3 v29 h28))) (pw_none))) (pw_b (rn_fX12_truth hu  0 h18) (fun v31 M32 h32 => pw_ite (pw_s (P := G) (hu _ _ _ _ _ (Or.inl ⟨by decide, by decide⟩) h32) (fun M35 h35 => pw_e (fun v36 => hk5 M35 l2 l3 v36 h35))) (pw_none)))) (pw_none)) (pw_b (rn_fX12_act hu  126 h18) (fun v38 M39 h39 => pw_ite (pw_ite (pw_ite (pw_s (P := G) (hu _ _ _ _ _ (Or.inl ⟨by decide, by decide⟩) h39) (fun M45 h45 => pw_e (fun v46 => hk5 M45 l2 l3 v46 h45))) (pw_none)) (pw_none)) (pw_e (fun v48 => pw_ite (pw_ite (pw_b (rn_fX12_acted hu  (jm_w (v13 + 200)) (M39 37 0 (jm_w (v48 - 1))) (M39 37 0 v48) h39) (fun v54 M55 h55 => pw_ite (pw_s (P := G) (hu _ _ _ _ _ (Or.inl ⟨by decide, by decide⟩) h55) (fun M58 h58 => pw_e (fun v59 => hk5 M58 l2 v48 v59 h58))) (pw_none))) (pw_none)) (pw_none))))))) (pw_ite (pw_ite (pw_s (P := G) (hu _ _ _ _ _ (Or.inl ⟨by decide, by decide⟩) h) (fun M64 h64 => pw_e (fun v65 => pw_e (fun v67 => hk5 M64 l2 v65 v67 h64)))) (pw_none)) (pw_none))) (pw_ite (pw_s (P := G) (hu _ _ _ _ _ (Or.inl ⟨by decide, by decide⟩) h) (fun M70 h70 => pw_e (fun v71 => pw_e (fun v73 => hk5 M70 l2 v71 v73 h70)))) (pw_none)))) (pw_none))) (pw_none))
theorem rn_fX12_gives_5 {G : jm_M → Prop} (hu : CLN G) (fu : Nat) : ∀ (n : Nat) {M : jm_M} (a0 a1 a2 : Int), G M → pw (fX12_gives_5 fu n M a0 a1 a2) (G) := by
  intro n
  induction n with
  | zero => intro M a0 a1 a2 h; exact pw_none
  | succ n ih =>
    intro M a0 a1 a2 h
    exact rn_gX12_gives_5 hu fu (fX12_gives_5 fu n) (fun M a0 a1 a2 h => ih a0 a1 a2 h) a0 a1 a2 h
theorem rn_fX12_gives {G : jm_M → Prop} (hu : CLN G) (fu : Nat) {M : jm_M} (l1 l2 : Int) (h : G M) : pw (fX12_gives fu M l1 l2) (G) := by
  unfold fX12_gives
  exact rn_fX12_gives_5 hu fu fu l2 0 l1 h
theorem rn_gX12_asks_156 {G : jm_M → Prop} (hu : CLN G) (fu : Nat) (k27 : jm_M → Int → Int → Int → Int → Int → jm_R) (hk27 : ∀ (M : jm_M) (b0 b1 b2 b3 b4 : Int), G M → pw (k27 M b0 b1 b2 b3 b4) (G)) (k64 : jm_M → Int → Int → Int → Int → Int → Int → Int → jm_R) (hk64 : ∀ (M : jm_M) (b0 b1 b2 b3 b4 b5 b6 : Int), G M → pw (k64 M b0 b1 b2 b3 b4 b5 b6) (G)) {M : jm_M} (l1 l2 l4 l5 l6 l7 l8 l9 s0 s1 : Int) (h : G M) : pw (gX12_asks_156 fu k27 k64 M l1 l2 l4 l5 l6 l7 l8 l9 s0 s1) (G) := by
  unfold gX12_asks_156
  exact pw_ite (pw_s (P := G) (hu _ _ _ _ _ (Or.inl ⟨by decide, by decide⟩) h) (fun M2 h2 => pw_ite (pw_ite (pw_s (P := G) (hu _ _ _ _ _ (Or.inl ⟨by decide, by decide⟩) h2) (fun M5 h5 => pw_e (fun v6 => hk64 M5 l1 l2 v6 l5 l6 l7 l8 h5))) (pw_none)) (pw_ite (pw_ite (pw_s (P := G) (hu _ _ _ _ _ (Or.inl ⟨by decide, by decide⟩) h2) (fun M10 h10 => pw_e (fun v11 => hk64 M10 l1 l2 v11 l5 l6 l7 l8 h10))) (pw_none)) (pw_ite (pw_ite (pw_s (P := G) (hu _ _ _ _ _ (Or.inl ⟨by decide, by decide⟩) h2) (fun M16 h16 => pw_e (fun v17 => hk64 M16 l1 l2 v17 l5 l6 l7 l8 h16))) (pw_none)) (pw_none))))) (pw_none)
theorem rn_gX12_asks_110 {G : jm_M → Prop} (hu : CLN G) (fu : Nat) (k27 : jm_M → Int → Int → Int → Int → Int → jm_R) (hk27 : ∀ (M : jm_M) (b0 b1 b2 b3 b4 : Int), G M → pw (k27 M b0 b1 b2 b3 b4) (G)) (k64 : jm_M → Int → Int → Int → Int → Int → Int → Int → jm_R) (hk64 : ∀ (M : jm_M) (b0 b1 b2 b3 b4 b5 b6 : Int), G M → pw (k64 M b0 b1 b2 b3 b4 b5 b6) (G)) {M : jm_M} (l1 l2 l4 l5 l6 l7 l9 s0 : Int) (h : G M) : pw (gX12_asks_110 fu k27 k64 M l1 l2 l4 l5 l6 l7 l9 s0) (G) := by
  unfold gX12_asks_110
  exact pw_ite (rn_gX12_asks_156 hu fu k27 hk27 k64 hk64 l1 l2 l4 l5 l6 l7 s0 l9 1 l1 h) (pw_ite (rn_gX12_asks_156 hu fu k27 hk27 k64 hk64 l1 l2 l4 l5 l6 l7 s0 l9 0 l1 h) (pw_ite (rn_gX12_asks_156 hu fu k27 hk27 k64 hk64 l1 l2 l4 l5 l6 l7 s0 l9 (-1) l1 h) (pw_ite (rn_gX12_asks_156 hu fu k27 hk27 k64 hk64 l1 l2 l4 l5 l6 l7 s0 l9 (M 47 0 l1) l1 h) (pw_none))))
theorem rn_gX12_asks_64 {G : jm_M → Prop} (hu : CLN G) (fu : Nat) (k27 : jm_M → Int → Int → Int → Int → Int → jm_R) (hk27 : ∀ (M : jm_M) (b0 b1 b2 b3 b4 : Int), G M → pw (k27 M b0 b1 b2 b3 b4) (G)) (k64 : jm_M → Int → Int → Int → Int → Int → Int → Int → jm_R) (hk64 : ∀ (M : jm_M) (b0 b1 b2 b3 b4 b5 b6 : Int), G M → pw (k64 M b0 b1 b2 b3 b4 b5 b6) (G)) {M : jm_M} (l1 l2 l4 l5 l6 l7 l8 : Int) (h : G M) : pw (gX12_asks_64 fu k27 k64 M l1 l2 l4 l5 l6 l7 l8) (G) := by
  unfold gX12_asks_64
  exact pw_ite (pw_ite (pw_e (fun v4 => pw_ite (pw_e (fun v7 => hk27 M l1 l2 v4 l5 v7 h)) (pw_ite (pw_s (P := G) (hu _ _ _ _ _ (Or.inl ⟨by decide, by decide⟩) h) (fun M10 h10 => pw_ret h10)) (pw_none)))) (pw_ite (pw_e (fun v12 => hk64 M l1 l2 v12 l5 l6 l7 l8 h)) (pw_ite (pw_e (fun v16 => pw_ite (rn_gX12_asks_110 hu fu k27 hk27 k64 hk64 l1 l2 l4 l5 l6 l7 v16 l8 h) (rn_gX12_asks_110 hu fu k27 hk27 k64 hk64 l1 l2 l4 l5 l6 l7 v16 (jm_w (v16 - 1000)) h))) (pw_none)))) (pw_none)
theorem rn_fX12_asks_64 {G : jm_M → Prop} (hu : CLN G) (fu : Nat) (k27 : jm_M → Int → Int → Int → Int → Int → jm_R) (hk27 : ∀ (M : jm_M) (b0 b1 b2 b3 b4 : Int), G M → pw (k27 M b0 b1 b2 b3 b4) (G)) : ∀ (n : Nat) {M : jm_M} (a0 a1 a2 a3 a4 a5 a6 : Int), G M → pw (fX12_asks_64 fu k27 n M a0 a1 a2 a3 a4 a5 a6) (G) := by
  intro n
  induction n with
  | zero => intro M a0 a1 a2 a3 a4 a5 a6 h; exact pw_none
  | succ n ih =>
    intro M a0 a1 a2 a3 a4 a5 a6 h
    exact rn_gX12_asks_64 hu fu k27 hk27 (fX12_asks_64 fu k27 n) (fun M a0 a1 a2 a3 a4 a5 a6 h => ih a0 a1 a2 a3 a4 a5 a6 h) a0 a1 a2 a3 a4 a5 a6 h
theorem rn_gX12_asks_50 {G : jm_M → Prop} (hu : CLN G) (fu : Nat) (k27 : jm_M → Int → Int → Int → Int → Int → jm_R) (hk27 : ∀ (M : jm_M) (b0 b1 b2 b3 b4 : Int), G M → pw (k27 M b0 b1 b2 b3 b4) (G)) {M : jm_M} (l1 l2 l5 l6 s0 : Int) (h : G M) : pw (gX12_asks_50 fu k27 M l1 l2 l5 l6 s0) (G) := by
  unfold gX12_asks_50
  exact pw_e (fun v2 => rn_fX12_asks_64 hu fu k27 hk27 fu l1 l2 v2 l5 l6 s0 (-2) h)
theorem rn_gX12_asks_27 {G : jm_M → Prop} (hu : CLN G) (fu : Nat) (k27 : jm_M → Int → Int → Int → Int → Int → jm_R) (hk27 : ∀ (M : jm_M) (b0 b1 b2 b3 b4 : Int), G M → pw (k27 M b0 b1 b2 b3 b4) (G)) {M : jm_M} (l1 l2 l4 l5 l6 : Int) (h : G M) : pw (gX12_asks_27 fu k27 M l1 l2 l4 l5 l6) (G) := by
  unfold gX12_asks_27
  exact pw_ite (pw_ret h) (pw_b (rn_fX12_gives hu fu l4 l5 h) (fun v2 M3 h3 => pw_ite (rn_gX12_asks_50 hu fu k27 hk27 l1 l2 l5 l6 0 h3) (rn_gX12_asks_50 hu fu k27 hk27 l1 l2 l5 l6 1 h3)))
theorem rn_fX12_asks_27 {G : jm_M → Prop} (hu : CLN G) (fu : Nat) : ∀ (n : Nat) {M : jm_M} (a0 a1 a2 a3 a4 : Int), G M → pw (fX12_asks_27 fu n M a0 a1 a2 a3 a4) (G) := by
  intro n
  induction n with
  | zero => intro M a0 a1 a2 a3 a4 h; exact pw_none
  | succ n ih =>
    intro M a0 a1 a2 a3 a4 h
    exact rn_gX12_asks_27 hu fu (fX12_asks_27 fu n) (fun M a0 a1 a2 a3 a4 h => ih a0 a1 a2 a3 a4 h) a0 a1 a2 a3 a4 h
theorem rn_fX12_asks {G : jm_M → Prop} (hu : CLN G) (fu : Nat) {M : jm_M} (l1 l2 l3 : Int) (h : G M) : pw (fX12_asks fu M l1 l2 l3) (G) := by
  unfold fX12_asks
  exact pw_b (rn_fX12_speaks hu fu l1 l2 l3 h) (fun v1 M2 h2 => pw_e (fun v3 => pw_ite (pw_e (fun v7 => rn_fX12_asks_27 hu fu fu l1 l2 v3 v7 0 h2)) (pw_none)))
theorem rn_fX12_endsLap {G : jm_M → Prop} (hu : CLN G) (fu : Nat) {M : jm_M} (l1 l2 l3 : Int) (h : G M) : pw (fX12_endsLap fu M l1 l2 l3) (G) := by
  unfold fX12_endsLap
  exact pw_ite (rn_gX12_endsLap_19 hu fu l1 l3 h) (pw_b (rn_fX12_isOver hu fu l1 l3 h) (fun v3 M4 h4 => pw_ite (pw_ite (pw_ite (pw_e (fun v10 => rn_fX12_endsLap_92 hu fu fu l1 l2 l3 (-2) 0 v10 h4)) (pw_ite (pw_ite (pw_b (rn_fX12_asks hu fu l1 l2 l3 h4) (fun v15 M16 h16 => pw_ite (pw_e (fun v19 => rn_fX12_endsLap_92 hu fu fu l1 l2 l3 v15 0 v19 h16)) (pw_ite (pw_e (fun v23 => pw_e (fun v25 => rn_fX12_endsLap_92 hu fu fu l1 l2 l3 v15 v23 v25 h16))) (pw_none)))) (pw_e (fun v27 => rn_fX12_endsLap_92 hu fu fu l1 l2 l3 (-2) 0 v27 h4))) (pw_none))) (pw_none)) (rn_gX12_endsLap_19 hu fu l1 l3 h4)))
theorem rn_gX12_goes_180 {G : jm_M → Prop} (hu : CLN G) (fu : Nat) {M : jm_M} (l1 l3 l4 l7 s0 s1 s2 : Int) (h : G M) : pw (gX12_goes_180 fu M l1 l3 l4 l7 s0 s1 s2) (G) := by
  unfold gX12_goes_180
  exact pw_ite (pw_s (P := G) (hu _ _ _ _ _ (Or.inl ⟨by decide, by decide⟩) h) (fun M2 h2 => pw_ite (pw_s (P := G) (hu _ _ _ _ _ (Or.inl ⟨by decide, by decide⟩) h2) (fun M5 h5 => pw_ite (pw_s (P := G) (hu _ _ _ _ _ (Or.inl ⟨by decide, by decide⟩) h5) (fun M7 h7 => pw_s (P := G) (hu _ _ _ _ _ (Or.inr (Or.inr (Or.inr (Or.inr (Or.inr (⟨rfl, (Or.inr (Or.inr (Or.inl rfl)))⟩)))))) h7) (fun M9 h9 => pw_ite (pw_s (P := G) (hu _ _ _ _ _ (Or.inl ⟨by decide, by decide⟩) h9) (fun M11 h11 => pw_ite (pw_ite (pw_s (P := G) (hu _ _ _ _ _ (Or.inl ⟨by decide, by decide⟩) h11) (fun M15 h15 => pw_ite (pw_s (P := G) (hu _ _ _ _ _ (Or.inl ⟨by decide, by decide⟩) h15) (fun M17 h17 => pw_ite (pw_ite (pw_b (rn_fX12_endsLap hu fu l1 (jm_div l3 (M17 0 0 1)) l7 h17) (fun v22 M23 h23 => pw_ret h23)) (pw_none)) (pw_ret h17))) (pw_none))) (pw_none)) (pw_none))) (pw_none)))) (pw_none))) (pw_none))) (pw_none)
theorem rn_fX12_goes {G : jm_M → Prop} (hu : CLN G) (fu : Nat) {M : jm_M} (l1 l2 : Int) (h : G M) : pw (fX12_goes fu M l1 l2) (G) := by
  unfold fX12_goes
  exact pw_ite (pw_e (fun v3 => pw_ite (pw_e (fun v7 => pw_ite (pw_ite (pw_s (P := G) (hu _ _ _ _ _ (Or.inl ⟨by decide, by decide⟩) h) (fun M12 h12 => pw_b (rn_fX12_hears hu fu l1 v3 h12) (fun v13 M14 h14 => pw_ite (pw_ite (pw_ite (pw_ite (pw_s (P := G) (hu _ _ _ _ _ (Or.inl ⟨by decide, by decide⟩) h14) (fun M22 h22 => pw_ite (pw_ite (pw_e (fun v27 => pw_ite (pw_ite (pw_ite (pw_ite (pw_s (P := G) (hu _ _ _ _ _ (Or.inl ⟨by decide, by decide⟩) h22) (fun M35 h35 => pw_b (rn_fX12_isSlow hu fu l2 h35) (fun v36 M37 h37 => pw_b (rn_fX12_takes hu fu l1 v7 l2 v36 h37) (fun v39 M40 h40 => pw_b (rn_fX12_held hu fu l1 v7 l2 (jm_w (l2 + v39)) v36 h40) (fun v42 M43 h43 => pw_ite (pw_ite (pw_ite (pw_ite (pw_ite (rn_gX12_goes_180 hu fu l1 v3 v7 v42 2 (M43 46 0 (jm_w ((jm_w (4 * l1)) + (M43 45 0 l1)))) (jm_w ((jm_w (4 * l1)) + (M43 45 0 l1))) h43) (rn_gX12_goes_180 hu fu l1 v3 v7 v42 1 (M43 46 0 (jm_w ((jm_w (4 * l1)) + (M43 45 0 l1)))) (jm_w ((jm_w (4 * l1)) + (M43 45 0 l1))) h43)) (pw_none)) (rn_gX12_goes_180 hu fu l1 v3 v7 v42 0 (M43 46 0 (jm_w ((jm_w (4 * l1)) + (M43 45 0 l1)))) (jm_w ((jm_w (4 * l1)) + (M43 45 0 l1))) h43)) (pw_none)) (pw_none)))))) (pw_none)) (pw_none)) (pw_ite (pw_s (P := G) (hu _ _ _ _ _ (Or.inl ⟨by decide, by decide⟩) h22) (fun M54 h54 => pw_ite (pw_s (P := G) (hu _ _ _ _ _ (Or.inl ⟨by decide, by decide⟩) h54) (fun M56 h56 => pw_ret h56)) (pw_none))) (pw_none))) (pw_none))) (pw_none)) (pw_none))) (pw_none)) (pw_none)) (pw_none)) (pw_none)))) (pw_none)) (pw_none))) (pw_none))) (pw_none)
theorem rn_gX12_runs_9 {G : jm_M → Prop} (hu : CLN G) (fu : Nat) (k9 : jm_M → Int → jm_R) (hk9 : ∀ (M : jm_M) (b0 : Int), G M → pw (k9 M b0) (G)) {M : jm_M} (l1 : Int) (h : G M) : pw (gX12_runs_9 fu k9 M l1) (G) := by
  unfold gX12_runs_9
  exact pw_ite (pw_ret h) (pw_ite (pw_b (rn_fX12_goes hu fu l1 (M 41 0 l1) h) (fun v4 M5 h5 => pw_b (rn_fX12_next hu fu  h5) (fun v6 M7 h7 => hk9 M7 v6 h7))) (pw_none))
theorem rn_fX12_runs_9 {G : jm_M → Prop} (hu : CLN G) (fu : Nat) : ∀ (n : Nat) {M : jm_M} (a0 : Int), G M → pw (fX12_runs_9 fu n M a0) (G) := by
  intro n
  induction n with
  | zero => intro M a0 h; exact pw_none
  | succ n ih =>
    intro M a0 h
    exact rn_gX12_runs_9 hu fu (fX12_runs_9 fu n) (fun M a0 h => ih a0 h) a0 h
theorem rn_fX12_runs {G : jm_M → Prop} (hu : CLN G) (fu : Nat) {M : jm_M} (h : G M) : pw (fX12_runs fu M ) (G) := by
  unfold fX12_runs
  exact pw_b (rn_fX12_starts hu fu  h) (fun v1 M2 h2 => pw_b (rn_fX12_next hu fu  h2) (fun v3 M4 h4 => rn_fX12_runs_9 hu fu fu v3 h4))
theorem rn_fJ6_bitCount_0f7a4_w2 {G : jm_M → Prop} (hu : CLN G) {M : jm_M} (l0 : Int) (h : G M) : pw (fJ6_bitCount_0f7a4_w2 M l0) (G) := by
  unfold fJ6_bitCount_0f7a4_w2
  exact pw_e (fun v1 => pw_e (fun v3 => pw_e (fun v5 => pw_e (fun v7 => pw_e (fun v9 => pw_ret h)))))
theorem rn_gX12_weight_5 {G : jm_M → Prop} (hu : CLN G) (fu : Nat) (k5 : jm_M → Int → Int → Int → Int → jm_R) (hk5 : ∀ (M : jm_M) (b0 b1 b2 b3 : Int), G M → pw (k5 M b0 b1 b2 b3) (G)) {M : jm_M} (l1 l2 l3 l4 : Int) (h : G M) : pw (gX12_weight_5 fu k5 M l1 l2 l3 l4) (G) := by
  unfold gX12_weight_5
  exact pw_ite (pw_ite (pw_ite (pw_ret h) (pw_none)) (pw_ret h)) (pw_ite (pw_ite (pw_ite (pw_ite (pw_ite (pw_ite (pw_e (fun v15 => hk5 M l1 l2 l3 v15 h)) (pw_ite (pw_e (fun v18 => hk5 M l1 l2 l4 v18 h)) (pw_ite (pw_ite (pw_ite (pw_e (fun v25 => hk5 M l1 l2 l3 v25 h)) (pw_e (fun v27 => hk5 M l1 l2 l4 v27 h))) (pw_none)) (pw_none)))) (pw_none)) (pw_e (fun v29 => hk5 M l1 l2 l3 v29 h))) (pw_none)) (pw_e (fun v31 => hk5 M l1 l2 l3 v31 h))) (pw_none))
theorem rn_fX12_weight_5 {G : jm_M → Prop} (hu : CLN G) (fu : Nat) : ∀ (n : Nat) {M : jm_M} (a0 a1 a2 a3 : Int), G M → pw (fX12_weight_5 fu n M a0 a1 a2 a3) (G) := by
  intro n
  induction n with
  | zero => intro M a0 a1 a2 a3 h; exact pw_none
  | succ n ih =>
    intro M a0 a1 a2 a3 h
    exact rn_gX12_weight_5 hu fu (fX12_weight_5 fu n) (fun M a0 a1 a2 a3 h => ih a0 a1 a2 a3 h) a0 a1 a2 a3 h
theorem rn_fX12_weight {G : jm_M → Prop} (hu : CLN G) (fu : Nat) {M : jm_M} (l1 l2 : Int) (h : G M) : pw (fX12_weight fu M l1 l2) (G) := by
  unfold fX12_weight
  exact rn_fX12_weight_5 hu fu fu l1 l2 (-1) 0 h
theorem rn_gX12_secondsOf_136 {G : jm_M → Prop} (hu : CLN G) (fu : Nat) (k136 : jm_M → Int → Int → Int → jm_R) (hk136 : ∀ (M : jm_M) (b0 b1 b2 : Int), G M → pw (k136 M b0 b1 b2) (G)) {M : jm_M} (l2 l3 l4 : Int) (h : G M) : pw (gX12_secondsOf_136 fu k136 M l2 l3 l4) (G) := by
  unfold gX12_secondsOf_136
  exact pw_ite (pw_ret h) (pw_e (fun v3 => pw_ite (pw_ite (pw_e (fun v8 => hk136 M l2 l3 v8 h)) (pw_ite (pw_b (rn_fX12_gives hu fu v3 (jm_w (v3 + (M 36 0 (jm_w (6 + l4))))) h) (fun v12 M13 h13 => pw_ite (pw_e (fun v16 => hk136 M13 l2 l3 v16 h13)) (pw_ite (pw_ite (pw_ite (pw_e (fun v23 => pw_e (fun v25 => hk136 M13 l2 v23 v25 h13))) (pw_none)) (pw_ret h13)) (pw_none)))) (pw_none))) (pw_none)))
theorem rn_fX12_secondsOf_136 {G : jm_M → Prop} (hu : CLN G) (fu : Nat) : ∀ (n : Nat) {M : jm_M} (a0 a1 a2 : Int), G M → pw (fX12_secondsOf_136 fu n M a0 a1 a2) (G) := by
  intro n
  induction n with
  | zero => intro M a0 a1 a2 h; exact pw_none
  | succ n ih =>
    intro M a0 a1 a2 h
    exact rn_gX12_secondsOf_136 hu fu (fX12_secondsOf_136 fu n) (fun M a0 a1 a2 h => ih a0 a1 a2 h) a0 a1 a2 h
theorem rn_gX12_secondsOf_101 {G : jm_M → Prop} (hu : CLN G) (fu : Nat) {M : jm_M} (l1 l2 s0 s1 : Int) (h : G M) : pw (gX12_secondsOf_101 fu M l1 l2 s0 s1) (G) := by
  unfold gX12_secondsOf_101
  exact pw_b (rn_fX12_truth hu  s0 h) (fun v1 M2 h2 => pw_ite (pw_s (P := G) (hu _ _ _ _ _ (Or.inl ⟨by decide, by decide⟩) h2) (fun M5 h5 => pw_ite (pw_ite (pw_s (P := G) (hu _ _ _ _ _ (Or.inl ⟨by decide, by decide⟩) h5) (fun M9 h9 => pw_ite (pw_ite (pw_s (P := G) (hu _ _ _ _ _ (Or.inl ⟨by decide, by decide⟩) h9) (fun M13 h13 => rn_fX12_secondsOf_136 hu fu fu l2 0 0 h13)) (pw_none)) (pw_none))) (pw_none)) (pw_none))) (pw_none))
theorem rn_fX12_secondsOf {G : jm_M → Prop} (hu : CLN G) (fu : Nat) {M : jm_M} (l1 l2 : Int) (h : G M) : pw (fX12_secondsOf fu M l1 l2) (G) := by
  unfold fX12_secondsOf
  exact pw_ite (pw_ite (pw_s (P := G) (hu _ _ _ _ _ (Or.inl ⟨by decide, by decide⟩) h) (fun M4 h4 => pw_ite (pw_b (rn_fJ6_bitCount_0f7a4_w2 hu  (M4 50 0 l1) h4) (fun v7 M8 h8 => pw_ite (pw_s (P := G) (hu _ _ _ _ _ (Or.inl ⟨by decide, by decide⟩) h8) (fun M11 h11 => pw_ite (pw_ite (pw_s (P := G) (hu _ _ _ _ _ (Or.inl ⟨by decide, by decide⟩) h11) (fun M15 h15 => pw_ite (pw_ite (pw_ite (pw_s (P := G) (hu _ _ _ _ _ (Or.inl ⟨by decide, by decide⟩) h15) (fun M21 h21 => pw_b (rn_fX12_weight hu fu l1 l2 h21) (fun v22 M23 h23 => pw_ite (pw_s (P := G) (hu _ _ _ _ _ (Or.inl ⟨by decide, by decide⟩) h23) (fun M26 h26 => pw_ite (pw_ite (pw_s (P := G) (hu _ _ _ _ _ (Or.inl ⟨by decide, by decide⟩) h26) (fun M30 h30 => pw_ite (pw_ite (rn_gX12_secondsOf_101 hu fu l1 l2 1 6 h30) (rn_gX12_secondsOf_101 hu fu l1 l2 0 6 h30)) (pw_none))) (pw_none)) (pw_none))) (pw_none)))) (pw_none)) (pw_none)) (pw_none))) (pw_none)) (pw_none))) (pw_none))) (pw_none))) (pw_none)) (pw_none)
theorem rn_gX12_timeFound_5 {G : jm_M → Prop} (hu : CLN G) (fu : Nat) (k5 : jm_M → Int → Int → Int → Int → jm_R) (hk5 : ∀ (M : jm_M) (b0 b1 b2 b3 : Int), G M → pw (k5 M b0 b1 b2 b3) (G)) {M : jm_M} (l1 l2 l3 l4 : Int) (h : G M) : pw (gX12_timeFound_5 fu k5 M l1 l2 l3 l4) (G) := by
  unfold gX12_timeFound_5
  exact pw_ite (pw_ret h) (pw_ite (pw_ite (pw_ite (pw_ite (pw_ite (pw_ite (pw_e (fun v12 => pw_e (fun v14 => hk5 M l1 l2 v12 v14 h))) (pw_ite (pw_e (fun v18 => pw_e (fun v20 => hk5 M l1 l2 v18 v20 h))) (pw_none))) (pw_none)) (pw_e (fun v22 => pw_e (fun v24 => hk5 M l1 l2 v22 v24 h)))) (pw_none)) (pw_e (fun v26 => pw_e (fun v28 => hk5 M l1 l2 v26 v28 h)))) (pw_none))
theorem rn_fX12_timeFound_5 {G : jm_M → Prop} (hu : CLN G) (fu : Nat) : ∀ (n : Nat) {M : jm_M} (a0 a1 a2 a3 : Int), G M → pw (fX12_timeFound_5 fu n M a0 a1 a2 a3) (G) := by
  intro n
  induction n with
  | zero => intro M a0 a1 a2 a3 h; exact pw_none
  | succ n ih =>
    intro M a0 a1 a2 a3 h
    exact rn_gX12_timeFound_5 hu fu (fX12_timeFound_5 fu n) (fun M a0 a1 a2 a3 h => ih a0 a1 a2 a3 h) a0 a1 a2 a3 h
theorem rn_fX12_timeFound {G : jm_M → Prop} (hu : CLN G) (fu : Nat) {M : jm_M} (l1 l2 : Int) (h : G M) : pw (fX12_timeFound fu M l1 l2) (G) := by
  unfold fX12_timeFound
  exact rn_fX12_timeFound_5 hu fu fu l1 l2 0 0 h
theorem rn_gX12_judges_47 {G : jm_M → Prop} (hu : CLN G) (fu : Nat) (k6 : jm_M → Int → Int → jm_R) (hk6 : ∀ (M : jm_M) (b0 b1 : Int), G M → pw (k6 M b0 b1) (G)) {M : jm_M} (l1 l2 l3 s0 s1 : Int) (h : G M) : pw (gX12_judges_47 fu k6 M l1 l2 l3 s0 s1) (G) := by
  unfold gX12_judges_47
  exact pw_ite (pw_ite (pw_s (P := G) (hu _ _ _ _ _ (Or.inr (Or.inl rfl)) h) (fun M2 h2 => pw_ite (pw_b (rn_fX12_timeFound hu fu l2 l1 h2) (fun v6 M7 h7 => pw_ite (pw_s (P := G) (hu _ _ _ _ _ (Or.inr (Or.inr (Or.inl rfl))) h7) (fun M10 h10 => pw_e (fun v11 => hk6 M10 l1 v11 h10))) (pw_none))) (pw_none))) (pw_none)) (pw_none)
theorem rn_gX12_judges_6 {G : jm_M → Prop} (hu : CLN G) (fu : Nat) (k6 : jm_M → Int → Int → jm_R) (hk6 : ∀ (M : jm_M) (b0 b1 : Int), G M → pw (k6 M b0 b1) (G)) {M : jm_M} (l1 l2 : Int) (h : G M) : pw (gX12_judges_6 fu k6 M l1 l2) (G) := by
  unfold gX12_judges_6
  exact pw_ite (pw_ret h) (pw_b (rn_fX12_secondsOf hu fu l2 l1 h) (fun v3 M4 h4 => pw_ite (pw_ite (rn_gX12_judges_47 hu fu k6 hk6 l1 l2 v3 0 l2 h4) (pw_ite (rn_gX12_judges_47 hu fu k6 hk6 l1 l2 v3 0 l2 h4) (rn_gX12_judges_47 hu fu k6 hk6 l1 l2 v3 1 l2 h4))) (pw_none)))
theorem rn_fX12_judges_6 {G : jm_M → Prop} (hu : CLN G) (fu : Nat) : ∀ (n : Nat) {M : jm_M} (a0 a1 : Int), G M → pw (fX12_judges_6 fu n M a0 a1) (G) := by
  intro n
  induction n with
  | zero => intro M a0 a1 h; exact pw_none
  | succ n ih =>
    intro M a0 a1 h
    exact rn_gX12_judges_6 hu fu (fX12_judges_6 fu n) (fun M a0 a1 h => ih a0 a1 h) a0 a1 h
theorem rn_fX12_judges {G : jm_M → Prop} (hu : CLN G) (fu : Nat) {M : jm_M} (l1 : Int) (h : G M) : pw (fX12_judges fu M l1) (G) := by
  unfold fX12_judges
  exact pw_b (rn_fX12_runs hu fu  h) (fun v1 M2 h2 => rn_fX12_judges_6 hu fu fu l1 0 h2)
theorem rn_fX12_isBetter {G : jm_M → Prop} (hu : CLN G) {M : jm_M} (l1 l2 : Int) (h : G M) : pw (fX12_isBetter M l1 l2) (G) := by
  unfold fX12_isBetter
  exact pw_ite (pw_ite (pw_e (fun v5 => pw_ite (pw_ite (pw_e (fun v11 => pw_ite (pw_ite (pw_ite (pw_ite (pw_ret h) (pw_ite (pw_ite (pw_ite (pw_ite (pw_ret h) (pw_ret h)) (pw_ret h)) (pw_none)) (pw_none))) (pw_none)) (pw_none)) (pw_ite (pw_ret h) (pw_ret h)))) (pw_none)) (pw_none))) (pw_none)) (pw_none)
theorem rn_gX12_placeOf_5 {G : jm_M → Prop} (hu : CLN G) (fu : Nat) (k5 : jm_M → Int → Int → Int → Int → jm_R) (hk5 : ∀ (M : jm_M) (b0 b1 b2 b3 : Int), G M → pw (k5 M b0 b1 b2 b3) (G)) {M : jm_M} (l1 l2 l3 l4 : Int) (h : G M) : pw (gX12_placeOf_5 fu k5 M l1 l2 l3 l4) (G) := by
  unfold gX12_placeOf_5
  exact pw_ite (pw_ite (pw_ite (pw_ret h) (pw_ret h)) (pw_none)) (pw_ite (pw_e (fun v7 => pw_e (fun v9 => hk5 M l1 l2 v7 v9 h))) (pw_ite (pw_ite (pw_e (fun v14 => pw_e (fun v16 => hk5 M l1 l2 v14 v16 h))) (pw_b (rn_fX12_isBetter hu  l4 l1 h) (fun v18 M19 h19 => pw_ite (pw_e (fun v22 => pw_e (fun v24 => hk5 M19 l1 l2 v22 v24 h19))) (pw_ite (pw_e (fun v27 => pw_e (fun v29 => hk5 M19 l1 l2 v27 v29 h19))) (pw_ite (pw_ite (pw_ite (pw_e (fun v36 => pw_e (fun v38 => hk5 M19 l1 l2 v36 v38 h19))) (pw_e (fun v40 => pw_e (fun v42 => hk5 M19 l1 l2 v40 v42 h19)))) (pw_none)) (pw_none)))))) (pw_none)))
theorem rn_fX12_placeOf_5 {G : jm_M → Prop} (hu : CLN G) (fu : Nat) : ∀ (n : Nat) {M : jm_M} (a0 a1 a2 a3 : Int), G M → pw (fX12_placeOf_5 fu n M a0 a1 a2 a3) (G) := by
  intro n
  induction n with
  | zero => intro M a0 a1 a2 a3 h; exact pw_none
  | succ n ih =>
    intro M a0 a1 a2 a3 h
    exact rn_gX12_placeOf_5 hu fu (fX12_placeOf_5 fu n) (fun M a0 a1 a2 a3 h => ih a0 a1 a2 a3 h) a0 a1 a2 a3 h
theorem rn_fX12_placeOf {G : jm_M → Prop} (hu : CLN G) (fu : Nat) {M : jm_M} (l1 l2 : Int) (h : G M) : pw (fX12_placeOf fu M l1 l2) (G) := by
  unfold fX12_placeOf
  exact rn_fX12_placeOf_5 hu fu fu l1 l2 0 0 h
theorem rn_fX12_isAhead {G : jm_M → Prop} (hu : CLN G) {M : jm_M} (l0 l1 l2 l3 : Int) (h : G M) : pw (fX12_isAhead M l0 l1 l2 l3) (G) := by
  unfold fX12_isAhead
  exact pw_ite (pw_ite (pw_ret h) (pw_ret h)) (pw_ite (pw_ite (pw_ret h) (pw_ite (pw_ite (pw_ret h) (pw_ret h)) (pw_ret h))) (pw_ite (pw_ret h) (pw_ret h)))
theorem rn_gX12_tries_82 {G : jm_M → Prop} (hu : CLN G) (fu : Nat) {M : jm_M} (l1 l4 l5 l6 l7 l8 : Int) (h : G M) : pw (gX12_tries_82 fu M l1 l4 l5 l6 l7 l8) (G) := by
  unfold gX12_tries_82
  exact pw_s (P := G) (hu _ _ _ _ _ (Or.inr (Or.inr (Or.inr (Or.inr (Or.inr (⟨rfl, (Or.inr (Or.inr (Or.inr (Or.inr (⟨by decide, by decide⟩)))))⟩)))))) h) (fun M1 h1 => pw_s (P := G) (hu _ _ _ _ _ (Or.inr (Or.inr (Or.inr (Or.inr (Or.inr (⟨rfl, (Or.inr (Or.inr (Or.inr (Or.inr (⟨by decide, by decide⟩)))))⟩)))))) h1) (fun M2 h2 => pw_ite (pw_s (P := G) (hu _ _ _ _ _ (Or.inr (Or.inr (Or.inr (Or.inr (Or.inr (⟨rfl, (Or.inr (Or.inr (Or.inr (Or.inr (⟨by decide, by decide⟩)))))⟩)))))) h2) (fun M5 h5 => pw_ite (pw_s (P := G) (hu _ _ _ _ _ (Or.inr (Or.inr (Or.inr (Or.inr (Or.inl ⟨by decide, by decide⟩))))) h5) (fun M7 h7 => pw_ite (pw_s (P := G) (hu _ _ _ _ _ (Or.inr (Or.inr (Or.inr (Or.inr (Or.inl ⟨by decide, by decide⟩))))) h7) (fun M9 h9 => pw_ite (pw_s (P := G) (hu _ _ _ _ _ (Or.inr (Or.inr (Or.inr (Or.inr (Or.inl ⟨by decide, by decide⟩))))) h9) (fun M11 h11 => pw_ite (pw_s (P := G) (hu _ _ _ _ _ (Or.inr (Or.inr (Or.inr (Or.inr (Or.inl ⟨by decide, by decide⟩))))) h11) (fun M13 h13 => pw_ret h13)) (pw_none))) (pw_none))) (pw_none))) (pw_none))) (pw_none)))
theorem rn_gX12_tries_40 {G : jm_M → Prop} (hu : CLN G) (fu : Nat) {M : jm_M} (l1 l2 l4 l5 l6 l7 : Int) (h : G M) : pw (gX12_tries_40 fu M l1 l2 l4 l5 l6 l7) (G) := by
  unfold gX12_tries_40
  exact pw_b (rn_fX12_judges hu fu l2 h) (fun v1 M2 h2 => pw_b (rn_fX12_placeOf hu fu l1 0 h2) (fun v3 M4 h4 => pw_ite (rn_gX12_tries_82 hu fu l1 l4 l5 l6 l7 v3 h4) (pw_ite (pw_b (rn_fX12_isAhead hu  v3 (M4 68 0 l1) (M4 0 0 89) (M4 0 0 90) h4) (fun v12 M13 h13 => pw_ite (pw_ret h13) (rn_gX12_tries_82 hu fu l1 l4 l5 l6 l7 v3 h13))) (pw_none))))
theorem rn_gX12_gain_45 {G : jm_M → Prop} (hu : CLN G) (fu : Nat) {M : jm_M} (l1 l3 s0 : Int) (h : G M) : pw (gX12_gain_45 fu M l1 l3 s0) (G) := by
  unfold gX12_gain_45
  exact pw_b (rn_fX12_judges hu fu l3 h) (fun v1 M2 h2 => pw_b (rn_fX12_placeOf hu fu l1 0 h2) (fun v3 M4 h4 => pw_ite (pw_ret h4) (pw_ret h4)))
theorem rn_gX12_best_37 {G : jm_M → Prop} (hu : CLN G) (fu : Nat) (k37 : jm_M → Int → Int → jm_R) (hk37 : ∀ (M : jm_M) (b0 b1 : Int), G M → pw (k37 M b0 b1) (G)) {M : jm_M} (l2 l4 : Int) (h : G M) : pw (gX12_best_37 fu k37 M l2 l4) (G) := by
  unfold gX12_best_37
  exact pw_ite (pw_ite (pw_ret h) (pw_ret h)) (pw_ite (pw_ite (pw_s (P := G) (hu _ _ _ _ _ (Or.inr (Or.inr (Or.inr (Or.inl rfl)))) h) (fun M8 h8 => pw_ite (pw_ite (pw_s (P := G) (hu _ _ _ _ _ (Or.inr (Or.inr (Or.inr (Or.inl rfl)))) h8) (fun M12 h12 => pw_e (fun v13 => hk37 M12 l2 v13 h12))) (pw_none)) (pw_none))) (pw_none)) (pw_none))
theorem rn_fX12_best_37 {G : jm_M → Prop} (hu : CLN G) (fu : Nat) : ∀ (n : Nat) {M : jm_M} (a0 a1 : Int), G M → pw (fX12_best_37 fu n M a0 a1) (G) := by
  intro n
  induction n with
  | zero => intro M a0 a1 h; exact pw_none
  | succ n ih =>
    intro M a0 a1 h
    exact rn_gX12_best_37 hu fu (fX12_best_37 fu n) (fun M a0 a1 h => ih a0 a1 h) a0 a1 h
theorem rn_fX12_in {G : jm_M → Prop} (hu : CLN G) {M : jm_M} (l0 l2 l4 : Int) (h : G M) : pw (fX12_in M l0 l2 l4) (G) := by
  unfold fX12_in
  exact pw_ite (pw_ret h) (pw_ite (pw_ret h) (pw_ret h))
theorem rn_fX12_isDay {G : jm_M → Prop} (hu : CLN G) {M : jm_M} (l0 : Int) (h : G M) : pw (fX12_isDay M l0) (G) := by
  unfold fX12_isDay
  exact pw_b (rn_fX12_in hu  l0 0 99 h) (fun v1 M2 h2 => pw_ite (pw_ret h2) (pw_none))
theorem rn_gX12_result_65 {G : jm_M → Prop} (hu : CLN G) (fu : Nat) (k65 : jm_M → Int → jm_R) (hk65 : ∀ (M : jm_M) (b0 : Int), G M → pw (k65 M b0) (G)) {M : jm_M} (l2 : Int) (h : G M) : pw (gX12_result_65 fu k65 M l2) (G) := by
  unfold gX12_result_65
  exact pw_ite (pw_ret h) (pw_ite (pw_ite (pw_e (fun v7 => hk65 M v7 h)) (pw_b (rn_fX12_placeOf hu fu l2 0 h) (fun v9 M10 h10 => pw_ite (pw_s (P := G) (hu _ _ _ _ _ (Or.inr (Or.inr (Or.inr (Or.inl rfl)))) h10) (fun M13 h13 => pw_e (fun v14 => hk65 M13 v14 h13))) (pw_none)))) (pw_none))
theorem rn_fX12_result_65 {G : jm_M → Prop} (hu : CLN G) (fu : Nat) : ∀ (n : Nat) {M : jm_M} (a0 : Int), G M → pw (fX12_result_65 fu n M a0) (G) := by
  intro n
  induction n with
  | zero => intro M a0 h; exact pw_none
  | succ n ih =>
    intro M a0 h
    exact rn_gX12_result_65 hu fu (fX12_result_65 fu n) (fun M a0 h => ih a0 h) a0 h
theorem rn_gX12_result_26 {G : jm_M → Prop} (hu : CLN G) (fu : Nat) (k26 : jm_M → Int → jm_R) (hk26 : ∀ (M : jm_M) (b0 : Int), G M → pw (k26 M b0) (G)) {M : jm_M} (l2 : Int) (h : G M) : pw (gX12_result_26 fu k26 M l2) (G) := by
  unfold gX12_result_26
  exact pw_ite (rn_fX12_result_65 hu fu fu 0 h) (pw_ite (pw_ite (pw_s (P := G) (hu _ _ _ _ _ (Or.inr (Or.inr (Or.inr (Or.inr (Or.inr (⟨rfl, (Or.inr (Or.inr (Or.inr (Or.inl rfl))))⟩)))))) h) (fun M7 h7 => pw_e (fun v8 => hk26 M7 v8 h7))) (pw_s (P := G) (hu _ _ _ _ _ (Or.inr (Or.inr (Or.inr (Or.inr (Or.inr (⟨rfl, (Or.inr (Or.inr (Or.inr (Or.inl rfl))))⟩)))))) h) (fun M10 h10 => pw_e (fun v11 => hk26 M10 v11 h10)))) (pw_none))
theorem rn_fX12_result_26 {G : jm_M → Prop} (hu : CLN G) (fu : Nat) : ∀ (n : Nat) {M : jm_M} (a0 : Int), G M → pw (fX12_result_26 fu n M a0) (G) := by
  intro n
  induction n with
  | zero => intro M a0 h; exact pw_none
  | succ n ih =>
    intro M a0 h
    exact rn_gX12_result_26 hu fu (fX12_result_26 fu n) (fun M a0 h => ih a0 h) a0 h
theorem rn_fX12_result {G : jm_M → Prop} (hu : CLN G) (fu : Nat) {M : jm_M} (l1 : Int) (h : G M) : pw (fX12_result fu M l1) (G) := by
  unfold fX12_result
  exact pw_s (P := G) (hu _ _ _ _ _ (Or.inr (Or.inr (Or.inr (Or.inr (Or.inr (⟨rfl, (Or.inl rfl)⟩)))))) h) (fun M1 h1 => pw_b (rn_fX12_isDay hu  l1 h1) (fun v2 M3 h3 => pw_ite (pw_ret h3) (pw_b (rn_fX12_judges hu fu l1 h3) (fun v6 M7 h7 => pw_s (P := G) (hu _ _ _ _ _ (Or.inr (Or.inr (Or.inr (Or.inr (Or.inr (⟨rfl, (Or.inr (Or.inr (Or.inr (Or.inl rfl))))⟩)))))) h7) (fun M8 h8 => rn_fX12_result_26 hu fu fu 0 h8)))))
theorem sn_fX12_isAhead {M0 : jm_M} {M : jm_M} (l0 l1 l2 l3 : Int) (h : SM M0 M) : pw (fX12_isAhead M l0 l1 l2 l3) (SM M0) := by
  unfold fX12_isAhead
  exact pw_ite (pw_ite (pw_ret h) (pw_ret h)) (pw_ite (pw_ite (pw_ret h) (pw_ite (pw_ite (pw_ret h) (pw_ret h)) (pw_ret h))) (pw_ite (pw_ret h) (pw_ret h)))
theorem sn_gX12_isSettled_82 {M0 : jm_M} (fu : Nat) (k82 : jm_M → Int → Int → Int → Int → Int → jm_R) (hk82 : ∀ (M : jm_M) (b0 b1 b2 b3 b4 : Int), SM M0 M → pw (k82 M b0 b1 b2 b3 b4) (SM M0)) {M : jm_M} (l1 l4 l5 l6 l7 : Int) (h : SM M0 M) : pw (gX12_isSettled_82 fu k82 M l1 l4 l5 l6 l7) (SM M0) := by
  unfold gX12_isSettled_82
  exact pw_ite (pw_ite (pw_ret h) (pw_none)) (pw_ite (pw_e (fun v3 => hk82 M l1 l4 l5 0 v3 h)) (pw_ite (pw_ite (pw_ite (pw_ite (pw_b (sn_fX12_isAhead  (M 78 0 (jm_w ((jm_w (4 * l1)) + l7))) (M 79 0 (jm_w ((jm_w (4 * l1)) + l7))) (M 78 0 l5) (M 79 0 l5) h) (fun v13 M14 h14 => pw_ite (pw_e (fun v17 => hk82 M14 l1 l4 l5 1 v17 h14)) (pw_e (fun v19 => hk82 M14 l1 l4 l5 0 v19 h14)))) (pw_none)) (pw_none)) (pw_none)) (pw_none)))
theorem sn_fX12_isSettled_82 {M0 : jm_M} (fu : Nat) : ∀ (n : Nat) {M : jm_M} (a0 a1 a2 a3 a4 : Int), SM M0 M → pw (fX12_isSettled_82 fu n M a0 a1 a2 a3 a4) (SM M0) := by
  intro n
  induction n with
  | zero => intro M a0 a1 a2 a3 a4 h; exact pw_none
  | succ n ih =>
    intro M a0 a1 a2 a3 a4 h
    exact sn_gX12_isSettled_82 fu (fX12_isSettled_82 fu n) (fun M a0 a1 a2 a3 a4 h => ih a0 a1 a2 a3 a4 h) a0 a1 a2 a3 a4 h
theorem sn_gX12_isSettled_13 {M0 : jm_M} (fu : Nat) (k13 : jm_M → Int → Int → Int → Int → Int → Int → Int → jm_R) (hk13 : ∀ (M : jm_M) (b0 b1 b2 b3 b4 b5 b6 : Int), SM M0 M → pw (k13 M b0 b1 b2 b3 b4 b5 b6) (SM M0)) {M : jm_M} (l1 l2 l3 l4 l5 l6 l7 : Int) (h : SM M0 M) : pw (gX12_isSettled_13 fu k13 M l1 l2 l3 l4 l5 l6 l7) (SM M0) := by
  unfold gX12_isSettled_13
  exact pw_ite (sn_fX12_isSettled_82 fu fu l1 l4 l5 l6 0 h) (pw_ite (pw_e (fun v3 => hk13 M l1 l2 l3 l4 l5 0 v3 h)) (pw_ite (pw_ite (pw_ite (pw_ite (pw_b (sn_fX12_isAhead  (M 76 0 (jm_w ((jm_w (4 * l7)) + l2))) (M 77 0 (jm_w ((jm_w (4 * l7)) + l2))) (M 76 0 l5) (M 77 0 l5) h) (fun v13 M14 h14 => pw_ite (pw_e (fun v17 => hk13 M14 l1 l2 l3 l4 l5 1 v17 h14)) (pw_e (fun v19 => hk13 M14 l1 l2 l3 l4 l5 0 v19 h14)))) (pw_none)) (pw_none)) (pw_none)) (pw_none)))
theorem sn_fX12_isSettled_13 {M0 : jm_M} (fu : Nat) : ∀ (n : Nat) {M : jm_M} (a0 a1 a2 a3 a4 a5 a6 : Int), SM M0 M → pw (fX12_isSettled_13 fu n M a0 a1 a2 a3 a4 a5 a6) (SM M0) := by
  intro n
  induction n with
  | zero => intro M a0 a1 a2 a3 a4 a5 a6 h; exact pw_none
  | succ n ih =>
    intro M a0 a1 a2 a3 a4 a5 a6 h
    exact sn_gX12_isSettled_13 fu (fX12_isSettled_13 fu n) (fun M a0 a1 a2 a3 a4 a5 a6 h => ih a0 a1 a2 a3 a4 a5 a6 h) a0 a1 a2 a3 a4 a5 a6 h
theorem sn_fX12_isSettled {M0 : jm_M} (fu : Nat) {M : jm_M} (l1 l2 l3 l4 : Int) (h : SM M0 M) : pw (fX12_isSettled fu M l1 l2 l3 l4) (SM M0) := by
  unfold fX12_isSettled
  exact pw_e (fun v1 => sn_fX12_isSettled_13 fu fu l1 l2 l3 l4 v1 1 0 h)
theorem sn_gX12_settle_221 {M0 : jm_M} (fu : Nat) (k207 : jm_M → Int → Int → Int → jm_R) (hk207 : ∀ (M : jm_M) (b0 b1 b2 : Int), SM M0 M → pw (k207 M b0 b1 b2) (SM M0)) (k221 : jm_M → Int → Int → Int → Int → jm_R) (hk221 : ∀ (M : jm_M) (b0 b1 b2 b3 : Int), SM M0 M → pw (k221 M b0 b1 b2 b3) (SM M0)) {M : jm_M} (l1 l2 l4 l5 : Int) (h : SM M0 M) : pw (gX12_settle_221 fu k207 k221 M l1 l2 l4 l5) (SM M0) := by
  unfold gX12_settle_221
  exact pw_ite (pw_ite (pw_e (fun v4 => hk207 M l1 l2 v4 h)) (pw_ite (pw_ite (pw_b (sn_fX12_isSettled fu l4 l5 (M 31 0 l1) (M 31 0 l2) h) (fun v10 M11 h11 => pw_ite (pw_e (fun v14 => hk221 M11 l1 l2 l4 v14 h11)) (pw_ret h11))) (pw_none)) (pw_none))) (pw_none)
theorem sn_fX12_settle_221 {M0 : jm_M} (fu : Nat) (k207 : jm_M → Int → Int → Int → jm_R) (hk207 : ∀ (M : jm_M) (b0 b1 b2 : Int), SM M0 M → pw (k207 M b0 b1 b2) (SM M0)) : ∀ (n : Nat) {M : jm_M} (a0 a1 a2 a3 : Int), SM M0 M → pw (fX12_settle_221 fu k207 n M a0 a1 a2 a3) (SM M0) := by
  intro n
  induction n with
  | zero => intro M a0 a1 a2 a3 h; exact pw_none
  | succ n ih =>
    intro M a0 a1 a2 a3 h
    exact sn_gX12_settle_221 fu k207 hk207 (fX12_settle_221 fu k207 n) (fun M a0 a1 a2 a3 h => ih a0 a1 a2 a3 h) a0 a1 a2 a3 h
theorem sn_gX12_settle_207 {M0 : jm_M} (fu : Nat) (k207 : jm_M → Int → Int → Int → jm_R) (hk207 : ∀ (M : jm_M) (b0 b1 b2 : Int), SM M0 M → pw (k207 M b0 b1 b2) (SM M0)) {M : jm_M} (l1 l2 l4 : Int) (h : SM M0 M) : pw (gX12_settle_207 fu k207 M l1 l2 l4) (SM M0) := by
  unfold gX12_settle_207
  exact pw_ite (pw_ite (pw_ret h) (sn_fX12_settle_221 fu k207 hk207 fu l1 l2 l4 0 h)) (pw_none)
theorem sn_fX12_settle_207 {M0 : jm_M} (fu : Nat) : ∀ (n : Nat) {M : jm_M} (a0 a1 a2 : Int), SM M0 M → pw (fX12_settle_207 fu n M a0 a1 a2) (SM M0) := by
  intro n
  induction n with
  | zero => intro M a0 a1 a2 h; exact pw_none
  | succ n ih =>
    intro M a0 a1 a2 h
    exact sn_gX12_settle_207 fu (fX12_settle_207 fu n) (fun M a0 a1 a2 h => ih a0 a1 a2 h) a0 a1 a2 h
theorem sn_fX12_in {M0 : jm_M} {M : jm_M} (l0 l2 l4 : Int) (h : SM M0 M) : pw (fX12_in M l0 l2 l4) (SM M0) := by
  unfold fX12_in
  exact pw_ite (pw_ret h) (pw_ite (pw_ret h) (pw_ret h))
theorem sn_fX12_isCar {M0 : jm_M} {M : jm_M} (l1 : Int) (h : SM M0 M) : pw (fX12_isCar M l1) (SM M0) := by
  unfold fX12_isCar
  exact pw_b (sn_fX12_in  l1 0 (jm_w ((M 0 0 17) - 1)) h) (fun v2 M3 h3 => pw_ite (pw_ret h3) (pw_none))
theorem sn_fX12_isDay {M0 : jm_M} {M : jm_M} (l0 : Int) (h : SM M0 M) : pw (fX12_isDay M l0) (SM M0) := by
  unfold fX12_isDay
  exact pw_b (sn_fX12_in  l0 0 99 h) (fun v1 M2 h2 => pw_ite (pw_ret h2) (pw_none))
theorem sn_fX12_isAsked {M0 : jm_M} {M : jm_M} (l1 l2 l3 : Int) (h : SM M0 M) : pw (fX12_isAsked M l1 l2 l3) (SM M0) := by
  unfold fX12_isAsked
  exact pw_b (sn_fX12_isCar  l1 h) (fun v1 M2 h2 => pw_ite (pw_ret h2) (pw_b (sn_fX12_in  l2 0 2 h2) (fun v5 M6 h6 => pw_ite (pw_ret h6) (pw_b (sn_fX12_isDay  l3 h6) (fun v9 M10 h10 => pw_ite (pw_ret h10) (pw_ret h10))))))
theorem sn_fX12_isStopLap {M0 : jm_M} {M : jm_M} (l1 : Int) (h : SM M0 M) : pw (fX12_isStopLap M l1) (SM M0) := by
  unfold fX12_isStopLap
  exact pw_b (sn_fX12_in  l1 0 (jm_w ((M 0 0 2) - 2)) h) (fun v2 M3 h3 => pw_ite (pw_ret h3) (pw_none))
theorem sn_fX12_isBetter {M0 : jm_M} {M : jm_M} (l1 l2 : Int) (h : SM M0 M) : pw (fX12_isBetter M l1 l2) (SM M0) := by
  unfold fX12_isBetter
  exact pw_ite (pw_ite (pw_e (fun v5 => pw_ite (pw_ite (pw_e (fun v11 => pw_ite (pw_ite (pw_ite (pw_ite (pw_ret h) (pw_ite (pw_ite (pw_ite (pw_ite (pw_ret h) (pw_ret h)) (pw_ret h)) (pw_none)) (pw_none))) (pw_none)) (pw_none)) (pw_ite (pw_ret h) (pw_ret h)))) (pw_none)) (pw_none))) (pw_none)) (pw_none)
theorem sn_gX12_placeOf_5 {M0 : jm_M} (fu : Nat) (k5 : jm_M → Int → Int → Int → Int → jm_R) (hk5 : ∀ (M : jm_M) (b0 b1 b2 b3 : Int), SM M0 M → pw (k5 M b0 b1 b2 b3) (SM M0)) {M : jm_M} (l1 l2 l3 l4 : Int) (h : SM M0 M) : pw (gX12_placeOf_5 fu k5 M l1 l2 l3 l4) (SM M0) := by
  unfold gX12_placeOf_5
  exact pw_ite (pw_ite (pw_ite (pw_ret h) (pw_ret h)) (pw_none)) (pw_ite (pw_e (fun v7 => pw_e (fun v9 => hk5 M l1 l2 v7 v9 h))) (pw_ite (pw_ite (pw_e (fun v14 => pw_e (fun v16 => hk5 M l1 l2 v14 v16 h))) (pw_b (sn_fX12_isBetter  l4 l1 h) (fun v18 M19 h19 => pw_ite (pw_e (fun v22 => pw_e (fun v24 => hk5 M19 l1 l2 v22 v24 h19))) (pw_ite (pw_e (fun v27 => pw_e (fun v29 => hk5 M19 l1 l2 v27 v29 h19))) (pw_ite (pw_ite (pw_ite (pw_e (fun v36 => pw_e (fun v38 => hk5 M19 l1 l2 v36 v38 h19))) (pw_e (fun v40 => pw_e (fun v42 => hk5 M19 l1 l2 v40 v42 h19)))) (pw_none)) (pw_none)))))) (pw_none)))
theorem sn_fX12_placeOf_5 {M0 : jm_M} (fu : Nat) : ∀ (n : Nat) {M : jm_M} (a0 a1 a2 a3 : Int), SM M0 M → pw (fX12_placeOf_5 fu n M a0 a1 a2 a3) (SM M0) := by
  intro n
  induction n with
  | zero => intro M a0 a1 a2 a3 h; exact pw_none
  | succ n ih =>
    intro M a0 a1 a2 a3 h
    exact sn_gX12_placeOf_5 fu (fX12_placeOf_5 fu n) (fun M a0 a1 a2 a3 h => ih a0 a1 a2 a3 h) a0 a1 a2 a3 h
theorem sn_fX12_placeOf {M0 : jm_M} (fu : Nat) {M : jm_M} (l1 l2 : Int) (h : SM M0 M) : pw (fX12_placeOf fu M l1 l2) (SM M0) := by
  unfold fX12_placeOf
  exact sn_fX12_placeOf_5 fu fu l1 l2 0 0 h
theorem pw_i {c : Prop} {inst : Decidable c} {x y : jm_R} {Q : jm_M → Prop} (h1 : c → pw x Q) (h2 : ¬ c → pw y Q) : pw (@ite jm_R c inst x y) Q := by
  by_cases q : c
  · rw [if_pos q]; exact h1 q
  · rw [if_neg q]; exact h2 q
theorem pw_sv {M : jm_M} {K : jm_M → jm_R} {Q : jm_M → Prop} (h : ∀ M1 : jm_M, M1 = M → pw (K M1) Q) : pw (jm_s M K) Q := h M rfl
theorem pw_ev {v : Int} {K : Int → jm_R} {Q : jm_M → Prop} (h : ∀ x : Int, x = v → pw (K x) Q) : pw (jm_e v K) Q := h v rfl
/-- all that is told, texts, findings, options, lost lines -/
def RLX (f : Nat) (i k : Int) : Prop := i = 0 ∧ ((f = 0 ∧ (k = 1 ∨ k = 2 ∨ k = 8 ∨ k = 12 ∨ k = 17 ∨ k = 40 ∨ k = 72 ∨ k = 75)) ∨ (1 ≤ f ∧ f ≤ 36) ∨ (60 ≤ f ∧ f ≤ 66))
theorem RLX.rl {M M1 : jm_M} (h : Kp RLX M M1) : Kp RL2 M M1 := h.weak (fun f i k y => by
  unfold RL2 C2r C2f C2s C2p C2o C2n C2c C2l at y
  unfold RLX
  omega)
theorem RLX.ta {M M1 : jm_M} (h : Kp TA2 M M1) : Kp RLX M M1 := h.weak (fun f i k y => by
  unfold RLX at y
  unfold TA2
  omega)
def RKL (f : Nat) (i k : Int) : Prop := RLX f i k ∨ (i = 0 ∧ 70 ≤ f ∧ f ≤ 73)
def KT (a b : Int) (f : Nat) (i k : Int) : Prop := RKL f i k ∧ ¬ (f = 26 ∧ (k = a ∨ k = b)) ∧ ¬ ((27 ≤ f ∧ f ≤ 29) ∧ ((5 * a ≤ k ∧ k < 5 * a + 5) ∨ (5 * b ≤ k ∧ k < 5 * b + 5)))
theorem RKL.is {f : Nat} {i k : Int} (h : RKL f i k) : i = 0 ∧ ((f = 0 ∧ (k = 1 ∨ k = 2 ∨ k = 8 ∨ k = 12 ∨ k = 17 ∨ k = 40 ∨ k = 72 ∨ k = 75)) ∨ (1 ≤ f ∧ f ≤ 36) ∨ (60 ≤ f ∧ f ≤ 66) ∨ (70 ≤ f ∧ f ≤ 73)) := by
  unfold RKL RLX at h
  omega
theorem KT.cl {a b : Int} {M0 : jm_M} : CLN (Kp (KT a b) M0) := fun M f i k v hf h f2 i2 k2 y => (jm_une (by have := y.1.is; omega)).trans (h f2 i2 k2 y)
theorem RLX.cl {M0 : jm_M} : CLN (Kp RLX M0) := fun M f i k v hf h f2 i2 k2 y => (jm_une (by unfold RLX at y; omega)).trans (h f2 i2 k2 y)
/-- a car's stops put aside -/
def CLR (l : Int) (M M1 : jm_M) : Prop := (M1 73 0 l = M 26 0 l ∧ M1 26 0 l = 0 ∧ M1 60 0 l = 1) ∧ (∀ k : Int, 5 * l ≤ k → k < 5 * l + 5 → M1 70 0 k = M 27 0 k ∧ M1 71 0 k = M 28 0 k ∧ M1 72 0 k = M 29 0 k) ∧ ∀ (f : Nat) (i k : Int), ¬ (i = 0 ∧ (f = 73 ∨ f = 26 ∨ f = 60) ∧ k = l) → ¬ (i = 0 ∧ (70 ≤ f ∧ f ≤ 72) ∧ 5 * l ≤ k ∧ k < 5 * l + 5) → M1 f i k = M f i k
/-- a car's stops put back -/
def PBK (l : Int) (M M1 : jm_M) : Prop := (M1 26 0 l = M 73 0 l ∧ M1 60 0 l = 0) ∧ (∀ k : Int, 5 * l ≤ k → k < 5 * l + 5 → M1 27 0 k = M 70 0 k ∧ M1 28 0 k = M 71 0 k ∧ M1 29 0 k = M 72 0 k) ∧ ∀ (f : Nat) (i k : Int), ¬ (i = 0 ∧ (f = 26 ∨ f = 60) ∧ k = l) → ¬ (i = 0 ∧ (27 ≤ f ∧ f ≤ 29) ∧ 5 * l ≤ k ∧ k < 5 * l + 5) → M1 f i k = M f i k
theorem h_clears_4 (fu : Nat) {M0 : jm_M} (l : Int) (hl : 0 ≤ l ∧ l < 6) : ∀ (n : Nat) {M : jm_M} (y : Int), 5 * l ≤ y → y ≤ 5 * l + 5 → (∀ k : Int, 5 * l ≤ k → k < y → M 70 0 k = M0 27 0 k ∧ M 71 0 k = M0 28 0 k ∧ M 72 0 k = M0 29 0 k) → (∀ (f : Nat) (i k : Int), ¬ (i = 0 ∧ (70 ≤ f ∧ f ≤ 72) ∧ 5 * l ≤ k ∧ k < 5 * l + 5) → M f i k = M0 f i k) → pw (fX12_clears_4 fu n M l y) (CLR l M0) := by
  intro n
  induction n with
  | zero => intro M y _ _ _ _; exact pw_none
  | succ n ih =>
    intro M y hy1 hy2 hc fr
    show pw (gX12_clears_4 fu (fX12_clears_4 fu n) M l y) _
    unfold gX12_clears_4
    have w5 : jm_w (jm_w (5 * l) + 5) = 5 * l + 5 := by rw [jm_wid (x := 5 * l) (by omega) (by omega)]; exact jm_wid (by omega) (by omega)
    rw [w5]
    refine pw_i (fun c => ?_) (fun c => ?_)
    · refine pw_ite (pw_ite (pw_sv (fun M5 u5 => pw_ite (pw_sv (fun M7 u7 => pw_ite (pw_ite (pw_sv (fun M9 u9 => pw_ret ⟨⟨?_, ?_, ?_⟩, fun k y1 y2 => ?_, fun f i k y1 y2 => ?_⟩)) pw_none) pw_none)) pw_none)) pw_none) pw_none
      · rw [u9, jm_une_f (by decide), u7, jm_une_f (by decide), u5, jm_ueq]; exact fr 26 0 l (by omega)
      · rw [u9, jm_une_f (by decide), u7]; exact jm_ueq
      · rw [u9]; exact jm_ueq
      · rw [u9, jm_une_f (by decide), jm_une_f (by decide), jm_une_f (by decide), u7, jm_une_f (by decide), jm_une_f (by decide), jm_une_f (by decide), u5, jm_une_f (by decide), jm_une_f (by decide), jm_une_f (by decide)]
        exact hc k y1 (by omega)
      · rw [u9, jm_une (by omega), u7, jm_une (by omega), u5, jm_une (by omega)]
        exact fr f i k y2
    · refine pw_ite (pw_ite (pw_sv (fun M14 u14 => pw_ite (pw_ite (pw_sv (fun M18 u18 => pw_ite (pw_ite (pw_sv (fun M22 u22 => pw_ev (fun v23 e23 => ?_))) pw_none) pw_none)) pw_none) pw_none)) pw_none) pw_none
      rw [jm_wid (by omega) (by omega)] at e23
      have m28 : M14 28 0 y = M 28 0 y := by rw [u14]; exact jm_une_f (by decide)
      have m29 : M18 29 0 y = M 29 0 y := by rw [u18, jm_une_f (by decide), u14]; exact jm_une_f (by decide)
      refine ih v23 (by omega) (by omega) (fun k y1 y2 => ?_) (fun f i k y1 => ?_)
      · by_cases q : k = y
        · rw [q]
          refine ⟨?_, ?_, ?_⟩
          · rw [u22, jm_une_f (by decide), u18, jm_une_f (by decide), u14, jm_ueq]; exact fr 27 0 y (by omega)
          · rw [u22, jm_une_f (by decide), u18, jm_ueq, m28]; exact fr 28 0 y (by omega)
          · rw [u22, jm_ueq, m29]; exact fr 29 0 y (by omega)
        · obtain ⟨a, b, d⟩ := hc k y1 (by omega)
          refine ⟨?_, ?_, ?_⟩
          · rw [u22, jm_une_f (by decide), u18, jm_une_f (by decide), u14, jm_une_k q]; exact a
          · rw [u22, jm_une_f (by decide), u18, jm_une_k q, u14, jm_une_f (by decide)]; exact b
          · rw [u22, jm_une_k q, u18, jm_une_f (by decide), u14, jm_une_f (by decide)]; exact d
      · rw [u22, jm_une (by omega), u18, jm_une (by omega), u14, jm_une (by omega)]
        exact fr f i k y1
theorem h_clears (fu : Nat) {M : jm_M} (l : Int) (hl : 0 ≤ l ∧ l < 6) : pw (fX12_clears fu M l) (CLR l M) := by
  unfold fX12_clears
  refine pw_ev (fun v e => ?_)
  rw [jm_wid (by omega) (by omega)] at e
  exact h_clears_4 fu l hl fu v (by omega) (by omega) (fun k y1 y2 => by exfalso; omega) (fun _ _ _ _ => rfl)
theorem h_putsBack_4 (fu : Nat) {M0 : jm_M} (l : Int) (hl : 0 ≤ l ∧ l < 6) : ∀ (n : Nat) {M : jm_M} (y : Int), 5 * l ≤ y → y ≤ 5 * l + 5 → (∀ k : Int, 5 * l ≤ k → k < y → M 27 0 k = M0 70 0 k ∧ M 28 0 k = M0 71 0 k ∧ M 29 0 k = M0 72 0 k) → (∀ (f : Nat) (i k : Int), ¬ (i = 0 ∧ (27 ≤ f ∧ f ≤ 29) ∧ 5 * l ≤ k ∧ k < 5 * l + 5) → M f i k = M0 f i k) → pw (fX12_putsBack_4 fu n M l y) (PBK l M0) := by
  intro n
  induction n with
  | zero => intro M y _ _ _ _; exact pw_none
  | succ n ih =>
    intro M y hy1 hy2 hc fr
    show pw (gX12_putsBack_4 fu (fX12_putsBack_4 fu n) M l y) _
    unfold gX12_putsBack_4
    have w5 : jm_w (jm_w (5 * l) + 5) = 5 * l + 5 := by rw [jm_wid (x := 5 * l) (by omega) (by omega)]; exact jm_wid (by omega) (by omega)
    rw [w5]
    refine pw_i (fun c => ?_) (fun c => ?_)
    · refine pw_ite (pw_ite (pw_sv (fun M5 u5 => pw_ite (pw_ite (pw_sv (fun M7 u7 => pw_ret ⟨⟨?_, ?_⟩, fun k y1 y2 => ?_, fun f i k y1 y2 => ?_⟩)) pw_none) pw_none)) pw_none) pw_none
      · rw [u7, jm_une_f (by decide), u5, jm_ueq]; exact fr 73 0 l (by omega)
      · rw [u7]; exact jm_ueq
      · rw [u7, jm_une_f (by decide), jm_une_f (by decide), jm_une_f (by decide), u5, jm_une_f (by decide), jm_une_f (by decide), jm_une_f (by decide)]
        exact hc k y1 (by omega)
      · rw [u7, jm_une (by omega), u5, jm_une (by omega)]
        exact fr f i k y2
    · refine pw_ite (pw_ite (pw_sv (fun M12 u12 => pw_ite (pw_ite (pw_sv (fun M16 u16 => pw_ite (pw_ite (pw_sv (fun M20 u20 => pw_ev (fun v21 e21 => ?_))) pw_none) pw_none)) pw_none) pw_none)) pw_none) pw_none
      rw [jm_wid (by omega) (by omega)] at e21
      have m71 : M12 71 0 y = M 71 0 y := by rw [u12]; exact jm_une_f (by decide)
      have m72 : M16 72 0 y = M 72 0 y := by rw [u16, jm_une_f (by decide), u12]; exact jm_une_f (by decide)
      refine ih v21 (by omega) (by omega) (fun k y1 y2 => ?_) (fun f i k y1 => ?_)
      · by_cases q : k = y
        · rw [q]
          refine ⟨?_, ?_, ?_⟩
          · rw [u20, jm_une_f (by decide), u16, jm_une_f (by decide), u12, jm_ueq]; exact fr 70 0 y (by omega)
          · rw [u20, jm_une_f (by decide), u16, jm_ueq, m71]; exact fr 71 0 y (by omega)
          · rw [u20, jm_ueq, m72]; exact fr 72 0 y (by omega)
        · obtain ⟨a, b, d⟩ := hc k y1 (by omega)
          refine ⟨?_, ?_, ?_⟩
          · rw [u20, jm_une_f (by decide), u16, jm_une_f (by decide), u12, jm_une_k q]; exact a
          · rw [u20, jm_une_f (by decide), u16, jm_une_k q, u12, jm_une_f (by decide)]; exact b
          · rw [u20, jm_une_k q, u16, jm_une_f (by decide), u12, jm_une_f (by decide)]; exact d
      · rw [u20, jm_une (by omega), u16, jm_une (by omega), u12, jm_une (by omega)]
        exact fr f i k y1
theorem h_putsBack (fu : Nat) {M : jm_M} (l : Int) (hl : 0 ≤ l ∧ l < 6) : pw (fX12_putsBack fu M l) (PBK l M) := by
  unfold fX12_putsBack
  refine pw_ev (fun v e => ?_)
  rw [jm_wid (by omega) (by omega)] at e
  exact h_putsBack_4 fu l hl fu v (by omega) (by omega) (fun k y1 y2 => by exfalso; omega) (fun _ _ _ _ => rfl)
theorem back1 {l : Int} {M0 Mc M M1 : jm_M} (c : CLR l M0 Mc) (h : Kp (KT l l) Mc M) (b : PBK l M M1) (h60 : M0 60 0 l = 0) : Kp RLX M0 M1 := fun f i k y => by
  obtain ⟨⟨c1, c2, c3⟩, c4, c5⟩ := c
  obtain ⟨⟨b1, b2⟩, b3, b4⟩ := b
  obtain ⟨i0, ys⟩ := id y
  subst i0
  have K : ∀ (f : Nat) (k : Int), (RLX f 0 k ∨ (70 ≤ f ∧ f ≤ 73)) → ¬ (f = 26 ∧ k = l) → ¬ ((27 ≤ f ∧ f ≤ 29) ∧ (5 * l ≤ k ∧ k < 5 * l + 5)) → M f 0 k = Mc f 0 k := fun f k y1 y2 y3 => h f 0 k ⟨y1.elim Or.inl (fun z => Or.inr ⟨rfl, z⟩), by omega, by omega⟩
  by_cases a : f = 26 ∧ k = l
  · obtain ⟨rfl, rfl⟩ := a
    rw [b1, K 73 k (Or.inr (by omega)) (by omega) (by omega), c1]
  by_cases d : f = 60 ∧ k = l
  · obtain ⟨rfl, rfl⟩ := d
    rw [b2, h60]
  by_cases e : (27 ≤ f ∧ f ≤ 29) ∧ (5 * l ≤ k ∧ k < 5 * l + 5)
  · obtain ⟨z1, z2, z3⟩ := b3 k e.2.1 e.2.2
    obtain ⟨x1, x2, x3⟩ := c4 k e.2.1 e.2.2
    have fs : f = 27 ∨ f = 28 ∨ f = 29 := by omega
    rcases fs with rfl | rfl | rfl
    · rw [z1, K 70 k (Or.inr (by omega)) (by omega) (by omega), x1]
    · rw [z2, K 71 k (Or.inr (by omega)) (by omega) (by omega), x2]
    · rw [z3, K 72 k (Or.inr (by omega)) (by omega) (by omega), x3]
  · rw [b4 f 0 k (by omega) (by omega), K f k (Or.inl y) a e]
    exact c5 f 0 k (by omega) (by omega)
theorem back2 {p q : Int} {M0 Ma Mb M M1 M2 : jm_M} (pq : p ≠ q) (ca : CLR p M0 Ma) (cb : CLR q Ma Mb) (h : Kp (KT p q) Mb M) (pa : PBK p M M1) (pb : PBK q M1 M2) (h60 : M0 60 0 p = 0) (h61 : M0 60 0 q = 0) : Kp RLX M0 M2 := fun f i k y => by
  obtain ⟨⟨a1, a2, a3⟩, a4, a5⟩ := ca
  obtain ⟨⟨c1, c2, c3⟩, c4, c5⟩ := cb
  obtain ⟨⟨b1, b2⟩, b3, b4⟩ := pa
  obtain ⟨⟨d1, d2⟩, d3, d4⟩ := pb
  obtain ⟨i0, ys⟩ := id y
  subst i0
  have K : ∀ (f : Nat) (k : Int), (RLX f 0 k ∨ (70 ≤ f ∧ f ≤ 73)) → ¬ (f = 26 ∧ (k = p ∨ k = q)) → ¬ ((27 ≤ f ∧ f ≤ 29) ∧ ((5 * p ≤ k ∧ k < 5 * p + 5) ∨ (5 * q ≤ k ∧ k < 5 * q + 5))) → M f 0 k = Mb f 0 k := fun f k y1 y2 y3 => h f 0 k ⟨y1.elim Or.inl (fun z => Or.inr ⟨rfl, z⟩), by omega, by omega⟩
  by_cases z1 : f = 26 ∧ k = p
  · obtain ⟨rfl, rfl⟩ := z1
    rw [d4 26 0 k (by omega) (by omega), b1, K 73 k (Or.inr (by omega)) (by omega) (by omega), c5 73 0 k (by omega) (by omega), a1]
  by_cases z2 : f = 26 ∧ k = q
  · obtain ⟨rfl, rfl⟩ := z2
    rw [d1, b4 73 0 k (by omega) (by omega), K 73 k (Or.inr (by omega)) (by omega) (by omega), c1]
    exact a5 26 0 k (by omega) (by omega)
  by_cases z3 : f = 60 ∧ k = p
  · obtain ⟨rfl, rfl⟩ := z3
    rw [d4 60 0 k (by omega) (by omega), b2, h60]
  by_cases z4 : f = 60 ∧ k = q
  · obtain ⟨rfl, rfl⟩ := z4
    rw [d2, h61]
  by_cases z5 : (27 ≤ f ∧ f ≤ 29) ∧ (5 * p ≤ k ∧ k < 5 * p + 5)
  · obtain ⟨w1, w2, w3⟩ := b3 k z5.2.1 z5.2.2
    obtain ⟨x1, x2, x3⟩ := a4 k z5.2.1 z5.2.2
    have fs : f = 27 ∨ f = 28 ∨ f = 29 := by omega
    rcases fs with rfl | rfl | rfl
    · rw [d4 27 0 k (by omega) (by omega), w1, K 70 k (Or.inr (by omega)) (by omega) (by omega), c5 70 0 k (by omega) (by omega), x1]
    · rw [d4 28 0 k (by omega) (by omega), w2, K 71 k (Or.inr (by omega)) (by omega) (by omega), c5 71 0 k (by omega) (by omega), x2]
    · rw [d4 29 0 k (by omega) (by omega), w3, K 72 k (Or.inr (by omega)) (by omega) (by omega), c5 72 0 k (by omega) (by omega), x3]
  by_cases z6 : (27 ≤ f ∧ f ≤ 29) ∧ (5 * q ≤ k ∧ k < 5 * q + 5)
  · obtain ⟨w1, w2, w3⟩ := d3 k z6.2.1 z6.2.2
    obtain ⟨x1, x2, x3⟩ := c4 k z6.2.1 z6.2.2
    have fs : f = 27 ∨ f = 28 ∨ f = 29 := by omega
    rcases fs with rfl | rfl | rfl
    · rw [w1, b4 70 0 k (by omega) (by omega), K 70 k (Or.inr (by omega)) (by omega) (by omega), x1]
      exact a5 27 0 k (by omega) (by omega)
    · rw [w2, b4 71 0 k (by omega) (by omega), K 71 k (Or.inr (by omega)) (by omega) (by omega), x2]
      exact a5 28 0 k (by omega) (by omega)
    · rw [w3, b4 72 0 k (by omega) (by omega), K 72 k (Or.inr (by omega)) (by omega) (by omega), x3]
      exact a5 29 0 k (by omega) (by omega)
  · rw [d4 f 0 k (by omega) (by omega), b4 f 0 k (by omega) (by omega), K f k (Or.inl y) (by omega) (by omega), c5 f 0 k (by omega) (by omega)]
    exact a5 f 0 k (by omega) (by omega)
theorem kt_puts {a b : Int} {M0 : jm_M} {l : Int} (hl : 0 ≤ l ∧ l < 6) (hab : l = a ∨ l = b) {M : jm_M} (n x y : Int) (h : Kp (KT a b) M0 M) (e : M 26 0 l = n) (n0 : 0 ≤ n) (n1 : n ≤ 1) : pw (fX12_puts M l x y 200) (fun M1 => Kp (KT a b) M0 M1 ∧ M1 26 0 l = n + 1) :=
  pw_wp (dd_puts l x y 200 hl e ⟨n0, by omega⟩) (fun v M1 q => ⟨fun f i k z => by
    obtain ⟨z1, z2, z3⟩ := z
    rw [q.2.2 f i k (by omega)]
    exact h f i k ⟨z1, z2, z3⟩, q.1⟩)
theorem kt_26 {a b : Int} {M0 M : jm_M} {l v : Int} (hab : l = a ∨ l = b) (h : Kp (KT a b) M0 M) : Kp (KT a b) M0 (jm_u M 26 0 l v) := fun f i k z => by
  obtain ⟨z1, z2, z3⟩ := z
  rw [jm_une (by omega)]
  exact h f i k ⟨z1, z2, z3⟩
theorem kt_tries {M0 : jm_M} (fu : Nat) {c : Int} (hc : 0 ≤ c ∧ c < 6) {M : jm_M} (l2 l3 l4 l5 l6 l7 : Int) (h : Kp (KT c c) M0 M) : pw (fX12_tries fu M c l2 l3 l4 l5 l6 l7) (Kp (KT c c) M0) := by
  unfold fX12_tries
  have t23 : ∀ {M : jm_M}, Kp (KT c c) M0 M → 0 ≤ M 26 0 c → M 26 0 c ≤ 1 → pw (gX12_tries_23 fu M c l2 l3 l4 l5 l6 l7) (Kp (KT c c) M0) := fun {M} h y1 y2 => by
    unfold gX12_tries_23
    exact pw_ite (rn_gX12_tries_40 KT.cl fu c l2 l4 l5 l6 l7 h) (pw_b (kt_puts hc (Or.inl rfl) (M 26 0 c) l5 l7 h rfl y1 y2) (fun v2 M3 h3 => rn_gX12_tries_40 KT.cl fu c l2 l4 l5 l6 l7 h3.1))
  refine pw_ite (pw_sv (fun M2 u2 => ?_)) pw_none
  have h2 : Kp (KT c c) M0 M2 := by rw [u2]; exact kt_26 (Or.inl rfl) h
  have e2 : M2 26 0 c = 0 := by rw [u2]; exact jm_ueq
  exact pw_ite (t23 h2 (by omega) (by omega)) (pw_b (kt_puts hc (Or.inl rfl) 0 l4 l6 h2 e2 (by decide) (by decide)) (fun v4 M5 h5 => t23 h5.1 (by have := h5.2; omega) (by have := h5.2; omega)))
theorem kt_chooses {a b : Int} {M0 : jm_M} {l : Int} (hl : 0 ≤ l ∧ l < 6) (hab : l = a ∨ l = b) {M : jm_M} (x : Int) (h : Kp (KT a b) M0 M) : pw (fX12_chooses M l x) (Kp (KT a b) M0) := by
  unfold fX12_chooses
  refine pw_ite (pw_sv (fun M2 u2 => ?_)) pw_none
  have h2 : Kp (KT a b) M0 M2 := by rw [u2]; exact kt_26 hab h
  have e2 : M2 26 0 l = 0 := by rw [u2]; exact jm_ueq
  exact pw_ite (pw_ite (pw_ret h2) (pw_ite (pw_ite (pw_b (kt_puts hl hab 0 _ _ h2 e2 (by decide) (by decide)) (fun v10 M11 h11 => pw_ret h11.1)) pw_none) pw_none)) pw_none
/-- tries of one car; Z holds once its stops are put back -/
def BZ (fu : Nat) (c : Int) (M0 : jm_M) (Z : jm_M → Prop) : Prop := (0 ≤ c ∧ c < 6) ∧ ∀ M : jm_M, Kp (KT c c) M0 M → pw (fX12_putsBack fu M c) Z
theorem zb_109 {M0 : jm_M} {Z : jm_M → Prop} {fu : Nat} {c : Int} (B : BZ fu c M0 Z) (k13 : jm_M → Int → Int → Int → Int → jm_R) (k47 : jm_M → Int → Int → Int → Int → Int → jm_R) (k70 : jm_M → Int → Int → Int → Int → Int → Int → jm_R) (k92 : jm_M → Int → Int → Int → Int → Int → Int → Int → jm_R) (l2 l3 : Int) (hk70 : ∀ (M : jm_M) (b4 b5 b6 : Int), Kp (KT c c) M0 M → pw (k70 M c l2 l3 b4 b5 b6) Z) (hk92 : ∀ (M : jm_M) (b4 b5 b6 b7 : Int), Kp (KT c c) M0 M → pw (k92 M c l2 l3 b4 b5 b6 b7) Z) {M : jm_M} (l4 l5 l6 l7 s0 s1 : Int) (h : Kp (KT c c) M0 M) : pw (gX12_bests_109 fu k13 k47 k70 k92 M c l2 l3 l4 l5 l6 l7 s0 s1) Z := by
  unfold gX12_bests_109
  exact pw_ite (pw_e (fun v2 => hk70 M l4 l5 v2 h)) (pw_b (kt_tries fu B.1 l3 l2 l4 l5 l6 l7 h) (fun v4 M5 h5 => pw_e (fun v6 => hk92 M5 l4 l5 l6 v6 h5)))
theorem zb_92 {M0 : jm_M} {Z : jm_M → Prop} {fu : Nat} {c : Int} (B : BZ fu c M0 Z) (k13 : jm_M → Int → Int → Int → Int → jm_R) (k47 : jm_M → Int → Int → Int → Int → Int → jm_R) (k70 : jm_M → Int → Int → Int → Int → Int → Int → jm_R) (l2 l3 : Int) (hk70 : ∀ (M : jm_M) (b4 b5 b6 : Int), Kp (KT c c) M0 M → pw (k70 M c l2 l3 b4 b5 b6) Z) : ∀ (n : Nat) {M : jm_M} (l4 l5 l6 l7 : Int), Kp (KT c c) M0 M → pw (fX12_bests_92 fu k13 k47 k70 n M c l2 l3 l4 l5 l6 l7) Z := by
  intro n
  induction n with
  | zero => intro M l4 l5 l6 l7 h; exact pw_none
  | succ n ih =>
    intro M l4 l5 l6 l7 h
    show pw (gX12_bests_92 fu k13 k47 k70 (fX12_bests_92 fu k13 k47 k70 n) M c l2 l3 l4 l5 l6 l7) Z
    unfold gX12_bests_92
    have g : ∀ s0 : Int, pw (gX12_bests_109 fu k13 k47 k70 (fX12_bests_92 fu k13 k47 k70 n) M c l2 l3 l4 l5 l6 l7 s0 l7) Z := fun s0 => zb_109 B k13 k47 k70 (fX12_bests_92 fu k13 k47 k70 n) l2 l3 hk70 (fun M b4 b5 b6 b7 q => ih b4 b5 b6 b7 q) l4 l5 l6 l7 s0 l7 h
    exact pw_ite (g 1) (pw_ite (g _) pw_none)
theorem zb_70 {M0 : jm_M} {Z : jm_M → Prop} {fu : Nat} {c : Int} (B : BZ fu c M0 Z) (k13 : jm_M → Int → Int → Int → Int → jm_R) (k47 : jm_M → Int → Int → Int → Int → Int → jm_R) (l2 l3 : Int) (hk47 : ∀ (M : jm_M) (b4 b5 : Int), Kp (KT c c) M0 M → pw (k47 M c l2 l3 b4 b5) Z) : ∀ (n : Nat) {M : jm_M} (l4 l5 l6 : Int), Kp (KT c c) M0 M → pw (fX12_bests_70 fu k13 k47 n M c l2 l3 l4 l5 l6) Z := by
  intro n
  induction n with
  | zero => intro M l4 l5 l6 h; exact pw_none
  | succ n ih =>
    intro M l4 l5 l6 h
    show pw (gX12_bests_70 fu k13 k47 (fX12_bests_70 fu k13 k47 n) M c l2 l3 l4 l5 l6) Z
    unfold gX12_bests_70
    have g : pw (fX12_bests_92 fu k13 k47 (fX12_bests_70 fu k13 k47 n) fu M c l2 l3 l4 l5 l6 0) Z := zb_92 B k13 k47 (fX12_bests_70 fu k13 k47 n) l2 l3 (fun M b4 b5 b6 q => ih b4 b5 b6 q) fu l4 l5 l6 0 h
    exact pw_ite (pw_ite (pw_e (fun v3 => hk47 M l4 v3 h)) g) (pw_ite (pw_ite (pw_e (fun v8 => hk47 M l4 v8 h)) g) pw_none)
theorem zb_47 {M0 : jm_M} {Z : jm_M → Prop} {fu : Nat} {c : Int} (B : BZ fu c M0 Z) (k13 : jm_M → Int → Int → Int → Int → jm_R) (l2 l3 : Int) (hk13 : ∀ (M : jm_M) (b4 : Int), Kp (KT c c) M0 M → pw (k13 M c l2 l3 b4) Z) : ∀ (n : Nat) {M : jm_M} (l4 l5 : Int), Kp (KT c c) M0 M → pw (fX12_bests_47 fu k13 n M c l2 l3 l4 l5) Z := by
  intro n
  induction n with
  | zero => intro M l4 l5 h; exact pw_none
  | succ n ih =>
    intro M l4 l5 h
    show pw (gX12_bests_47 fu k13 (fX12_bests_47 fu k13 n) M c l2 l3 l4 l5) Z
    unfold gX12_bests_47
    have g : pw (fX12_bests_70 fu k13 (fX12_bests_47 fu k13 n) fu M c l2 l3 l4 l5 0) Z := zb_70 B k13 (fX12_bests_47 fu k13 n) l2 l3 (fun M b4 b5 q => ih b4 b5 q) fu l4 l5 0 h
    exact pw_ite (pw_ite (pw_e (fun v3 => hk13 M v3 h)) g) (pw_ite (pw_e (fun v7 => hk13 M v7 h)) g)
theorem zb_13 {M0 : jm_M} {Z : jm_M → Prop} {fu : Nat} {c : Int} (B : BZ fu c M0 Z) (l2 l3 : Int) : ∀ (n : Nat) {M : jm_M} (l4 : Int), Kp (KT c c) M0 M → pw (fX12_bests_13 fu n M c l2 l3 l4) Z := by
  intro n
  induction n with
  | zero => intro M l4 h; exact pw_none
  | succ n ih =>
    intro M l4 h
    show pw (gX12_bests_13 fu (fX12_bests_13 fu n) M c l2 l3 l4) Z
    unfold gX12_bests_13
    have g : ∀ s0 : Int, pw (gX12_bests_29 fu (fX12_bests_13 fu n) M c l2 l3 l4 s0 l4) Z := fun s0 => by
      unfold gX12_bests_29
      have g2 : ∀ x : Int, pw (fX12_bests_47 fu (fX12_bests_13 fu n) fu M c l2 l3 l4 x) Z := fun x => zb_47 B (fX12_bests_13 fu n) l2 l3 (fun M b4 q => ih b4 q) fu l4 x h
      exact pw_ite (pw_b (B.2 M h) (fun v2 M3 h3 => pw_ite (pw_ret h3) pw_none)) (pw_ite (g2 0) (pw_e (fun v6 => g2 v6)))
    exact pw_ite (g 1) (g _)
theorem rl_bests (fu : Nat) {N : jm_M} (c l2 l3 : Int) (hc : 0 ≤ c ∧ c < 6) (h60 : N 60 0 c = 0) : pw (fX12_bests fu N c l2 l3) (Kp RLX N) := by
  unfold fX12_bests
  refine pw_sv (fun N1 u1 => pw_b (h_clears fu c hc) (fun v2 N3 h3 => ?_))
  have k1 : Kp RLX N N1 := fun f i k y => by rw [u1]; exact jm_une (by unfold RLX at y; omega)
  have B : BZ fu c N3 (Kp RLX N) := ⟨hc, fun M h v M1 e => by
    have z := back1 h3 h (h_putsBack fu c hc v M1 e) (by rw [u1, jm_une_f (by decide)]; exact h60)
    exact k1.tr z (fun _ _ _ y => y)⟩
  exact zb_13 B l2 l3 fu 0 Kp.rf
theorem sn_isAsked {N : jm_M} (a b c : Int) : pw (fX12_isAsked N a b c) (fun N1 => N1 = N) := sn_fX12_isAsked a b c (show SM N N from rfl)
theorem sn_isCar {N : jm_M} (a : Int) : pw (fX12_isCar N a) (fun N1 => N1 = N) := sn_fX12_isCar a (show SM N N from rfl)
theorem sn_isDay {N : jm_M} (a : Int) : pw (fX12_isDay N a) (fun N1 => N1 = N) := sn_fX12_isDay a (show SM N N from rfl)
theorem RLX.u0 {N : jm_M} {v : Int} {k : Int} (hk : k = 0 ∨ k = 82) : Kp RLX N (jm_u N 0 0 k v) := fun f i k2 y => jm_une (by unfold RLX at y; omega)
/-- settle: both cars' stops aside -/
def SZ (fu : Nat) (a b : Int) (M0 : jm_M) (Z : jm_M → Prop) : Prop := (0 ≤ a ∧ a < 6) ∧ (0 ≤ b ∧ b < 6) ∧ ∀ M : jm_M, Kp (KT a b) M0 M → pw (jm_b (fX12_putsBack fu M a) fun _ M5 => jm_b (fX12_putsBack fu M5 b) fun _ M7 => fX12_settle_207 fu fu M7 a b 0) Z
theorem zn_80 {M0 : jm_M} {Z : jm_M → Prop} {fu : Nat} {a b : Int} (B : SZ fu a b M0 Z) (k66 : jm_M → Int → Int → Int → Int → jm_R) (l3 : Int) (hk : ∀ (M : jm_M) (b4 : Int), Kp (KT a b) M0 M → pw (k66 M a b l3 b4) Z) : ∀ (n : Nat) {M : jm_M} (l4 l5 : Int), Kp (KT a b) M0 M → pw (fX12_settle_80 fu k66 n M a b l3 l4 l5) Z := by
  intro n
  induction n with
  | zero => intro M l4 l5 h; exact pw_none
  | succ n ih =>
    intro M l4 l5 h
    show pw (gX12_settle_80 fu k66 (fX12_settle_80 fu k66 n) M a b l3 l4 l5) Z
    unfold gX12_settle_80
    have u : ∀ {M : jm_M} {f : Nat} {k v : Int}, (74 ≤ f ∧ f ≤ 79) → Kp (KT a b) M0 M → Kp (KT a b) M0 (jm_u M f 0 k v) := fun hf q => KT.cl _ _ _ _ _ (Or.inr (Or.inr (Or.inr (Or.inr (Or.inl hf))))) q
    exact pw_ite (pw_ite (pw_e (fun v4 => hk M v4 h)) (pw_b (kt_chooses B.1 (Or.inl rfl) l4 h) (fun v6 M7 h7 => pw_b (kt_chooses B.2.1 (Or.inr rfl) l5 h7) (fun v8 M9 h9 => pw_b (rn_fX12_judges KT.cl fu l3 h9) (fun v10 M11 h11 => pw_b (rn_fX12_placeOf KT.cl fu a 0 h11) (fun v12 M13 h13 => pw_ite (pw_s (P := Kp (KT a b) M0) (u ⟨by decide, by decide⟩ h13) (fun M16 h16 => pw_ite (pw_ite (pw_s (P := Kp (KT a b) M0) (u ⟨by decide, by decide⟩ h16) (fun M20 h20 => pw_b (rn_fX12_placeOf KT.cl fu b 0 h20) (fun v21 M22 h22 => pw_ite (pw_s (P := Kp (KT a b) M0) (u ⟨by decide, by decide⟩ h22) (fun M25 h25 => pw_ite (pw_ite (pw_s (P := Kp (KT a b) M0) (u ⟨by decide, by decide⟩ h25) (fun M29 h29 => pw_e (fun v30 => ih l4 v30 h29))) pw_none) pw_none)) pw_none))) pw_none) pw_none)) pw_none)))))) pw_none
theorem zn_66 {M0 : jm_M} {Z : jm_M → Prop} {fu : Nat} {a b : Int} (B : SZ fu a b M0 Z) (l3 : Int) : ∀ (n : Nat) {M : jm_M} (l4 : Int), Kp (KT a b) M0 M → pw (fX12_settle_66 fu n M a b l3 l4) Z := by
  intro n
  induction n with
  | zero => intro M l4 h; exact pw_none
  | succ n ih =>
    intro M l4 h
    show pw (gX12_settle_66 fu (fX12_settle_66 fu n) M a b l3 l4) Z
    unfold gX12_settle_66
    exact pw_ite (pw_ite (B.2.2 M h) (zn_80 B (fX12_settle_66 fu n) l3 (fun M b4 q => ih b4 q) fu l4 0 h)) pw_none
theorem rl_settle (fu : Nat) {N : jm_M} (l1 l2 l3 : Int) (h60 : ∀ c : Int, 0 ≤ c → c < 6 → N 60 0 c = 0) : pw (fX12_settle fu N l1 l2 l3) (Kp RLX N) := by
  unfold fX12_settle
  refine pw_sv (fun N1 u1 => ?_)
  have k1 : Kp RLX N N1 := by rw [u1]; exact RLX.u0 (Or.inl rfl)
  have e60 : ∀ c : Int, N1 60 0 c = N 60 0 c := fun c => by rw [u1]; exact jm_une_f (by decide)
  refine pw_b (sn_isCar l1) (fun v2 N3 e3 => ?_)
  rw [e3]
  refine pw_ite (pw_ret k1) (pw_b (sn_isCar l2) (fun v6 N7 e7 => ?_))
  rw [e7]
  refine pw_ite (pw_ret k1) (pw_i (fun _ => pw_ret k1) (fun ne => pw_b (sn_isDay l3) (fun v11 N12 e12 => ?_)))
  rw [e12]
  refine pw_ite (pw_ret k1) (pw_i (fun g1 => pw_ite (pw_ret k1) (pw_i (fun g2 => pw_ite (pw_ret k1) ?_) (fun _ => pw_none))) (fun _ => pw_none))
  refine pw_b (h_clears fu l1 g1) (fun v21 N22 c1 => pw_b (h_clears fu l2 g2) (fun v23 N24 c2 => ?_))
  have B : SZ fu l1 l2 N24 (Kp RLX N) := ⟨g1, g2, fun M h => pw_b (h_putsBack fu l1 g1) (fun v4 M5 b1 => pw_b (h_putsBack fu l2 g2) (fun v6 M7 b2 => fun v M8 e => by
    have z : M8 = M7 := sn_fX12_settle_207 fu fu l1 l2 0 (show SM M7 M7 from rfl) v M8 e
    rw [z]
    have y := back2 ne c1 c2 h b1 b2 (by rw [e60]; exact h60 l1 g1.1 g1.2) (by rw [e60]; exact h60 l2 g2.1 g2.2)
    exact k1.tr y (fun _ _ _ y => y)))⟩
  exact zn_66 B l3 fu 0 Kp.rf
theorem pw_at {x : jm_R} {P : Int → jm_M → Prop} {K : Int → jm_M → jm_R} {Z : jm_M → Prop} (h : wp x P) (k : ∀ (v : Int) (M1 : jm_M), P v M1 → pw (K v M1) Z) : pw (jm_b x K) Z := by
  obtain ⟨v, M1, e, q⟩ := h
  rw [e]
  exact k v M1 q
