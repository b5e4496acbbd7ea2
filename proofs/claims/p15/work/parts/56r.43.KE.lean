/-! what a reading leaves alone, if it answers -/
def pw (x : jm_R) (Q : jm_M → Prop) : Prop := ∀ (v : Int) (M1 : jm_M), x = some (v, M1) → Q M1
theorem pw_none {Q : jm_M → Prop} : pw none Q := fun _ _ h => by cases h
theorem pw_ret {v : Int} {M : jm_M} {Q : jm_M → Prop} (h : Q M) : pw (some (v, M)) Q := fun _ _ e => by
  obtain ⟨-, rfl⟩ := Prod.mk.inj (Option.some.inj e)
  exact h
theorem pw_ite {c : Prop} {inst : Decidable c} {x y : jm_R} {Q : jm_M → Prop} (h1 : pw x Q) (h2 : pw y Q) : pw (@ite jm_R c inst x y) Q := by
  by_cases q : c
  · rw [if_pos q]; exact h1
  · rw [if_neg q]; exact h2
theorem pw_b {g : jm_R} {K : Int → jm_M → jm_R} {P Q : jm_M → Prop} (h : pw g P) (k : ∀ (v : Int) (M1 : jm_M), P M1 → pw (K v M1) Q) : pw (jm_b g K) Q := by
  intro v M1 e
  cases hg : g with
  | none => rw [hg] at e; exact absurd e (by simp [jm_b])
  | some p =>
    obtain ⟨a, b⟩ := p
    rw [hg] at e
    exact k a b (h a b hg) v M1 e
theorem pw_e {v : Int} {K : Int → jm_R} {Q : jm_M → Prop} (h : ∀ x : Int, pw (K x) Q) : pw (jm_e v K) Q := h v
theorem pw_s {M : jm_M} {K : jm_M → jm_R} {P Q : jm_M → Prop} (hp : P M) (h : ∀ M1 : jm_M, P M1 → pw (K M1) Q) : pw (jm_s M K) Q := h M hp
theorem pw_wp {x : jm_R} {P : Int → jm_M → Prop} {Q : jm_M → Prop} (h : wp x P) (g : ∀ (v : Int) (M1 : jm_M), P v M1 → Q M1) : pw x Q := fun v M1 e => by
  obtain ⟨v2, M2, e2, q⟩ := h
  rw [e] at e2
  obtain ⟨rfl, rfl⟩ := Prod.mk.inj (Option.some.inj e2)
  exact g _ _ q
theorem wp_pw {x : jm_R} {P : Int → jm_M → Prop} {Q : jm_M → Prop} (h : wp x P) (g : pw x Q) : wp x (fun v M1 => P v M1 ∧ Q M1) := by
  obtain ⟨v, M1, e, q⟩ := h
  exact ⟨v, M1, e, q, g v M1 e⟩
/-- texts but r stand as they were; r is the one read into -/
def RG (r : Int) (M0 M : jm_M) : Prop := (∀ (f : Nat) (i k : Int), CTX f 0 0 → i ≠ r → M f i k = M0 f i k) ∧ M 6 0 8 = r
theorem RG.u6 {r : Int} {M0 M : jm_M} {k v : Int} (h : RG r M0 M) (hk : k ≠ 8) : RG r M0 (jm_u M 6 0 k v) := ⟨fun f i k2 c n => (jm_une_f (by unfold CTX at c; omega)).trans (h.1 f i k2 c n), (jm_une_k (Ne.symm hk)).trans h.2⟩
theorem RG.uo {r : Int} {M0 M : jm_M} {f : Nat} {i k v : Int} (h : RG r M0 M) (hf : ¬ (f = 6 ∨ f = 11 ∨ (20 ≤ f ∧ f ≤ 24))) : RG r M0 (jm_u M f i k v) := ⟨fun f2 i2 k2 c n => (jm_une_f (by unfold CTX at c; omega)).trans (h.1 f2 i2 k2 c n), (jm_une_f (by omega)).trans h.2⟩
theorem RG.ut {r r0 : Int} {M0 M : jm_M} {f : Nat} {k v : Int} (h : RG r M0 M) (hr : r0 = r) (hf : f ≠ 6) : RG r M0 (jm_u M f r0 k v) := ⟨fun f2 i2 k2 c n => (jm_une (fun q => n (q.2.1.trans hr))).trans (h.1 f2 i2 k2 c n), (jm_une_f (Ne.symm hf)).trans h.2⟩
theorem rg_fX3_isLetter {r : Int} {M0 : jm_M} (fu : Nat) {M : jm_M} (l1 : Int) (h : RG r M0 M) : pw (fX3_isLetter fu M l1) (RG r M0) := pw_wp (y_isLetter fu M l1) (fun v M1 q => by rw [q.1]; exact h)
theorem rg_fX8_empty {r : Int} {M0 : jm_M} {M : jm_M} (r0 : Int) (h : RG r M0 M) (hr0 : r0 = r) : pw (fX8_empty M r0) (RG r M0) := by
  unfold fX8_empty
  exact pw_s (P := RG r M0) (h.ut hr0 (by decide)) (fun M1 h1 => pw_s (P := RG r M0) (h1.ut hr0 (by decide)) (fun M2 h2 => pw_s (P := RG r M0) (h2.ut hr0 (by decide)) (fun M3 h3 => pw_ret h3)))
theorem rg_fX3_beginLine {r : Int} {M0 : jm_M} {M : jm_M} (h : RG r M0 M) : pw (fX3_beginLine M ) (RG r M0) := by
  unfold fX3_beginLine
  exact pw_s (P := RG r M0) (h.u6 (by decide)) (fun M1 h1 => pw_s (P := RG r M0) (h1.u6 (by decide)) (fun M2 h2 => pw_s (P := RG r M0) (h2.u6 (by decide)) (fun M3 h3 => pw_s (P := RG r M0) (h3.u6 (by decide)) (fun M4 h4 => pw_s (P := RG r M0) (h4.u6 (by decide)) (fun M5 h5 => pw_ret h5)))))
theorem rg_gX3_firstWrong_a12_121 {r : Int} {M0 : jm_M} (fu : Nat) {M : jm_M} (l2 : Int) (h : RG r M0 M) : pw (gX3_firstWrong_a12_121 fu M l2) (RG r M0) := by
  unfold gX3_firstWrong_a12_121
  exact pw_ret h
theorem rg_gX3_firstWrong_a12_125 {r : Int} {M0 : jm_M} (fu : Nat) {M : jm_M} (l2 : Int) (h : RG r M0 M) : pw (gX3_firstWrong_a12_125 fu M l2) (RG r M0) := by
  unfold gX3_firstWrong_a12_125
  exact pw_ret h
theorem rg_gX3_firstWrong_a12_65 {r : Int} {M0 : jm_M} (fu : Nat) {M : jm_M} (l2 : Int) (h : RG r M0 M) : pw (gX3_firstWrong_a12_65 fu M l2) (RG r M0) := by
  unfold gX3_firstWrong_a12_65
  exact pw_ite (pw_ite (pw_ite (rg_gX3_firstWrong_a12_121 fu l2 h) (pw_ite (pw_ite (rg_gX3_firstWrong_a12_125 fu l2 h) (rg_gX3_firstWrong_a12_121 fu l2 h)) (rg_gX3_firstWrong_a12_125 fu l2 h))) (pw_ite (pw_ret h) (pw_ret h))) (pw_ret h)
theorem rg_fX3_isDigit {r : Int} {M0 : jm_M} {M : jm_M} (l0 : Int) (h : RG r M0 M) : pw (fX3_isDigit M l0) (RG r M0) := by
  unfold fX3_isDigit
  exact pw_ite (pw_ret h) (pw_ite (pw_ret h) (pw_ret h))
theorem rg_fX11_isIndex {r : Int} {M0 : jm_M} {M : jm_M} (l0 l1 : Int) (h : RG r M0 M) : pw (fX11_isIndex M l0 l1) (RG r M0) := by
  unfold fX11_isIndex
  exact pw_ite (pw_ret h) (pw_ite (pw_ret h) (pw_ret h))
theorem rg_fX3_hold {r : Int} {M0 : jm_M} {M : jm_M} (l1 : Int) (h : RG r M0 M) : pw (fX3_hold M l1) (RG r M0) := by
  unfold fX3_hold
  exact pw_b (rg_fX11_isIndex  (M 6 0 1) 60 h) (fun v2 M3 h3 => pw_ite (pw_ret h3) (pw_ite (pw_s (P := RG r M0) (h3.uo (by decide)) (fun M8 h8 => pw_s (P := RG r M0) (h8.u6 (by decide)) (fun M10 h10 => pw_ret h10))) (pw_none)))
theorem rg_fX3_opens {r : Int} {M0 : jm_M} {M : jm_M} (h : RG r M0 M) : pw (fX3_opens M ) (RG r M0) := by
  unfold fX3_opens
  exact pw_b (rg_fX11_isIndex  (M 6 0 3) 60 h) (fun v2 M3 h3 => pw_ite (pw_ret h3) (pw_ite (pw_ite (pw_s (P := RG r M0) (h3.uo (by decide)) (fun M9 h9 => pw_s (P := RG r M0) (h9.u6 (by decide)) (fun M12 h12 => pw_s (P := RG r M0) (h12.u6 (by decide)) (fun M13 h13 => pw_b (rg_fX3_hold  40 h13) (fun v14 M15 h15 => pw_s (P := RG r M0) (h15.u6 (by decide)) (fun M16 h16 => pw_ret h16)))))) (pw_none)) (pw_none)))
theorem rg_gX3_takesOperand_113 {r : Int} {M0 : jm_M} (fu : Nat) {M : jm_M} (l1 : Int) (h : RG r M0 M) : pw (gX3_takesOperand_113 fu M l1) (RG r M0) := by
  unfold gX3_takesOperand_113
  exact pw_ite (pw_b (rg_fX3_hold  126 h) (fun v2 M3 h3 => pw_s (P := RG r M0) (h3.u6 (by decide)) (fun M4 h4 => pw_ret h4))) (pw_b (rg_fX3_hold  l1 h) (fun v5 M6 h6 => pw_s (P := RG r M0) (h6.u6 (by decide)) (fun M7 h7 => pw_ret h7)))
theorem rg_gX3_takesOperand_90 {r : Int} {M0 : jm_M} (fu : Nat) {M : jm_M} (l1 : Int) (h : RG r M0 M) : pw (gX3_takesOperand_90 fu M l1) (RG r M0) := by
  unfold gX3_takesOperand_90
  exact pw_ite (pw_b (rg_fX3_opens   h) (fun v2 M3 h3 => pw_ite (pw_ret h3) (pw_none))) (pw_ite (rg_gX3_takesOperand_113 fu l1 h) (pw_ite (rg_gX3_takesOperand_113 fu l1 h) (pw_ret h)))
theorem rg_fX3_levelOf {r : Int} {M0 : jm_M} {M : jm_M} (l0 : Int) (h : RG r M0 M) : pw (fX3_levelOf M l0) (RG r M0) := by
  unfold fX3_levelOf
  exact pw_ite (pw_ret h) (pw_ite (pw_ret h) (pw_ite (pw_ret h) (pw_ite (pw_ret h) (pw_ite (pw_ret h) (pw_ite (pw_ret h) (pw_ite (pw_ret h) (pw_ite (pw_ret h) (pw_ite (pw_ret h) (pw_ite (pw_ret h) (pw_ret h))))))))))
theorem rg_fX8_emit {r : Int} {M0 : jm_M} {M : jm_M} (r0 l1 : Int) (h : RG r M0 M) (hr0 : r0 = r) : pw (fX8_emit M r0 l1) (RG r M0) := by
  unfold fX8_emit
  exact pw_b (rg_fX11_isIndex  (M 11 r0 1) 60 h) (fun v2 M3 h3 => pw_ite (pw_ret h3) (pw_ite (pw_s (P := RG r M0) (h3.ut hr0 (by decide)) (fun M8 h8 => pw_s (P := RG r M0) (h8.ut hr0 (by decide)) (fun M10 h10 => pw_ret h10))) (pw_none)))
theorem rg_gX3_release_7 {r : Int} {M0 : jm_M} (fu : Nat) (k7 : jm_M → Int → Int → jm_R) (hk7 : ∀ (M : jm_M) (b0 b1 : Int), RG r M0 M → pw (k7 M b0 b1) (RG r M0)) {M : jm_M} (l1 l2 : Int) (h : RG r M0 M) : pw (gX3_release_7 fu k7 M l1 l2) (RG r M0) := by
  unfold gX3_release_7
  exact pw_ite (pw_ret h) (pw_ite (pw_b (rg_fX3_levelOf  (M 25 0 l2) h) (fun v4 M5 h5 => pw_ite (pw_ret h5) (pw_ite (pw_ite (pw_b (rg_fX8_emit  (M5 6 0 8) (jm_w (2000 + (M5 25 0 l2))) h5 h5.2) (fun v11 M12 h12 => pw_s (P := RG r M0) (h12.u6 (by decide)) (fun M13 h13 => pw_e (fun v14 => hk7 M13 l1 v14 h13)))) (pw_none)) (pw_none)))) (pw_none))
theorem rg_fX3_release_7 {r : Int} {M0 : jm_M} (fu : Nat) : ∀ (n : Nat) {M : jm_M} (a0 a1 : Int), RG r M0 M → pw (fX3_release_7 fu n M a0 a1) (RG r M0) := by
  intro n
  induction n with
  | zero => intro M a0 a1 h; exact pw_none
  | succ n ih =>
    intro M a0 a1 h
    exact rg_gX3_release_7 fu (fX3_release_7 fu n) (fun M a0 a1 h => ih a0 a1 h) a0 a1 h
theorem rg_fX3_release {r : Int} {M0 : jm_M} (fu : Nat) {M : jm_M} (l1 : Int) (h : RG r M0 M) : pw (fX3_release fu M l1) (RG r M0) := by
  unfold fX3_release
  exact pw_e (fun v2 => rg_fX3_release_7 fu fu l1 v2 h)
theorem rg_fX8_endCondition {r : Int} {M0 : jm_M} {M : jm_M} (r0 : Int) (h : RG r M0 M) (hr0 : r0 = r) : pw (fX8_endCondition M r0) (RG r M0) := by
  unfold fX8_endCondition
  exact pw_b (rg_fX11_isIndex  (M 11 r0 6) 21 h) (fun v2 M3 h3 => pw_ite (pw_ret h3) (pw_ite (pw_s (P := RG r M0) (h3.ut hr0 (by decide)) (fun M9 h9 => pw_ite (pw_s (P := RG r M0) (h9.ut hr0 (by decide)) (fun M12 h12 => pw_ite (pw_s (P := RG r M0) (h12.ut hr0 (by decide)) (fun M15 h15 => pw_ite (pw_s (P := RG r M0) (h15.ut hr0 (by decide)) (fun M18 h18 => pw_s (P := RG r M0) (h18.ut hr0 (by decide)) (fun M20 h20 => pw_ret h20))) (pw_none))) (pw_none))) (pw_none))) (pw_none)))
theorem rg_fX3_endsCondition {r : Int} {M0 : jm_M} (fu : Nat) {M : jm_M} (h : RG r M0 M) : pw (fX3_endsCondition fu M ) (RG r M0) := by
  unfold fX3_endsCondition
  exact pw_b (rg_fX3_release fu 1 h) (fun v1 M2 h2 => pw_ite (pw_b (rg_fX8_endCondition  (M2 6 0 8) h2 h2.2) (fun v4 M5 h5 => pw_ite (pw_s (P := RG r M0) (h5.u6 (by decide)) (fun M8 h8 => pw_ret h8)) (pw_s (P := RG r M0) (h5.u6 (by decide)) (fun M9 h9 => pw_ret h9)))) (pw_none))
theorem rg_fX3_takesOperand {r : Int} {M0 : jm_M} (fu : Nat) {M : jm_M} (l1 : Int) (h : RG r M0 M) : pw (fX3_takesOperand fu M l1) (RG r M0) := by
  unfold fX3_takesOperand
  exact pw_b (rg_fX3_isDigit  l1 h) (fun v1 M2 h2 => pw_ite (pw_b (rg_fX3_isLetter fu l1 h2) (fun v5 M6 h6 => pw_ite (pw_ite (pw_ite (rg_gX3_takesOperand_90 fu l1 h6) (pw_ite (pw_b (rg_fX3_endsCondition fu  h6) (fun v14 M15 h15 => pw_ite (pw_ret h15) (pw_none))) (rg_gX3_takesOperand_90 fu l1 h6))) (rg_gX3_takesOperand_90 fu l1 h6)) (pw_ite (pw_b (rg_fX8_emit  (M6 6 0 8) (jm_w ((jm_w (1000 + l1)) - 97)) h6 h6.2) (fun v18 M19 h19 => pw_s (P := RG r M0) (h19.u6 (by decide)) (fun M20 h20 => pw_s (P := RG r M0) (h20.u6 (by decide)) (fun M21 h21 => pw_ret h21)))) (pw_none)))) (pw_ite (pw_b (rg_fX8_emit  (M2 6 0 8) (jm_w (l1 - 48)) h2 h2.2) (fun v23 M24 h24 => pw_s (P := RG r M0) (h24.u6 (by decide)) (fun M25 h25 => pw_s (P := RG r M0) (h25.u6 (by decide)) (fun M26 h26 => pw_ret h26)))) (pw_none)))
theorem rg_fX3_closes {r : Int} {M0 : jm_M} (fu : Nat) {M : jm_M} (h : RG r M0 M) : pw (fX3_closes fu M ) (RG r M0) := by
  unfold fX3_closes
  exact pw_b (rg_fX11_isIndex  (jm_w ((M 6 0 3) - 1)) 60 h) (fun v2 M3 h3 => pw_ite (pw_ret h3) (pw_b (rg_fX3_release fu 1 h3) (fun v6 M7 h7 => pw_s (P := RG r M0) (h7.u6 (by decide)) (fun M9 h9 => pw_s (P := RG r M0) (h9.u6 (by decide)) (fun M11 h11 => pw_ite (pw_ite (pw_s (P := RG r M0) (h11.u6 (by decide)) (fun M15 h15 => pw_ret h15)) (pw_none)) (pw_none))))))
theorem rg_gX3_joins_48 {r : Int} {M0 : jm_M} (fu : Nat) {M : jm_M} (l1 l2 : Int) (h : RG r M0 M) : pw (gX3_joins_48 fu M l1 l2) (RG r M0) := by
  unfold gX3_joins_48
  exact pw_b (rg_fX3_release fu l2 h) (fun v1 M2 h2 => pw_b (rg_fX3_hold  l1 h2) (fun v3 M4 h4 => pw_s (P := RG r M0) (h4.u6 (by decide)) (fun M5 h5 => pw_ret h5)))
theorem rg_gX3_joins_29 {r : Int} {M0 : jm_M} (fu : Nat) {M : jm_M} (l1 l2 : Int) (h : RG r M0 M) : pw (gX3_joins_29 fu M l1 l2) (RG r M0) := by
  unfold gX3_joins_29
  exact pw_ite (rg_gX3_joins_48 fu l1 l2 h) (pw_ite (pw_s (P := RG r M0) (h.u6 (by decide)) (fun M3 h3 => rg_gX3_joins_48 fu l1 l2 h3)) (pw_s (P := RG r M0) (h.u6 (by decide)) (fun M4 h4 => rg_gX3_joins_48 fu l1 l2 h4)))
theorem rg_fX3_joins {r : Int} {M0 : jm_M} (fu : Nat) {M : jm_M} (l1 : Int) (h : RG r M0 M) : pw (fX3_joins fu M l1) (RG r M0) := by
  unfold fX3_joins
  exact pw_b (rg_fX3_levelOf  l1 h) (fun v1 M2 h2 => pw_ite (pw_ret h2) (pw_ite (pw_ret h2) (pw_ite (pw_ite (rg_gX3_joins_29 fu l1 v1 h2) (pw_ret h2)) (rg_gX3_joins_29 fu l1 v1 h2))))
theorem rg_fX8_addDigit {r : Int} {M0 : jm_M} {M : jm_M} (r0 l1 : Int) (h : RG r M0 M) (hr0 : r0 = r) : pw (fX8_addDigit M r0 l1) (RG r M0) := by
  unfold fX8_addDigit
  exact pw_b (rg_fX11_isIndex  (jm_w ((M 11 r0 1) - 1)) 60 h) (fun v2 M3 h3 => pw_ite (pw_ret h3) (pw_ite (pw_ite (pw_s (P := RG r M0) (h3.ut hr0 (by decide)) (fun M11 h11 => pw_ret h11)) (pw_none)) (pw_none)))
theorem rg_fX3_takesBehindOperand {r : Int} {M0 : jm_M} (fu : Nat) {M : jm_M} (l1 : Int) (h : RG r M0 M) : pw (fX3_takesBehindOperand fu M l1) (RG r M0) := by
  unfold fX3_takesBehindOperand
  exact pw_b (rg_fX3_isDigit  l1 h) (fun v1 M2 h2 => pw_ite (pw_s (P := RG r M0) (h2.u6 (by decide)) (fun M5 h5 => pw_ite (pw_ite (pw_b (rg_fX3_endsCondition fu  h5) (fun v9 M10 h10 => pw_ite (pw_ret h10) (pw_ret h10))) (pw_ret h5)) (pw_ite (pw_b (rg_fX3_closes fu  h5) (fun v14 M15 h15 => pw_ite (pw_ret h15) (pw_none))) (pw_b (rg_fX3_joins fu l1 h5) (fun v17 M18 h18 => pw_ite (pw_ret h18) (pw_none)))))) (pw_ite (pw_ret h2) (pw_ite (pw_ite (pw_b (rg_fX8_addDigit  (M2 6 0 8) (jm_w (l1 - 48)) h2 h2.2) (fun v25 M26 h26 => pw_s (P := RG r M0) (h26.u6 (by decide)) (fun M28 h28 => pw_ret h28))) (pw_none)) (pw_ret h2))))
theorem rg_fX3_takesVerdict {r : Int} {M0 : jm_M} {M : jm_M} (l1 : Int) (h : RG r M0 M) : pw (fX3_takesVerdict M l1) (RG r M0) := by
  unfold fX3_takesVerdict
  exact pw_ite (pw_ite (pw_s (P := RG r M0) (h.ut h.2 (by decide)) (fun M3 h3 => pw_s (P := RG r M0) (h3.u6 (by decide)) (fun M4 h4 => pw_ret h4))) (pw_none)) (pw_s (P := RG r M0) (h.u6 (by decide)) (fun M5 h5 => pw_s (P := RG r M0) (h5.u6 (by decide)) (fun M6 h6 => pw_ite (pw_ret h6) (pw_ret h6))))
theorem rg_fX3_takesSeconds {r : Int} {M0 : jm_M} {M : jm_M} (l1 : Int) (h : RG r M0 M) : pw (fX3_takesSeconds M l1) (RG r M0) := by
  unfold fX3_takesSeconds
  exact pw_b (rg_fX3_isDigit  l1 h) (fun v1 M2 h2 => pw_ite (pw_ret h2) (pw_ite (pw_ite (pw_ite (pw_s (P := RG r M0) (h2.ut h2.2 (by decide)) (fun M10 h10 => pw_s (P := RG r M0) (h10.u6 (by decide)) (fun M12 h12 => pw_ret h12))) (pw_none)) (pw_none)) (pw_ret h2)))
theorem rg_fX8_act {r : Int} {M0 : jm_M} {M : jm_M} (r0 l1 : Int) (h : RG r M0 M) (hr0 : r0 = r) : pw (fX8_act M r0 l1) (RG r M0) := by
  unfold fX8_act
  exact pw_e (fun v2 => pw_b (rg_fX11_isIndex  v2 21 h) (fun v4 M5 h5 => pw_ite (pw_ret h5) (pw_ite (pw_ite (pw_s (P := RG r M0) (h5.ut hr0 (by decide)) (fun M10 h10 => pw_ret h10)) (pw_none)) (pw_ite (pw_ite (pw_s (P := RG r M0) (h5.ut hr0 (by decide)) (fun M13 h13 => pw_ret h13)) (pw_none)) (pw_ite (pw_ite (pw_s (P := RG r M0) (h5.ut hr0 (by decide)) (fun M16 h16 => pw_ret h16)) (pw_none)) (pw_ite (pw_ite (pw_s (P := RG r M0) (h5.ut hr0 (by decide)) (fun M19 h19 => pw_ret h19)) (pw_none)) (pw_ite (pw_ite (pw_s (P := RG r M0) (h5.ut hr0 (by decide)) (fun M22 h22 => pw_ret h22)) (pw_none)) (pw_ret h5))))))))
theorem rg_fX3_takesAct {r : Int} {M0 : jm_M} {M : jm_M} (l1 : Int) (h : RG r M0 M) : pw (fX3_takesAct M l1) (RG r M0) := by
  unfold fX3_takesAct
  exact pw_ite (pw_ite (pw_b (rg_fX8_act  (M 6 0 8) l1 h h.2) (fun v3 M4 h4 => pw_s (P := RG r M0) (h4.u6 (by decide)) (fun M5 h5 => pw_ret h5))) (pw_none)) (pw_ite (pw_ite (pw_b (rg_fX8_act  (M 6 0 8) l1 h h.2) (fun v8 M9 h9 => pw_s (P := RG r M0) (h9.u6 (by decide)) (fun M10 h10 => pw_ret h10))) (pw_none)) (pw_ite (pw_ite (pw_b (rg_fX8_act  (M 6 0 8) l1 h h.2) (fun v13 M14 h14 => pw_s (P := RG r M0) (h14.u6 (by decide)) (fun M15 h15 => pw_ret h15))) (pw_none)) (pw_ite (pw_ite (pw_b (rg_fX3_beginLine   h) (fun v19 M20 h20 => pw_ret h20)) (pw_ret h)) (pw_ite (pw_ite (pw_b (rg_fX8_act  (M 6 0 8) l1 h h.2) (fun v23 M24 h24 => pw_s (P := RG r M0) (h24.u6 (by decide)) (fun M25 h25 => pw_ret h25))) (pw_none)) (pw_ite (pw_s (P := RG r M0) (h.u6 (by decide)) (fun M27 h27 => pw_ret h27)) (pw_ite (pw_ite (pw_b (rg_fX8_act  (M 6 0 8) l1 h h.2) (fun v30 M31 h31 => pw_s (P := RG r M0) (h31.u6 (by decide)) (fun M32 h32 => pw_ret h32))) (pw_none)) (pw_ite (pw_ite (pw_b (rg_fX8_act  (M 6 0 8) l1 h h.2) (fun v35 M36 h36 => pw_s (P := RG r M0) (h36.u6 (by decide)) (fun M37 h37 => pw_ret h37))) (pw_none)) (pw_ret h))))))))
theorem rg_fX8_actBox {r : Int} {M0 : jm_M} {M : jm_M} (r0 l1 : Int) (h : RG r M0 M) (hr0 : r0 = r) : pw (fX8_actBox M r0 l1) (RG r M0) := by
  unfold fX8_actBox
  exact pw_b (rg_fX11_isIndex  (jm_w ((M 11 r0 6) - 1)) 21 h) (fun v2 M3 h3 => pw_ite (pw_ret h3) (pw_ite (pw_s (P := RG r M0) (h3.ut hr0 (by decide)) (fun M8 h8 => pw_ret h8)) (pw_none)))
theorem rg_fX3_takesBox {r : Int} {M0 : jm_M} {M : jm_M} (l1 : Int) (h : RG r M0 M) : pw (fX3_takesBox M l1) (RG r M0) := by
  unfold fX3_takesBox
  exact pw_ite (pw_ret h) (pw_ite (pw_ite (pw_b (rg_fX8_actBox  (M 6 0 8) (jm_w (l1 - 48)) h h.2) (fun v4 M5 h5 => pw_s (P := RG r M0) (h5.u6 (by decide)) (fun M6 h6 => pw_ret h6))) (pw_none)) (pw_ret h))
theorem rg_fX3_takes {r : Int} {M0 : jm_M} (fu : Nat) {M : jm_M} (l1 : Int) (h : RG r M0 M) : pw (fX3_takes fu M l1) (RG r M0) := by
  unfold fX3_takes
  exact pw_ite (pw_b (rg_fX3_takesOperand fu l1 h) (fun v3 M4 h4 => pw_ite (pw_ret h4) (pw_none))) (pw_ite (pw_b (rg_fX3_takesOperand fu l1 h) (fun v7 M8 h8 => pw_ite (pw_ret h8) (pw_none))) (pw_ite (pw_b (rg_fX3_takesBehindOperand fu l1 h) (fun v11 M12 h12 => pw_ite (pw_ret h12) (pw_none))) (pw_ite (pw_b (rg_fX3_takesVerdict  l1 h) (fun v15 M16 h16 => pw_ite (pw_ret h16) (pw_none))) (pw_ite (pw_b (rg_fX3_takesSeconds  l1 h) (fun v19 M20 h20 => pw_ite (pw_ret h20) (pw_none))) (pw_ite (pw_b (rg_fX3_takesAct  l1 h) (fun v23 M24 h24 => pw_ite (pw_ret h24) (pw_none))) (pw_ite (pw_b (rg_fX3_takesAct  l1 h) (fun v27 M28 h28 => pw_ite (pw_ret h28) (pw_none))) (pw_ite (pw_b (rg_fX3_takesBox  l1 h) (fun v31 M32 h32 => pw_ite (pw_ret h32) (pw_none))) (pw_ret h))))))))
theorem rg_gX3_firstWrong_a12_25 {r : Int} {M0 : jm_M} (fu : Nat) (k25 : jm_M → Int → Int → jm_R) (hk25 : ∀ (M : jm_M) (b0 b1 : Int), RG r M0 M → pw (k25 M b0 b1) (RG r M0)) {M : jm_M} (l2 l5 : Int) (h : RG r M0 M) : pw (gX3_firstWrong_a12_25 fu k25 M l2 l5) (RG r M0) := by
  unfold gX3_firstWrong_a12_25
  exact pw_ite (rg_gX3_firstWrong_a12_65 fu l2 h) (pw_ite (rg_gX3_firstWrong_a12_65 fu l2 h) (pw_ite (rg_gX3_firstWrong_a12_65 fu l2 h) (pw_ite (pw_b (rg_fX3_takes fu (M 12 0 l5) h) (fun v6 M7 h7 => pw_ite (pw_ret h7) (pw_e (fun v10 => hk25 M7 l2 v10 h7)))) (pw_none))))
theorem rg_fX3_firstWrong_a12_25 {r : Int} {M0 : jm_M} (fu : Nat) : ∀ (n : Nat) {M : jm_M} (a0 a1 : Int), RG r M0 M → pw (fX3_firstWrong_a12_25 fu n M a0 a1) (RG r M0) := by
  intro n
  induction n with
  | zero => intro M a0 a1 h; exact pw_none
  | succ n ih =>
    intro M a0 a1 h
    exact rg_gX3_firstWrong_a12_25 fu (fX3_firstWrong_a12_25 fu n) (fun M a0 a1 h => ih a0 a1 h) a0 a1 h
theorem k_frame (fu : Nat) (M : jm_M) (t r l2 : Int) : pw (fX3_firstWrong_a12 fu M t r l2) (RG r M) := by
  unfold fX3_firstWrong_a12
  exact pw_ite (pw_s (P := fun M1 => ∀ (f : Nat) (i k : Int), f ≠ 6 → M1 f i k = M f i k) (fun f i k q => jm_une_f q) (fun M1 h1 => pw_s (P := RG r M) ⟨fun f i k c n => (jm_une_f (by unfold CTX at c; omega)).trans (h1 f i k (by unfold CTX at c; omega)), jm_ueq⟩ (fun M3 h3 => pw_ite (pw_b (rg_fX8_empty (M3 6 0 8) h3 h3.2) (fun v5 M6 h6 => pw_b (rg_fX3_beginLine h6) (fun v7 M8 h8 => rg_fX3_firstWrong_a12_25 fu fu t 0 h8))) pw_none))) pw_none
/-- where texts lie, and what they hold -/
def XD (f : Nat) (_ k : Int) : Prop := (f = 0 ∧ k = 10) ∨ (f = 8 ∧ k = 11) ∨ f = 35 ∨ f = 48 ∨ f = 11 ∨ (20 ≤ f ∧ f ≤ 24)
theorem XD.u {M0 M : jm_M} {f : Nat} {i k v : Int} (h : Kp XD M0 M) (hn : ¬ XD f i k) : Kp XD M0 (jm_u M f i k v) := fun f2 i2 k2 c => (jm_une (by rintro ⟨rfl, rfl, rfl⟩; exact hn c)).trans (h f2 i2 k2 c)
theorem xd_gX9_layAnew_12 {M0 : jm_M} (fu : Nat) (k12 : jm_M → Int → jm_R) (hk12 : ∀ (M : jm_M) (b0 : Int), Kp XD M0 M → pw (k12 M b0) (Kp XD M0)) {M : jm_M} (l3 : Int) (h : Kp XD M0 M) : pw (gX9_layAnew_12 fu k12 M l3) (Kp XD M0) := by
  unfold gX9_layAnew_12
  exact pw_ite (pw_s (P := Kp XD M0) (XD.u h (by unfold XD; omega)) (fun M2 h2 => pw_s (P := Kp XD M0) (XD.u h2 (by unfold XD; omega)) (fun M3 h3 => pw_ret h3))) (pw_ite (pw_s (P := Kp XD M0) (XD.u h (by unfold XD; omega)) (fun M5 h5 => pw_ite (pw_s (P := Kp XD M0) (XD.u h5 (by unfold XD; omega)) (fun M7 h7 => pw_ite (pw_ite (pw_s (P := Kp XD M0) (XD.u h7 (by unfold XD; omega)) (fun M9 h9 => pw_e (fun v11 => hk12 M9 v11 h9))) (pw_none)) (pw_none))) (pw_none))) (pw_none))
theorem xd_fX9_layAnew_12 {M0 : jm_M} (fu : Nat) : ∀ (n : Nat) {M : jm_M} (a0 : Int), Kp XD M0 M → pw (fX9_layAnew_12 fu n M a0) (Kp XD M0) := by
  intro n
  induction n with
  | zero => intro M a0 h; exact pw_none
  | succ n ih =>
    intro M a0 h
    exact xd_gX9_layAnew_12 fu (fX9_layAnew_12 fu n) (fun M a0 h => ih a0 h) a0 h
theorem xd_fX9_layAnew {M0 : jm_M} (fu : Nat) {M : jm_M} (l1 l2 : Int) (h : Kp XD M0 M) : pw (fX9_layAnew fu M l1 l2) (Kp XD M0) := by
  unfold fX9_layAnew
  exact pw_s (P := Kp XD M0) (XD.u h (by unfold XD; omega)) (fun M1 h1 => pw_s (P := Kp XD M0) (XD.u h1 (by unfold XD; omega)) (fun M2 h2 => xd_fX9_layAnew_12 fu fu 0 h2))
theorem xd_fX11_track {M0 : jm_M} (fu : Nat) {M : jm_M} (l1 l2 : Int) (h : Kp XD M0 M) : pw (fX11_track fu M l1 l2) (Kp XD M0) := by
  unfold fX11_track
  exact pw_ite (pw_ret h) (pw_ite (pw_ret h) (pw_ite (pw_ret h) (pw_ite (pw_b (xd_fX9_layAnew fu l1 l2 h) (fun v5 M6 h6 => pw_s (P := Kp XD M0) (XD.u h6 (by unfold XD; omega)) (fun M7 h7 => pw_s (P := Kp XD M0) (XD.u h7 (by unfold XD; omega)) (fun M8 h8 => pw_s (P := Kp XD M0) (XD.u h8 (by unfold XD; omega)) (fun M9 h9 => pw_s (P := Kp XD M0) (XD.u h9 (by unfold XD; omega)) (fun M10 h10 => pw_ret h10)))))) (pw_ret h))))
theorem xd_fX11_isIndex {M0 : jm_M} {M : jm_M} (l0 l1 : Int) (h : Kp XD M0 M) : pw (fX11_isIndex M l0 l1) (Kp XD M0) := by
  unfold fX11_isIndex
  exact pw_ite (pw_ret h) (pw_ite (pw_ret h) (pw_ret h))
theorem xd_fX9_hasSector {M0 : jm_M} {M : jm_M} (l1 : Int) (h : Kp XD M0 M) : pw (fX9_hasSector M l1) (Kp XD M0) := by
  unfold fX9_hasSector
  exact pw_b (xd_fX11_isIndex  l1 (M 1 0 0) h) (fun v2 M3 h3 => pw_ite (pw_ret h3) (pw_none))
theorem xd_fX11_isWithin {M0 : jm_M} {M : jm_M} (l0 l1 l2 : Int) (h : Kp XD M0 M) : pw (fX11_isWithin M l0 l1 l2) (Kp XD M0) := by
  unfold fX11_isWithin
  exact pw_ite (pw_ret h) (pw_ite (pw_ret h) (pw_ret h))
theorem xd_fX11_sector {M0 : jm_M} {M : jm_M} (l1 l2 l3 : Int) (h : Kp XD M0 M) : pw (fX11_sector M l1 l2 l3) (Kp XD M0) := by
  unfold fX11_sector
  exact pw_b (xd_fX9_hasSector  l1 h) (fun v1 M2 h2 => pw_ite (pw_ret h2) (pw_b (xd_fX11_isWithin  l2 5000 60000 h2) (fun v5 M6 h6 => pw_ite (pw_ret h6) (pw_b (xd_fX11_isWithin  l3 (-1) 5000 h6) (fun v9 M10 h10 => pw_ite (pw_ret h10) (pw_ite (pw_s (P := Kp XD M0) (XD.u h10 (by unfold XD; omega)) (fun M14 h14 => pw_ite (pw_s (P := Kp XD M0) (XD.u h14 (by unfold XD; omega)) (fun M16 h16 => pw_s (P := Kp XD M0) (XD.u h16 (by unfold XD; omega)) (fun M17 h17 => pw_ret h17))) (pw_none))) (pw_none)))))))
theorem xd_fX9_tyreNumber {M0 : jm_M} {M : jm_M} (l1 l2 : Int) (h : Kp XD M0 M) : pw (fX9_tyreNumber M l1 l2) (Kp XD M0) := by
  unfold fX9_tyreNumber
  exact pw_b (xd_fX11_isIndex  l1 4 h) (fun v1 M2 h2 => pw_ite (pw_ret h2) (pw_b (xd_fX11_isIndex  l2 6 h2) (fun v5 M6 h6 => pw_ite (pw_ret h6) (pw_ite (pw_ret h6) (pw_none)))))
theorem xd_fX11_tyres {M0 : jm_M} {M : jm_M} (l1 l2 l3 : Int) (h : Kp XD M0 M) : pw (fX11_tyres M l1 l2 l3) (Kp XD M0) := by
  unfold fX11_tyres
  exact pw_b (xd_fX11_isIndex  l1 4 h) (fun v1 M2 h2 => pw_ite (pw_ret h2) (pw_b (xd_fX11_isIndex  l2 6 h2) (fun v5 M6 h6 => pw_ite (pw_ret h6) (pw_ite (pw_b (xd_fX11_isWithin  l3 0 (jm_z 4 l2) h6) (fun v10 M11 h11 => pw_ite (pw_ret h11) (pw_b (xd_fX9_tyreNumber  l1 l2 h11) (fun v14 M15 h15 => pw_ite (pw_s (P := Kp XD M0) (XD.u h15 (by unfold XD; omega)) (fun M18 h18 => pw_s (P := Kp XD M0) (XD.u h18 (by unfold XD; omega)) (fun M19 h19 => pw_ret h19))) (pw_none))))) (pw_none)))))
theorem xd_fX11_set {M0 : jm_M} {M : jm_M} (l1 l2 : Int) (h : Kp XD M0 M) : pw (fX11_set M l1 l2) (Kp XD M0) := by
  unfold fX11_set
  exact pw_b (xd_fX11_isIndex  l1 8 h) (fun v1 M2 h2 => pw_ite (pw_ret h2) (pw_ite (pw_ite (pw_b (xd_fX11_isWithin  l2 (jm_z 1 l1) (jm_z 2 l1) h2) (fun v7 M8 h8 => pw_ite (pw_ret h8) (pw_ite (pw_e (fun v13 => pw_ite (pw_s (P := Kp XD M0) (XD.u h8 (by unfold XD; omega)) (fun M16 h16 => pw_s (P := Kp XD M0) (XD.u h16 (by unfold XD; omega)) (fun M17 h17 => pw_ret h17))) (pw_none))) (pw_none)))) (pw_none)) (pw_none)))
theorem xd_fX7_isFull {M0 : jm_M} {M : jm_M} (r0 : Int) (h : Kp XD M0 M) : pw (fX7_isFull M r0) (Kp XD M0) := by
  unfold fX7_isFull
  exact pw_ite (pw_ret h) (pw_ret h)
theorem xd_fX7_put {M0 : jm_M} {M : jm_M} (r0 l1 l2 l3 : Int) (h : Kp XD M0 M) : pw (fX7_put M r0 l1 l2 l3) (Kp XD M0) := by
  unfold fX7_put
  exact pw_ite (pw_ret h) (pw_ite (pw_ret h) (pw_ite (pw_ret h) (pw_ite (pw_ret h) (pw_ite (pw_s (P := Kp XD M0) (XD.u h (by unfold XD; omega)) (fun M9 h9 => pw_ret h9)) (pw_none)))))
theorem xd_fX7_push {M0 : jm_M} {M : jm_M} (r0 l1 l2 l3 l4 : Int) (h : Kp XD M0 M) : pw (fX7_push M r0 l1 l2 l3 l4) (Kp XD M0) := by
  unfold fX7_push
  exact pw_b (xd_fX7_isFull  r0 h) (fun v1 M2 h2 => pw_ite (pw_s (P := Kp XD M0) (XD.u h2 (by unfold XD; omega)) (fun M6 h6 => pw_b (xd_fX7_put  r0 (jm_w ((M6 10 r0 3) - 1)) 0 l1 h6) (fun v8 M9 h9 => pw_b (xd_fX7_put  r0 (jm_w ((M9 10 r0 3) - 1)) 1 l2 h9) (fun v11 M12 h12 => pw_b (xd_fX7_put  r0 (jm_w ((M12 10 r0 3) - 1)) 2 l3 h12) (fun v14 M15 h15 => pw_b (xd_fX7_put  r0 (jm_w ((M15 10 r0 3) - 1)) 3 l4 h15) (fun v17 M18 h18 => pw_ret h18)))))) (pw_ret h2))
theorem xd_fX11_rain {M0 : jm_M} {M : jm_M} (l1 l2 l3 : Int) (h : Kp XD M0 M) : pw (fX11_rain M l1 l2 l3) (Kp XD M0) := by
  unfold fX11_rain
  exact pw_b (xd_fX9_hasSector  l1 h) (fun v1 M2 h2 => pw_ite (pw_ret h2) (pw_ite (pw_ret h2) (pw_b (xd_fX11_isWithin  l3 0 100 h2) (fun v6 M7 h7 => pw_ite (pw_ret h7) (pw_s (P := Kp XD M0) (XD.u h7 (by unfold XD; omega)) (fun M10 h10 => pw_b (xd_fX7_push  30 l1 l2 l3 0 h10) (fun v11 M12 h12 => pw_ret h12)))))))
theorem xd_gX11_flag_18 {M0 : jm_M} (fu : Nat) {M : jm_M} (l1 l2 l3 l4 : Int) (h : Kp XD M0 M) : pw (gX11_flag_18 fu M l1 l2 l3 l4) (Kp XD M0) := by
  unfold gX11_flag_18
  exact pw_ite (pw_ret h) (pw_ite (pw_ret h) (pw_b (xd_fX11_isWithin  l4 0 1 h) (fun v3 M4 h4 => pw_ite (pw_ret h4) (pw_s (P := Kp XD M0) (XD.u h4 (by unfold XD; omega)) (fun M7 h7 => pw_b (xd_fX7_push  31 l1 l2 l3 l4 h7) (fun v8 M9 h9 => pw_ret h9))))))
theorem xd_fX11_flag {M0 : jm_M} (fu : Nat) {M : jm_M} (l1 l2 l3 l4 : Int) (h : Kp XD M0 M) : pw (fX11_flag fu M l1 l2 l3 l4) (Kp XD M0) := by
  unfold fX11_flag
  exact pw_ite (xd_gX11_flag_18 fu l1 l2 l3 l4 h) (pw_b (xd_fX9_hasSector  l1 h) (fun v2 M3 h3 => pw_ite (pw_ret h3) (xd_gX11_flag_18 fu l1 l2 l3 l4 h3)))
theorem xd_fX1_forget {M0 : jm_M} {M : jm_M} (r0 : Int) (h : Kp XD M0 M) : pw (fX1_forget M r0) (Kp XD M0) := by
  unfold fX1_forget
  exact pw_s (P := Kp XD M0) (XD.u h (by unfold XD; omega)) (fun M1 h1 => pw_s (P := Kp XD M0) (XD.u h1 (by unfold XD; omega)) (fun M2 h2 => pw_s (P := Kp XD M0) (XD.u h2 (by unfold XD; omega)) (fun M3 h3 => pw_s (P := Kp XD M0) (XD.u h3 (by unfold XD; omega)) (fun M4 h4 => pw_s (P := Kp XD M0) (XD.u h4 (by unfold XD; omega)) (fun M5 h5 => pw_s (P := Kp XD M0) (XD.u h5 (by unfold XD; omega)) (fun M6 h6 => pw_ret h6))))))
theorem xd_fX11_car {M0 : jm_M} {M : jm_M} (l1 l2 l3 l4 l5 l6 : Int) (h : Kp XD M0 M) : pw (fX11_car M l1 l2 l3 l4 l5 l6) (Kp XD M0) := by
  unfold fX11_car
  exact pw_b (xd_fX11_isWithin  l1 (-2000) 2000 h) (fun v1 M2 h2 => pw_ite (pw_ret h2) (pw_b (xd_fX11_isWithin  l2 1 200 h2) (fun v5 M6 h6 => pw_ite (pw_ret h6) (pw_b (xd_fX11_isWithin  l3 1 9 h6) (fun v9 M10 h10 => pw_ite (pw_ret h10) (pw_b (xd_fX11_isIndex  l4 4 h10) (fun v13 M14 h14 => pw_ite (pw_ret h14) (pw_b (xd_fX11_isIndex  l5 2 h14) (fun v17 M18 h18 => pw_ite (pw_ret h18) (pw_b (xd_fX11_isWithin  l6 0 l2 h18) (fun v21 M22 h22 => pw_ite (pw_ret h22) (pw_b (xd_fX11_isIndex  (M22 2 0 5) 6 h22) (fun v26 M27 h27 => pw_ite (pw_ret h27) (pw_ite (pw_b (xd_fX1_forget  (M27 2 0 5) h27) (fun v32 M33 h33 => pw_s (P := Kp XD M0) (XD.u h33 (by unfold XD; omega)) (fun M34 h34 => pw_s (P := Kp XD M0) (XD.u h34 (by unfold XD; omega)) (fun M35 h35 => pw_s (P := Kp XD M0) (XD.u h35 (by unfold XD; omega)) (fun M36 h36 => pw_s (P := Kp XD M0) (XD.u h36 (by unfold XD; omega)) (fun M37 h37 => pw_s (P := Kp XD M0) (XD.u h37 (by unfold XD; omega)) (fun M38 h38 => pw_s (P := Kp XD M0) (XD.u h38 (by unfold XD; omega)) (fun M39 h39 => pw_s (P := Kp XD M0) (XD.u h39 (by unfold XD; omega)) (fun M41 h41 => pw_s (P := Kp XD M0) (XD.u h41 (by unfold XD; omega)) (fun M42 h42 => pw_ret h42)))))))))) (pw_none)))))))))))))))
theorem xd_fX2_has {M0 : jm_M} {M : jm_M} (l1 : Int) (h : Kp XD M0 M) : pw (fX2_has M l1) (Kp XD M0) := by
  unfold fX2_has
  exact pw_b (xd_fX11_isIndex  l1 (M 2 0 5) h) (fun v2 M3 h3 => pw_ite (pw_ret h3) (pw_ite (pw_ret h3) (pw_ret h3)))
theorem xd_fX11_tyre {M0 : jm_M} {M : jm_M} (l1 l2 l3 : Int) (h : Kp XD M0 M) : pw (fX11_tyre M l1 l2 l3) (Kp XD M0) := by
  unfold fX11_tyre
  exact pw_b (xd_fX2_has  l1 h) (fun v1 M2 h2 => pw_ite (pw_ret h2) (pw_b (xd_fX11_isIndex  l2 4 h2) (fun v5 M6 h6 => pw_ite (pw_ret h6) (pw_b (xd_fX11_isWithin  l3 0 100 h6) (fun v9 M10 h10 => pw_ite (pw_ret h10) (pw_ite (pw_b (xd_fX7_isFull  l1 h10) (fun v14 M15 h15 => pw_ite (pw_s (P := Kp XD M0) (XD.u h15 (by unfold XD; omega)) (fun M18 h18 => pw_b (xd_fX7_push  l1 l2 l3 0 0 h18) (fun v19 M20 h20 => pw_ret h20))) (pw_ret h15))) (pw_none)))))))
theorem xd_gX11_order_47 {M0 : jm_M} (fu : Nat) {M : jm_M} (l1 l2 l3 l4 s0 s1 : Int) (h : Kp XD M0 M) : pw (gX11_order_47 fu M l1 l2 l3 l4 s0 s1) (Kp XD M0) := by
  unfold gX11_order_47
  exact pw_b (xd_fX11_isWithin  s1 s0 1 h) (fun v1 M2 h2 => pw_ite (pw_ret h2) (pw_s (P := Kp XD M0) (XD.u h2 (by unfold XD; omega)) (fun M5 h5 => pw_ite (pw_b (xd_fX7_push  (l1 + 6) l2 l3 l4 0 h5) (fun v7 M8 h8 => pw_ret h8)) (pw_none))))
theorem xd_fX11_order {M0 : jm_M} (fu : Nat) {M : jm_M} (l1 l2 l3 l4 : Int) (h : Kp XD M0 M) : pw (fX11_order fu M l1 l2 l3 l4) (Kp XD M0) := by
  unfold fX11_order
  exact pw_b (xd_fX2_has  l1 h) (fun v1 M2 h2 => pw_ite (pw_ret h2) (pw_b (xd_fX11_isIndex  l2 (M2 1 0 1) h2) (fun v6 M7 h7 => pw_ite (pw_ret h7) (pw_b (xd_fX11_isWithin  l3 0 1 h7) (fun v10 M11 h11 => pw_ite (pw_ret h11) (pw_ite (xd_gX11_order_47 fu l1 l2 l3 l4 (-1) l4 h11) (xd_gX11_order_47 fu l1 l2 l3 l4 0 l4 h11)))))))
theorem xd_fX11_stop {M0 : jm_M} {M : jm_M} (l1 l2 l3 l4 : Int) (h : Kp XD M0 M) : pw (fX11_stop M l1 l2 l3 l4) (Kp XD M0) := by
  unfold fX11_stop
  exact pw_b (xd_fX2_has  l1 h) (fun v1 M2 h2 => pw_ite (pw_ret h2) (pw_b (xd_fX11_isWithin  l2 0 (jm_w ((M2 1 0 1) - 2)) h2) (fun v6 M7 h7 => pw_ite (pw_ret h7) (pw_b (xd_fX11_isWithin  l3 (-1) 3 h7) (fun v10 M11 h11 => pw_ite (pw_ret h11) (pw_b (xd_fX11_isWithin  l4 0 200 h11) (fun v14 M15 h15 => pw_ite (pw_ret h15) (pw_s (P := Kp XD M0) (XD.u h15 (by unfold XD; omega)) (fun M18 h18 => pw_ite (pw_b (xd_fX7_push  (l1 + 12) l2 l3 l4 0 h18) (fun v20 M21 h21 => pw_ret h21)) (pw_none))))))))))
theorem xd_fX7_cell {M0 : jm_M} {M : jm_M} (r0 l1 l2 : Int) (h : Kp XD M0 M) : pw (fX7_cell M r0 l1 l2) (Kp XD M0) := by
  unfold fX7_cell
  exact pw_ite (pw_ret h) (pw_ite (pw_ret h) (pw_ite (pw_ret h) (pw_ite (pw_ite (pw_ret h) (pw_none)) (pw_ret h))))
theorem xd_gX7_removeAt_14 {M0 : jm_M} (fu : Nat) (k2 : jm_M → Int → Int → jm_R) (hk2 : ∀ (M : jm_M) (b0 b1 : Int), Kp XD M0 M → pw (k2 M b0 b1) (Kp XD M0)) (k14 : jm_M → Int → Int → Int → jm_R) (hk14 : ∀ (M : jm_M) (b0 b1 b2 : Int), Kp XD M0 M → pw (k14 M b0 b1 b2) (Kp XD M0)) {M : jm_M} (r0 l2 l3 : Int) (h : Kp XD M0 M) : pw (gX7_removeAt_14 fu k2 k14 M r0 l2 l3) (Kp XD M0) := by
  unfold gX7_removeAt_14
  exact pw_ite (pw_e (fun v3 => hk2 M r0 v3 h)) (pw_b (xd_fX7_cell  r0 (jm_w (l2 + 1)) l3 h) (fun v5 M6 h6 => pw_b (xd_fX7_put  r0 l2 l3 v5 h6) (fun v8 M9 h9 => pw_e (fun v10 => hk14 M9 r0 l2 v10 h9))))
theorem xd_fX7_removeAt_14 {M0 : jm_M} (fu : Nat) (k2 : jm_M → Int → Int → jm_R) (hk2 : ∀ (M : jm_M) (b0 b1 : Int), Kp XD M0 M → pw (k2 M b0 b1) (Kp XD M0)) : ∀ (n : Nat) {M : jm_M} (a0 a1 a2 : Int), Kp XD M0 M → pw (fX7_removeAt_14 fu k2 n M a0 a1 a2) (Kp XD M0) := by
  intro n
  induction n with
  | zero => intro M a0 a1 a2 h; exact pw_none
  | succ n ih =>
    intro M a0 a1 a2 h
    exact xd_gX7_removeAt_14 fu k2 hk2 (fX7_removeAt_14 fu k2 n) (fun M a0 a1 a2 h => ih a0 a1 a2 h) a0 a1 a2 h
theorem xd_gX7_removeAt_2 {M0 : jm_M} (fu : Nat) (k2 : jm_M → Int → Int → jm_R) (hk2 : ∀ (M : jm_M) (b0 b1 : Int), Kp XD M0 M → pw (k2 M b0 b1) (Kp XD M0)) {M : jm_M} (r0 l2 : Int) (h : Kp XD M0 M) : pw (gX7_removeAt_2 fu k2 M r0 l2) (Kp XD M0) := by
  unfold gX7_removeAt_2
  exact pw_ite (pw_s (P := Kp XD M0) (XD.u h (by unfold XD; omega)) (fun M4 h4 => pw_ret h4)) (xd_fX7_removeAt_14 fu k2 hk2 fu r0 l2 0 h)
theorem xd_fX7_removeAt_2 {M0 : jm_M} (fu : Nat) : ∀ (n : Nat) {M : jm_M} (a0 a1 : Int), Kp XD M0 M → pw (fX7_removeAt_2 fu n M a0 a1) (Kp XD M0) := by
  intro n
  induction n with
  | zero => intro M a0 a1 h; exact pw_none
  | succ n ih =>
    intro M a0 a1 h
    exact xd_gX7_removeAt_2 fu (fX7_removeAt_2 fu n) (fun M a0 a1 h => ih a0 a1 h) a0 a1 h
theorem xd_fX7_removeAt {M0 : jm_M} (fu : Nat) {M : jm_M} (r0 l1 : Int) (h : Kp XD M0 M) : pw (fX7_removeAt fu M r0 l1) (Kp XD M0) := by
  unfold fX7_removeAt
  exact xd_fX7_removeAt_2 fu fu r0 l1 h
theorem xd_fX11_drop {M0 : jm_M} (fu : Nat) {M : jm_M} (l1 l2 : Int) (h : Kp XD M0 M) : pw (fX11_drop fu M l1 l2) (Kp XD M0) := by
  unfold fX11_drop
  exact pw_b (xd_fX2_has  l1 h) (fun v1 M2 h2 => pw_ite (pw_ret h2) (pw_ite (pw_b (xd_fX11_isIndex  l2 (M2 10 (l1 + 12) 3) h2) (fun v7 M8 h8 => pw_ite (pw_ret h8) (pw_s (P := Kp XD M0) (XD.u h8 (by unfold XD; omega)) (fun M11 h11 => pw_ite (pw_b (xd_fX7_removeAt fu (l1 + 12) l2 h11) (fun v13 M14 h14 => pw_ret h14)) (pw_none))))) (pw_none)))
theorem xd_fX11_unplan {M0 : jm_M} {M : jm_M} (l1 : Int) (h : Kp XD M0 M) : pw (fX11_unplan M l1) (Kp XD M0) := by
  unfold fX11_unplan
  exact pw_b (xd_fX2_has  l1 h) (fun v1 M2 h2 => pw_ite (pw_ret h2) (pw_ite (pw_ite (pw_ret h2) (pw_ite (pw_s (P := Kp XD M0) (XD.u h2 (by unfold XD; omega)) (fun M9 h9 => pw_s (P := Kp XD M0) (XD.u h9 (by unfold XD; omega)) (fun M10 h10 => pw_ret h10))) (pw_none))) (pw_none)))
theorem xd_gX11_sign_16 {M0 : jm_M} (fu : Nat) (k16 : jm_M → Int → Int → jm_R) (hk16 : ∀ (M : jm_M) (b0 b1 : Int), Kp XD M0 M → pw (k16 M b0 b1) (Kp XD M0)) {M : jm_M} (l1 l2 : Int) (h : Kp XD M0 M) : pw (gX11_sign_16 fu k16 M l1 l2) (Kp XD M0) := by
  unfold gX11_sign_16
  exact pw_ite (pw_ret h) (pw_ite (pw_s (P := Kp XD M0) (XD.u h (by unfold XD; omega)) (fun M5 h5 => pw_s (P := Kp XD M0) (XD.u h5 (by unfold XD; omega)) (fun M7 h7 => pw_e (fun v8 => hk16 M7 l1 v8 h7)))) (pw_none))
theorem xd_fX11_sign_16 {M0 : jm_M} (fu : Nat) : ∀ (n : Nat) {M : jm_M} (a0 a1 : Int), Kp XD M0 M → pw (fX11_sign_16 fu n M a0 a1) (Kp XD M0) := by
  intro n
  induction n with
  | zero => intro M a0 a1 h; exact pw_none
  | succ n ih =>
    intro M a0 a1 h
    exact xd_gX11_sign_16 fu (fX11_sign_16 fu n) (fun M a0 a1 h => ih a0 a1 h) a0 a1 h
theorem xd_fX11_sign {M0 : jm_M} (fu : Nat) {M : jm_M} (l1 : Int) (h : Kp XD M0 M) : pw (fX11_sign fu M l1) (Kp XD M0) := by
  unfold fX11_sign
  exact pw_ite (xd_fX11_sign_16 fu fu l1 24 h) (pw_ret h)
theorem xd_fX11_end {M0 : jm_M} {M : jm_M} (l1 : Int) (h : Kp XD M0 M) : pw (fX11_end M l1) (Kp XD M0) := by
  unfold fX11_end
  exact pw_ite (pw_ret h) (pw_ite (pw_s (P := Kp XD M0) (XD.u h (by unfold XD; omega)) (fun M4 h4 => pw_ret h4)) (pw_ret h))
theorem xd_fX11_isDay {M0 : jm_M} {M : jm_M} (l0 : Int) (h : Kp XD M0 M) : pw (fX11_isDay M l0) (Kp XD M0) := by
  unfold fX11_isDay
  exact pw_b (xd_fX11_isWithin  l0 0 99 h) (fun v1 M2 h2 => pw_ite (pw_ret h2) (pw_none))
theorem xd_gX11_finding_55 {M0 : jm_M} (fu : Nat) {M : jm_M} (l1 l2 l3 l4 s0 : Int) (h : Kp XD M0 M) : pw (gX11_finding_55 fu M l1 l2 l3 l4 s0) (Kp XD M0) := by
  unfold gX11_finding_55
  exact pw_ite (pw_ret h) (pw_b (xd_fX7_push  32 l1 l2 l3 l4 h) (fun v2 M3 h3 => pw_ret h3))
theorem xd_fX11_finding {M0 : jm_M} (fu : Nat) {M : jm_M} (l1 l2 l3 l4 : Int) (h : Kp XD M0 M) : pw (fX11_finding fu M l1 l2 l3 l4) (Kp XD M0) := by
  unfold fX11_finding
  exact pw_b (xd_fX11_isDay  l1 h) (fun v1 M2 h2 => pw_ite (pw_ret h2) (pw_b (xd_fX2_has  l2 h2) (fun v5 M6 h6 => pw_ite (pw_ret h6) (pw_b (xd_fX11_isWithin  l3 0 1 h6) (fun v9 M10 h10 => pw_ite (pw_ret h10) (pw_ite (pw_b (xd_fX11_isWithin  l4 0 999 h10) (fun v14 M15 h15 => xd_gX11_finding_55 fu l1 l2 l3 l4 v14 h15)) (pw_b (xd_fX11_isWithin  l4 (-60000) 60000 h10) (fun v17 M18 h18 => xd_gX11_finding_55 fu l1 l2 l3 l4 v17 h18))))))))
theorem xd_fX11_option {M0 : jm_M} {M : jm_M} (l1 l2 l3 : Int) (h : Kp XD M0 M) : pw (fX11_option M l1 l2 l3) (Kp XD M0) := by
  unfold fX11_option
  exact pw_b (xd_fX2_has  l1 h) (fun v1 M2 h2 => pw_ite (pw_ret h2) (pw_b (xd_fX11_isWithin  l2 (-1) (jm_w ((M2 1 0 1) - 2)) h2) (fun v6 M7 h7 => pw_ite (pw_ret h7) (pw_b (xd_fX11_isWithin  l3 (-1) 3 h7) (fun v10 M11 h11 => pw_ite (pw_ret h11) (pw_ite (pw_b (xd_fX7_push  (l1 + 18) l2 l3 0 0 h11) (fun v15 M16 h16 => pw_ret h16)) (pw_none)))))))
theorem xd_gX2_optionCount_4 {M0 : jm_M} (fu : Nat) (k4 : jm_M → Int → Int → jm_R) (hk4 : ∀ (M : jm_M) (b0 b1 : Int), Kp XD M0 M → pw (k4 M b0 b1) (Kp XD M0)) {M : jm_M} (l1 l2 : Int) (h : Kp XD M0 M) : pw (gX2_optionCount_4 fu k4 M l1 l2) (Kp XD M0) := by
  unfold gX2_optionCount_4
  exact pw_ite (pw_ret h) (pw_ite (pw_ret h) (pw_ite (pw_e (fun v6 => pw_e (fun v8 => hk4 M v6 v8 h))) (pw_none)))
theorem xd_fX2_optionCount_4 {M0 : jm_M} (fu : Nat) : ∀ (n : Nat) {M : jm_M} (a0 a1 : Int), Kp XD M0 M → pw (fX2_optionCount_4 fu n M a0 a1) (Kp XD M0) := by
  intro n
  induction n with
  | zero => intro M a0 a1 h; exact pw_none
  | succ n ih =>
    intro M a0 a1 h
    exact xd_gX2_optionCount_4 fu (fX2_optionCount_4 fu n) (fun M a0 a1 h => ih a0 a1 h) a0 a1 h
theorem xd_fX2_optionCount {M0 : jm_M} (fu : Nat) {M : jm_M} (h : Kp XD M0 M) : pw (fX2_optionCount fu M ) (Kp XD M0) := by
  unfold fX2_optionCount
  exact xd_fX2_optionCount_4 fu fu 0 0 h
theorem xd_gX11_clear_10 {M0 : jm_M} (fu : Nat) (k10 : jm_M → Int → Int → jm_R) (hk10 : ∀ (M : jm_M) (b0 b1 : Int), Kp XD M0 M → pw (k10 M b0 b1) (Kp XD M0)) {M : jm_M} (l1 l2 : Int) (h : Kp XD M0 M) : pw (gX11_clear_10 fu k10 M l1 l2) (Kp XD M0) := by
  unfold gX11_clear_10
  exact pw_ite (pw_ret h) (pw_ite (pw_ret h) (pw_ite (pw_s (P := Kp XD M0) (XD.u h (by unfold XD; omega)) (fun M5 h5 => pw_e (fun v6 => hk10 M5 l1 v6 h5))) (pw_none)))
theorem xd_fX11_clear_10 {M0 : jm_M} (fu : Nat) : ∀ (n : Nat) {M : jm_M} (a0 a1 : Int), Kp XD M0 M → pw (fX11_clear_10 fu n M a0 a1) (Kp XD M0) := by
  intro n
  induction n with
  | zero => intro M a0 a1 h; exact pw_none
  | succ n ih =>
    intro M a0 a1 h
    exact xd_gX11_clear_10 fu (fX11_clear_10 fu n) (fun M a0 a1 h => ih a0 a1 h) a0 a1 h
theorem xd_fX11_clear {M0 : jm_M} (fu : Nat) {M : jm_M} (h : Kp XD M0 M) : pw (fX11_clear fu M ) (Kp XD M0) := by
  unfold fX11_clear
  exact pw_b (xd_fX2_optionCount fu  h) (fun v1 M2 h2 => xd_fX11_clear_10 fu fu v1 0 h2)
theorem xd_fX11_lost {M0 : jm_M} {M : jm_M} (l1 l2 : Int) (h : Kp XD M0 M) : pw (fX11_lost M l1 l2) (Kp XD M0) := by
  unfold fX11_lost
  exact pw_b (xd_fX9_hasSector  l1 h) (fun v1 M2 h2 => pw_ite (pw_ret h2) (pw_ite (pw_ret h2) (pw_ite (pw_ite (pw_s (P := Kp XD M0) (XD.u h2 (by unfold XD; omega)) (fun M8 h8 => pw_ret h8)) (pw_none)) (pw_none))))
