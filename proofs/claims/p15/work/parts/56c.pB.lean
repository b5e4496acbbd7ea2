/-! what takes does -/
theorem y_takes_op (fu : Nat) {M : jm_M} {s : Int} {Q : Int → jm_M → Prop} (hst : M 6 0 6 = 0 ∨ M 6 0 6 = 1) (h : wp (fX3_takesOperand fu M s) Q) (hQ : ∀ (v : Int) (M1 : jm_M), Q v M1 → v = 0 ∨ v = 1) : wp (fX3_takes fu M s) Q := by
  unfold fX3_takes
  rcases hst with e | e
  · exact wp_T e (wp_b h fun v M1 q => wp_T (hQ v M1 q) (wp_ret q))
  · refine wp_F (by omega) (wp_T e (wp_b h fun v M1 q => wp_T (hQ v M1 q) (wp_ret q)))
theorem y_takes_be (fu : Nat) {M : jm_M} {s : Int} {Q : Int → jm_M → Prop} (hst : M 6 0 6 = 2) (h : wp (fX3_takesBehindOperand fu M s) Q) (hQ : ∀ (v : Int) (M1 : jm_M), Q v M1 → v = 0 ∨ v = 1) : wp (fX3_takes fu M s) Q := by
  unfold fX3_takes
  exact wp_F (by omega) (wp_F (by omega) (wp_T hst (wp_b h fun v M1 q => wp_T (hQ v M1 q) (wp_ret q))))
/-- the letters of the text that is read: a plan's, or a rule's -/
def ltx (M : jm_M) : Int := if M 6 0 7 = 0 then 1 else 0
theorem sx_az (u c : Int) (hu : u = 0 ∨ u = 1) (h : 0 ≤ jm_sx u c) : 97 ≤ c ∧ c ≤ 122 := by
  have h0 : ∀ b ∈ jm_sl 0, 97 ≤ b ∧ b ≤ 122 := by decide
  have h1 : ∀ b ∈ jm_sl 1, 97 ≤ b ∧ b ≤ 122 := by decide
  rcases jm_sx_f u c with q | ⟨-, -, q⟩
  · omega
  · rcases hu with rfl | rfl
    · exact h0 c q
    · exact h1 c q
theorem chr_az {c : Int} (h : 97 ≤ c ∧ c ≤ 122) : jm_chr c = c := by
  have q : ∀ n : Nat, n < 26 → jm_chr ((n : Int) + 97) = (n : Int) + 97 := by decide +kernel
  have := q (c - 97).toNat (by omega)
  rw [show (((c - 97).toNat : Nat) : Int) + 97 = c by omega] at this
  exact this
theorem y_isLetter (fu : Nat) (M : jm_M) (s : Int) : wp (fX3_isLetter fu M s) (fun v M1 => M1 = M ∧ ((v = 1 ∧ 0 ≤ jm_sx (ltx M) s) ∨ (v = 0 ∧ jm_sx (ltx M) s < 0))) := by
  have key : ∀ u : Int, u = 0 ∨ u = 1 → wp (gX3_isLetter_14 fu M s u) (fun v M1 => M1 = M ∧ ((v = 1 ∧ 0 ≤ jm_sx u s) ∨ (v = 0 ∧ jm_sx u s < 0))) := by
    intro u hu
    have az := sx_az u s hu
    unfold gX3_isLetter_14
    refine wp_ite (fun c => wp_ret ⟨rfl, Or.inr ⟨rfl, by omega⟩⟩) (fun c => ?_)
    refine wp_ite (fun c2 => wp_ret ⟨rfl, Or.inr ⟨rfl, by omega⟩⟩) (fun c2 => ?_)
    rw [chr_az ⟨by omega, by omega⟩]
    refine wp_bp (M := M) (P := fun v => v = jm_sx u s) ⟨_, _, rfl, rfl, rfl⟩ (fun v hv => ?_)
    refine wp_ite (fun c3 => wp_ret ⟨rfl, Or.inr ⟨rfl, by omega⟩⟩) (fun c3 => wp_ret ⟨rfl, Or.inl ⟨rfl, by omega⟩⟩)
  unfold fX3_isLetter ltx
  by_cases h : M 6 0 7 = 0
  · rw [if_pos h, if_pos h]
    exact key 1 (Or.inr rfl)
  · rw [if_neg h, if_neg h]
    exact key 0 (Or.inl rfl)
/-- what is behind a sign that was taken -/
def YT (r : Int) (M : jm_M) (st cmp dg : Int) (stk W C : List Int) (v : Int) (M1 : jm_M) : Prop := v = 1 ∧ bI bx1 M1 ∧ Kp (TS r) M M1 ∧ AB r M1 st cmp dg stk W C
/-- a sign that is not taken -/
def YN (v : Int) (_ : jm_M) : Prop := v = 0
theorem TS6 {r k : Int} (h : k ≠ 7 ∧ k ≠ 8) : ¬ TS r 6 0 k := fun z => by
  have := z.2.2.2 rfl
  omega
section YY
variable {fu : Nat} {r : Int} {M : jm_M} {st cmp dg : Int} {stk W C : List Int} {s : Int}
theorem y_digit0 (hfu : 4000 ≤ fu) (hr : 0 ≤ r ∧ r ≤ 16) (iM : bI bx1 M) (hs : jm_in s) (h : AB r M st cmp dg stk W C) (hst : st = 0 ∨ st = 1) (hC : C.length < 60) (hd : 48 ≤ s ∧ s ≤ 57) : wp (fX3_takes fu M s) (YT r M 2 cmp 1 stk W ((s - 48) :: C)) := by
  refine y_takes_op fu (by rw [h.1.1]; exact hst) ?_ (fun v M1 q => Or.inr q.1)
  unfold fX3_takesOperand
  refine wp_b (s_fX3_isDigit M iM s hs) (fun v M1 q => ?_)
  obtain ⟨rfl, q⟩ := q
  have h8 : M1 6 0 8 = r := h.1.2.2.2
  refine wp_F (by omega) ?_
  refine wp_T ⟨by omega, by omega⟩ ?_
  rw [h8, jm_wid (x := s - 48) (by omega) (by omega)]
  refine wp_b (y_emit iM h hC (s - 48) (jm_inL (by omega) (by omega))) (fun v2 M2 q2 => ?_)
  obtain ⟨-, i2, k2, h2⟩ := q2
  refine wp_sk (T := TS r) (M0 := M1) i2 (show bx1 6 0 5 1 from jm_inL (by decide) (by decide)) k2 (TS6 (by decide)) (fun M3 e3 i3 k3 => ?_)
  refine wp_sk (T := TS r) (M0 := M1) i3 (show bx1 6 0 6 2 from jm_inL (by decide) (by decide)) k3 (TS6 (by decide)) (fun M4 e4 i4 k4 => ?_)
  refine wp_ret ⟨rfl, i4, k4, ?_⟩
  rw [e4, e3]
  exact (h2.u5 1).u6 2
theorem y_letter (hfu : 4000 ≤ fu) (hr : 0 ≤ r ∧ r ≤ 16) (iM : bI bx1 M) (hs : jm_in s) (h : AB r M st cmp dg stk W C) (hst : st = 0 ∨ st = 1) (hC : C.length < 60) (hd : 0 ≤ jm_sx (ltx M) s) : wp (fX3_takes fu M s) (YT r M 2 cmp 0 stk W ((1000 + s - 97) :: C)) := by
  have az := sx_az (ltx M) s (by unfold ltx; split; exact Or.inr rfl; exact Or.inl rfl) hd
  refine y_takes_op fu (by rw [h.1.1]; exact hst) ?_ (fun v M1 q => Or.inr q.1)
  unfold fX3_takesOperand
  refine wp_b (s_fX3_isDigit M iM s hs) (fun v M1 q => ?_)
  obtain ⟨rfl, q⟩ := q
  have h8 : M1 6 0 8 = r := h.1.2.2.2
  refine wp_T (by omega) ?_
  refine wp_b (y_isLetter fu M1 s) (fun v2 M2 q2 => ?_)
  obtain ⟨rfl, q2⟩ := q2
  refine wp_F (by omega) ?_
  refine wp_T ⟨by omega, by omega⟩ ?_
  rw [h8, jm_wid (x := 1000 + s) (by omega) (by omega), jm_wid (x := 1000 + s - 97) (by omega) (by omega)]
  refine wp_b (y_emit iM h hC (1000 + s - 97) (jm_inL (by omega) (by omega))) (fun v2 M3 q3 => ?_)
  obtain ⟨-, i2, k2, h2⟩ := q3
  refine wp_sk (T := TS r) (M0 := M2) i2 (show bx1 6 0 5 0 from jm_inL (by decide) (by decide)) k2 (TS6 (by decide)) (fun M3 e3 i3 k3 => ?_)
  refine wp_sk (T := TS r) (M0 := M2) i3 (show bx1 6 0 6 2 from jm_inL (by decide) (by decide)) k3 (TS6 (by decide)) (fun M4 e4 i4 k4 => ?_)
  refine wp_ret ⟨rfl, i4, k4, ?_⟩
  rw [e4, e3]
  exact (h2.u5 0).u6 2
/-- a sign that opens, or is held: what stands ahead of it in takesOperand -/
theorem y_op90 (hfu : 4000 ≤ fu) (hr : 0 ≤ r ∧ r ≤ 16) (iM : bI bx1 M) (hs : jm_in s) (h : AB r M st cmp dg stk W C) (hst : st = 0 ∨ st = 1) (hd : ¬ (48 ≤ s ∧ s ≤ 57)) (hl : jm_sx (ltx M) s < 0) (h58 : s = 58 → M 6 0 7 = 0 ∨ st = 1) {Q : Int → jm_M → Prop} (hQ : ∀ (v : Int) (M1 : jm_M), Q v M1 → v = 0 ∨ v = 1) (k : wp (gX3_takesOperand_90 fu M s) Q) : wp (fX3_takes fu M s) Q := by
  refine y_takes_op fu (by rw [h.1.1]; exact hst) ?_ hQ
  unfold fX3_takesOperand
  refine wp_b (s_fX3_isDigit M iM s hs) (fun v M1 q => ?_)
  obtain ⟨rfl, q⟩ := q
  refine wp_T (by omega) ?_
  refine wp_b (y_isLetter fu M1 s) (fun v2 M2 q2 => ?_)
  obtain ⟨rfl, q2⟩ := q2
  refine wp_T (by omega) ?_
  refine wp_ite (fun c => ?_) (fun _ => k)
  have e6 : M2 6 0 6 = st := h.1.1
  refine wp_ite (fun _ => k) (fun c2 => ?_)
  refine wp_F ?_ k
  rcases h58 c with q | q
  · exact absurd q c2
  · omega
theorem y_open (hfu : 4000 ≤ fu) (hr : 0 ≤ r ∧ r ≤ 16) (iM : bI bx1 M) (hs : jm_in s) (h : AB r M st cmp dg stk W C) (hst : st = 0 ∨ st = 1) (hcmp : cmp = 0 ∨ cmp = 1) (hS : stk.length < 60) (hW : W.length < 60) (he : s = 40) (hl : jm_sx (ltx M) s < 0) : wp (fX3_takes fu M s) (YT r M 1 0 dg (cmp :: stk) (40 :: W) C) := by
  subst he
  refine y_op90 hfu hr iM hs h hst (by omega) hl (fun q => by omega) (fun v M1 q => Or.inr q.1) ?_
  unfold gX3_takesOperand_90
  refine wp_T rfl ?_
  have e3 : M 6 0 3 = (stk.length : Int) := h.2.1.1
  have e4 : M 6 0 4 = cmp := h.1.2.1
  refine wp_b (P := YT r M 1 0 dg (cmp :: stk) (40 :: W) C) ?_ (fun v M1 q => wp_T (Or.inr q.1) (wp_ret q))
  unfold fX3_opens
  refine wp_b (s_fX11_isIndex M iM (M 6 0 3) 60 (jm_inL (by omega) (by omega)) ⟨by decide, by decide⟩) (fun v M1 q => ?_)
  obtain ⟨rfl, q⟩ := q
  refine wp_F (by omega) ?_
  refine wp_T ⟨by omega, by omega⟩ ?_
  refine wp_T (by omega) ?_
  refine wp_sk (T := TS r) (M0 := M1) iM (show 0 ≤ M1 6 0 4 ∧ M1 6 0 4 ≤ 1 by omega) Kp.rf (fun z => z.2.2.1 rfl) (fun M2 z2 i2 k2 => ?_)
  have f3 : M2 6 0 3 = (stk.length : Int) := by rw [z2]; exact (jm_une_f (by decide)).trans e3
  have f4 : jm_w (M2 6 0 3 + 1) = (stk.length : Int) + 1 := by rw [f3]; exact jm_wid (by omega) (by omega)
  refine wp_sk (T := TS r) (M0 := M1) i2 (show bx1 6 0 3 (jm_w (M2 6 0 3 + 1)) from jm_w_in _) k2 (TS6 (by decide)) (fun M3 z3 i3 k3 => ?_)
  have h3 : AB r M3 st cmp dg (cmp :: stk) W C := by
    rw [z3, f4, z2, e3, e4]
    exact h.opn cmp
  refine wp_sk (T := TS r) (M0 := M1) i3 (show 0 ≤ (0 : Int) ∧ (0 : Int) ≤ 1 by decide) k3 (TS6 (by decide)) (fun M4 z4 i4 k4 => ?_)
  have h4 : AB r M4 st 0 dg (cmp :: stk) W C := by rw [z4]; exact h3.u4 0
  refine wp_b (y_hold i4 h4 hW 40 (jm_inL (by decide) (by decide))) (fun v5 M5 q5 => ?_)
  obtain ⟨-, i5, k5, h5⟩ := q5
  refine wp_sk (T := TS r) (M0 := M1) i5 (show bx1 6 0 6 1 from jm_inL (by decide) (by decide)) (k4.tr k5 (fun _ _ _ z => z)) (TS6 (by decide)) (fun M6 z6 i6 k6 => ?_)
  refine wp_ret ⟨rfl, i6, k6, ?_⟩
  rw [z6]
  exact h5.u6 1
theorem y_unary (hfu : 4000 ≤ fu) (hr : 0 ≤ r ∧ r ≤ 16) (iM : bI bx1 M) (hs : jm_in s) (h : AB r M st cmp dg stk W C) (hst : st = 0 ∨ st = 1) (hW : W.length < 60) (he : s = 33 ∨ s = 45) (hl : jm_sx (ltx M) s < 0) : wp (fX3_takes fu M s) (YT r M 1 cmp dg stk ((if s = 45 then 126 else s) :: W) C) := by
  refine y_op90 hfu hr iM hs h hst (by omega) hl (fun q => by omega) (fun v M1 q => Or.inr q.1) ?_
  unfold gX3_takesOperand_90
  refine wp_F (by omega) ?_
  have key : wp (gX3_takesOperand_113 fu M s) (YT r M 1 cmp dg stk ((if s = 45 then 126 else s) :: W) C) := by
    unfold gX3_takesOperand_113
    refine wp_ite (fun c => ?_) (fun c => ?_)
    · rw [if_pos c]
      refine wp_b (y_hold iM h hW 126 (jm_inL (by decide) (by decide))) (fun v5 M5 q5 => ?_)
      obtain ⟨-, i5, k5, h5⟩ := q5
      refine wp_sk (T := TS r) (M0 := M) i5 (show bx1 6 0 6 1 from jm_inL (by decide) (by decide)) k5 (TS6 (by decide)) (fun M6 z6 i6 k6 => ?_)
      refine wp_ret ⟨rfl, i6, k6, ?_⟩
      rw [z6]
      exact h5.u6 1
    · rw [if_neg c]
      refine wp_b (y_hold iM h hW s hs) (fun v5 M5 q5 => ?_)
      obtain ⟨-, i5, k5, h5⟩ := q5
      refine wp_sk (T := TS r) (M0 := M) i5 (show bx1 6 0 6 1 from jm_inL (by decide) (by decide)) k5 (TS6 (by decide)) (fun M6 z6 i6 k6 => ?_)
      refine wp_ret ⟨rfl, i6, k6, ?_⟩
      rw [z6]
      exact h5.u6 1
  refine wp_ite (fun _ => key) (fun c => ?_)
  exact wp_T (by omega) key
theorem y_op_no (hfu : 4000 ≤ fu) (hr : 0 ≤ r ∧ r ≤ 16) (iM : bI bx1 M) (hs : jm_in s) (h : AB r M st cmp dg stk W C) (hst : st = 0 ∨ st = 1) (hd : ¬ (48 ≤ s ∧ s ≤ 57)) (hl : jm_sx (ltx M) s < 0) (h58 : s = 58 → M 6 0 7 = 0 ∨ st = 1) (hn : s ≠ 40 ∧ s ≠ 33 ∧ s ≠ 45) : wp (fX3_takes fu M s) YN := by
  refine y_op90 hfu hr iM hs h hst hd hl h58 (fun v M1 q => Or.inl q) ?_
  unfold gX3_takesOperand_90
  exact wp_F (by omega) (wp_F (by omega) (wp_F (by omega) (wp_ret rfl)))
theorem y_digit2 (hfu : 4000 ≤ fu) (hr : 0 ≤ r ∧ r ≤ 16) (iM : bI bx1 M) (hs : jm_in s) {y : Int} (h : AB r M 2 cmp dg stk W (y :: C)) (hC : C.length < 60) (hd : 48 ≤ s ∧ s ≤ 57) (hg : 1 ≤ dg ∧ dg ≤ 2) (hy : 0 ≤ y ∧ y ≤ 99) : wp (fX3_takes fu M s) (YT r M 2 cmp (dg + 1) stk W ((10 * y + s - 48) :: C)) := by
  refine y_takes_be fu h.1.1 ?_ (fun v M1 q => Or.inr q.1)
  unfold fX3_takesBehindOperand
  refine wp_b (s_fX3_isDigit M iM s hs) (fun v M1 q => ?_)
  obtain ⟨rfl, q⟩ := q
  have h8 : M1 6 0 8 = r := h.1.2.2.2
  have h5 : M1 6 0 5 = dg := h.1.2.2.1
  have d1 : M1 11 r 1 = ((y :: C).length : Int) := h.2.2.2.1
  have d2 : M1 20 r (C.length : Int) = y := h.2.2.2.2.1
  simp only [List.length_cons] at d1
  refine wp_F (by omega) ?_
  refine wp_F (by omega) ?_
  refine wp_T (by omega) ?_
  refine wp_T ⟨by omega, by omega⟩ ?_
  have e1 : jm_w (M1 11 r 1 - 1) = (C.length : Int) := by rw [d1, jm_wid (by omega) (by omega)]; omega
  rw [h8, jm_wid (x := s - 48) (by omega) (by omega)]
  refine wp_b (P := fun v M2 => v = 0 ∧ bI bx1 M2 ∧ Kp (TS r) M1 M2 ∧ AB r M2 2 cmp dg stk W ((10 * y + s - 48) :: C)) ?_ (fun v2 M2 q2 => ?_)
  · unfold fX8_addDigit
    rw [e1]
    refine wp_b (s_fX11_isIndex M1 iM (C.length : Int) 60 (jm_inL (by omega) (by omega)) ⟨by decide, by decide⟩) (fun v3 M3 q3 => ?_)
    obtain ⟨rfl, q3⟩ := q3
    refine wp_F (by omega) ?_
    rw [e1]
    refine wp_T ⟨by omega, by omega⟩ ?_
    refine wp_T ⟨by omega, by omega⟩ ?_
    rw [d2, jm_wid (x := y * 10) (by omega) (by omega), jm_wid (x := y * 10 + (s - 48)) (by omega) (by omega)]
    refine wp_sk (T := TS r) (M0 := M3) iM (show bx1 20 r (C.length : Int) (y * 10 + (s - 48)) from jm_inL (by omega) (by omega)) Kp.rf (fun z => z.1.1 rfl rfl) (fun M4 e4 i4 k4 => ?_)
    refine wp_ret ⟨rfl, i4, k4, ?_⟩
    rw [e4, show y * 10 + (s - 48) = 10 * y + s - 48 by omega]
    exact h.popC _
  · obtain ⟨-, i2, k2, h2⟩ := q2
    have h55 : M2 6 0 5 = dg := h2.1.2.2.1
    refine wp_sk (T := TS r) (M0 := M1) i2 (show bx1 6 0 5 (jm_w (M2 6 0 5 + 1)) from jm_w_in _) k2 (TS6 (by decide)) (fun M3 e3 i3 k3 => ?_)
    refine wp_ret ⟨rfl, i3, k3, ?_⟩
    rw [e3, h55, jm_wid (by omega) (by omega)]
    exact h2.u5 (dg + 1)
/-- behind an operand, a sign that is no digit -/
theorem y_be (hfu : 4000 ≤ fu) (hr : 0 ≤ r ∧ r ≤ 16) (iM : bI bx1 M) (hs : jm_in s) (h : AB r M 2 cmp dg stk W C) (hd : ¬ (48 ≤ s ∧ s ≤ 57)) {Q : Int → jm_M → Prop} (hQ : ∀ (v : Int) (M1 : jm_M), Q v M1 → v = 0 ∨ v = 1) (k58 : s = 58 → ∀ M1 : jm_M, bI bx1 M1 → Kp (TS r) M M1 → AB r M1 2 cmp 0 stk W C → wp (if M1 6 0 3 = 0 then (jm_b (fX3_endsCondition fu M1) fun v9 M10 => if v9 = 0 then (some (0, M10)) else (some (1, M10))) else (some (0, M1))) Q) (k41 : s = 41 → ∀ M1 : jm_M, bI bx1 M1 → Kp (TS r) M M1 → AB r M1 2 cmp 0 stk W C → wp (fX3_closes fu M1) Q) (kj : s ≠ 58 → s ≠ 41 → ∀ M1 : jm_M, bI bx1 M1 → Kp (TS r) M M1 → AB r M1 2 cmp 0 stk W C → wp (fX3_joins fu M1 s) Q) : wp (fX3_takes fu M s) Q := by
  refine y_takes_be fu h.1.1 ?_ hQ
  unfold fX3_takesBehindOperand
  refine wp_b (s_fX3_isDigit M iM s hs) (fun v M1 q => ?_)
  obtain ⟨rfl, q⟩ := q
  refine wp_T (by omega) ?_
  refine wp_sk (T := TS r) (M0 := M1) iM (show bx1 6 0 5 0 from jm_inL (by decide) (by decide)) Kp.rf (TS6 (by decide)) (fun M3 e3 i3 k3 => ?_)
  have h3 : AB r M3 2 cmp 0 stk W C := by rw [e3]; exact h.u5 0
  refine wp_ite (fun c => k58 c M3 i3 k3 h3) (fun c => ?_)
  refine wp_ite (fun c2 => ?_) (fun c2 => ?_)
  · exact wp_b (k41 c2 M3 i3 k3 h3) (fun v M4 q => wp_T (hQ v M4 q) (wp_ret q))
  · exact wp_b (kj c c2 M3 i3 k3 h3) (fun v M4 q => wp_T (hQ v M4 q) (wp_ret q))
theorem y_be_no (hfu : 4000 ≤ fu) (hr : 0 ≤ r ∧ r ≤ 16) (iM : bI bx1 M) (hs : jm_in s) (h : AB r M 2 cmp dg stk W C) (hS : stk.length ≤ 60) (hd : ¬ (48 ≤ s ∧ s ≤ 57 ∧ 1 ≤ dg ∧ dg ≤ 2)) (h58 : s = 58 → stk ≠ []) (h41 : s = 41 → stk = []) (hj : s ≠ 58 → s ≠ 41 → lv s = 0 ∨ lv s = 6 ∨ (lv s = 3 ∧ cmp = 1)) : wp (fX3_takes fu M s) YN := by
  by_cases hdd : 48 ≤ s ∧ s ≤ 57
  · refine y_takes_be fu h.1.1 ?_ (fun v M1 q => Or.inl q)
    unfold fX3_takesBehindOperand
    refine wp_b (s_fX3_isDigit M iM s hs) (fun v M1 q => ?_)
    obtain ⟨rfl, q⟩ := q
    have h5 : M1 6 0 5 = dg := h.1.2.2.1
    refine wp_F (by omega) ?_
    refine wp_ite (fun _ => wp_ret rfl) (fun c => ?_)
    exact wp_F (by omega) (wp_ret rfl)
  · refine y_be hfu hr iM hs h hdd (fun v M1 q => Or.inl q) (fun e M1 i1 k1 h1 => ?_) (fun e M1 i1 k1 h1 => ?_) (fun e e2 M1 i1 k1 h1 => ?_)
    · have e3 : M1 6 0 3 = (stk.length : Int) := h1.2.1.1
      have : stk.length ≠ 0 := fun q => h58 e (List.length_eq_zero_iff.mp q)
      exact wp_F (by omega) (wp_ret rfl)
    · have e3 : M1 6 0 3 = (stk.length : Int) := h1.2.1.1
      have : stk.length = 0 := by rw [h41 e]; rfl
      unfold fX3_closes
      have ew : jm_w (M1 6 0 3 - 1) = -1 := by rw [e3, jm_wid (by omega) (by omega)]; omega
      rw [ew]
      refine wp_b (s_fX11_isIndex M1 i1 (-1) 60 (jm_inL (by decide) (by decide)) ⟨by decide, by decide⟩) (fun v M2 q => ?_)
      exact wp_T (by omega) (wp_ret rfl)
    · have e4 : M1 6 0 4 = cmp := h1.1.2.1
      unfold fX3_joins
      rw [y_levelOf]
      show wp (if lv s = 0 then some (0, M1) else _) YN
      refine wp_ite (fun _ => wp_ret rfl) (fun c => ?_)
      refine wp_ite (fun _ => wp_ret rfl) (fun c2 => ?_)
      have q := hj e e2
      refine wp_T (by omega) ?_
      exact wp_F (show ¬ M1 6 0 4 = 0 by omega) (wp_ret rfl)
/-- a closing parenthesis -/
theorem y_close (hfu : 4000 ≤ fu) (hr : 0 ≤ r ∧ r ≤ 16) (iM : bI bx1 M) (hs : jm_in s) {c0 : Int} {P : List Int} (hc0 : c0 = 0 ∨ c0 = 1) (h : AB r M 2 cmp dg (c0 :: stk) (P ++ 40 :: W) C) (hP : ∀ x ∈ P, 1 ≤ lv x ∧ 0 ≤ x ∧ x ≤ 255) (hS : stk.length < 60) (hC : C.length + P.length ≤ 60) (hL : (P ++ 40 :: W).length ≤ 60) (he : s = 41) : wp (fX3_takes fu M s) (YT r M 2 c0 0 stk W ((P.map (fun x => 2000 + x)).reverse ++ C)) := by
  subst he
  refine y_be hfu hr iM hs h (by omega) (fun v M1 q => Or.inr q.1) (fun e => absurd e (by decide)) (fun _ M1 i1 k1 h1 => ?_) (fun _ e => absurd rfl e)
  have e3 : M1 6 0 3 = ((c0 :: stk).length : Int) := h1.2.1.1
  simp only [List.length_cons] at e3
  unfold fX3_closes
  have ew : jm_w (M1 6 0 3 - 1) = (stk.length : Int) := by rw [e3, jm_wid (by omega) (by omega)]; omega
  rw [ew]
  refine wp_b (s_fX11_isIndex M1 i1 (stk.length : Int) 60 (jm_inL (by omega) (by omega)) ⟨by decide, by decide⟩) (fun v M2 q => ?_)
  obtain ⟨rfl, q⟩ := q
  refine wp_F (by omega) ?_
  refine wp_b (y_release fu hfu hr (l := 1) (P := P) (W := 40 :: W) i1 h1 (fun x V e => by cases e; decide) hP hC hL) (fun v2 M3 q2 => ?_)
  obtain ⟨-, i3, k3, h3⟩ := q2
  have f1 : M3 6 0 1 = ((40 :: W).length : Int) := h3.2.2.1.1
  simp only [List.length_cons] at f1
  simp only [List.length_append, List.length_cons] at hL
  have g1 : jm_w (M3 6 0 1 - 1) = (W.length : Int) := by rw [f1, jm_wid (by omega) (by omega)]; omega
  refine wp_sk (T := TS r) (M0 := M) i3 (show -1000 ≤ jm_w (M3 6 0 1 - 1) ∧ jm_w (M3 6 0 1 - 1) ≤ 60 by omega) (k1.tr k3 (fun _ _ _ z => z)) (TS6 (by decide)) (fun M4 e4 i4 k4 => ?_)
  have h4 : AB r M4 2 cmp 0 (c0 :: stk) W ((P.map (fun x => 2000 + x)).reverse ++ C) := by rw [e4, g1]; exact h3.popW
  have f3 : M4 6 0 3 = ((c0 :: stk).length : Int) := h4.2.1.1
  simp only [List.length_cons] at f3
  have g3 : jm_w (M4 6 0 3 - 1) = (stk.length : Int) := by rw [f3, jm_wid (by omega) (by omega)]; omega
  refine wp_sk (T := TS r) (M0 := M) i4 (show bx1 6 0 3 (jm_w (M4 6 0 3 - 1)) from jm_w_in _) k4 (TS6 (by decide)) (fun M5 e5 i5 k5 => ?_)
  have e26 : M4 26 0 (stk.length : Int) = c0 := h4.2.1.2.1
  have h5 : AB r M5 2 cmp 0 stk W ((P.map (fun x => 2000 + x)).reverse ++ C) := by rw [e5, g3]; exact h4.popS
  have f5 : M5 6 0 3 = (stk.length : Int) := h5.2.1.1
  have f26 : M5 26 0 (stk.length : Int) = c0 := by rw [e5]; exact (jm_une_f (by decide)).trans e26
  rw [f5]
  refine wp_T ⟨by omega, by omega⟩ ?_
  rw [f26]
  refine wp_T hc0 ?_
  refine wp_sk (T := TS r) (M0 := M) i5 (show 0 ≤ c0 ∧ c0 ≤ 1 by omega) k5 (TS6 (by decide)) (fun M6 e6 i6 k6 => ?_)
  refine wp_ret ⟨rfl, i6, k6, ?_⟩
  rw [e6]
  exact h5.u4 c0
/-- an operator of two sides -/
theorem y_join (hfu : 4000 ≤ fu) (hr : 0 ≤ r ∧ r ≤ 16) (iM : bI bx1 M) (hs : jm_in s) {P : List Int} (h : AB r M 2 cmp dg stk (P ++ W) C) (hlv : lv s ≠ 0 ∧ lv s ≠ 6) (h3 : lv s = 3 → cmp = 0) (hW : ∀ (x : Int) (V : List Int), W = x :: V → lv x < lv s) (hP : ∀ x ∈ P, lv s ≤ lv x ∧ 0 ≤ x ∧ x ≤ 255) (hC : C.length + P.length ≤ 60) (hL : (P ++ W).length < 60) : wp (fX3_takes fu M s) (YT r M 1 (if lv s = 3 then 1 else if lv s < 3 then 0 else cmp) 0 stk (s :: W) ((P.map (fun x => 2000 + x)).reverse ++ C)) := by
  have hl6 := lv_any s
  have ns : ¬ (48 ≤ s ∧ s ≤ 57) ∧ s ≠ 58 ∧ s ≠ 41 := by
    refine ⟨fun q => ?_, fun q => ?_, fun q => ?_⟩
    · apply hlv.1
      unfold lv
      rw [if_neg (by omega), if_neg (by omega), if_neg (by omega), if_neg (by omega), if_neg (by omega), if_neg (by omega), if_neg (by omega), if_neg (by omega), if_neg (by omega), if_neg (by omega)]
    · rw [q] at hlv; exact absurd (by decide) hlv.1
    · rw [q] at hlv; exact absurd (by decide) hlv.1
  refine y_be hfu hr iM hs h ns.1 (fun v M1 q => Or.inr q.1) (fun e => absurd e ns.2.1) (fun e => absurd e ns.2.2) (fun _ _ M1 i1 k1 h1 => ?_)
  have e4 : M1 6 0 4 = cmp := h1.1.2.1
  unfold fX3_joins
  rw [y_levelOf]
  show wp (if lv s = 0 then some (0, M1) else _) _
  refine wp_F hlv.1 ?_
  refine wp_F hlv.2 ?_
  have last : ∀ (M2 : jm_M) (cm : Int), bI bx1 M2 → Kp (TS r) M M2 → AB r M2 2 cm 0 stk (P ++ W) C → wp (gX3_joins_48 fu M2 s (lv s)) (YT r M 1 cm 0 stk (s :: W) ((P.map (fun x => 2000 + x)).reverse ++ C)) := by
    intro M2 cm i2 k2 h2
    unfold gX3_joins_48
    refine wp_b (y_release fu hfu hr (l := lv s) (P := P) (W := W) i2 h2 hW hP hC (by omega)) (fun v3 M3 q3 => ?_)
    obtain ⟨-, i3, k3, h3⟩ := q3
    simp only [List.length_append] at hL
    refine wp_b (y_hold i3 h3 (by omega) s hs) (fun v4 M4 q4 => ?_)
    obtain ⟨-, i4, k4, h4⟩ := q4
    refine wp_sk (T := TS r) (M0 := M) i4 (show bx1 6 0 6 1 from jm_inL (by decide) (by decide)) ((k2.tr k3 (fun _ _ _ z => z)).tr k4 (fun _ _ _ z => z)) (TS6 (by decide)) (fun M5 e5 i5 k5 => ?_)
    refine wp_ret ⟨rfl, i5, k5, ?_⟩
    rw [e5]
    exact h4.u6 1
  have mid : wp (gX3_joins_29 fu M1 s (lv s)) (YT r M 1 (if lv s = 3 then 1 else if lv s < 3 then 0 else cmp) 0 stk (s :: W) ((P.map (fun x => 2000 + x)).reverse ++ C)) := by
    unfold gX3_joins_29
    refine wp_ite (fun c => ?_) (fun c => ?_)
    · rw [if_neg (by omega), if_neg (by omega)]
      exact last M1 cmp i1 k1 h1
    · refine wp_ite (fun c2 => ?_) (fun c2 => ?_)
      · rw [if_pos c2]
        refine wp_sk (T := TS r) (M0 := M) i1 (show 0 ≤ (1 : Int) ∧ (1 : Int) ≤ 1 by decide) k1 (TS6 (by decide)) (fun M2 e2 i2 k2 => ?_)
        exact last M2 1 i2 k2 (by rw [e2]; exact h1.u4 1)
      · rw [if_neg c2, if_pos (by omega)]
        refine wp_sk (T := TS r) (M0 := M) i1 (show 0 ≤ (0 : Int) ∧ (0 : Int) ≤ 1 by decide) k1 (TS6 (by decide)) (fun M2 e2 i2 k2 => ?_)
        exact last M2 0 i2 k2 (by rw [e2]; exact h1.u4 0)
  refine wp_ite (fun c => ?_) (fun _ => mid)
  exact wp_T (show M1 6 0 4 = 0 by rw [e4]; exact h3 c) mid
end YY
