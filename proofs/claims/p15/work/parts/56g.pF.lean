/-! behind a condition: lines, acts, verdicts -/
def TJL (r : Int) (f : Nat) (i k : Int) : Prop := ((21 ≤ f ∧ f ≤ 24) → i ≠ r) ∧ (f = 11 → i ≠ r ∨ (k ≠ 6 ∧ k ≠ 7))
theorem AB.kp {r : Int} {M M1 : jm_M} {st cmp dg : Int} {stk W C : List Int} (h : AB r M st cmp dg stk W C) (k : Kp (TJL r) M M1) : AB r M1 st cmp dg stk W C := by
  obtain ⟨⟨a1, a2, a3, a4⟩, ⟨b1, b2⟩, ⟨c1, c2⟩, ⟨d1, d2⟩⟩ := h
  have e6 : ∀ x : Int, M1 6 0 x = M 6 0 x := fun x => k 6 0 x ⟨fun q => by omega, fun q => by omega⟩
  have e25 : M1 25 0 = M 25 0 := funext fun x => k 25 0 x ⟨fun q => by omega, fun q => by omega⟩
  have e26 : M1 26 0 = M 26 0 := funext fun x => k 26 0 x ⟨fun q => by omega, fun q => by omega⟩
  have e20 : M1 20 r = M 20 r := funext fun x => k 20 r x ⟨fun q => by omega, fun q => by omega⟩
  have e11 : M1 11 r 1 = M 11 r 1 := k 11 r 1 ⟨fun q => by omega, fun _ => Or.inr ⟨by decide, by decide⟩⟩
  unfold AB
  rw [e6, e6, e6, e6, e6, e6, e25, e26, e20, e11]
  exact ⟨⟨a1, a2, a3, a4⟩, ⟨b1, b2⟩, ⟨c1, c2⟩, ⟨d1, d2⟩⟩
theorem TI6 {r k : Int} (h : k ≠ 7 ∧ k ≠ 8) : ¬ TI r 6 0 k := fun z => by
  have := z.2.2.2 rfl
  omega
theorem Kp.toI {r : Int} {M M1 : jm_M} (k : Kp (TS r) M M1) : Kp (TI r) M M1 := k.weak (fun f i x h => by
  unfold TI at h
  unfold TS
  omega)
theorem Kp.trI {r : Int} {M M1 M2 : jm_M} (h : Kp (TI r) M M1) (g : Kp (TI r) M1 M2) : Kp (TI r) M M2 := h.tr g (fun _ _ _ z => z)
theorem ltx_kpI {r : Int} {M M1 : jm_M} (k : Kp (TI r) M M1) : ltx M1 = ltx M ∧ M1 6 0 7 = M 6 0 7 := by
  have e := k 6 0 7 (by unfold TI; omega)
  unfold ltx
  rw [e]
  exact ⟨rfl, rfl⟩
def YL (r : Int) (M : jm_M) (st cmp dg : Int) (stk W C : List Int) (v : Int) (M1 : jm_M) : Prop := v = 1 ∧ bI bx1 M1 ∧ Kp (TI r) M M1 ∧ AB r M1 st cmp dg stk W C
theorem YL.run {fu : Nat} {s : Int → Int} {a r : Int} {M : jm_M} {st cmp dg : Int} {stk W C : List Int} (h : wp (fX3_takes fu M (s a)) (YL r M st cmp dg stk W C)) : ∃ M1 : jm_M, RunN fu s 1 a M M1 ∧ bI bx1 M1 ∧ Kp (TI r) M M1 ∧ AB r M1 st cmp dg stk W C := by
  obtain ⟨v, M1, e, rfl, q⟩ := h
  exact ⟨M1, RunN.one e, q⟩
theorem Kp.JI {r : Int} {M M1 : jm_M} (k : Kp (TJL r) M M1) : Kp (TI r) M M1 := k.weak (fun f i x h => by
  obtain ⟨h1, h2, h3, h4⟩ := h
  exact ⟨fun q => h1 (Or.inl ⟨by omega, q.2⟩), fun q => Or.inl (h1 (Or.inr q))⟩)
theorem y_endCond {r : Int} (hr : 0 ≤ r ∧ r ≤ 16) {M : jm_M} (iM : bI bx1 M) : wp (fX8_endCondition M r) (fun v M1 => v = 0 ∧ bI bx1 M1 ∧ Kp (TJL r) M M1) := by
  have b6 : 0 ≤ M 11 r 6 ∧ M 11 r 6 ≤ 21 := iM 11 r 6
  have b1 : 0 ≤ M 11 r 1 ∧ M 11 r 1 ≤ 60 := iM 11 r 1
  unfold fX8_endCondition
  refine wp_b (s_fX11_isIndex M iM (M 11 r 6) 21 (jm_inL (by omega) (by omega)) ⟨by decide, by decide⟩) (fun v M1 q => ?_)
  obtain ⟨rfl, q⟩ := q
  refine wp_ite (fun _ => wp_ret ⟨rfl, iM, Kp.rf⟩) (fun c => ?_)
  have h21 : M1 11 r 6 < 21 := by omega
  refine wp_T ⟨by omega, by omega⟩ ?_
  refine wp_sk (T := TJL r) (M0 := M1) iM (show 0 ≤ M1 11 r 1 ∧ M1 11 r 1 ≤ 60 from b1) Kp.rf (fun z => z.1 ⟨by decide, by decide⟩ rfl) (fun M2 e2 i2 k2 => ?_)
  have f2 : M2 11 r 6 = M1 11 r 6 := by rw [e2]; exact jm_une_f (by decide)
  refine wp_T ⟨by omega, by omega⟩ ?_
  refine wp_sk (T := TJL r) (M0 := M1) i2 (show bx1 22 r (M2 11 r 6) 9 from jm_inL (by decide) (by decide)) k2 (fun z => z.1 ⟨by decide, by decide⟩ rfl) (fun M3 e3 i3 k3 => ?_)
  have f3 : M3 11 r 6 = M2 11 r 6 := by rw [e3]; exact jm_une_f (by decide)
  refine wp_T ⟨by omega, by omega⟩ ?_
  refine wp_sk (T := TJL r) (M0 := M1) i3 (show bx1 23 r (M3 11 r 6) 9 from jm_inL (by decide) (by decide)) k3 (fun z => z.1 ⟨by decide, by decide⟩ rfl) (fun M4 e4 i4 k4 => ?_)
  have f4 : M4 11 r 6 = M3 11 r 6 := by rw [e4]; exact jm_une_f (by decide)
  refine wp_T ⟨by omega, by omega⟩ ?_
  refine wp_sk (T := TJL r) (M0 := M1) i4 (show bx1 24 r (M4 11 r 6) (-1) from jm_inL (by decide) (by decide)) k4 (fun z => z.1 ⟨by decide, by decide⟩ rfl) (fun M5 e5 i5 k5 => ?_)
  have f5 : M5 11 r 6 = M4 11 r 6 := by rw [e5]; exact jm_une_f (by decide)
  have f6 : jm_w (M5 11 r 6 + 1) = M1 11 r 6 + 1 := by rw [jm_wid (by omega) (by omega)]; omega
  refine wp_sk (T := TJL r) (M0 := M1) i5 (show 0 ≤ jm_w (M5 11 r 6 + 1) ∧ jm_w (M5 11 r 6 + 1) ≤ 21 by omega) k5 (fun z => by rcases z.2 rfl with w | w; exact w rfl; exact w.1 rfl) (fun M6 e6 i6 k6 => ?_)
  exact wp_ret ⟨rfl, i6, k6⟩
/-- the end of a condition -/
theorem y_ends {fu : Nat} (hfu : 4000 ≤ fu) {r : Int} (hr : 0 ≤ r ∧ r ≤ 16) {M : jm_M} (iM : bI bx1 M) {st cmp dg : Int} {stk P C : List Int} (h : AB r M st cmp dg stk P C) (hP : ∀ x ∈ P, 1 ≤ lv x ∧ 0 ≤ x ∧ x ≤ 255) (hC : C.length + P.length ≤ 60) : wp (fX3_endsCondition fu M) (fun v M1 => v = 1 ∧ bI bx1 M1 ∧ Kp (TI r) M M1 ∧ AB r M1 (if M 6 0 7 = 0 then 3 else 6) cmp dg stk [] ((P.map (fun x => 2000 + x)).reverse ++ C)) := by
  unfold fX3_endsCondition
  refine wp_b (y_release fu hfu hr (l := 1) (P := P) (W := []) iM (by rw [List.append_nil]; exact h) (fun x V e => by cases e) hP hC (by rw [List.append_nil]; omega)) (fun v2 M2 q2 => ?_)
  obtain ⟨-, i2, k2, h2⟩ := q2
  have h8 : M2 6 0 8 = r := h2.1.2.2.2
  refine wp_T ⟨by omega, by omega⟩ ?_
  rw [h8]
  refine wp_b (y_endCond hr i2) (fun v3 M3 q3 => ?_)
  obtain ⟨-, i3, k3, h3⟩ : v3 = 0 ∧ bI bx1 M3 ∧ Kp (TI r) M M3 ∧ AB r M3 st cmp dg stk [] ((P.map (fun x => 2000 + x)).reverse ++ C) := ⟨q3.1, q3.2.1, k2.toI.trI q3.2.2.JI, h2.kp q3.2.2⟩
  obtain ⟨-, l7⟩ := ltx_kpI k3
  refine wp_ite (fun c => ?_) (fun c => ?_)
  · rw [if_pos (by omega)]
    refine wp_sk (T := TI r) (M0 := M) i3 (show bx1 6 0 6 3 from jm_inL (by decide) (by decide)) k3 (TI6 (by decide)) (fun M4 e4 i4 k4 => ?_)
    exact wp_ret ⟨rfl, i4, k4, by rw [e4]; exact h3.u6 3⟩
  · rw [if_neg (by omega)]
    refine wp_sk (T := TI r) (M0 := M) i3 (show bx1 6 0 6 6 from jm_inL (by decide) (by decide)) k3 (TI6 (by decide)) (fun M4 e4 i4 k4 => ?_)
    exact wp_ret ⟨rfl, i4, k4, by rw [e4]; exact h3.u6 6⟩
theorem y_colon2 {fu : Nat} (hfu : 4000 ≤ fu) {r : Int} (hr : 0 ≤ r ∧ r ≤ 16) {M : jm_M} (iM : bI bx1 M) {s cmp dg : Int} {P C : List Int} (hs : jm_in s) (h : AB r M 2 cmp dg [] P C) (he : s = 58) (hP : ∀ x ∈ P, 1 ≤ lv x ∧ 0 ≤ x ∧ x ≤ 255) (hC : C.length + P.length ≤ 60) : wp (fX3_takes fu M s) (YL r M (if M 6 0 7 = 0 then 3 else 6) cmp 0 [] [] ((P.map (fun x => 2000 + x)).reverse ++ C)) := by
  subst he
  refine y_be hfu hr iM hs h (by omega) (fun v M1 q => Or.inr q.1) (fun _ M1 i1 k1 h1 => ?_) (fun e => absurd e (by decide)) (fun e => absurd rfl e)
  obtain ⟨-, l7⟩ := ltx_kp k1
  have e3 : M1 6 0 3 = 0 := h1.2.1.1
  refine wp_T e3 ?_
  refine wp_b (y_ends hfu hr i1 h1 hP hC) (fun v2 M2 q2 => ?_)
  obtain ⟨hv, i2, k2, h2⟩ := q2
  rw [l7] at h2
  exact wp_F (by omega) (wp_ret ⟨rfl, i2, k1.toI.trI k2, h2⟩)
/-- a line without a condition -/
theorem y_colon0 {fu : Nat} (hfu : 4000 ≤ fu) {r : Int} (hr : 0 ≤ r ∧ r ≤ 16) {M : jm_M} (iM : bI bx1 M) {s cmp dg : Int} {C : List Int} (hs : jm_in s) (h : AB r M 0 cmp dg [] [] C) (he : s = 58) (h7 : M 6 0 7 ≠ 0) (hC : C.length ≤ 60) : wp (fX3_takes fu M s) (YL r M 6 cmp dg [] [] C) := by
  subst he
  refine y_takes_op fu (Or.inl h.1.1) ?_ (fun v M1 q => Or.inr q.1)
  unfold fX3_takesOperand
  refine wp_b (s_fX3_isDigit M iM 58 hs) (fun v M1 q => ?_)
  obtain ⟨rfl, q⟩ := q
  refine wp_T (by omega) ?_
  refine wp_b (y_isLetter fu M1 58) (fun v2 M2 q2 => ?_)
  obtain ⟨rfl, q2⟩ := q2
  have az := sx_az (ltx M2) 58 (by unfold ltx; split; exact Or.inr rfl; exact Or.inl rfl)
  refine wp_T (by omega) ?_
  refine wp_T rfl ?_
  refine wp_F h7 ?_
  refine wp_T h.1.1 ?_
  refine wp_b (y_ends hfu hr iM h (fun x hx => absurd hx List.not_mem_nil) (by simp only [List.length_nil]; omega)) (fun v3 M3 q3 => ?_)
  obtain ⟨hv, i3, k3, h3⟩ := q3
  rw [if_neg h7] at h3
  exact wp_T (Or.inr hv) (wp_ret ⟨hv, i3, k3, h3⟩)
theorem y_takes6 (fu : Nat) {M : jm_M} {s : Int} {Q : Int → jm_M → Prop} (hst : M 6 0 6 = 6 ∨ M 6 0 6 = 7) (h : wp (fX3_takesAct M s) Q) (hQ : ∀ (v : Int) (M1 : jm_M), Q v M1 → v = 0 ∨ v = 1) : wp (fX3_takes fu M s) Q := by
  unfold fX3_takes
  refine wp_F (by omega) (wp_F (by omega) (wp_F (by omega) (wp_F (by omega) (wp_F (by omega) ?_))))
  rcases hst with e | e
  · exact wp_T e (wp_b h fun v M1 q => wp_T (hQ v M1 q) (wp_ret q))
  · exact wp_F (by omega) (wp_T e (wp_b h fun v M1 q => wp_T (hQ v M1 q) (wp_ret q)))
theorem y_act {r : Int} (hr : 0 ≤ r ∧ r ≤ 16) {M : jm_M} (iM : bI bx1 M) (s : Int) : wp (fX8_act M r s) (fun _ M1 => bI bx1 M1 ∧ Kp (TJL r) M M1) := by
  have b6 : 0 ≤ M 11 r 6 ∧ M 11 r 6 ≤ 21 := iM 11 r 6
  unfold fX8_act
  refine wp_e (jm_w_in _) (fun v2 e2 hv2 => ?_)
  have ev : v2 = M 11 r 6 - 1 := by rw [e2]; exact jm_wid (by omega) (by omega)
  refine wp_b (s_fX11_isIndex M iM v2 21 hv2 ⟨by decide, by decide⟩) (fun v M1 q => ?_)
  obtain ⟨rfl, q⟩ := q
  have t22 : ∀ x : Int, ¬ TJL r 22 r x := fun x z => z.1 ⟨by decide, by decide⟩ rfl
  have t23 : ∀ x : Int, ¬ TJL r 23 r x := fun x z => z.1 ⟨by decide, by decide⟩ rfl
  refine wp_ite (fun _ => wp_ret ⟨iM, Kp.rf⟩) (fun c => ?_)
  refine wp_ite (fun _ => wp_T ⟨by omega, by omega⟩ (wp_sk (T := TJL r) (M0 := M1) iM (show bx1 22 r v2 1 from jm_inL (by decide) (by decide)) Kp.rf (t22 _) (fun M2 _ i2 k2 => wp_ret ⟨i2, k2⟩))) (fun _ => ?_)
  refine wp_ite (fun _ => wp_T ⟨by omega, by omega⟩ (wp_sk (T := TJL r) (M0 := M1) iM (show bx1 22 r v2 (-1) from jm_inL (by decide) (by decide)) Kp.rf (t22 _) (fun M2 _ i2 k2 => wp_ret ⟨i2, k2⟩))) (fun _ => ?_)
  refine wp_ite (fun _ => wp_T ⟨by omega, by omega⟩ (wp_sk (T := TJL r) (M0 := M1) iM (show bx1 22 r v2 0 from jm_inL (by decide) (by decide)) Kp.rf (t22 _) (fun M2 _ i2 k2 => wp_ret ⟨i2, k2⟩))) (fun _ => ?_)
  refine wp_ite (fun _ => wp_T ⟨by omega, by omega⟩ (wp_sk (T := TJL r) (M0 := M1) iM (show bx1 23 r v2 1 from jm_inL (by decide) (by decide)) Kp.rf (t23 _) (fun M2 _ i2 k2 => wp_ret ⟨i2, k2⟩))) (fun _ => ?_)
  refine wp_ite (fun _ => wp_T ⟨by omega, by omega⟩ (wp_sk (T := TJL r) (M0 := M1) iM (show bx1 23 r v2 0 from jm_inL (by decide) (by decide)) Kp.rf (t23 _) (fun M2 _ i2 k2 => wp_ret ⟨i2, k2⟩))) (fun _ => wp_ret ⟨iM, Kp.rf⟩)
section FF
variable {fu : Nat} {r : Int} {M : jm_M} {st cmp dg : Int} {C : List Int} {s : Int}
/-- an act of one sign -/
theorem y_act1 (hr : 0 ≤ r ∧ r ≤ 16) (iM : bI bx1 M) (h : AB r M st cmp dg [] [] C) (hst : st = 6 ∨ st = 7) (hs : s = 43 ∨ s = 45 ∨ s = 46 ∨ s = 61 ∨ s = 103 ∨ s = 104) : wp (fX3_takes fu M s) (YL r M 7 cmp dg [] [] C) := by
  refine y_takes6 fu (by rw [h.1.1]; exact hst) ?_ (fun v M1 q => Or.inr q.1)
  have h8 : M 6 0 8 = r := h.1.2.2.2
  have key : ∀ x : Int, wp (if 0 ≤ M 6 0 8 ∧ M 6 0 8 < 17 then (jm_b (fX8_act M (M 6 0 8) x) fun _ M4 => jm_s (jm_u M4 6 0 6 7) fun M5 => some (1, M5)) else none) (YL r M 7 cmp dg [] [] C) := by
    intro x
    refine wp_T ⟨by omega, by omega⟩ ?_
    rw [h8]
    refine wp_b (y_act hr iM x) (fun v M1 q => ?_)
    refine wp_sk (T := TI r) (M0 := M) q.1 (show bx1 6 0 6 7 from jm_inL (by decide) (by decide)) q.2.JI (TI6 (by decide)) (fun M4 e4 i4 k4 => ?_)
    exact wp_ret ⟨rfl, i4, k4, by rw [e4]; exact (h.kp q.2).u6 7⟩
  unfold fX3_takesAct
  refine wp_ite (fun _ => key s) (fun c1 => ?_)
  refine wp_ite (fun _ => key s) (fun c2 => ?_)
  refine wp_ite (fun _ => key s) (fun c3 => ?_)
  refine wp_F (by omega) ?_
  refine wp_ite (fun _ => key s) (fun c4 => ?_)
  refine wp_F (by omega) ?_
  refine wp_ite (fun _ => key s) (fun c5 => ?_)
  exact wp_T (by omega) (key s)
theorem y_actb (iM : bI bx1 M) (h : AB r M st cmp dg [] [] C) (hst : st = 6 ∨ st = 7) (hs : s = 98) : wp (fX3_takes fu M s) (YL r M 8 cmp dg [] [] C) := by
  subst hs
  refine y_takes6 fu (by rw [h.1.1]; exact hst) ?_ (fun v M1 q => Or.inr q.1)
  unfold fX3_takesAct
  refine wp_F (by decide) (wp_F (by decide) (wp_F (by decide) (wp_F (by decide) (wp_F (by decide) (wp_T rfl ?_)))))
  refine wp_sk (T := TI r) (M0 := M) iM (show bx1 6 0 6 8 from jm_inL (by decide) (by decide)) Kp.rf (TI6 (by decide)) (fun M4 e4 i4 k4 => ?_)
  exact wp_ret ⟨rfl, i4, k4, by rw [e4]; exact h.u6 8⟩
theorem y_actn (h : AB r M st cmp dg [] [] C) (hst : st = 6 ∨ st = 7) (hs : ¬ (s = 43 ∨ s = 45 ∨ s = 46 ∨ s = 61 ∨ s = 103 ∨ s = 104 ∨ s = 98)) (h59 : s = 59 → st = 6) : wp (fX3_takes fu M s) YN := by
  have e6 : M 6 0 6 = st := h.1.1
  refine y_takes6 fu (by rw [h.1.1]; exact hst) ?_ (fun v M1 q => Or.inl q)
  unfold fX3_takesAct
  refine wp_F (by omega) (wp_F (by omega) (wp_F (by omega) (wp_ite (fun c => ?_) (fun c => ?_))))
  · have := h59 c
    exact wp_F (by omega) (wp_ret rfl)
  · exact wp_F (by omega) (wp_F (by omega) (wp_F (by omega) (wp_F (by omega) (wp_ret rfl))))
theorem y_semi (iM : bI bx1 M) (h : AB r M 7 cmp dg [] [] C) (hs : s = 59) : wp (fX3_takes fu M s) (YL r M 0 0 0 [] [] C) := by
  subst hs
  refine y_takes6 fu (by rw [h.1.1]; exact Or.inr rfl) ?_ (fun v M1 q => Or.inr q.1)
  unfold fX3_takesAct
  refine wp_F (by decide) (wp_F (by decide) (wp_F (by decide) (wp_T rfl (wp_T h.1.1 ?_))))
  refine wp_b (P := fun _ M1 => bI bx1 M1 ∧ Kp (TI r) M M1 ∧ AB r M1 0 0 0 [] [] C) ?_ (fun v M1 q => wp_ret ⟨rfl, q⟩)
  unfold fX3_beginLine
  refine wp_sk (T := TI r) (M0 := M) iM (show bx1 6 0 6 0 from jm_inL (by decide) (by decide)) Kp.rf (TI6 (by decide)) (fun M2 e2 i2 k2 => ?_)
  refine wp_sk (T := TI r) (M0 := M) i2 (show -1000 ≤ (0 : Int) ∧ (0 : Int) ≤ 60 by decide) k2 (TI6 (by decide)) (fun M3 e3 i3 k3 => ?_)
  refine wp_sk (T := TI r) (M0 := M) i3 (show bx1 6 0 3 0 from jm_inL (by decide) (by decide)) k3 (TI6 (by decide)) (fun M4 e4 i4 k4 => ?_)
  refine wp_sk (T := TI r) (M0 := M) i4 (show bx1 6 0 5 0 from jm_inL (by decide) (by decide)) k4 (TI6 (by decide)) (fun M5 e5 i5 k5 => ?_)
  refine wp_sk (T := TI r) (M0 := M) i5 (show 0 ≤ (0 : Int) ∧ (0 : Int) ≤ 1 by decide) k5 (TI6 (by decide)) (fun M6 e6 i6 k6 => ?_)
  refine wp_ret ⟨i6, k6, ?_⟩
  have h2 : AB r M2 0 cmp dg [] [] C := by rw [e2]; exact h.u6 0
  have w1 : M2 6 0 1 = 0 := h2.2.2.1.1
  have w3 : M2 6 0 3 = 0 := h2.2.1.1
  have e3' : M3 = M2 := by
    rw [e3]
    funext f i k
    by_cases q : f = 6 ∧ i = 0 ∧ k = 1
    · obtain ⟨rfl, rfl, rfl⟩ := q; rw [jm_ueq]; exact w1.symm
    · exact jm_une q
  have e4' : M4 = M3 := by
    rw [e4]
    funext f i k
    by_cases q : f = 6 ∧ i = 0 ∧ k = 3
    · obtain ⟨rfl, rfl, rfl⟩ := q; rw [jm_ueq, e3']; exact w3.symm
    · exact jm_une q
  rw [e6, e5, e4', e3']
  exact (h2.u5 0).u4 0
theorem y_box (hr : 0 ≤ r ∧ r ≤ 16) (iM : bI bx1 M) (h : AB r M 8 cmp dg [] [] C) (hs : 48 ≤ s ∧ s ≤ 51) : wp (fX3_takes fu M s) (YL r M 7 cmp dg [] [] C) := by
  have e6 : M 6 0 6 = 8 := h.1.1
  have h8 : M 6 0 8 = r := h.1.2.2.2
  unfold fX3_takes
  refine wp_F (by omega) (wp_F (by omega) (wp_F (by omega) (wp_F (by omega) (wp_F (by omega) (wp_F (by omega) (wp_F (by omega) (wp_T e6 ?_)))))))
  refine wp_b (P := YL r M 7 cmp dg [] [] C) ?_ (fun v M1 q => wp_T (Or.inr q.1) (wp_ret q))
  unfold fX3_takesBox
  refine wp_F (by omega) (wp_T (by omega) (wp_T ⟨by omega, by omega⟩ ?_))
  rw [h8]
  have b6 : 0 ≤ M 11 r 6 ∧ M 11 r 6 ≤ 21 := iM 11 r 6
  refine wp_b (P := fun _ M1 => bI bx1 M1 ∧ Kp (TJL r) M M1) ?_ (fun v M1 q => ?_)
  · unfold fX8_actBox
    have ev : jm_w (M 11 r 6 - 1) = M 11 r 6 - 1 := jm_wid (by omega) (by omega)
    rw [ev]
    refine wp_b (s_fX11_isIndex M iM (M 11 r 6 - 1) 21 (jm_inL (by omega) (by omega)) ⟨by decide, by decide⟩) (fun v M1 q => ?_)
    obtain ⟨rfl, q⟩ := q
    refine wp_ite (fun _ => wp_ret ⟨iM, Kp.rf⟩) (fun c => ?_)
    rw [ev]
    refine wp_T ⟨by omega, by omega⟩ ?_
    refine wp_sk (T := TJL r) (M0 := M1) iM (show bx1 24 r (M1 11 r 6 - 1) (jm_w (s - 48)) from jm_w_in _) Kp.rf (fun z => z.1 ⟨by decide, by decide⟩ rfl) (fun M2 _ i2 k2 => wp_ret ⟨i2, k2⟩)
  · refine wp_sk (T := TI r) (M0 := M) q.1 (show bx1 6 0 6 7 from jm_inL (by decide) (by decide)) q.2.JI (TI6 (by decide)) (fun M4 e4 i4 k4 => ?_)
    exact wp_ret ⟨rfl, i4, k4, by rw [e4]; exact (h.kp q.2).u6 7⟩
theorem y_boxn (h : AB r M 8 cmp dg [] [] C) (hs : ¬ (48 ≤ s ∧ s ≤ 51)) : wp (fX3_takes fu M s) YN := by
  have e6 : M 6 0 6 = 8 := h.1.1
  unfold fX3_takes
  refine wp_F (by omega) (wp_F (by omega) (wp_F (by omega) (wp_F (by omega) (wp_F (by omega) (wp_F (by omega) (wp_F (by omega) (wp_T e6 ?_)))))))
  refine wp_b (P := YN) ?_ (fun v M1 q => wp_T (Or.inl q) (wp_ret q))
  unfold fX3_takesBox
  exact wp_ite (fun _ => wp_ret rfl) (fun c => wp_F (by omega) (wp_ret rfl))
end FF
