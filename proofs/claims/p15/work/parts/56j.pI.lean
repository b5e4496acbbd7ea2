/-! both readings: a rule's law -/
theorem y_takes3 (fu : Nat) {M : jm_M} {s : Int} {Q : Int → jm_M → Prop} (hst : M 6 0 6 = 3) (h : wp (fX3_takesVerdict M s) Q) (hQ : ∀ (v : Int) (M1 : jm_M), Q v M1 → v = 0 ∨ v = 1) : wp (fX3_takes fu M s) Q := by
  unfold fX3_takes
  exact wp_F (by omega) (wp_F (by omega) (wp_F (by omega) (wp_T hst (wp_b h fun v M1 q => wp_T (hQ v M1 q) (wp_ret q)))))
theorem y_takes4 (fu : Nat) {M : jm_M} {s : Int} {Q : Int → jm_M → Prop} (hst : M 6 0 6 = 4) (h : wp (fX3_takesSeconds M s) Q) (hQ : ∀ (v : Int) (M1 : jm_M), Q v M1 → v = 0 ∨ v = 1) : wp (fX3_takes fu M s) Q := by
  unfold fX3_takes
  exact wp_F (by omega) (wp_F (by omega) (wp_F (by omega) (wp_F (by omega) (wp_T hst (wp_b h fun v M1 q => wp_T (hQ v M1 q) (wp_ret q))))))
theorem y_takes5 (fu : Nat) {M : jm_M} {s : Int} (hst : M 6 0 6 = 5) : wp (fX3_takes fu M s) YN := by
  unfold fX3_takes
  exact wp_F (by omega) (wp_F (by omega) (wp_F (by omega) (wp_F (by omega) (wp_F (by omega) (wp_F (by omega) (wp_F (by omega) (wp_F (by omega) (wp_ret rfl))))))))
section II
variable {fu : Nat} {r : Int} {M : jm_M} {st cmp dg : Int} {C : List Int} {s : Int}
theorem y_X (hr : 0 ≤ r ∧ r ≤ 16) (iM : bI bx1 M) (h : AB r M 3 cmp dg [] [] C) (hs : s = 88) : wp (fX3_takes fu M s) (YL r M 5 cmp dg [] [] C) := by
  subst hs
  refine y_takes3 fu h.1.1 ?_ (fun v M1 q => Or.inr q.1)
  unfold fX3_takesVerdict
  have h8 : M 6 0 8 = r := h.1.2.2.2
  refine wp_T rfl (wp_T ⟨by omega, by omega⟩ ?_)
  rw [h8]
  refine wp_sk (T := TJL r) (M0 := M) iM (show bx1 11 r 7 (-2) from jm_inL (by decide) (by decide)) Kp.rf (fun z => by rcases z.2 rfl with w | w; exact w rfl; exact w.2 rfl) (fun M3 e3 i3 k3 => ?_)
  have h3 := h.kp k3
  refine wp_sk (T := TI r) (M0 := M) i3 (show bx1 6 0 6 5 from jm_inL (by decide) (by decide)) k3.JI (TI6 (by decide)) (fun M4 e4 i4 k4 => wp_ret ⟨rfl, i4, k4, by rw [e4]; exact h3.u6 5⟩)
theorem y_plus (iM : bI bx1 M) (h : AB r M 3 cmp dg [] [] C) (hs : s = 43) : wp (fX3_takes fu M s) (YL r M 4 cmp 0 [] [] C) := by
  subst hs
  refine y_takes3 fu h.1.1 ?_ (fun v M1 q => Or.inr q.1)
  unfold fX3_takesVerdict
  refine wp_F (by decide) ?_
  refine wp_sk (T := TI r) (M0 := M) iM (show bx1 6 0 5 0 from jm_inL (by decide) (by decide)) Kp.rf (TI6 (by decide)) (fun M3 e3 i3 k3 => ?_)
  refine wp_sk (T := TI r) (M0 := M) i3 (show bx1 6 0 6 4 from jm_inL (by decide) (by decide)) k3 (TI6 (by decide)) (fun M4 e4 i4 k4 => ?_)
  exact wp_T rfl (wp_ret ⟨rfl, i4, k4, by rw [e4, e3]; exact (h.u5 0).u6 4⟩)
theorem y_verdn (iM : bI bx1 M) (h : AB r M 3 cmp dg [] [] C) (hs : s ≠ 88 ∧ s ≠ 43) : wp (fX3_takes fu M s) YN := by
  refine y_takes3 fu h.1.1 ?_ (fun v M1 q => Or.inl q)
  unfold fX3_takesVerdict
  refine wp_F hs.1 ?_
  refine wp_sk (T := TI r) (M0 := M) iM (show bx1 6 0 5 0 from jm_inL (by decide) (by decide)) Kp.rf (TI6 (by decide)) (fun M3 e3 i3 k3 => ?_)
  refine wp_sk (T := TI r) (M0 := M) i3 (show bx1 6 0 6 4 from jm_inL (by decide) (by decide)) k3 (TI6 (by decide)) (fun M4 e4 i4 k4 => ?_)
  exact wp_F hs.2 (wp_ret rfl)
theorem y_dig4 (hr : 0 ≤ r ∧ r ≤ 16) (iM : bI bx1 M) (hs : jm_in s) (h : AB r M 4 cmp dg [] [] C) (hd : 48 ≤ s ∧ s ≤ 57) (hg : 0 ≤ dg ∧ dg ≤ 2) : wp (fX3_takes fu M s) (YL r M 4 cmp (dg + 1) [] [] C) := by
  refine y_takes4 fu h.1.1 ?_ (fun v M1 q => Or.inr q.1)
  unfold fX3_takesSeconds
  refine wp_b (s_fX3_isDigit M iM s hs) (fun v M1 q => ?_)
  obtain ⟨rfl, q⟩ := q
  have h8 : M1 6 0 8 = r := h.1.2.2.2
  have h5 : M1 6 0 5 = dg := h.1.2.2.1
  refine wp_F (by omega) (wp_T (by omega) (wp_T ⟨by omega, by omega⟩ (wp_T ⟨by omega, by omega⟩ ?_)))
  rw [h8]
  refine wp_sk (T := TJL r) (M0 := M1) iM (show bx1 11 r 7 _ from jm_w_in _) Kp.rf (fun z => by rcases z.2 rfl with w | w; exact w rfl; exact w.2 rfl) (fun M3 e3 i3 k3 => ?_)
  have h3 := h.kp k3
  have h55 : M3 6 0 5 = dg := h3.1.2.2.1
  refine wp_sk (T := TI r) (M0 := M1) i3 (show bx1 6 0 5 (jm_w (M3 6 0 5 + 1)) from jm_w_in _) k3.JI (TI6 (by decide)) (fun M4 e4 i4 k4 => ?_)
  refine wp_ret ⟨rfl, i4, k4, ?_⟩
  rw [e4, h55, jm_wid (by omega) (by omega)]
  exact h3.u5 (dg + 1)
theorem y_dign4 (iM : bI bx1 M) (hs : jm_in s) (h : AB r M 4 cmp dg [] [] C) (hd : ¬ (48 ≤ s ∧ s ≤ 57) ∨ 3 ≤ dg) : wp (fX3_takes fu M s) YN := by
  refine y_takes4 fu h.1.1 ?_ (fun v M1 q => Or.inl q)
  unfold fX3_takesSeconds
  refine wp_b (s_fX3_isDigit M iM s hs) (fun v M1 q => ?_)
  obtain ⟨rfl, q⟩ := q
  have h5 : M1 6 0 5 = dg := h.1.2.2.1
  refine wp_ite (fun _ => wp_ret rfl) (fun c => ?_)
  exact wp_F (by omega) (wp_ret rfl)
end II
/-- a whole law -/
def TOL (fu : Nat) (s : Int → Int) (r x : Int) (M : jm_M) (y : Int) : Prop := ∃ (n : Nat) (M1 : jm_M), y = x + (n : Int) ∧ RunN fu s n x M M1 ∧ bI bx1 M1 ∧ Kp (TI r) M M1 ∧ (M1 6 0 6 = 5 ∨ (M1 6 0 6 = 4 ∧ 1 ≤ M1 6 0 5))
theorem TOL.pre {fu : Nat} {s : Int → Int} {r x y z : Int} {M M1 : jm_M} {n : Nat} (h : TOL fu s r y M1 z) (e : y = x + (n : Int)) (g : RunN fu s n x M M1) (k : Kp (TI r) M M1) : TOL fu s r x M z := by
  obtain ⟨m, M2, q1, q2, q3, q4, q5⟩ := h
  exact ⟨n + m, M2, by omega, g.app (by rw [← e]; exact q2), q3, k.trI q4, q5⟩
def GW (fu : Nat) (s : Int → Int) (l r x : Int) (M0 : jm_M) (v : Int) (N1 : jm_M) : Prop := (v = 1 ∧ N1 0 0 41 = l ∧ TOL fu s r x M0 l) ∨ (v = 0 ∧ TNO fu s l r x M0 (N1 0 0 41))
theorem GW.pre {fu : Nat} {s : Int → Int} {l r x y v : Int} {M M1 N1 : jm_M} {n : Nat} (h : GW fu s l r y M1 v N1) (e : y = x + (n : Int)) (g : RunN fu s n x M M1) (k : Kp (TI r) M M1) : GW fu s l r x M v N1 := by
  rcases h with ⟨z1, z2, z3⟩ | ⟨z1, z2⟩
  · exact Or.inl ⟨z1, z2, z3.pre e g k⟩
  · exact Or.inr ⟨z1, z2.pre e g k⟩
theorem g_law_154 (fu : Nat) (hfu : 4000 ≤ fu) (s : Int → Int) (hs : ∀ j : Int, jm_in (s j)) (l u r : Int) (hl : l ≤ 60) (hr : 0 ≤ r ∧ r ≤ 16) (b : Int) (N M : jm_M) (l2 cmp : Int) (C : List Int) (h2 : jm_in l2) (iN : bI bx2 N) (h1 : N 0 0 41 ≤ l) (hb : b ≤ N 0 0 41 ∧ N 0 0 41 ≤ b + 3) (iM : bI bx1 M) (hA : AB r M 4 cmp (N 0 0 41 - b) [] [] C) (hno : N 0 0 41 < l → ¬ (48 ≤ s (N 0 0 41) ∧ s (N 0 0 41) ≤ 57) ∨ 3 ≤ N 0 0 41 - b) : wp (gX12_law_154 fu N l l2 b) (GW fu s l r (N 0 0 41) M) := by
  unfold gX12_law_154
  have b72 : 0 ≤ N 0 0 72 ∧ N 0 0 72 ≤ 10 := iN 0 0 72
  refine wp_T ⟨by omega, by omega⟩ ?_
  refine wp_si iN h2 (fun N3 u3 i3 => ?_)
  have e41 : N3 0 0 41 = N 0 0 41 := by rw [u3]; exact jm_une_f (by decide)
  have a5 := hA.1.2.2.1
  have a6 := hA.1.1
  have no : (l ≤ N 0 0 41 → N 0 0 41 ≤ b) → TNO fu s l r (N 0 0 41) M (N3 0 0 41) := fun q => by
    refine ⟨0, M, by omega, rfl, iM, Kp.rf, ?_⟩
    rw [e41]
    by_cases hlt : N 0 0 41 < l
    · exact Or.inr ⟨hlt, y_dign4 iM (hs _) hA (hno hlt)⟩
    · exact Or.inl ⟨by omega, by omega, by omega, fun w => by have := q (by omega); omega⟩
  refine wp_ite (fun c => wp_ret (Or.inr ⟨rfl, no (fun _ => by omega)⟩)) (fun c => ?_)
  refine wp_ite (fun c2 => wp_ret (Or.inl ⟨rfl, c2, 0, M, by omega, rfl, iM, Kp.rf, Or.inr ⟨a6, by omega⟩⟩)) (fun c2 => wp_ret (Or.inr ⟨rfl, no (fun q => by omega)⟩))
theorem g_law_103 (fu : Nat) (hfu : 4000 ≤ fu) (s : Int → Int) (hs : ∀ j : Int, jm_in (s j)) (l u r : Int) (hl : l ≤ 60) (hr : 0 ≤ r ∧ r ≤ 16) (b cmp : Int) (C : List Int) : ∀ (n : Nat) (N M : jm_M) (l2 : Int), jm_in l2 → bI bx2 N → N 0 0 41 ≤ l → (b ≤ N 0 0 41 ∧ N 0 0 41 ≤ b + 3) → ((∀ j : Int, 0 ≤ j → j < 100 → N 34 0 j = s j) ∧ N 0 0 43 = u + 2) → bI bx1 M → AB r M 4 cmp (N 0 0 41 - b) [] [] C → l - N 0 0 41 < (n : Int) → wp (fX12_law_103 fu n N l l2 b) (GW fu s l r (N 0 0 41) M) := by
  intro n
  induction n with
  | zero => intro N M l2 _ _ h1 _ _ _ _ hm; exfalso; omega
  | succ n ih =>
    intro N M l2 h2 iN h1 hb hT iM hA hm
    show wp (gX12_law_103 fu (fX12_law_103 fu n) N l l2 b) _
    unfold gX12_law_103
    have b41 : 0 ≤ N 0 0 41 ∧ N 0 0 41 ≤ 60 := iN 0 0 41
    have eT : N 34 0 (N 0 0 41) = s (N 0 0 41) := hT.1 _ (by omega) (by omega)
    have hdg := is_dg (s (N 0 0 41))
    rw [jm_wid (x := b + 3) (by omega) (by omega)]
    refine wp_ite (fun c => g_law_154 fu hfu s hs l u r hl hr b N M l2 cmp C h2 iN h1 hb iM hA (fun _ => Or.inr (by omega))) (fun c => ?_)
    refine wp_bp (x_isOf2 iN l 5 hl) (fun v3 h3 => ?_)
    rw [eT] at h3
    refine wp_ite (fun c2 => g_law_154 fu hfu s hs l u r hl hr b N M l2 cmp C h2 iN h1 hb iM hA (fun hlt => Or.inl (fun w => ?_))) (fun c2 => ?_)
    · rcases h3 with z | z
      · omega
      · exact z.2 ⟨hlt, hdg.mpr w⟩
    obtain ⟨hlt, hcv⟩ : N 0 0 41 < l ∧ (48 ≤ s (N 0 0 41) ∧ s (N 0 0 41) ≤ 57) := by
      rcases h3 with z | z
      · exact ⟨z.2.1, hdg.mp z.2.2⟩
      · exact absurd z.1 c2
    refine wp_T ⟨by omega, by omega⟩ ?_
    refine wp_e (jm_w_in _) (fun v10 e10 b10 => ?_)
    obtain ⟨pa, ha, ea⟩ := PE_at iN hl hlt
    refine wp_si iN (by have := pa.1 0 0 41; rw [ea] at this; rw [jm_wid (by omega) (by omega)]; exact this) (fun N13 u13 i13 => ?_)
    rw [← u13] at pa ha ea
    obtain ⟨M2, run2, i2, k2, hA2⟩ := YL.run (y_dig4 (fu := fu) hr iM (hs (N 0 0 41)) hA hcv (by omega))
    rw [show N 0 0 41 - b + 1 = N13 0 0 41 - b by omega] at hA2
    refine wp_mono (ih N13 M2 v10 b10 i13 (by omega) (by omega) (pa.tape hT) i2 hA2 (by omega)) (fun v N1 q => q.pre (n := 1) (by omega) run2 k2)
theorem g_law (fu : Nat) (hfu : 4000 ≤ fu) (s : Int → Int) (hs : ∀ j : Int, jm_in (s j)) (l u r : Int) (hl : l ≤ 60) (hr : 0 ≤ r ∧ r ≤ 16) (hu2 : u = 0 ∨ u = 1) (N M : jm_M) (C : List Int) (iN : bI bx2 N) (h1 : N 0 0 41 ≤ l) (h0 : nn N ≤ N 0 0 41 + 39) (hT : ((∀ j : Int, 0 ≤ j → j < 100 → N 34 0 j = s j) ∧ N 0 0 43 = u + 2)) (iM : bI bx1 M) (hu : ltx M = u) (h7 : M 6 0 7 = 0) (hA : AB r M 0 0 0 [] [] C) (hC : (C.length : Int) ≤ N 0 0 41) : wp (fX12_law fu N l) (GW fu s l r (N 0 0 41) M) := by
  unfold fX12_law
  have b41 : 0 ≤ N 0 0 41 ∧ N 0 0 41 ≤ 60 := iN 0 0 41
  have pre : PRE s l u r 0 N M 0 0 0 [] [] C := ⟨⟨iN, h1, by omega⟩, hT, ⟨iM, hu, hA⟩, ⟨Or.inl rfl, Or.inl rfl, fun _ => rfl⟩, fun _ x V e => (by cases e), fun _ _ => Or.inl h7, (by simp only [List.length_nil]; omega), (by simp only [List.length_nil]; omega), fun q => absurd q (by decide)⟩
  refine wp_b (show wp (fX12_some fu N l) _ from sim_fR fu hfu s hs l u r hl hr hu2 500 0 N M 0 0 0 [] [] C (by decide) (by omega) pre) (fun v5 N6 h6 => ?_)
  obtain ⟨hPO, h6⟩ := h6
  have hT6 := hPO.2.1.tape hT
  have i6 : bI bx2 N6 := hPO.2.1.1
  have b6 : 0 ≤ N6 0 0 41 ∧ N6 0 0 41 ≤ 60 := i6 0 0 41
  have l6 := hPO.2.1.2.2.2.1
  have eT6 : N6 34 0 (N6 0 0 41) = s (N6 0 0 41) := hT6.1 _ (by omega) (by omega)
  refine wp_ite (fun c2 => ?_) (fun c2 => ?_)
  · refine wp_ret (Or.inr ⟨rfl, ?_⟩)
    rcases h6 with z | z
    · omega
    · exact z.2.tno l6
  rcases h6 with z | z
  case inr => omega
  obtain ⟨-, n, M1, cmp1, dg1, P, Er, e41, hrun, i1, k1, hA1, hPl, -, hc01, hnx, hlen, -⟩ := z
  rw [List.append_nil] at hA1
  obtain ⟨-, l7⟩ := ltx_kp k1
  obtain ⟨vk0, -⟩ := lvk_val
  refine wp_bp (x_isSign2 i6 l 58 hl) (fun v9 hv9 => ?_)
  rw [eT6] at hv9
  refine wp_ite (fun c3 => ?_) (fun c3 => ?_)
  · refine wp_ret (Or.inr ⟨rfl, n, M1, e41, hrun, i1, k1.toI, ?_⟩)
    by_cases hlt : N6 0 0 41 < l
    · have hn58 : s (N6 0 0 41) ≠ 58 := fun w => by omega
      have hz := lv_any (s (N6 0 0 41))
      have hx := hnx hlt
      exact Or.inr ⟨hlt, y_be_no hfu hr i1 (hs _) hA1 (by simp) hx.1 (fun w => absurd w hn58) (fun _ => rfl) (fun _ _ => by omega)⟩
    · have e2 := hA1.1.1
      exact Or.inl ⟨by omega, by omega, by omega, fun w => by omega⟩
  have hlt : N6 0 0 41 < l ∧ s (N6 0 0 41) = 58 := by omega
  obtain ⟨M2, run2, i2, k2, hA2⟩ := YL.run (y_colon2 hfu hr i1 (hs (N6 0 0 41)) hA1 hlt.2 (fun x hx => by have := hPl x hx; omega) (by simp only [List.length_append]; omega))
  rw [if_pos (by omega)] at hA2
  have hrun2 := hrun.app (show RunN fu s 1 (N 0 0 41 + (n : Int)) M1 M2 by rw [← e41]; exact run2)
  have k12 := k1.toI.trI k2
  obtain ⟨pa, ha, ea⟩ := PE_at i6 hl hlt.1
  refine wp_si i6 (by have := pa.1 0 0 41; rw [ea] at this; rw [jm_wid (by omega) (by omega)]; exact this) (fun N10 u10 i10 => ?_)
  rw [← u10] at pa ha ea
  have b10 : 0 ≤ N10 0 0 41 ∧ N10 0 0 41 ≤ 60 := i10 0 0 41
  have hT10 := pa.tape hT6
  have eT10 : N10 34 0 (N10 0 0 41) = s (N10 0 0 41) := hT10.1 _ (by omega) (by omega)
  have e10 : N10 0 0 41 = N 0 0 41 + ((n + 1 : Nat) : Int) := by omega
  refine wp_mono (Q := GW fu s l r (N10 0 0 41) M2) ?_ (fun v N1 q => q.pre e10 hrun2 k12)
  refine wp_bp (x_isSign2 i10 l 88 hl) (fun v11 h11 => ?_)
  rw [eT10] at h11
  refine wp_ite (fun c4 => ?_) (fun c4 => ?_)
  · refine wp_bp (x_isSign2 i10 l 43 hl) (fun v15 h15 => ?_)
    rw [eT10] at h15
    refine wp_ite (fun c5 => ?_) (fun c5 => ?_)
    · refine wp_ret (Or.inr ⟨rfl, 0, M2, by omega, rfl, i2, Kp.rf, ?_⟩)
      by_cases hlt2 : N10 0 0 41 < l
      · exact Or.inr ⟨hlt2, y_verdn i2 hA2 ⟨fun w => by omega, fun w => by omega⟩⟩
      · have e2 := hA2.1.1
        exact Or.inl ⟨by omega, by omega, by omega, fun w => by omega⟩
    · have hlt2 : N10 0 0 41 < l ∧ s (N10 0 0 41) = 43 := by omega
      obtain ⟨M3, run3, i3, k3, hA3⟩ := YL.run (y_plus (fu := fu) (s := s (N10 0 0 41)) i2 hA2 hlt2.2)
      obtain ⟨pb, hb, eb⟩ := PE_at i10 hl hlt2.1
      refine wp_si i10 (by have := pb.1 0 0 41; rw [eb] at this; rw [jm_wid (by omega) (by omega)]; exact this) (fun N20 u20 i20 => ?_)
      rw [← u20] at pb hb eb
      refine wp_e (bx2_in (i20 0 0 41)) (fun v22 e22 _ => ?_)
      rw [e22]
      have b20 : 0 ≤ N20 0 0 41 ∧ N20 0 0 41 ≤ 60 := i20 0 0 41
      refine wp_mono (g_law_103 fu hfu s hs l u r hl hr (N20 0 0 41) _ _ fu N20 M3 0 (jm_inL (by decide) (by decide)) i20 (by omega) (by omega) (pb.tape hT10) i3 (by rw [Int.sub_self]; exact hA3) (by omega)) (fun v N1 q => q.pre (n := 1) (by omega) run3 k3)
  · have hlt2 : N10 0 0 41 < l ∧ s (N10 0 0 41) = 88 := by omega
    obtain ⟨M3, run3, i3, k3, hA3⟩ := YL.run (y_X (fu := fu) (s := s (N10 0 0 41)) hr i2 hA2 hlt2.2)
    obtain ⟨pb, hb, eb⟩ := PE_at i10 hl hlt2.1
    refine wp_si i10 (by have := pb.1 0 0 41; rw [eb] at this; rw [jm_wid (by omega) (by omega)]; exact this) (fun N25 u25 i25 => ?_)
    rw [← u25] at pb hb eb
    have b72 : 0 ≤ N25 0 0 72 ∧ N25 0 0 72 ≤ 10 := i25 0 0 72
    refine wp_T ⟨by omega, by omega⟩ ?_
    refine wp_si i25 (jm_inL (by decide) (by decide)) (fun N28 u28 i28 => ?_)
    have e28 : N28 0 0 41 = N25 0 0 41 := by rw [u28]; exact jm_une_f (by decide)
    have e36 := hA3.1.1
    refine wp_ite (fun c6 => wp_ret (Or.inl ⟨rfl, c6, 1, M3, by omega, run3, i3, k3, Or.inl e36⟩)) (fun c6 => wp_ret (Or.inr ⟨rfl, 1, M3, by omega, run3, i3, k3, Or.inr ⟨?_, ?_⟩⟩))
    · have := pb.2.2.2.1
      omega
    · exact y_takes5 fu e36
