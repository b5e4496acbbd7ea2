/-! a plan's lines, a rule's law: what both hold of a text that can stand -/
theorem h_lines_6 (fu : Nat) (hfu : 4000 ≤ fu) (s : Int → Int) (hs : ∀ j : Int, jm_in (s j)) (l u r a w : Int) (hl : l ≤ 60) (hr : 0 ≤ r ∧ r ≤ 16) (hu2 : u = 0 ∨ u = 1) (ha : a ≤ 100 * w) (x : Int) (M0 : jm_M) (hu : ltx M0 = u) (h7 : M0 6 0 7 ≠ 0) : ∀ (n : Nat) (N : jm_M) (l2 : Int), (l2 = 0 ∨ l2 = 1) → bI bx2 N → N 0 0 41 ≤ l → N 0 0 42 = w → ((∀ j : Int, 0 ≤ j → j < 100 → N 34 0 j = s j) ∧ N 0 0 43 = u + 2) → (l2 = 1 → 3 * nn N ≤ 4 * N 0 0 41 + 4 ∧ TOK2 fu s r 7 x M0 (N 0 0 41) (fun _ M1 => TXI u r a M1 N ∧ 3 * M1 11 r 6 ≤ N 0 0 41 + 1)) → (l - N 0 0 41 + l2 ≤ (n : Int) ∧ 1 ≤ n) → wp (fX12_lines_6 fu n N l l2) (fun v N1 => v = 1 → N1 0 0 41 = l ∧ N1 0 0 42 = w ∧ TOK2 fu s r 7 x M0 l (fun _ M1 => TXI u r a M1 N1)) := by
  intro n
  induction n with
  | zero =>
    intro N l2 _ _ _ _ _ _ hm
    exfalso; omega
  | succ n ih =>
    intro N l2 hb iN h1 hw42 hT hok hm
    show wp (gX12_lines_6 fu (fX12_lines_6 fu n) N l l2) _
    unfold gX12_lines_6
    have b41 : 0 ≤ N 0 0 41 ∧ N 0 0 41 ≤ 60 := iN 0 0 41
    have bn : 0 ≤ nn N ∧ nn N ≤ 100 := nn_box iN
    have eT : N 34 0 (N 0 0 41) = s (N 0 0 41) := hT.1 _ (by omega) (by omega)
    refine wp_ite (fun c => ?_) (fun c => ?_)
    · unfold gX12_lines_39
      exact wp_T c (wp_ret (fun hv => absurd hv (by decide)))
    obtain ⟨hw, hK⟩ := hok (by omega)
    refine wp_bp (x_isSign2 iN l 59 hl) (fun v2 h2 => ?_)
    rw [eT] at h2
    obtain ⟨m, M1, cmp, dg, C, ⟨e41, hrun⟩, ⟨i1, k1, hA1, hC⟩, tx, h3⟩ := hK
    obtain ⟨lu1, l71⟩ := ltx_kpI k1
    refine wp_ite (fun c2 => ?_) (fun c2 => ?_)
    · unfold gX12_lines_39
      refine wp_F c ?_
      refine wp_ite (fun c3 => ?_) (fun c3 => wp_ret (fun hv => absurd hv (by decide)))
      exact wp_ret (fun hv => ⟨c3, hw42, m, M1, cmp, dg, C, ⟨by omega, hrun⟩, ⟨i1, k1, hA1, by omega⟩, tx⟩)
    · have hlt : N 0 0 41 < l ∧ s (N 0 0 41) = 59 := by omega
      obtain ⟨pa, ha2, ea⟩ := PE_at iN hl hlt.1
      refine wp_si iN (by have := pa.1 0 0 41; rw [ea] at this; rw [jm_wid (by omega) (by omega)]; exact this) (fun N7 u7 i7 => ?_)
      rw [← u7] at pa ha2 ea
      have n7 : nn N7 = nn N := by
        unfold nn
        rw [u7, jm_une_f (by decide), jm_une_k (by decide)]
      have w7 : N7 0 0 42 = N 0 0 42 := pa.w42
      obtain ⟨M2, run2, ⟨i2, k2, hA2⟩, nt2⟩ := RunN.of (y_semi (fu := fu) (s := s (N 0 0 41)) i1 hA1 hlt.2) (y_semiX (fu := fu) (s := s (N 0 0 41)) hA1 hlt.2)
      have hrun2 := hrun.app (show RunN fu s 1 (x + (m : Int)) M1 M2 by rw [← e41]; exact run2)
      have k12 := k1.trI k2
      obtain ⟨lu2, l72⟩ := ltx_kpI k12
      have tx2 : TXI u r a M2 N7 := tx.mv nt2 hA1.2.2.2 hA2.2.2.2 w7 n7 (fun j => by rw [u7]; exact jm_une_f (by decide))
      refine wp_b (wp_and (s_line fu hfu l hl N7 i7 (by omega) (by omega)) (h_line fu hfu s hs l u r a hl hr hu2 N7 M2 C i7 (by omega) (by omega) (pa.tape hT) i2 (by omega) (by omega) hA2 (by omega) tx2 (by omega) (by rw [nt2.1]; omega))) (fun v8 N9 h9 => ?_)
      obtain ⟨⟨r9, p9, w9⟩, g9⟩ := h9
      have a9 := p9.2.2.1
      have e7 : N7 0 0 41 = x + ((m + 1 : Nat) : Int) := by omega
      refine ih N9 v8 r9 p9.1 p9.2.2.2.1 ((p9.w42.trans w7).trans hw42) (p9.tape (pa.tape hT)) (fun q => ?_) (by omega)
      exact ⟨(w9 q).1, (g9 q (nn_box p9.1).2).pre (n := m + 1) e7 hrun2 k12 (fun _ _ zx => ⟨zx.1, zx.2.2⟩)⟩
theorem h_lines (fu : Nat) (hfu : 4000 ≤ fu) (s : Int → Int) (hs : ∀ j : Int, jm_in (s j)) (l u r a : Int) (hl : l ≤ 60) (hr : 0 ≤ r ∧ r ≤ 16) (hu2 : u = 0 ∨ u = 1) (N M : jm_M) (C : List Int) (iN : bI bx2 N) (h1 : N 0 0 41 ≤ l) (h3 : 3 * nn N ≤ 4 * N 0 0 41) (hT : ((∀ j : Int, 0 ≤ j → j < 100 → N 34 0 j = s j) ∧ N 0 0 43 = u + 2)) (iM : bI bx1 M) (hu : ltx M = u) (h7 : M 6 0 7 ≠ 0) (hA : AB r M 0 0 0 [] [] C) (hC : (C.length : Int) ≤ N 0 0 41) (tx : TXI u r a M N) (ha : a ≤ 100 * N 0 0 42) (h3L : 3 * M 11 r 6 ≤ N 0 0 41) : wp (fX12_lines fu N l) (fun v N1 => v = 1 → N1 0 0 41 = l ∧ N1 0 0 42 = N 0 0 42 ∧ TOK2 fu s r 7 (N 0 0 41) M l (fun _ M1 => TXI u r a M1 N1)) := by
  unfold fX12_lines
  refine wp_b (wp_and (s_line fu hfu l hl N iN h1 h3) (h_line fu hfu s hs l u r a hl hr hu2 N M C iN h1 h3 hT iM hu h7 hA hC tx ha h3L)) (fun v1 N2 h => ?_)
  obtain ⟨⟨r2, p2, w2⟩, g2⟩ := h
  have b41 : 0 ≤ N2 0 0 41 ∧ N2 0 0 41 ≤ 60 := p2.1 0 0 41
  refine h_lines_6 fu hfu s hs l u r a (N 0 0 42) hl hr hu2 ha (N 0 0 41) M hu h7 fu N2 v1 r2 p2.1 p2.2.2.2.1 p2.w42 (p2.tape hT) (fun q => ?_) (by omega)
  have z := g2 q (nn_box p2.1).2
  exact ⟨(w2 q).1, z.pre (n := 0) (by omega) rfl Kp.rf (fun _ _ zx => ⟨zx.1, zx.2.2⟩)⟩
theorem y_end7 {r : Int} {M : jm_M} (iM : bI bx1 M) : wp (fX8_endCondition M r) (fun _ M1 => M1 11 r 7 = M 11 r 7) := by
  have b6 : 0 ≤ M 11 r 6 ∧ M 11 r 6 ≤ 21 := iM 11 r 6
  unfold fX8_endCondition
  refine wp_bp (x_isIndex M (M 11 r 6) 21) (fun v q => wp_ite (fun _ => wp_ret rfl) (fun c => ?_))
  refine wp_T ⟨by omega, by omega⟩ (wp_sv (fun M2 e2 => ?_))
  have f2 : M2 11 r 6 = M 11 r 6 := by rw [e2, jm_une_f (by decide)]
  refine wp_T ⟨by omega, by omega⟩ (wp_sv (fun M3 e3 => ?_))
  have f3 : M3 11 r 6 = M 11 r 6 := by rw [e3, jm_une_f (by decide)]; exact f2
  refine wp_T ⟨by omega, by omega⟩ (wp_sv (fun M4 e4 => ?_))
  have f4 : M4 11 r 6 = M 11 r 6 := by rw [e4, jm_une_f (by decide)]; exact f3
  refine wp_T ⟨by omega, by omega⟩ (wp_sv (fun M5 e5 => wp_sv (fun M6 e6 => wp_ret ?_)))
  rw [e6, jm_une_k (by decide), e5, jm_une_f (by decide), e4, jm_une_f (by decide), e3, jm_une_f (by decide), e2, jm_une_f (by decide)]
theorem y_ends7 {fu : Nat} (hfu : 4000 ≤ fu) {r : Int} (hr : 0 ≤ r ∧ r ≤ 16) {M : jm_M} (iM : bI bx1 M) {st cmp dg : Int} {stk P C : List Int} (h : AB r M st cmp dg stk P C) (hP : ∀ x ∈ P, 1 ≤ lv x ∧ 0 ≤ x ∧ x ≤ 255) (hC : C.length + P.length ≤ 60) : wp (fX3_endsCondition fu M) (fun v M1 => v = 1 ∧ M1 11 r 7 = M 11 r 7) := by
  unfold fX3_endsCondition
  refine wp_b (y_release fu hfu hr (l := 1) (P := P) (W := []) iM (by rw [List.append_nil]; exact h) (fun x V e => by cases e) hP hC (by rw [List.append_nil]; omega)) (fun v2 M2 q2 => ?_)
  obtain ⟨-, i2, k2, h2⟩ := q2
  have n2 : M2 11 r 7 = M 11 r 7 := k2 11 r 7 (by unfold TS; omega)
  have h8 : M2 6 0 8 = r := h2.1.2.2.2
  refine wp_T ⟨by omega, by omega⟩ ?_
  rw [h8]
  refine wp_b (y_end7 i2) (fun v3 M3 q3 => ?_)
  exact wp_ite (fun c => wp_sv (fun M4 e4 => wp_ret ⟨rfl, by rw [e4, jm_une_f (by decide), q3, n2]⟩)) (fun c => wp_sv (fun M4 e4 => wp_ret ⟨rfl, by rw [e4, jm_une_f (by decide), q3, n2]⟩))
theorem y_colon27 {fu : Nat} (hfu : 4000 ≤ fu) {r : Int} (hr : 0 ≤ r ∧ r ≤ 16) {M : jm_M} (iM : bI bx1 M) {s cmp dg : Int} {P C : List Int} (hs : jm_in s) (h : AB r M 2 cmp dg [] P C) (he : s = 58) (hP : ∀ x ∈ P, 1 ≤ lv x ∧ 0 ≤ x ∧ x ≤ 255) (hC : C.length + P.length ≤ 60) : wp (fX3_takes fu M s) (fun v M1 => v = 1 ∧ M1 11 r 7 = M 11 r 7) := by
  subst he
  refine y_be hfu hr iM hs h (by omega) (fun v M1 q => Or.inr q.1) (fun _ M1 i1 k1 h1 => ?_) (fun e => absurd e (by decide)) (fun e => absurd rfl e)
  have n1 : M1 11 r 7 = M 11 r 7 := k1 11 r 7 (by unfold TS; omega)
  refine wp_T h1.2.1.1 ?_
  refine wp_b (y_ends7 hfu hr i1 h1 hP hC) (fun v2 M2 q2 => ?_)
  exact wp_F (by rw [q2.1]; decide) (wp_ret ⟨rfl, q2.2.trans n1⟩)
section KCC
variable {fu : Nat} {r : Int} {M : jm_M} {st cmp dg : Int} {C : List Int} {s : Int}
theorem y_XX (hr : 0 ≤ r ∧ r ≤ 16) (h : AB r M 3 cmp dg [] [] C) (hs : s = 88) : wp (fX3_takes fu M s) (fun v M1 => v = 1 ∧ NT r M M1 ∧ M1 11 r 7 = -2) := by
  subst hs
  refine y_takes3 fu h.1.1 ?_ (fun v M1 q => Or.inr q.1)
  unfold fX3_takesVerdict
  have h8 : M 6 0 8 = r := h.1.2.2.2
  refine wp_T rfl (wp_T ⟨by omega, by omega⟩ ?_)
  rw [h8]
  exact wp_sv (fun M3 e3 => wp_sv (fun M4 e4 => wp_ret ⟨rfl, ⟨by rw [e4, jm_une_f (by decide), e3, jm_une_k (by decide)], fun f k y1 y2 => by rw [e4, jm_une_f (by omega), e3, jm_une_f (by omega)]⟩, by rw [e4, jm_une_f (by decide), e3]; exact jm_ueq⟩))
theorem y_plusX (h : AB r M 3 cmp dg [] [] C) (hs : s = 43) : wp (fX3_takes fu M s) (fun v M1 => v = 1 ∧ NT r M M1 ∧ M1 11 r 7 = M 11 r 7) := by
  subst hs
  refine y_takes3 fu h.1.1 ?_ (fun v M1 q => Or.inr q.1)
  unfold fX3_takesVerdict
  refine wp_F (by decide) ?_
  exact wp_sv (fun M3 e3 => wp_sv (fun M4 e4 => wp_T rfl (wp_ret ⟨rfl, ⟨by rw [e4, jm_une_f (by decide), e3, jm_une_f (by decide)], fun f k y1 y2 => by rw [e4, jm_une_f (by omega), e3, jm_une_f (by omega)]⟩, by rw [e4, jm_une_f (by decide), e3, jm_une_f (by decide)]⟩)))
theorem y_dig4X (hr : 0 ≤ r ∧ r ≤ 16) (iM : bI bx1 M) (hs : jm_in s) (h : AB r M 4 cmp dg [] [] C) (hd : 48 ≤ s ∧ s ≤ 57) (hg : 0 ≤ dg ∧ dg ≤ 2) : wp (fX3_takes fu M s) (fun v M1 => v = 1 ∧ NT r M M1 ∧ M1 11 r 7 = jm_w (jm_w (jm_w (M 11 r 7 * 10) + s) - 48)) := by
  refine y_takes4 fu h.1.1 ?_ (fun v M1 q => Or.inr q.1)
  unfold fX3_takesSeconds
  refine wp_bp (s_fX3_isDigit M iM s hs) (fun v q => ?_)
  have h8 : M 6 0 8 = r := h.1.2.2.2
  have h5 : M 6 0 5 = dg := h.1.2.2.1
  refine wp_F (by omega) (wp_T (by omega) (wp_T ⟨by omega, by omega⟩ (wp_T ⟨by omega, by omega⟩ ?_)))
  rw [h8]
  exact wp_sv (fun M3 e3 => wp_sv (fun M4 e4 => wp_ret ⟨rfl, ⟨by rw [e4, jm_une_f (by decide), e3, jm_une_k (by decide)], fun f k y1 y2 => by rw [e4, jm_une_f (by omega), e3, jm_une_f (by omega)]⟩, by rw [e4, jm_une_f (by decide), e3]; exact jm_ueq⟩))
end KCC
def TOL2 (fu : Nat) (s : Int → Int) (r x : Int) (M : jm_M) (y : Int) (Z : jm_M → Prop) : Prop := ∃ (n : Nat) (M1 : jm_M), (y = x + (n : Int) ∧ RunN fu s n x M M1) ∧ (bI bx1 M1 ∧ Kp (TI r) M M1 ∧ (M1 6 0 6 = 5 ∨ (M1 6 0 6 = 4 ∧ 1 ≤ M1 6 0 5))) ∧ Z M1
theorem TOL2.pre {fu : Nat} {s : Int → Int} {r x y z : Int} {M M1 : jm_M} {n : Nat} {Z Z2 : jm_M → Prop} (h : TOL2 fu s r y M1 z Z) (e : y = x + (n : Int)) (g : RunN fu s n x M M1) (k : Kp (TI r) M M1) (hz : ∀ (x : jm_M), bI bx1 x → Z x → Z2 x) : TOL2 fu s r x M z Z2 := by
  obtain ⟨m, M2, ⟨q1, q2⟩, ⟨q3, q4, q5⟩, q6⟩ := h
  exact ⟨n + m, M2, ⟨by omega, g.app (by rw [← e]; exact q2)⟩, ⟨q3, k.trI q4, q5⟩, hz _ q3 q6⟩
/-- a rule's text, behind its law -/
def RZ (r sec : Int) (C : List Int) (M1 : jm_M) : Prop := (M1 11 r 1 = (C.length : Int) ∧ PLS (M1 20 r) C) ∧ (M1 11 r 6 = 1 ∧ M1 21 r 0 = (C.length : Int)) ∧ ((M1 11 r 7 = -2 ∧ sec = -1) ∨ (M1 11 r 7 = sec ∧ 0 ≤ sec ∧ sec ≤ 999))
def KQ (f : Nat) (_ k : Int) : Prop := f = 35 ∨ f = 36 ∨ (f = 0 ∧ (k = 42 ∨ k = 72))
def LZ (fu : Nat) (s : Int → Int) (l r q x : Int) (M N : jm_M) (C : List Int) (v : Int) (N1 : jm_M) : Prop := v = 1 → (N1 0 0 41 = l ∧ Kp KQ N N1) ∧ TOL2 fu s r x M l (RZ r (N1 62 0 q) C)
theorem LZ.pre {fu : Nat} {s : Int → Int} {l r q x y : Int} {M M1 N N2 N1 : jm_M} {C : List Int} {v : Int} {n : Nat} (h : LZ fu s l r q y M1 N2 C v N1) (e : y = x + (n : Int)) (g : RunN fu s n x M M1) (k : Kp (TI r) M M1) (kn : Kp KQ N N2) : LZ fu s l r q x M N C v N1 := fun hv => ⟨⟨(h hv).1.1, kn.tr (h hv).1.2 (fun _ _ _ z => z)⟩, (h hv).2.pre e g k (fun _ _ z => z)⟩
theorem KQ.u41 {N : jm_M} {v : Int} : Kp KQ N (jm_u N 0 0 41 v) := fun f i k y => jm_une (by unfold KQ at y; omega)
theorem h_law_103 (fu : Nat) (hfu : 4000 ≤ fu) (s : Int → Int) (hs : ∀ j : Int, jm_in (s j)) (l u r : Int) (hl : l ≤ 60) (hr : 0 ≤ r ∧ r ≤ 16) (b cmp q : Int) (C : List Int) : ∀ (n : Nat) (N M : jm_M) (l2 : Int), bI bx2 N → N 0 0 72 = q → N 0 0 41 ≤ l → (b ≤ N 0 0 41 ∧ N 0 0 41 ≤ b + 3) → ((∀ j : Int, 0 ≤ j → j < 100 → N 34 0 j = s j) ∧ N 0 0 43 = u + 2) → bI bx1 M → AB r M 4 cmp (N 0 0 41 - b) [] [] C → (M 11 r 6 = 1 ∧ M 21 r 0 = (C.length : Int) ∧ M 11 r 7 = l2) → ((N 0 0 41 - b ≤ 0 → l2 ≤ 0) ∧ (N 0 0 41 - b ≤ 1 → l2 ≤ 9) ∧ (N 0 0 41 - b ≤ 2 → l2 ≤ 99) ∧ 0 ≤ l2 ∧ l2 ≤ 999) → l - N 0 0 41 < (n : Int) → wp (fX12_law_103 fu n N l l2 b) (LZ fu s l r q (N 0 0 41) M N C) := by
  intro n
  induction n with
  | zero => intro N M l2 _ _ h1 _ _ _ _ _ _ hm; exfalso; omega
  | succ n ih =>
    intro N M l2 iN hq h1 hb hT iM hA hz hl2 hm
    show wp (gX12_law_103 fu (fX12_law_103 fu n) N l l2 b) _
    unfold gX12_law_103
    have b41 : 0 ≤ N 0 0 41 ∧ N 0 0 41 ≤ 60 := iN 0 0 41
    have b72 : 0 ≤ N 0 0 72 ∧ N 0 0 72 ≤ 10 := iN 0 0 72
    have eT : N 34 0 (N 0 0 41) = s (N 0 0 41) := hT.1 _ (by omega) (by omega)
    have hdg := is_dg (s (N 0 0 41))
    have a5 : M 6 0 5 = N 0 0 41 - b := hA.1.2.2.1
    have z154 : wp (gX12_law_154 fu N l l2 b) (LZ fu s l r q (N 0 0 41) M N C) := by
      unfold gX12_law_154
      refine wp_T ⟨by omega, by omega⟩ ?_
      refine wp_si iN (jm_inL (by omega) (by omega)) (fun N3 u3 i3 => ?_)
      have e41 : N3 0 0 41 = N 0 0 41 := by rw [u3]; exact jm_une_f (by decide)
      have e62 : N3 62 0 q = l2 := by rw [u3, hq]; exact jm_ueq
      refine wp_ite (fun c => wp_ret (fun hv => absurd hv (by decide))) (fun c => wp_ite (fun c2 => wp_ret (fun hv => ?_)) (fun c2 => wp_ret (fun hv => absurd hv (by decide))))
      refine ⟨⟨c2, fun f i k y => by rw [u3]; exact jm_une_f (by unfold KQ at y; omega)⟩, 0, M, ⟨by omega, rfl⟩, ⟨iM, Kp.rf, Or.inr ⟨hA.1.1, by omega⟩⟩, hA.2.2.2, ⟨hz.1, hz.2.1⟩, Or.inr ?_⟩
      rw [e62]
      exact ⟨hz.2.2, hl2.2.2.2⟩
    rw [jm_wid (x := b + 3) (by omega) (by omega)]
    refine wp_ite (fun c => z154) (fun c => ?_)
    refine wp_bp (x_isOf2 iN l 5 hl) (fun v3 h3 => ?_)
    rw [eT] at h3
    refine wp_ite (fun c2 => z154) (fun c2 => ?_)
    obtain ⟨hlt, hcv⟩ : N 0 0 41 < l ∧ (48 ≤ s (N 0 0 41) ∧ s (N 0 0 41) ≤ 57) := by
      rcases h3 with z | z
      · exact ⟨z.2.1, hdg.mp z.2.2⟩
      · exact absurd z.1 c2
    refine wp_T ⟨by omega, by omega⟩ ?_
    refine wp_e (jm_w_in _) (fun v10 e10 b10 => ?_)
    rw [eT] at e10
    have e10 : v10 = 10 * l2 + s (N 0 0 41) - 48 := by
      rw [e10, jm_wid (x := 10 * l2) (by omega) (by omega), jm_wid (x := 10 * l2 + s (N 0 0 41)) (by omega) (by omega)]
      exact jm_wid (by omega) (by omega)
    obtain ⟨pa, ha, ea⟩ := PE_at iN hl hlt
    refine wp_si iN (by have := pa.1 0 0 41; rw [ea] at this; rw [jm_wid (by omega) (by omega)]; exact this) (fun N13 u13 i13 => ?_)
    rw [← u13] at pa ha ea
    obtain ⟨M2, run2, ⟨i2, k2, hA2⟩, nt2, s2⟩ := RunN.of (y_dig4 (fu := fu) hr iM (hs (N 0 0 41)) hA hcv (by omega)) (y_dig4X (fu := fu) hr iM (hs (N 0 0 41)) hA hcv (by omega))
    have s3 : M2 11 r 7 = v10 := by
      rw [s2, hz.2.2, e10, Int.mul_comm l2 10, jm_wid (x := 10 * l2) (by omega) (by omega), jm_wid (x := 10 * l2 + s (N 0 0 41)) (by omega) (by omega)]
      exact jm_wid (by omega) (by omega)
    rw [show N 0 0 41 - b + 1 = N13 0 0 41 - b by omega] at hA2
    refine wp_mono (ih N13 M2 v10 i13 (by rw [u13, jm_une_k (by decide)]; exact hq) (by omega) (by omega) (pa.tape hT) i2 hA2 ⟨nt2.1.trans hz.1, (nt2.2 21 0 (by decide) (by decide)).trans hz.2.1, s3⟩ (by omega) (by omega)) (fun v N1 z => z.pre (n := 1) (by omega) run2 k2 (by rw [u13]; exact KQ.u41))
/-- a rule's text as both hold it: len marks from a on, its seconds -/
def RT (u : Int) (M N : jm_M) (t a len sec : Int) : Prop := (M 11 t 6 = 1 ∧ M 21 t 0 = len ∧ 0 < len ∧ len ≤ 60) ∧ hg (N 35 0) len.toNat a 0 = some 1 ∧ (∀ j : Int, 0 ≤ j → j < len → CS u (M 20 t j) (N 35 0 (a + j))) ∧ ((M 11 t 7 = -2 ∧ sec = -1) ∨ (M 11 t 7 = sec ∧ 0 ≤ sec ∧ sec ≤ 999))
theorem h_law (fu : Nat) (hfu : 4000 ≤ fu) (s : Int → Int) (hs : ∀ j : Int, jm_in (s j)) (l u r : Int) (hl : l ≤ 60) (hr : 0 ≤ r ∧ r ≤ 16) (hu2 : u = 0 ∨ u = 1) (N M : jm_M) (C : List Int) (hC0 : C = []) (iN : bI bx2 N) (h1 : N 0 0 41 ≤ l) (h0 : nn N = 0) (hT : ((∀ j : Int, 0 ≤ j → j < 100 → N 34 0 j = s j) ∧ N 0 0 43 = u + 2)) (iM : bI bx1 M) (hu : ltx M = u) (h7 : M 6 0 7 = 0) (hA : AB r M 0 0 0 [] [] C) (hL : M 11 r 6 = 0) (hS : M 11 r 7 = 0) : wp (fX12_law fu N l) (fun v N1 => v = 1 → N1 0 0 41 = l ∧ TOL2 fu s r (N 0 0 41) M l (fun M1 => RT u M1 N1 r (100 * N 0 0 42) (N1 36 0 (N 0 0 42)) (N1 62 0 (N 0 0 72)))) := by
  unfold fX12_law
  have hC : C.length = 0 := by rw [hC0]; rfl
  have b41 : 0 ≤ N 0 0 41 ∧ N 0 0 41 ≤ 60 := iN 0 0 41
  have b42 : 0 ≤ N 0 0 42 ∧ N 0 0 42 ≤ 16 := iN 0 0 42
  have pre : PRE s l u r 0 N M 0 0 0 [] [] C := ⟨⟨iN, h1, by omega⟩, hT, ⟨iM, hu, hA⟩, ⟨Or.inl rfl, Or.inl rfl, fun _ => rfl⟩, fun _ x V e => (by cases e), fun _ _ => Or.inl h7, (by simp only [List.length_nil]; omega), (by simp only [List.length_nil]; omega), fun q => absurd q (by decide)⟩
  refine wp_b (show wp (fX12_some fu N l) _ from sim_fR fu hfu s hs l u r hl hr hu2 500 0 N M 0 0 0 [] [] C (by decide) (by omega) pre) (fun v5 N6 h6 => ?_)
  obtain ⟨hPO, h6⟩ := h6
  have hT6 := hPO.2.1.tape hT
  have i6 : bI bx2 N6 := hPO.2.1.1
  have b6 : 0 ≤ N6 0 0 41 ∧ N6 0 0 41 ≤ 60 := i6 0 0 41
  have w6 := hPO.2.1.w42
  have q6 : N6 0 0 72 = N 0 0 72 := hPO.2.1.2.1 0 0 72 (by unfold TPA; omega)
  have eT6 : N6 34 0 (N6 0 0 41) = s (N6 0 0 41) := hT6.1 _ (by omega) (by omega)
  refine wp_ite (fun c2 => wp_ret (fun hv => absurd hv (by decide))) (fun c2 => ?_)
  rcases h6 with z | z
  case inr => omega
  have hph := hPO.2.2 (by have := z.1; omega)
  obtain ⟨-, n, M1, cmp1, dg1, P, Er, e41, hrun, i1, k1, hA1, hPl, -, hc01, hnx, hlen, hmk⟩ := z
  rw [List.append_nil] at hA1
  obtain ⟨-, l7⟩ := ltx_kp k1
  obtain ⟨vk0, -⟩ := lvk_val
  have nt1 := NT.ts k1
  have s1 : M1 11 r 7 = M 11 r 7 := k1 11 r 7 (by unfold TS; omega)
  refine wp_bp (x_isSign2 i6 l 58 hl) (fun v9 hv9 => ?_)
  rw [eT6] at hv9
  refine wp_ite (fun c3 => wp_ret (fun hv => absurd hv (by decide))) (fun c3 => ?_)
  have hlt : N6 0 0 41 < l ∧ s (N6 0 0 41) = 58 := by omega
  have hP1 : ∀ x ∈ P, 1 ≤ lv x ∧ 0 ≤ x ∧ x ≤ 255 := fun x hx => by have := hPl x hx; omega
  have hCP : (Er ++ C).length + P.length ≤ 60 := by simp only [List.length_append]; omega
  obtain ⟨M2, run2, ⟨i2, k2, hA2⟩, ec2, s2⟩ := RunN.of (y_colon2 hfu hr i1 (hs (N6 0 0 41)) hA1 hlt.2 hP1 hCP) (wp_mono (wp_and (y_colon2X hfu hr i1 (hs (N6 0 0 41)) hA1 hlt.2 hP1 hCP (by rw [nt1.1]; omega)) (y_colon27 hfu hr i1 (hs (N6 0 0 41)) hA1 hlt.2 hP1 hCP)) (fun v M1' q => (⟨q.1.1, q.1.2, q.2.2⟩ : v = 1 ∧ EC r M1 M1' ∧ M1' 11 r 7 = M1 11 r 7)))
  rw [if_pos (by omega)] at hA2
  have ec := nt1.ec ec2
  have hrun2 := hrun.app (show RunN fu s 1 (N 0 0 41 + (n : Int)) M1 M2 by rw [← e41]; exact run2)
  have k12 := k1.toI.trI k2
  obtain ⟨pa, ha, ea⟩ := PE_at i6 hl hlt.1
  refine wp_si i6 (by have := pa.1 0 0 41; rw [ea] at this; rw [jm_wid (by omega) (by omega)]; exact this) (fun N10 u10 i10 => ?_)
  rw [← u10] at pa ha ea
  have b10 : 0 ≤ N10 0 0 41 ∧ N10 0 0 41 ≤ 60 := i10 0 0 41
  have hT10 := pa.tape hT6
  have eT10 : N10 34 0 (N10 0 0 41) = s (N10 0 0 41) := hT10.1 _ (by omega) (by omega)
  have e10 : N10 0 0 41 = N 0 0 41 + ((n + 1 : Nat) : Int) := by omega
  have q10 : N10 0 0 72 = N 0 0 72 := by rw [u10, jm_une_k (by decide)]; exact q6
  obtain ⟨D, hD⟩ : ∃ D : List Int, D = (P.map (fun x => 2000 + x)).reverse ++ (Er ++ C) := ⟨_, rfl⟩
  rw [← hD] at hA2
  have L2 : M2 11 r 6 = 1 := by have := ec.1; omega
  have E2 : M2 21 r 0 = (D.length : Int) := by
    have := ec.2.1
    rw [hL] at this
    exact this.trans hA2.2.2.2.1
  have S2 : M2 11 r 7 = 0 := s2.trans (s1.trans hS)
  refine wp_mono (Q := LZ fu s l r (N 0 0 72) (N10 0 0 41) M2 N10 D) ?_ (fun v N1 q hv => ?_)
  · refine wp_bp (x_isSign2 i10 l 88 hl) (fun v11 h11 => ?_)
    rw [eT10] at h11
    refine wp_ite (fun c4 => ?_) (fun c4 => ?_)
    · refine wp_bp (x_isSign2 i10 l 43 hl) (fun v15 h15 => ?_)
      rw [eT10] at h15
      refine wp_ite (fun c5 => wp_ret (fun hv => absurd hv (by decide))) (fun c5 => ?_)
      have hlt2 : N10 0 0 41 < l ∧ s (N10 0 0 41) = 43 := by omega
      obtain ⟨M3, run3, ⟨i3, k3, hA3⟩, nt3, s3⟩ := RunN.of (y_plus (fu := fu) (s := s (N10 0 0 41)) i2 hA2 hlt2.2) (y_plusX (fu := fu) (s := s (N10 0 0 41)) hA2 hlt2.2)
      obtain ⟨pb, hb, eb⟩ := PE_at i10 hl hlt2.1
      refine wp_si i10 (by have := pb.1 0 0 41; rw [eb] at this; rw [jm_wid (by omega) (by omega)]; exact this) (fun N20 u20 i20 => ?_)
      rw [← u20] at pb hb eb
      refine wp_e (bx2_in (i20 0 0 41)) (fun v22 e22 _ => ?_)
      rw [e22]
      have b20 : 0 ≤ N20 0 0 41 ∧ N20 0 0 41 ≤ 60 := i20 0 0 41
      refine wp_mono (h_law_103 fu hfu s hs l u r hl hr (N20 0 0 41) cmp1 (N 0 0 72) D fu N20 M3 0 i20 (by rw [u20, jm_une_k (by decide)]; exact q10) (by omega) (by omega) (pb.tape hT10) i3 (by rw [Int.sub_self]; exact hA3) ⟨nt3.1.trans L2, (nt3.2 21 0 (by decide) (by decide)).trans E2, s3.trans S2⟩ (by omega) (by omega)) (fun v N1 z => z.pre (n := 1) (by omega) run3 k3 (by rw [u20]; exact KQ.u41))
    · have hlt2 : N10 0 0 41 < l ∧ s (N10 0 0 41) = 88 := by omega
      obtain ⟨M3, run3, ⟨i3, k3, hA3⟩, nt3, s3⟩ := RunN.of (y_X (fu := fu) (s := s (N10 0 0 41)) hr i2 hA2 hlt2.2) (y_XX (fu := fu) (s := s (N10 0 0 41)) hr hA2 hlt2.2)
      obtain ⟨pb, hb, eb⟩ := PE_at i10 hl hlt2.1
      refine wp_si i10 (by have := pb.1 0 0 41; rw [eb] at this; rw [jm_wid (by omega) (by omega)]; exact this) (fun N25 u25 i25 => ?_)
      rw [← u25] at pb hb eb
      have b72 : 0 ≤ N25 0 0 72 ∧ N25 0 0 72 ≤ 10 := i25 0 0 72
      have q25 : N25 0 0 72 = N 0 0 72 := by rw [u25, jm_une_k (by decide)]; exact q10
      refine wp_T ⟨by omega, by omega⟩ ?_
      refine wp_si i25 (jm_inL (by decide) (by decide)) (fun N28 u28 i28 => ?_)
      have e28 : N28 0 0 41 = N25 0 0 41 := by rw [u28]; exact jm_une_f (by decide)
      refine wp_ite (fun c6 => wp_ret (fun hv => ?_)) (fun c6 => wp_ret (fun hv => absurd hv (by decide)))
      refine ⟨⟨c6, fun f i k y => ?_⟩, 1, M3, ⟨by omega, run3⟩, ⟨i3, k3, Or.inl hA3.1.1⟩, hA3.2.2.2, ⟨nt3.1.trans L2, (nt3.2 21 0 (by decide) (by decide)).trans E2⟩, Or.inl ⟨s3, ?_⟩⟩
      · rw [u28, jm_une_f (by unfold KQ at y; omega), u25]
        exact KQ.u41 f i k y
      · rw [u28, q25]
        exact jm_ueq
  · obtain ⟨⟨z1, kq⟩, z2⟩ := q hv
    refine ⟨z1, z2.pre (n := n + 1) e10 hrun2 k12 (fun M' iM' zx => ?_)⟩
    obtain ⟨⟨x1, x2⟩, ⟨x3, x4⟩, x5⟩ := zx
    have nE : nn N6 = nn N + ((tot Er P).length : Int) := by
      have := hmk.1
      rw [List.length_map] at this
      exact this
    have a1 : N1 36 0 (N 0 0 42) = N10 36 0 (N 0 0 42) := kq 36 0 _ (Or.inr (Or.inl rfl))
    have a2 : N10 36 0 (N 0 0 42) = N6 36 0 (N 0 0 42) := by rw [u10]; exact jm_une_f (by decide)
    have a3 : N6 36 0 (N 0 0 42) = nn N6 := by
      unfold nn
      rw [w6]
    have a4 : N1 36 0 (N 0 0 42) = ((tot Er P).length : Int) := by omega
    have eD : D.length = (tot Er P).length := by
      rw [hD, ← tot_rev, List.length_append, List.length_reverse, hC]
      rfl
    have c35 : ∀ j : Int, N1 35 0 j = N6 35 0 j := fun j => by
      rw [kq 35 0 j (Or.inl rfl), u10]
      exact jm_une_f (by decide)
    have bx1' : 0 ≤ M' 11 r 1 ∧ M' 11 r 1 ≤ 60 := iM' 11 r 1
    have pos : 0 < (tot Er P).length := by
      refine Nat.pos_of_ne_zero (fun e0 => ?_)
      have hph := hph
      unfold PH at hph
      rw [nE, e0] at hph
      rw [show (nn N + ((0 : Nat) : Int) - nn N).toNat = 0 by omega] at hph
      exact absurd (show (some 0 : Option Nat) = some 1 from hph) (by decide)
    unfold RT
    rw [a4]
    refine ⟨⟨x3, by rw [x4, eD], by omega, by rw [← eD]; omega⟩, ?_, fun j y1 y2 => ?_, x5⟩
    · have hph := hph
      unfold PH at hph
      rw [show (nn N6 - nn N).toNat = (tot Er P).length by omega, h0, Int.add_zero] at hph
      rw [Int.toNat_natCast, hg_congr (c := N1 35 0) (d := N6 35 0) (tot Er P).length (100 * N 0 0 42) 0 (fun j _ _ => c35 j)]
      exact hph
    · rw [hD, ← tot_rev] at x2
      have z := code_rel hu2 (tot Er P) C (100 * N 0 0 42 + nn N) x2 (FS.congr hmk.2 (fun i _ _ => c35 i)) (tot_ok hlen.2 (fun x hx => (hP1 x hx).1)) j y1 y2
      have ez : ((C.length : Nat) : Int) = 0 := by rw [hC]; rfl
      rw [ez, Int.zero_add, h0, Int.add_zero] at z
      exact z
