/-! what a plan's text holds, in both readings -/
theorem PLS.drop {f : Int → Int} {B : List Int} : ∀ {A : List Int}, PLS f (A ++ B) → PLS f B := by
  intro A
  induction A with
  | nil => intro h; exact h
  | cons x A ih => intro h; exact ih h.2
theorem PLS.eq {f g : Int → Int} : ∀ {C : List Int}, PLS f C → PLS g C → ∀ k : Int, 0 ≤ k → k < (C.length : Int) → f k = g k := by
  intro C
  induction C with
  | nil => intro _ _ k h0 h1; simp only [List.length_nil] at h1; exfalso; omega
  | cons x C ih =>
    intro h g' k h0 h1
    simp only [List.length_cons] at h1
    by_cases q : k = (C.length : Int)
    · rw [q, h.1, g'.1]
    · exact ih h.2 g'.2 k h0 (by omega)
theorem ltr_sx : ∀ c : Int, 97 ≤ c → c ≤ 122 → ∀ u : Int, u = 0 ∨ u = 1 → 0 ≤ jm_sx u c → 0 ≤ ltr u (jm_sx u c) ∧ c = 97 + ltr u (jm_sx u c) := by
  intro c h1 h2 u hu
  have cs : c = 97 ∨ c = 98 ∨ c = 99 ∨ c = 100 ∨ c = 101 ∨ c = 102 ∨ c = 103 ∨ c = 104 ∨ c = 105 ∨ c = 106 ∨ c = 107 ∨ c = 108 ∨ c = 109 ∨ c = 110 ∨ c = 111 ∨ c = 112 ∨ c = 113 ∨ c = 114 ∨ c = 115 ∨ c = 116 ∨ c = 117 ∨ c = 118 ∨ c = 119 ∨ c = 120 ∨ c = 121 ∨ c = 122 := by omega
  rcases hu with rfl | rfl
  · rcases cs with rfl | rfl | rfl | rfl | rfl | rfl | rfl | rfl | rfl | rfl | rfl | rfl | rfl | rfl | rfl | rfl | rfl | rfl | rfl | rfl | rfl | rfl | rfl | rfl | rfl | rfl <;> decide
  · rcases cs with rfl | rfl | rfl | rfl | rfl | rfl | rfl | rfl | rfl | rfl | rfl | rfl | rfl | rfl | rfl | rfl | rfl | rfl | rfl | rfl | rfl | rfl | rfl | rfl | rfl | rfl <;> decide
theorem CS_er {u x : Int} (hu : u = 0 ∨ u = 1) (h : okc u x) : CS u x (er u x) := by
  rcases h with h | ⟨h1, h2, h3⟩ | h
  · exact Or.inl ⟨h.1, h.2, if_pos h.2⟩
  · have e : er u x = -1 - jm_sx u (x - 1000 + 97) := by
      unfold er
      rw [if_neg (by omega), if_pos (by omega)]
    obtain ⟨c, hc⟩ : ∃ c : Int, c = x - 1000 + 97 := ⟨_, rfl⟩
    rw [← hc] at h3 e
    have f := jm_sx_f u c
    have z := ltr_sx c (by omega) (by omega) u hu h3
    exact Or.inr (Or.inl ⟨jm_sx u c, h3, by omega, z.1, by omega, e⟩)
  · obtain ⟨o, ho⟩ : ∃ o : Int, o = x - 2000 := ⟨_, rfl⟩
    rw [← ho] at h
    have ox : x = 2000 + o := by omega
    have os : o = 33 ∨ o = 126 ∨ bop o := by
      unfold bop
      unfold lv at h
      by_cases a1 : o = 33
      · exact Or.inl a1
      by_cases a2 : o = 38
      · exact Or.inr (Or.inr (Or.inl a2))
      by_cases a3 : o = 42
      · exact Or.inr (Or.inr (Or.inr (Or.inl a3)))
      by_cases a4 : o = 43
      · exact Or.inr (Or.inr (Or.inr (Or.inr (Or.inl a4))))
      by_cases a5 : o = 45
      · exact Or.inr (Or.inr (Or.inr (Or.inr (Or.inr (Or.inl a5)))))
      by_cases a6 : o = 60
      · exact Or.inr (Or.inr (Or.inr (Or.inr (Or.inr (Or.inr (Or.inl a6))))))
      by_cases a7 : o = 61
      · exact Or.inr (Or.inr (Or.inr (Or.inr (Or.inr (Or.inr (Or.inr (Or.inl a7)))))))
      by_cases a8 : o = 62
      · exact Or.inr (Or.inr (Or.inr (Or.inr (Or.inr (Or.inr (Or.inr (Or.inr (Or.inl a8))))))))
      by_cases a9 : o = 124
      · exact Or.inr (Or.inr (Or.inr (Or.inr (Or.inr (Or.inr (Or.inr (Or.inr (Or.inr a9))))))))
      by_cases a0 : o = 126
      · exact Or.inr (Or.inl a0)
      · rw [if_neg a1, if_neg a2, if_neg a3, if_neg a4, if_neg a5, if_neg a6, if_neg a7, if_neg a8, if_neg a9, if_neg a0] at h
        exact absurd h (by decide)
    have op0 : 0 ≤ o := by
      unfold bop at os
      omega
    have e : er u x = o - 200 := by rw [ox]; exact er_op u op0
    rw [e]
    rcases os with q | q | q
    · exact Or.inr (Or.inr (Or.inl (Or.inl ⟨by omega, by omega⟩)))
    · exact Or.inr (Or.inr (Or.inl (Or.inr ⟨by omega, by omega⟩)))
    · exact Or.inr (Or.inr (Or.inr ⟨by rw [← ho]; exact q, by omega⟩))
theorem code_rel {u : Int} (hu : u = 0 ∨ u = 1) {f g : Int → Int} : ∀ (T C : List Int) (a : Int), PLS f (T.reverse ++ C) → FS g a (T.map (er u)) → okl u T → ∀ j : Int, 0 ≤ j → j < (T.length : Int) → CS u (f ((C.length : Int) + j)) (g (a + j)) := by
  intro T
  induction T with
  | nil => intro C a _ _ _ j h0 h1; simp only [List.length_nil] at h1; exfalso; omega
  | cons x T ih =>
    intro C a hf hg ho j h0 h1
    simp only [List.length_cons] at h1
    rw [List.reverse_cons, List.append_assoc] at hf
    have hf : PLS f (T.reverse ++ (x :: C)) := hf
    have fx : f (C.length : Int) = x := (PLS.drop hf).1
    have gx : g a = er u x := hg.1
    by_cases q : j = 0
    · rw [q, Int.add_zero, Int.add_zero, fx, gx]
      exact CS_er hu (ho x (List.mem_cons_self ..))
    · have z := ih (x :: C) (a + 1) hf hg.2 (fun y hy => ho y (List.mem_cons_of_mem _ hy)) (j - 1) (by omega) (by omega)
      simp only [List.length_cons] at z
      rw [show ((C.length + 1 : Nat) : Int) + (j - 1) = (C.length : Int) + j by omega, show a + 1 + (j - 1) = a + j by omega] at z
      exact z
theorem tot_ok {u : Int} {Er P : List Int} (h : okl u Er) (g : ∀ x ∈ P, 1 ≤ lv x) : okl u (tot Er P) := by
  unfold tot
  refine okl.app (fun x hx => h x (List.mem_reverse.mp hx)) (fun x hx => okl.ops g x (List.mem_reverse.mpr hx))
theorem tot_rev {Er P C : List Int} : (tot Er P).reverse ++ C = (P.map (fun x => 2000 + x)).reverse ++ (Er ++ C) := by
  unfold tot
  rw [List.reverse_append, List.reverse_reverse, List.append_assoc]
theorem tot_len {Er P : List Int} : (tot Er P).length = Er.length + P.length := by
  unfold tot
  simp only [List.length_append, List.length_reverse, List.length_map]
theorem aF_snoc (c : Int → Int) : ∀ (n : Nat) (a : Int) (s : Int × Int × Int), aF c (n + 1) a s = aStep (c (a + (n : Int))) (aF c n a s) := by
  intro n
  induction n with
  | zero =>
    intro a s
    show aStep (c a) s = aStep (c (a + ((0 : Nat) : Int))) s
    rw [show a + ((0 : Nat) : Int) = a by omega]
  | succ n ih =>
    intro a s
    show aF c (n + 1) (a + 1) (aStep (c a) s) = aStep (c (a + ((n + 1 : Nat) : Int))) (aF c n (a + 1) (aStep (c a) s))
    rw [ih, show a + 1 + (n : Int) = a + ((n + 1 : Nat) : Int) by omega]
theorem aF_cg (c d : Int → Int) : ∀ (n : Nat) (a : Int) (s : Int × Int × Int), (∀ j : Int, a ≤ j → j < a + (n : Int) → c j = d j) → aF c n a s = aF d n a s := by
  intro n
  induction n with
  | zero => intro a s _; rfl
  | succ n ih =>
    intro a s h
    show aF c n (a + 1) (aStep (c a) s) = aF d n (a + 1) (aStep (d a) s)
    rw [h a (by omega) (by omega)]
    exact ih (a + 1) _ (fun j y1 y2 => h j (by omega) (by omega))
/-- the lines of text r but one -/
def LFr (r L : Int) (M M1 : jm_M) : Prop := ∀ (f : Nat) (k : Int), 21 ≤ f → f ≤ 24 → k ≠ L → M1 f r k = M f r k
/-- a condition ended -/
def EC (r : Int) (M M1 : jm_M) : Prop := M1 11 r 6 = M 11 r 6 + 1 ∧ M1 21 r (M 11 r 6) = M1 11 r 1 ∧ (M1 22 r (M 11 r 6) = 9 ∧ M1 23 r (M 11 r 6) = 9 ∧ M1 24 r (M 11 r 6) = -1) ∧ LFr r (M 11 r 6) M M1
/-- an act of the line begun last -/
def AC (r m : Int) (M M1 : jm_M) : Prop := (M1 11 r 6 = M 11 r 6 ∧ ∀ k : Int, M1 21 r k = M 21 r k) ∧ (M1 22 r (M 11 r 6 - 1), M1 23 r (M 11 r 6 - 1), M1 24 r (M 11 r 6 - 1)) = aStep m (M 22 r (M 11 r 6 - 1), M 23 r (M 11 r 6 - 1), M 24 r (M 11 r 6 - 1)) ∧ LFr r (M 11 r 6 - 1) M M1
/-- nothing of the lines -/
def NT (r : Int) (M M1 : jm_M) : Prop := M1 11 r 6 = M 11 r 6 ∧ ∀ (f : Nat) (k : Int), 21 ≤ f → f ≤ 24 → M1 f r k = M f r k
theorem NT.ts {r : Int} {M M1 : jm_M} (k : Kp (TS r) M M1) : NT r M M1 := ⟨k 11 r 6 (by unfold TS; omega), fun f j h1 h2 => k f r j (by unfold TS; omega)⟩
theorem NT.ec {r : Int} {M M1 M2 : jm_M} (h : NT r M M1) (g : EC r M1 M2) : EC r M M2 := by
  obtain ⟨g1, g2, g3, g4⟩ := g
  rw [h.1] at g1 g2 g3 g4
  exact ⟨g1, g2, g3, fun f k y1 y2 y3 => (g4 f k y1 y2 y3).trans (h.2 f k y1 y2)⟩
theorem NT.rf {r : Int} {M : jm_M} : NT r M M := ⟨rfl, fun _ _ _ _ => rfl⟩
theorem y_endX {r : Int} {M : jm_M} (iM : bI bx1 M) (h : M 11 r 6 < 21) : wp (fX8_endCondition M r) (fun _ M1 => EC r M M1) := by
  have b6 : 0 ≤ M 11 r 6 ∧ M 11 r 6 ≤ 21 := iM 11 r 6
  obtain ⟨L, hL⟩ : ∃ L : Int, L = M 11 r 6 := ⟨_, rfl⟩
  have w1 : jm_w (L + 1) = L + 1 := jm_wid (by omega) (by omega)
  unfold fX8_endCondition EC
  rw [← hL]
  refine wp_bp (x_isIndex M L 21) (fun v q => wp_F (by omega) ?_)
  refine wp_T ⟨by omega, by omega⟩ (wp_sv (fun M2 e2 => ?_))
  rw [← hL] at e2
  have f2 : M2 11 r 6 = L := by rw [e2, jm_une_f (by decide)]; exact hL.symm
  rw [f2]
  refine wp_T ⟨by omega, by omega⟩ (wp_sv (fun M3 e3 => ?_))
  have f3 : M3 11 r 6 = L := by rw [e3, jm_une_f (by decide)]; exact f2
  rw [f3]
  refine wp_T ⟨by omega, by omega⟩ (wp_sv (fun M4 e4 => ?_))
  have f4 : M4 11 r 6 = L := by rw [e4, jm_une_f (by decide)]; exact f3
  rw [f4]
  refine wp_T ⟨by omega, by omega⟩ (wp_sv (fun M5 e5 => ?_))
  have f5 : M5 11 r 6 = L := by rw [e5, jm_une_f (by decide)]; exact f4
  rw [f5, w1]
  refine wp_sv (fun M6 e6 => wp_ret ⟨?_, ?_, ⟨?_, ?_, ?_⟩, fun f k y1 y2 y3 => ?_⟩)
  · rw [e6]; exact jm_ueq
  · rw [e6, jm_une_f (by decide), jm_une_k (by decide), e5, jm_une_f (by decide), jm_une_f (by decide), e4, jm_une_f (by decide), jm_une_f (by decide), e3, jm_une_f (by decide), jm_une_f (by decide), e2, jm_ueq, jm_une_f (by decide)]
  · rw [e6, jm_une_f (by decide), e5, jm_une_f (by decide), e4, jm_une_f (by decide), e3]; exact jm_ueq
  · rw [e6, jm_une_f (by decide), e5, jm_une_f (by decide), e4]; exact jm_ueq
  · rw [e6, jm_une_f (by decide), e5]; exact jm_ueq
  · rw [e6, jm_une (by omega), e5, jm_une (by omega), e4, jm_une (by omega), e3, jm_une (by omega), e2, jm_une (by omega)]
theorem EC.u6 {r : Int} {M M1 : jm_M} {v : Int} (h : EC r M M1) : EC r M (jm_u M1 6 0 6 v) := by
  unfold EC LFr at h ⊢
  obtain ⟨h1, h2, ⟨h3, h4, h5⟩, h6⟩ := h
  refine ⟨?_, ?_, ⟨?_, ?_, ?_⟩, fun f k y1 y2 y3 => ?_⟩
  · rw [jm_une_f (by decide)]; exact h1
  · rw [jm_une_f (by decide), jm_une_f (by decide)]; exact h2
  · rw [jm_une_f (by decide)]; exact h3
  · rw [jm_une_f (by decide)]; exact h4
  · rw [jm_une_f (by decide)]; exact h5
  · rw [jm_une_f (by omega)]; exact h6 f k y1 y2 y3
theorem y_endsX {fu : Nat} (hfu : 4000 ≤ fu) {r : Int} (hr : 0 ≤ r ∧ r ≤ 16) {M : jm_M} (iM : bI bx1 M) {st cmp dg : Int} {stk P C : List Int} (h : AB r M st cmp dg stk P C) (hP : ∀ x ∈ P, 1 ≤ lv x ∧ 0 ≤ x ∧ x ≤ 255) (hC : C.length + P.length ≤ 60) (hL : M 11 r 6 < 21) : wp (fX3_endsCondition fu M) (fun v M1 => v = 1 ∧ EC r M M1) := by
  unfold fX3_endsCondition
  refine wp_b (y_release fu hfu hr (l := 1) (P := P) (W := []) iM (by rw [List.append_nil]; exact h) (fun x V e => by cases e) hP hC (by rw [List.append_nil]; omega)) (fun v2 M2 q2 => ?_)
  obtain ⟨-, i2, k2, h2⟩ := q2
  have n2 := NT.ts k2
  have h8 : M2 6 0 8 = r := h2.1.2.2.2
  refine wp_T ⟨by omega, by omega⟩ ?_
  rw [h8]
  refine wp_b (y_endX i2 (by rw [n2.1]; exact hL)) (fun v3 M3 q3 => ?_)
  have q3 := n2.ec q3
  exact wp_ite (fun c => wp_sv (fun M4 e4 => wp_ret ⟨rfl, by rw [e4]; exact q3.u6⟩)) (fun c => wp_sv (fun M4 e4 => wp_ret ⟨rfl, by rw [e4]; exact q3.u6⟩))
theorem y_colon2X {fu : Nat} (hfu : 4000 ≤ fu) {r : Int} (hr : 0 ≤ r ∧ r ≤ 16) {M : jm_M} (iM : bI bx1 M) {s cmp dg : Int} {P C : List Int} (hs : jm_in s) (h : AB r M 2 cmp dg [] P C) (he : s = 58) (hP : ∀ x ∈ P, 1 ≤ lv x ∧ 0 ≤ x ∧ x ≤ 255) (hC : C.length + P.length ≤ 60) (hL : M 11 r 6 < 21) : wp (fX3_takes fu M s) (fun v M1 => v = 1 ∧ EC r M M1) := by
  subst he
  refine y_be hfu hr iM hs h (by omega) (fun v M1 q => Or.inr q.1) (fun _ M1 i1 k1 h1 => ?_) (fun e => absurd e (by decide)) (fun e => absurd rfl e)
  have n1 := NT.ts k1
  refine wp_T h1.2.1.1 ?_
  refine wp_b (y_endsX hfu hr i1 h1 hP hC (by rw [n1.1]; exact hL)) (fun v2 M2 q2 => ?_)
  exact wp_F (by rw [q2.1]; decide) (wp_ret ⟨rfl, n1.ec q2.2⟩)
theorem y_colon0X {fu : Nat} (hfu : 4000 ≤ fu) {r : Int} (hr : 0 ≤ r ∧ r ≤ 16) {M : jm_M} (iM : bI bx1 M) {s cmp dg : Int} {C : List Int} (hs : jm_in s) (h : AB r M 0 cmp dg [] [] C) (he : s = 58) (h7 : M 6 0 7 ≠ 0) (hC : C.length ≤ 60) (hL : M 11 r 6 < 21) : wp (fX3_takes fu M s) (fun v M1 => v = 1 ∧ EC r M M1) := by
  subst he
  refine y_takes_op fu (Or.inl h.1.1) ?_ (fun v M1 q => Or.inr q.1)
  unfold fX3_takesOperand
  refine wp_b (s_fX3_isDigit M iM 58 hs) (fun v M1 q => ?_)
  obtain ⟨rfl, q⟩ := q
  refine wp_T (by omega) ?_
  refine wp_b (y_isLetter fu M1 58) (fun v2 M2 q2 => ?_)
  obtain ⟨rfl, q2⟩ := q2
  have az := sx_az (ltx M2) 58 (by unfold ltx; split; exact Or.inr rfl; exact Or.inl rfl)
  refine wp_T (by omega) ?_
  refine wp_T rfl ?_
  refine wp_F h7 ?_
  refine wp_T h.1.1 ?_
  refine wp_b (y_endsX hfu hr iM h (fun x hx => absurd hx List.not_mem_nil) (by simp only [List.length_nil]; omega) hL) (fun v3 M3 q3 => ?_)
  exact wp_T (Or.inr q3.1) (wp_ret q3)
theorem AC.u6 {r m : Int} {M M1 : jm_M} {v : Int} (h : AC r m M M1) : AC r m M (jm_u M1 6 0 6 v) := by
  unfold AC LFr at h ⊢
  obtain ⟨⟨h1, h2⟩, h3, h4⟩ := h
  refine ⟨⟨?_, fun k => ?_⟩, ?_, fun f k y1 y2 y3 => ?_⟩
  · rw [jm_une_f (by decide)]; exact h1
  · rw [jm_une_f (by decide)]; exact h2 k
  · rw [jm_une_f (by decide), jm_une_f (by decide), jm_une_f (by decide)]; exact h3
  · rw [jm_une_f (by omega)]; exact h4 f k y1 y2 y3
theorem y_actX {r : Int} {M : jm_M} (iM : bI bx1 M) (s : Int) (hL : 1 ≤ M 11 r 6 ∧ M 11 r 6 ≤ 21) (hs : s = 43 ∨ s = 45 ∨ s = 46 ∨ s = 61 ∨ s = 103 ∨ s = 104) : wp (fX8_act M r s) (fun _ M1 => AC r s M M1) := by
  obtain ⟨L, hl⟩ : ∃ L : Int, L = M 11 r 6 - 1 := ⟨_, rfl⟩
  have w1 : jm_w L = L := jm_wid (by omega) (by omega)
  unfold fX8_act AC
  rw [← hl]
  refine wp_e (jm_w_in _) (fun v2 e2 _ => ?_)
  rw [w1] at e2
  rw [e2]
  refine wp_bp (x_isIndex M L 21) (fun v q => wp_F (by omega) ?_)
  have hc : 0 ≤ L ∧ L < 21 := ⟨by omega, by omega⟩
  have st : ∀ (f : Nat) (x : Int) (M1 : jm_M), M1 = jm_u M f r L x → (f = 22 ∨ f = 23) → (M1 11 r 6 = M 11 r 6 ∧ ∀ k : Int, M1 21 r k = M 21 r k) ∧ LFr r L M M1 := fun f x M1 e hf => ⟨⟨by rw [e, jm_une_f (by omega)], fun k => by rw [e, jm_une_f (by omega)]⟩, fun f' k y1 y2 y3 => by rw [e, jm_une (by omega)]⟩
  refine wp_ite (fun c => wp_T hc (wp_sv (fun M1 e => wp_ret ⟨(st 22 1 M1 e (Or.inl rfl)).1, ?_, (st 22 1 M1 e (Or.inl rfl)).2⟩))) (fun c1 => ?_)
  · rw [e, c, jm_ueq, jm_une_f (by decide), jm_une_f (by decide)]; rfl
  refine wp_ite (fun c => wp_T hc (wp_sv (fun M1 e => wp_ret ⟨(st 22 (-1) M1 e (Or.inl rfl)).1, ?_, (st 22 (-1) M1 e (Or.inl rfl)).2⟩))) (fun c2 => ?_)
  · rw [e, c, jm_ueq, jm_une_f (by decide), jm_une_f (by decide)]; rfl
  refine wp_ite (fun c => wp_T hc (wp_sv (fun M1 e => wp_ret ⟨(st 22 0 M1 e (Or.inl rfl)).1, ?_, (st 22 0 M1 e (Or.inl rfl)).2⟩))) (fun c3 => ?_)
  · rw [e, c, jm_ueq, jm_une_f (by decide), jm_une_f (by decide)]; rfl
  refine wp_ite (fun c => wp_T hc (wp_sv (fun M1 e => wp_ret ⟨(st 23 1 M1 e (Or.inr rfl)).1, ?_, (st 23 1 M1 e (Or.inr rfl)).2⟩))) (fun c4 => ?_)
  · rw [e, c, jm_ueq, jm_une_f (by decide), jm_une_f (by decide)]; rfl
  refine wp_ite (fun c => wp_T hc (wp_sv (fun M1 e => wp_ret ⟨(st 23 0 M1 e (Or.inr rfl)).1, ?_, (st 23 0 M1 e (Or.inr rfl)).2⟩))) (fun c5 => ?_)
  · rw [e, c, jm_ueq, jm_une_f (by decide), jm_une_f (by decide)]; rfl
  have e46 : s = 46 := by omega
  refine wp_ret ⟨⟨rfl, fun _ => rfl⟩, ?_, fun _ _ _ _ _ => rfl⟩
  rw [e46]
  rfl
section KAA
variable {fu : Nat} {r : Int} {M : jm_M} {st cmp dg : Int} {C : List Int} {s : Int}
theorem y_act1X (hr : 0 ≤ r ∧ r ≤ 16) (iM : bI bx1 M) (h : AB r M st cmp dg [] [] C) (hst : st = 6 ∨ st = 7) (hs : s = 43 ∨ s = 45 ∨ s = 46 ∨ s = 61 ∨ s = 103 ∨ s = 104) (hL : 1 ≤ M 11 r 6 ∧ M 11 r 6 ≤ 21) : wp (fX3_takes fu M s) (fun v M1 => v = 1 ∧ AC r s M M1) := by
  refine y_takes6 fu (by rw [h.1.1]; exact hst) ?_ (fun v M1 q => Or.inr q.1)
  have h8 : M 6 0 8 = r := h.1.2.2.2
  have key : wp (if 0 ≤ M 6 0 8 ∧ M 6 0 8 < 17 then (jm_b (fX8_act M (M 6 0 8) s) fun _ M4 => jm_s (jm_u M4 6 0 6 7) fun M5 => some (1, M5)) else none) (fun v M1 => v = 1 ∧ AC r s M M1) := by
    refine wp_T ⟨by omega, by omega⟩ ?_
    rw [h8]
    exact wp_b (y_actX iM s hL hs) (fun v M1 q => wp_sv (fun M5 e5 => wp_ret ⟨rfl, by rw [e5]; exact q.u6⟩))
  unfold fX3_takesAct
  refine wp_ite (fun _ => key) (fun c1 => ?_)
  refine wp_ite (fun _ => key) (fun c2 => ?_)
  refine wp_ite (fun _ => key) (fun c3 => ?_)
  refine wp_F (by omega) ?_
  refine wp_ite (fun _ => key) (fun c4 => ?_)
  refine wp_F (by omega) ?_
  refine wp_ite (fun _ => key) (fun c5 => ?_)
  exact wp_T (by omega) key
theorem y_actbX (h : AB r M st cmp dg [] [] C) (hst : st = 6 ∨ st = 7) (hs : s = 98) : wp (fX3_takes fu M s) (fun v M1 => v = 1 ∧ NT r M M1) := by
  subst hs
  refine y_takes6 fu (by rw [h.1.1]; exact hst) ?_ (fun v M1 q => Or.inr q.1)
  unfold fX3_takesAct
  refine wp_F (by decide) (wp_F (by decide) (wp_F (by decide) (wp_F (by decide) (wp_F (by decide) (wp_T rfl ?_)))))
  exact wp_sv (fun M5 e5 => wp_ret ⟨rfl, by rw [e5]; exact jm_une_f (by decide), fun f k y1 y2 => by rw [e5]; exact jm_une_f (by omega)⟩)
theorem y_semiX (h : AB r M 7 cmp dg [] [] C) (hs : s = 59) : wp (fX3_takes fu M s) (fun v M1 => v = 1 ∧ NT r M M1) := by
  subst hs
  refine y_takes6 fu (by rw [h.1.1]; exact Or.inr rfl) ?_ (fun v M1 q => Or.inr q.1)
  unfold fX3_takesAct fX3_beginLine
  refine wp_F (by decide) (wp_F (by decide) (wp_F (by decide) (wp_T rfl (wp_T h.1.1 ?_))))
  refine wp_b (P := fun _ M1 => NT r M M1) ?_ (fun v M1 q => wp_ret ⟨rfl, q⟩)
  refine wp_sv (fun M2 e2 => wp_sv (fun M3 e3 => wp_sv (fun M4 e4 => wp_sv (fun M5 e5 => wp_sv (fun M6 e6 => wp_ret ⟨?_, fun f k y1 y2 => ?_⟩)))))
  · rw [e6, jm_une_f (by decide), e5, jm_une_f (by decide), e4, jm_une_f (by decide), e3, jm_une_f (by decide), e2, jm_une_f (by decide)]
  · rw [e6, jm_une_f (by omega), e5, jm_une_f (by omega), e4, jm_une_f (by omega), e3, jm_une_f (by omega), e2, jm_une_f (by omega)]
theorem y_boxX (hr : 0 ≤ r ∧ r ≤ 16) (h : AB r M 8 cmp dg [] [] C) (hs : 48 ≤ s ∧ s ≤ 51) (hL : 1 ≤ M 11 r 6 ∧ M 11 r 6 ≤ 21) : wp (fX3_takes fu M s) (fun v M1 => v = 1 ∧ AC r (1000 + s - 48) M M1) := by
  have e6 : M 6 0 6 = 8 := h.1.1
  have h8 : M 6 0 8 = r := h.1.2.2.2
  unfold fX3_takes
  refine wp_F (by omega) (wp_F (by omega) (wp_F (by omega) (wp_F (by omega) (wp_F (by omega) (wp_F (by omega) (wp_F (by omega) (wp_T e6 ?_)))))))
  refine wp_b (P := fun v M1 => v = 1 ∧ AC r (1000 + s - 48) M M1) ?_ (fun v M1 q => wp_T (Or.inr q.1) (wp_ret q))
  unfold fX3_takesBox
  refine wp_F (by omega) (wp_T (by omega) (wp_T ⟨by omega, by omega⟩ ?_))
  rw [h8]
  refine wp_b (P := fun _ M1 => AC r (1000 + s - 48) M M1) ?_ (fun v M1 q => wp_sv (fun M5 e5 => wp_ret ⟨rfl, by rw [e5]; exact q.u6⟩))
  obtain ⟨L, hl⟩ : ∃ L : Int, L = M 11 r 6 - 1 := ⟨_, rfl⟩
  have w1 : jm_w L = L := jm_wid (by omega) (by omega)
  have w2 : jm_w (s - 48) = s - 48 := jm_wid (by omega) (by omega)
  unfold fX8_actBox AC
  rw [← hl, w1, w2]
  refine wp_bp (x_isIndex M L 21) (fun v q => wp_F (by omega) ?_)
  rw [← hl, w1]
  refine wp_T ⟨by omega, by omega⟩ (wp_sv (fun M1 e => wp_ret ⟨⟨?_, fun k => ?_⟩, ?_, fun f k y1 y2 y3 => ?_⟩))
  · rw [e, jm_une_f (by decide)]
  · rw [e, jm_une_f (by decide)]
  · rw [e, jm_ueq, jm_une_f (by decide), jm_une_f (by decide)]
    unfold aStep
    rw [if_neg (by omega), if_neg (by omega), if_neg (by omega), if_neg (by omega), if_neg (by omega), if_pos (by omega), show 1000 + s - 48 - 1000 = s - 48 by omega]
  · rw [e, jm_une (by omega)]
end KAA
theorem RunN.of {fu : Nat} {s : Int → Int} {a : Int} {M : jm_M} {Q E : jm_M → Prop} (h : wp (fX3_takes fu M (s a)) (fun v M1 => v = 1 ∧ Q M1)) (g : wp (fX3_takes fu M (s a)) (fun v M1 => v = 1 ∧ E M1)) : ∃ M1 : jm_M, RunN fu s 1 a M M1 ∧ Q M1 ∧ E M1 := by
  obtain ⟨v, M1, e, ⟨q1, q2⟩, q3, q4⟩ := wp_and h g
  rw [q1] at e
  exact ⟨M1, RunN.one e, q2, q4⟩
/-- the acts of the line begun last, as both hold them; q: the line's end mark -/
def ACT (r q : Int) (M N : jm_M) : Prop := (M 22 r (M 11 r 6 - 1), M 23 r (M 11 r 6 - 1), M 24 r (M 11 r 6 - 1)) = aF (N 35 0) (100 * N 0 0 42 + nn N - q - 1).toNat (q + 1) (9, 9, -1) ∧ q < 100 * N 0 0 42 + nn N ∧ ∀ j : Int, q < j → j < 100 * N 0 0 42 + nn N → N 35 0 j ≠ -302 ∧ N 35 0 j ≤ 1003
theorem MK1 {N N1 : jm_M} {m : Int} (h : MK N N1 [m]) : nn N1 = nn N + 1 ∧ N1 35 0 (100 * N 0 0 42 + nn N) = m := ⟨h.1, h.2.1⟩
theorem PE.w42 {l s : Int} {N N1 : jm_M} (p : PE l s N N1) : N1 0 0 42 = N 0 0 42 := p.2.1 0 0 42 (by unfold TPA; omega)
theorem PE.low {l s : Int} {N N1 : jm_M} (p : PE l s N N1) {j : Int} (h : j < 100 * N 0 0 42 + nn N) : N1 35 0 j = N 35 0 j := p.2.2.2.2.2.2.2 j (fun z => by omega)
theorem ACT.step {r q m : Int} {M M1 N N1 : jm_M} (h : ACT r q M N) (g : AC r m M M1) (w : N1 0 0 42 = N 0 0 42) (n1 : nn N1 = nn N + 1) (v : N1 35 0 (100 * N 0 0 42 + nn N) = m) (lo : ∀ j : Int, j < 100 * N 0 0 42 + nn N → N1 35 0 j = N 35 0 j) (hm : m ≠ -302 ∧ m ≤ 1003) : ACT r q M1 N1 := by
  obtain ⟨h1, h2, h3⟩ := h
  obtain ⟨⟨g1, g2⟩, g3, g4⟩ := g
  unfold ACT
  rw [g1, w, n1, g3, h1]
  refine ⟨?_, by omega, fun j y1 y2 => ?_⟩
  · obtain ⟨k, hk⟩ : ∃ k : Nat, k = (100 * N 0 0 42 + nn N - q - 1).toNat := ⟨_, rfl⟩
    rw [show (100 * N 0 0 42 + (nn N + 1) - q - 1).toNat = k + 1 by omega, ← hk, aF_snoc, show q + 1 + (k : Int) = 100 * N 0 0 42 + nn N by omega, v]
    rw [aF_cg (N1 35 0) (N 35 0) k (q + 1) (9, 9, -1) (fun j y1 y2 => lo j (by omega))]
  · by_cases e : j = 100 * N 0 0 42 + nn N
    · rw [e, v]; exact hm
    · rw [lo j (by omega)]
      exact h3 j y1 (by omega)
/-- behind a line's acts -/
def ZA (r q : Int) (M N M1 N1 : jm_M) : Prop := (M1 11 r 6 = M 11 r 6 ∧ (∀ k : Int, M1 21 r k = M 21 r k) ∧ LFr r (M 11 r 6 - 1) M M1) ∧ (N1 0 0 42 = N 0 0 42 ∧ (∀ j : Int, j < 100 * N 0 0 42 + nn N → N1 35 0 j = N 35 0 j)) ∧ (q < 100 * N1 0 0 42 + nn N1 - 1 ∧ N1 35 0 (100 * N1 0 0 42 + nn N1 - 1) = -302 ∧ ∀ j : Int, q < j → j < 100 * N1 0 0 42 + nn N1 - 1 → N1 35 0 j ≠ -302 ∧ N1 35 0 j ≤ 1003) ∧ (M1 22 r (M 11 r 6 - 1), M1 23 r (M 11 r 6 - 1), M1 24 r (M 11 r 6 - 1)) = aF (N1 35 0) (100 * N1 0 0 42 + nn N1 - 1 - q - 1).toNat (q + 1) (9, 9, -1)
theorem ZA.pre {r q : Int} {M N M2 N2 M1 N1 : jm_M} (h : ZA r q M2 N2 M1 N1) (a : (M2 11 r 6 = M 11 r 6 ∧ (∀ k : Int, M2 21 r k = M 21 r k) ∧ LFr r (M 11 r 6 - 1) M M2)) (b : N2 0 0 42 = N 0 0 42 ∧ nn N ≤ nn N2 ∧ ∀ j : Int, j < 100 * N 0 0 42 + nn N → N2 35 0 j = N 35 0 j) : ZA r q M N M1 N1 := by
  obtain ⟨⟨h1, h2, h3⟩, ⟨h4, h5⟩, h6, h7⟩ := h
  rw [a.1] at h1 h3 h7
  refine ⟨⟨h1, fun k => (h2 k).trans (a.2.1 k), fun f k y1 y2 y3 => (h3 f k y1 y2 y3).trans (a.2.2 f k y1 y2 y3)⟩, ⟨h4.trans b.1, fun j y => (h5 j (by rw [b.1]; omega)).trans (b.2.2 j y)⟩, h6, h7⟩
def TOK2 (fu : Nat) (s : Int → Int) (r st x : Int) (M : jm_M) (y : Int) (Z : List Int → jm_M → Prop) : Prop := ∃ (n : Nat) (M1 : jm_M) (cmp dg : Int) (C : List Int), (y = x + (n : Int) ∧ RunN fu s n x M M1) ∧ (bI bx1 M1 ∧ Kp (TI r) M M1 ∧ AB r M1 st cmp dg [] [] C ∧ (C.length : Int) ≤ y) ∧ Z C M1
theorem TOK2.pre {fu : Nat} {s : Int → Int} {r st x y z : Int} {M M1 : jm_M} {n : Nat} {Z Z2 : List Int → jm_M → Prop} (h : TOK2 fu s r st y M1 z Z) (e : y = x + (n : Int)) (g : RunN fu s n x M M1) (k : Kp (TI r) M M1) (hz : ∀ (X : List Int) (x : jm_M), Z X x → Z2 X x) : TOK2 fu s r st x M z Z2 := by
  obtain ⟨m, M2, c, d, C, ⟨q1, q2⟩, ⟨q3, q4, q5, q6⟩, q7⟩ := h
  exact ⟨n + m, M2, c, d, C, ⟨by omega, g.app (by rw [← e]; exact q2)⟩, ⟨q3, k.trI q4, q5, q6⟩, hz _ _ q7⟩
theorem h_acts (fu : Nat) (s : Int → Int) (hs : ∀ j : Int, jm_in (s j)) (l u r : Int) (hl : l ≤ 60) (hr : 0 ≤ r ∧ r ≤ 16) (q : Int) : ∀ (n : Nat) (N M : jm_M) (l2 cmp dg : Int) (C : List Int), bI bx2 N → N 0 0 41 ≤ l → nn N ≤ N 0 0 41 + 39 → ((∀ j : Int, 0 ≤ j → j < 100 → N 34 0 j = s j) ∧ N 0 0 43 = u + 2) → bI bx1 M → ((l2 = 0 ∧ AB r M 6 cmp dg [] [] C) ∨ (l2 = 1 ∧ AB r M 7 cmp dg [] [] C)) → (C.length : Int) ≤ N 0 0 41 → (1 ≤ M 11 r 6 ∧ M 11 r 6 ≤ 21) → ACT r q M N → l - N 0 0 41 < (n : Int) → wp (fX12_line_57 fu n N l l2) (fun v N1 => v = 1 → N 0 0 41 + 1 ≤ N1 0 0 41 + l2 ∧ TOK2 fu s r 7 (N 0 0 41) M (N1 0 0 41) (fun C1 M1 => C1 = C ∧ ZA r q M N M1 N1)) := by
  intro n
  induction n with
  | zero => intro N M l2 cmp dg C _ h1 _ _ _ _ _ _ _ hm; exfalso; omega
  | succ n ih =>
    intro N M l2 cmp dg C iN h1 hn hT iM hA hC hL hact hm
    show wp (gX12_line_57 fu (fX12_line_57 fu n) N l l2) _
    unfold gX12_line_57
    have b41 : 0 ≤ N 0 0 41 ∧ N 0 0 41 ≤ 60 := iN 0 0 41
    have eT : N 34 0 (N 0 0 41) = s (N 0 0 41) := hT.1 _ (by omega) (by omega)
    obtain ⟨st, hst, hAB⟩ : ∃ st : Int, (st = 6 ∨ st = 7) ∧ AB r M st cmp dg [] [] C := by
      rcases hA with z | z
      · exact ⟨6, Or.inl rfl, z.2⟩
      · exact ⟨7, Or.inr rfl, z.2⟩
    refine wp_bp (x_isOf2 iN l 8 hl) (fun v1 h8 => ?_)
    rw [eT] at h8
    have hac := is_ac (s (N 0 0 41))
    refine wp_ite (fun c => ?_) (fun c => ?_)
    · refine wp_b (x_marks2 (l := l) iN (-302) (jm_inL (by decide) (by decide)) h1 (by omega)) (fun v5 N6 h6 => ?_)
      obtain ⟨-, p6, e6, mk6, -, -⟩ := h6
      obtain ⟨n6, v6⟩ := MK1 mk6
      refine wp_T (by omega) (wp_ret (fun hv => ?_))
      have zA : AB r M 7 cmp dg [] [] C := by
        rcases hA with z | z
        · omega
        · exact z.2
      rw [e6]
      refine ⟨by omega, 0, M, cmp, dg, C, ⟨by omega, rfl⟩, ⟨iM, Kp.rf, zA, hC⟩, rfl, ?_⟩
      have w := p6.w42
      obtain ⟨a1, a2, a3⟩ := hact
      refine ⟨⟨rfl, fun _ => rfl, fun _ _ _ _ _ => rfl⟩, ⟨w, fun j y => p6.low y⟩, ?_, ?_⟩
      · rw [w, n6, show 100 * N 0 0 42 + (nn N + 1) - 1 = 100 * N 0 0 42 + nn N by omega]
        exact ⟨a2, v6, fun j y1 y2 => by rw [p6.low y2]; exact a3 j y1 y2⟩
      · rw [w, n6, show 100 * N 0 0 42 + (nn N + 1) - 1 = 100 * N 0 0 42 + nn N by omega, a1]
        exact (aF_cg (N6 35 0) (N 35 0) _ (q + 1) (9, 9, -1) (fun j y1 y2 => p6.low (by omega))).symm
    · obtain ⟨hlt, hcv⟩ : N 0 0 41 < l ∧ (s (N 0 0 41) = 98 ∨ s (N 0 0 41) = 43 ∨ s (N 0 0 41) = 61 ∨ s (N 0 0 41) = 45 ∨ s (N 0 0 41) = 103 ∨ s (N 0 0 41) = 104 ∨ s (N 0 0 41) = 46) := by
        rcases h8 with z | z
        · exact ⟨z.2.1, hac.mp z.2.2⟩
        · exact absurd z.1 c
      refine wp_T ⟨by omega, by omega⟩ ?_
      refine wp_e (iN 34 0 _) (fun v10 e10 _ => ?_)
      rw [eT] at e10
      obtain ⟨pa, ha, ea⟩ := PE_at iN hl hlt
      refine wp_si iN (by have := pa.1 0 0 41; rw [ea] at this; rw [jm_wid (by omega) (by omega)]; exact this) (fun N13 u13 i13 => ?_)
      rw [← u13] at pa ha ea
      have n13 : nn N13 = nn N := by
        unfold nn
        rw [u13, jm_une_f (by decide), jm_une_k (by decide)]
      have w13 := pa.w42
      have f13 : ∀ j : Int, N13 35 0 j = N 35 0 j := fun j => by rw [u13]; exact jm_une_f (by decide)
      have hT13 := pa.tape hT
      have b13 : 0 ≤ N13 0 0 41 ∧ N13 0 0 41 ≤ 60 := i13 0 0 41
      have eT13 : N13 34 0 (N13 0 0 41) = s (N13 0 0 41) := hT13.1 _ (by omega) (by omega)
      refine wp_ite (fun c2 => ?_) (fun c2 => ?_)
      · obtain ⟨M2, run2, ⟨i2, k2, hA2⟩, nt2⟩ := RunN.of (y_actb (fu := fu) iM hAB hst (s := s (N 0 0 41)) (by omega)) (y_actbX (fu := fu) hAB hst (s := s (N 0 0 41)) (by omega))
        refine wp_bp (x_isOf2 i13 l 9 hl) (fun v15 h15 => ?_)
        rw [eT13] at h15
        have hbx := is_bx (s (N13 0 0 41))
        refine wp_ite (fun c3 => wp_ret (fun hv => absurd hv (by decide))) (fun c3 => ?_)
        obtain ⟨hlt2, hcv2⟩ : N13 0 0 41 < l ∧ (48 ≤ s (N13 0 0 41) ∧ s (N13 0 0 41) ≤ 51) := by
          rcases h15 with z | z
          · exact ⟨z.2.1, hbx.mp z.2.2⟩
          · exact absurd z.1 c3
        refine wp_T ⟨by omega, by omega⟩ ?_
        have wm : jm_w (jm_w (1000 + N13 34 0 (N13 0 0 41)) - 48) = 1000 + s (N13 0 0 41) - 48 := by
          rw [eT13, jm_wid (x := 1000 + s (N13 0 0 41)) (by omega) (by omega)]
          exact jm_wid (by omega) (by omega)
        rw [wm]
        refine wp_b (x_marks2 (l := l) i13 _ (jm_inL (by omega) (by omega)) (by omega) (by omega)) (fun v22 N23 h23 => ?_)
        obtain ⟨-, p23, e23, mk23, -, -⟩ := h23
        obtain ⟨n23, v23⟩ := MK1 mk23
        have i23 := p23.1
        obtain ⟨pb, hb, eb⟩ := PE_at i23 hl (by omega)
        refine wp_si i23 (by have := pb.1 0 0 41; rw [eb] at this; rw [jm_wid (by omega) (by omega)]; exact this) (fun N25 u25 i25 => ?_)
        rw [← u25] at pb hb eb
        have n25 : nn N25 = nn N23 := by
          unfold nn
          rw [u25, jm_une_f (by decide), jm_une_k (by decide)]
        have w25 : N25 0 0 42 = N 0 0 42 := pb.w42.trans (p23.w42.trans w13)
        have f25 : ∀ j : Int, N25 35 0 j = N23 35 0 j := fun j => by rw [u25]; exact jm_une_f (by decide)
        have v25 : N25 35 0 (100 * N 0 0 42 + nn N) = 1000 + s (N13 0 0 41) - 48 := by rw [f25, ← w13, ← n13]; exact v23
        have lo25 : ∀ j : Int, j < 100 * N 0 0 42 + nn N → N25 35 0 j = N 35 0 j := fun j y => by rw [f25, p23.low (by rw [w13, n13]; exact y), f13]
        obtain ⟨M3, run3, ⟨i3, k3, hA3⟩, ac3⟩ := RunN.of (y_box (fu := fu) hr i2 hA2 (s := s (N13 0 0 41)) hcv2) (y_boxX (fu := fu) hr hA2 (s := s (N13 0 0 41)) hcv2 (by rw [nt2.1]; exact hL))
        have hrun := run2.app (show RunN fu s 1 (N 0 0 41 + ((1 : Nat) : Int)) M2 M3 by rw [show N 0 0 41 + ((1 : Nat) : Int) = N13 0 0 41 by omega]; exact run3)
        have ac : AC r (1000 + s (N13 0 0 41) - 48) M M3 := by
          obtain ⟨⟨g1, g2⟩, g3, g4⟩ := ac3
          rw [nt2.1] at g1 g3 g4
          rw [nt2.2 22 _ (by decide) (by decide), nt2.2 23 _ (by decide) (by decide), nt2.2 24 _ (by decide) (by decide)] at g3
          exact ⟨⟨g1, fun k => (g2 k).trans (nt2.2 21 k (by decide) (by decide))⟩, g3, fun f k y1 y2 y3 => (g4 f k y1 y2 y3).trans (nt2.2 f k y1 y2)⟩
        have act3 := hact.step ac w25 (by omega) v25 lo25 ⟨by omega, by omega⟩
        refine wp_mono (ih N25 M3 1 cmp dg C i25 (by omega) (by omega) (pb.tape (p23.tape hT13)) i3 (Or.inr ⟨rfl, hA3⟩) (by omega) (by rw [ac.1.1]; exact hL) act3 (by omega)) (fun v N1 z hv => ?_)
        obtain ⟨z1, z2⟩ := z hv
        exact ⟨by omega, z2.pre (n := 1 + 1) (by omega) hrun (k2.trI k3) (fun X x zx => ⟨zx.1, zx.2.pre ⟨ac.1.1, ac.1.2, ac.2.2⟩ ⟨w25, by omega, lo25⟩⟩)⟩
      · have hs6 : s (N 0 0 41) = 43 ∨ s (N 0 0 41) = 45 ∨ s (N 0 0 41) = 46 ∨ s (N 0 0 41) = 61 ∨ s (N 0 0 41) = 103 ∨ s (N 0 0 41) = 104 := by omega
        obtain ⟨M2, run2, ⟨i2, k2, hA2⟩, ac⟩ := RunN.of (y_act1 (fu := fu) hr iM hAB hst (s := s (N 0 0 41)) hs6) (y_act1X (fu := fu) hr iM hAB hst (s := s (N 0 0 41)) hs6 hL)
        refine wp_b (x_marks2 (l := l) i13 v10 (jm_inL (by omega) (by omega)) (by omega) (by omega)) (fun v26 N27 h27 => ?_)
        obtain ⟨-, p27, e27, mk27, -, -⟩ := h27
        obtain ⟨n27, v27⟩ := MK1 mk27
        have w27 : N27 0 0 42 = N 0 0 42 := p27.w42.trans w13
        have v27' : N27 35 0 (100 * N 0 0 42 + nn N) = s (N 0 0 41) := by rw [← w13, ← n13, v27, e10]
        have lo27 : ∀ j : Int, j < 100 * N 0 0 42 + nn N → N27 35 0 j = N 35 0 j := fun j y => by rw [p27.low (by rw [w13, n13]; exact y), f13]
        have act2 := hact.step ac w27 (by omega) v27' lo27 ⟨by omega, by omega⟩
        refine wp_mono (ih N27 M2 1 cmp dg C p27.1 (by omega) (by omega) (p27.tape hT13) i2 (Or.inr ⟨rfl, hA2⟩) (by omega) (by rw [ac.1.1]; exact hL) act2 (by omega)) (fun v N1 z hv => ?_)
        obtain ⟨z1, z2⟩ := z hv
        exact ⟨by omega, z2.pre (n := 1) (by omega) run2 k2 (fun X x zx => ⟨zx.1, zx.2.pre ⟨ac.1.1, ac.1.2, ac.2.2⟩ ⟨w27, by omega, lo27⟩⟩)⟩
