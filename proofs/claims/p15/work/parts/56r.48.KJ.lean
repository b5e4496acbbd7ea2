/-! told beside the race: lines lost, findings, options, rules -/
def LX (M N : jm_M) : Prop := (∀ i : Int, 0 ≤ i → i < 5 → M 16 0 i = N 3 0 i) ∧ N 3 0 (N 0 0 1 - 1) = 0
def FXR (M N : jm_M) : Prop := ∀ j : Int, 0 ≤ j → j < N 0 0 75 → M 19 32 (4 * j) = N 63 0 j ∧ M 19 32 (4 * j + 1) = N 64 0 j ∧ M 19 32 (4 * j + 2) = N 65 0 j ∧ M 19 32 (4 * j + 3) = N 66 0 j ∧ 0 ≤ N 63 0 j
def OPX (M N : jm_M) : Prop := ∀ c : Int, 0 ≤ c → c < N 0 0 17 → ∀ j : Int, 0 ≤ j → j < N 31 0 c → M 19 (c + 18) (2 * j) = N 32 0 (4 * c + j) ∧ M 19 (c + 18) (2 * j + 1) = N 33 0 (4 * c + j) ∧ (-1 ≤ N 32 0 (4 * c + j) ∧ N 32 0 (4 * c + j) ≤ N 0 0 2 - 2) ∧ (-1 ≤ N 33 0 (4 * c + j) ∧ N 33 0 (4 * c + j) ≤ 3)
def RRX (M N : jm_M) : Prop := ∀ i : Int, 0 ≤ i → i < N 0 0 72 → M 35 0 i = N 61 0 i ∧ RT 1 M N (M 48 0 i) (100 * (6 + i)) (N 36 0 (6 + i)) (N 62 0 i)
def CLX (N : jm_M) : Prop := ∀ c : Int, 0 ≤ c → c < N 0 0 17 → 0 ≤ N 17 0 c
def IR (M N : jm_M) : Prop := LX M N ∧ FXR M N ∧ OPX M N ∧ RRX M N ∧ CLX N
theorem CLX.kk {N N1 : jm_M} (h : CLX N) (e17 : N1 0 0 17 = N 0 0 17) (kN : ∀ c : Int, N1 17 0 c = N 17 0 c) : CLX N1 := fun c y1 y2 => by
  rw [e17] at y2
  rw [kN c]
  exact h c y1 y2
theorem LX.kk {M N M1 N1 : jm_M} (h : LX M N) (kM : ∀ i : Int, M1 16 0 i = M 16 0 i) (kN : ∀ k : Int, N1 3 0 k = N 3 0 k) (e : N1 0 0 1 = N 0 0 1) : LX M1 N1 :=
  ⟨fun i y1 y2 => by rw [kM i, kN i]; exact h.1 i y1 y2, by rw [e, kN]; exact h.2⟩
theorem FXR.kk {M N M1 N1 : jm_M} (h : FXR M N) (kM : ∀ k : Int, M1 19 32 k = M 19 32 k) (kN : ∀ (f : Nat) (k : Int), 63 ≤ f → f ≤ 66 → N1 f 0 k = N f 0 k) (e : N1 0 0 75 = N 0 0 75) : FXR M1 N1 := by
  intro j y1 y2
  rw [e] at y2
  rw [kM (4 * j), kM (4 * j + 1), kM (4 * j + 2), kM (4 * j + 3), kN 63 j (by decide) (by decide), kN 64 j (by decide) (by decide), kN 65 j (by decide) (by decide), kN 66 j (by decide) (by decide)]
  exact h j y1 y2
theorem OPX.kk {M N M1 N1 : jm_M} (h : OPX M N) (b17 : N 0 0 17 ≤ 6) (kM : ∀ (i k : Int), 18 ≤ i → i < 24 → M1 19 i k = M 19 i k) (kN : ∀ (f : Nat) (k : Int), 31 ≤ f → f ≤ 33 → N1 f 0 k = N f 0 k) (e2 : N1 0 0 2 = N 0 0 2) (e : N1 0 0 17 = N 0 0 17) : OPX M1 N1 := by
  intro c y1 y2 j y3 y4
  rw [e] at y2
  rw [kN 31 c (by decide) (by decide)] at y4
  rw [kM (c + 18) (2 * j) (by omega) (by omega), kM (c + 18) (2 * j + 1) (by omega) (by omega), kN 32 (4 * c + j) (by decide) (by decide), kN 33 (4 * c + j) (by decide) (by decide), e2]
  exact h c y1 y2 j y3 y4
theorem RT.mv {u t a len sec d : Int} {M N M1 N1 : jm_M} (h : RT u M N t a len sec) (fm : ∀ (f : Nat) (k : Int), CTX f 0 0 → M1 f t k = M f t k) (kn : ∀ k : Int, a ≤ k → k < a + len → N1 35 0 (k + d) = N 35 0 k) : RT u M1 N1 t (a + d) len sec := by
  obtain ⟨⟨h1, h2, h3, h4⟩, h5, h6, h7⟩ := h
  refine ⟨⟨by rw [fm 11 6 (by unfold CTX; omega)]; exact h1, by rw [fm 21 0 (by unfold CTX; omega)]; exact h2, h3, h4⟩, ?_, fun j y1 y2 => ?_, by rw [fm 11 7 (by unfold CTX; omega)]; exact h7⟩
  · rw [hg_shift (c := N 35 0) (d := N1 35 0) len.toNat a (a + d) 0 (fun j y1 y2 => by rw [show a + d + j = a + j + d by omega]; exact kn (a + j) (by omega) (by omega))]
    exact h5
  · rw [fm 20 j (by unfold CTX; omega), show a + d + j = a + j + d by omega, kn (a + j) (by omega) (by omega)]
    exact h6 j y1 y2
theorem RT.kk {u t a len sec : Int} {M N M1 N1 : jm_M} (h : RT u M N t a len sec) (fm : ∀ (f : Nat) (k : Int), CTX f 0 0 → M1 f t k = M f t k) (kn : ∀ k : Int, a ≤ k → k < a + len → N1 35 0 k = N 35 0 k) : RT u M1 N1 t a len sec := by
  have z := h.mv (d := 0) (N1 := N1) fm (fun k y1 y2 => by rw [Int.add_zero]; exact kn k y1 y2)
  rw [Int.add_zero] at z
  exact z
theorem RRX.kk {M N M1 N1 : jm_M} (h : RRX M N) (iN : bI bx2 N) (e72 : N1 0 0 72 = N 0 0 72) (kM : ∀ i : Int, 0 ≤ i → i < N 0 0 72 → M1 35 0 i = M 35 0 i ∧ M1 48 0 i = M 48 0 i) (kt : ∀ (i : Int) (f : Nat) (k : Int), 0 ≤ i → i < N 0 0 72 → CTX f 0 0 → M1 f (M 48 0 i) k = M f (M 48 0 i) k) (kN : ∀ i : Int, 0 ≤ i → i < N 0 0 72 → N1 61 0 i = N 61 0 i ∧ N1 62 0 i = N 62 0 i ∧ N1 36 0 (6 + i) = N 36 0 (6 + i)) (k35 : ∀ k : Int, 600 ≤ k → k < 600 + 100 * N 0 0 72 → N1 35 0 k = N 35 0 k) : RRX M1 N1 := by
  intro i y1 y2
  rw [e72] at y2
  obtain ⟨h1, h2⟩ := h i y1 y2
  obtain ⟨a1, a2⟩ := kM i y1 y2
  obtain ⟨b1, b2, b3⟩ := kN i y1 y2
  rw [a1, a2, b1, b2, b3]
  have b36 : N 36 0 (6 + i) ≤ 100 := (iN 36 0 (6 + i)).2
  exact ⟨h1, h2.kk (fun f k q => kt i f k y1 y2 q) (fun k q1 q2 => k35 k (by omega) (by omega))⟩
/-- what both hold of it, texts apart -/
def X1 (f : Nat) (i _ : Int) : Prop := f = 16 ∨ f = 35 ∨ f = 48 ∨ (f = 19 ∧ ((18 ≤ i ∧ i < 24) ∨ i = 32))
def X2 (f : Nat) (i k : Int) : Prop := i = 0 ∧ (f = 3 ∨ f = 17 ∨ (f = 0 ∧ (k = 1 ∨ k = 2 ∨ k = 17 ∨ k = 72 ∨ k = 75)) ∨ (31 ≤ f ∧ f ≤ 33) ∨ (61 ≤ f ∧ f ≤ 66) ∨ (f = 35 ∧ 600 ≤ k ∧ k < 1600) ∨ (f = 36 ∧ 6 ≤ k ∧ k < 16))
def X3 (n : Int) (f : Nat) (k : Int) : Prop := X2 f 0 k ∧ ¬ (f = 35 ∧ 600 + 100 * n ≤ k) ∧ ¬ (f = 36 ∧ 6 + n ≤ k) ∧ ¬ ((f = 61 ∨ f = 62) ∧ n ≤ k)
theorem IR.kw {M N M1 N1 : jm_M} (h : IR M N) (iN : bI bx2 N) (kM : Kp X1 M M1) (kt : ∀ (i : Int) (f : Nat) (k : Int), 0 ≤ i → i < 10 → CTX f 0 0 → M1 f (M 48 0 i) k = M f (M 48 0 i) k) (kN : ∀ (f : Nat) (k : Int), X3 (N 0 0 72) f k → N1 f 0 k = N f 0 k) : IR M1 N1 := by
  have b17 : 0 ≤ N 0 0 17 ∧ N 0 0 17 ≤ 6 := iN 0 0 17
  have b72 : 0 ≤ N 0 0 72 ∧ N 0 0 72 ≤ 10 := iN 0 0 72
  exact ⟨h.1.kk (fun i => kM 16 0 i (by unfold X1; omega)) (fun k => kN 3 k (by unfold X3 X2; omega)) (kN 0 1 (by unfold X3 X2; omega)), h.2.1.kk (fun k => kM 19 32 k (by unfold X1; omega)) (fun f k y1 y2 => kN f k (by unfold X3 X2; omega)) (kN 0 75 (by unfold X3 X2; omega)), h.2.2.1.kk b17.2 (fun i k y1 y2 => kM 19 i k (by unfold X1; omega)) (fun f k y1 y2 => kN f k (by unfold X3 X2; omega)) (kN 0 2 (by unfold X3 X2; omega)) (kN 0 17 (by unfold X3 X2; omega)), h.2.2.2.1.kk iN (kN 0 72 (by unfold X3 X2; omega)) (fun i y1 y2 => ⟨kM 35 0 i (by unfold X1; omega), kM 48 0 i (by unfold X1; omega)⟩) (fun i f k y1 y2 q => kt i f k y1 (by omega) q) (fun i y1 y2 => ⟨kN 61 i (by unfold X3 X2; omega), kN 62 i (by unfold X3 X2; omega), kN 36 (6 + i) (by unfold X3 X2; omega)⟩) (fun k y1 y2 => kN 35 k (by unfold X3 X2; omega)), h.2.2.2.2.kk (kN 0 17 (by unfold X3 X2; omega)) (fun c => kN 17 c (by unfold X3 X2; omega))⟩
theorem IR.kk {M N M1 N1 : jm_M} (h : IR M N) (iN : bI bx2 N) (kM : Kp X1 M M1) (kt : ∀ (i : Int) (f : Nat) (k : Int), 0 ≤ i → i < 10 → CTX f 0 0 → M1 f (M 48 0 i) k = M f (M 48 0 i) k) (kN : Kp X2 N N1) : IR M1 N1 := h.kw iN kM kt (fun f k y => kN f 0 k y.1)
theorem X2.ta {N N1 : jm_M} (h : Kp TA2 N N1) : Kp X2 N N1 := h.weak (fun f i k y => by unfold X2 at y; unfold TA2; omega)
theorem X2.rl {N N1 : jm_M} (h : Kp RLX N N1) : Kp X2 N N1 := h.weak (fun f i k y => by unfold X2 at y; unfold RLX; omega)
theorem X2.r0 {N : jm_M} {v : Int} : Kp X2 N (jm_u N 0 0 0 v) := fun f i k y => jm_une (by unfold X2 at y; omega)
theorem IR.ta {M N M1 N1 : jm_M} (h : IR M N) (iN : bI bx2 N) (k1 : Kp TA M M1) (k2 : Kp X2 N N1) : IR M1 N1 := h.kk iN (k1.weak (fun f i k y => by unfold X1 at y; unfold TA; omega)) (fun i f k _ _ y => k1 f _ k (by unfold CTX at y; unfold TA; omega)) k2
theorem IR.tp {M N M1 N1 : jm_M} (h : IR M N) (iN : bI bx2 N) (k1 : Kp TP M M1) (k2 : Kp X2 N N1) : IR M1 N1 := h.kk iN (k1.weak (fun f i k y => by unfold X1 at y; unfold TP; omega)) (fun i f k _ _ y => k1 f _ k (by unfold CTX at y; unfold TP; omega)) k2
theorem IR.tam {M N M1 N1 : jm_M} (h : IR M N) (iN : bI bx2 N) (k1 : Kp TPM M M1) (k2 : Kp X2 N N1) : IR M1 N1 := h.kk iN (k1.weak (fun f i k y => by unfold X1 at y; unfold TPM; omega)) (fun i f k _ _ y => k1 f _ k (by unfold CTX at y; unfold TPM; omega)) k2
theorem IR.m7 {M N M1 N1 : jm_M} (h : IR M N) (iN : bI bx2 N) (e1 : M1 = M ∨ M1 = jm_u M 2 0 7 0) (k2 : Kp X2 N N1) : IR M1 N1 := by
  rcases e1 with e1 | e1
  · rw [e1]; exact h.kk iN Kp.rf (fun _ _ _ _ _ _ => rfl) k2
  · rw [e1]; exact h.kk iN (fun f i k y => jm_une_f (by unfold X1 at y; omega)) (fun i f k _ _ y => jm_une_f (by unfold CTX at y; omega)) k2
theorem r_rain (fu : Nat) (hfu : 4000 ≤ fu) (M N : jm_M) (iv : IW M N) (it : IT M N) (tx : TXD M) (ir : IR M N) (l1 l2 l3 : Int) (h1 : jm_in l1) (h2 : jm_in l2) (h3 : jm_in l3) : J2 (fX11_rain M l1 l2 l3) (fX12_rain N l1 l2 l3) (fun _ M1 _ N1 => IR M1 N1) := by
  have iM := iv.1.1
  have iN := iv.1.2.1
  have b5 : 0 ≤ M 2 0 5 ∧ M 2 0 5 ≤ 6 := iM 2 0 5
  have b17 : 0 ≤ N 0 0 17 ∧ N 0 0 17 ≤ 6 := iN 0 0 17
  obtain ⟨v, M1, e1, ⟨-, -, fa⟩, a⟩ := wp_and (s_fX11_rain M iM l1 l2 l3 h1 h2 h3) (cc_rain iM l1 l2 l3 h1 h2 h3)
  obtain ⟨w, N1, e2, b⟩ := dd_rain iN l1 l2 l3 h1 h2 h3
  have F : ∀ (f : Nat) (i k : Int), (X1 f i k ∨ CTX f 0 0) → M1 f i k = M f i k := fun f i k y => by
    unfold X1 CTX at y
    rcases a with (z | z) | ⟨M2, u2, p1, -, p3⟩
    · rw [z]
    · rw [z]; exact jm_une_f (by omega)
    · have e4 : M2 10 30 3 = M 10 30 3 := by rw [u2]; exact jm_une_f (by decide)
      rw [e4] at p1
      rw [p3 f i k (by omega) (by omega), u2]; exact jm_une_f (by omega)
  refine ⟨v, M1, w, N1, e1, e2, ir.kk iN (fun f i k y => F f i k (Or.inl y)) (fun i f k _ _ y => F f _ k (Or.inr y)) (fun f i k y => ?_)⟩
  unfold X2 at y
  rcases b with z | ⟨-, -, q3⟩
  · rw [z]; exact jm_une (by omega)
  · exact q3 f i k (by omega)
theorem r_flag (fu : Nat) (hfu : 4000 ≤ fu) (M N : jm_M) (iv : IW M N) (it : IT M N) (tx : TXD M) (ir : IR M N) (l1 l2 l3 l4 : Int) (h1 : jm_in l1) (h2 : jm_in l2) (h3 : jm_in l3) (h4 : jm_in l4) : J2 (fX11_flag fu M l1 l2 l3 l4) (fX12_flag fu N l1 l2 l3 l4) (fun _ M1 _ N1 => IR M1 N1) := by
  have iM := iv.1.1
  have iN := iv.1.2.1
  have b5 : 0 ≤ M 2 0 5 ∧ M 2 0 5 ≤ 6 := iM 2 0 5
  have b17 : 0 ≤ N 0 0 17 ∧ N 0 0 17 ≤ 6 := iN 0 0 17
  obtain ⟨v, M1, e1, ⟨-, -, fa⟩, a⟩ := wp_and (s_fX11_flag fu hfu M iM l1 l2 l3 l4 h1 h2 h3 h4) (cc_flag fu iM l1 l2 l3 l4 h1 h2 h3 h4)
  obtain ⟨w, N1, e2, b⟩ := dd_flag fu iN l1 l2 l3 l4 h1 h2 h3 h4
  have F : ∀ (f : Nat) (i k : Int), (X1 f i k ∨ CTX f 0 0) → M1 f i k = M f i k := fun f i k y => by
    unfold X1 CTX at y
    rcases a with (z | z) | ⟨M2, u2, p1, -, p3⟩
    · rw [z]
    · rw [z]; exact jm_une_f (by omega)
    · have e4 : M2 10 31 3 = M 10 31 3 := by rw [u2]; exact jm_une_f (by decide)
      rw [e4] at p1
      rw [p3 f i k (by omega) (by omega), u2]; exact jm_une_f (by omega)
  refine ⟨v, M1, w, N1, e1, e2, ir.kk iN (fun f i k y => F f i k (Or.inl y)) (fun i f k _ _ y => F f _ k (Or.inr y)) (fun f i k y => ?_)⟩
  unfold X2 at y
  rcases b with z | ⟨-, -, q3⟩
  · rw [z]; exact jm_une (by omega)
  · exact q3 f i k (by omega)
theorem r_tyre (fu : Nat) (hfu : 4000 ≤ fu) (M N : jm_M) (iv : IW M N) (it : IT M N) (tx : TXD M) (ir : IR M N) (l1 l2 l3 : Int) (h1 : jm_in l1) (h2 : jm_in l2) (h3 : jm_in l3) : J2 (fX11_tyre M l1 l2 l3) (fX12_tyre N l1 l2 l3) (fun _ M1 _ N1 => IR M1 N1) := by
  have iM := iv.1.1
  have iN := iv.1.2.1
  have b5 : 0 ≤ M 2 0 5 ∧ M 2 0 5 ≤ 6 := iM 2 0 5
  have b17 : 0 ≤ N 0 0 17 ∧ N 0 0 17 ≤ 6 := iN 0 0 17
  obtain ⟨v, M1, e1, ⟨-, -, fa⟩, a⟩ := wp_and (s_fX11_tyre M iM l1 l2 l3 h1 h2 h3) (cc_tyre iM l1 l2 l3 h1 h2 h3)
  obtain ⟨w, N1, e2, b⟩ := dd_tyre iN l1 l2 l3 h1 h2 h3
  have F : ∀ (f : Nat) (i k : Int), (X1 f i k ∨ CTX f 0 0) → M1 f i k = M f i k := fun f i k y => by
    unfold X1 CTX at y
    rcases a with (z | z) | ⟨M2, u2, p1, -, p3⟩
    · rw [z]
    · rw [z]; exact jm_une_f (by omega)
    · have e4 : M2 10 l1 3 = M 10 l1 3 := by rw [u2]; exact jm_une_f (by decide)
      rw [e4] at p1
      rw [p3 f i k (by omega) (by omega), u2]; exact jm_une_f (by omega)
  refine ⟨v, M1, w, N1, e1, e2, ir.kk iN (fun f i k y => F f i k (Or.inl y)) (fun i f k _ _ y => F f _ k (Or.inr y)) (fun f i k y => ?_)⟩
  unfold X2 at y
  rcases b with z | ⟨-, -, q3⟩
  · rw [z]; exact jm_une (by omega)
  · exact q3 f i k (by omega)
theorem r_order (fu : Nat) (hfu : 4000 ≤ fu) (M N : jm_M) (iv : IW M N) (it : IT M N) (tx : TXD M) (ir : IR M N) (l1 l2 l3 l4 : Int) (h1 : jm_in l1) (h2 : jm_in l2) (h3 : jm_in l3) (h4 : jm_in l4) : J2 (fX11_order fu M l1 l2 l3 l4) (fX12_order fu N l1 l2 l3 l4) (fun _ M1 _ N1 => IR M1 N1) := by
  have iM := iv.1.1
  have iN := iv.1.2.1
  have b5 : 0 ≤ M 2 0 5 ∧ M 2 0 5 ≤ 6 := iM 2 0 5
  have b17 : 0 ≤ N 0 0 17 ∧ N 0 0 17 ≤ 6 := iN 0 0 17
  obtain ⟨v, M1, e1, ⟨-, -, fa⟩, a⟩ := wp_and (s_fX11_order fu hfu M iM l1 l2 l3 l4 h1 h2 h3 h4) (cc_order fu iM l1 l2 l3 l4 h1 h2 h3 h4)
  obtain ⟨w, N1, e2, b⟩ := dd_order fu iN l1 l2 l3 l4 h1 h2 h3 h4
  have F : ∀ (f : Nat) (i k : Int), (X1 f i k ∨ CTX f 0 0) → M1 f i k = M f i k := fun f i k y => by
    unfold X1 CTX at y
    rcases a with (z | z) | ⟨M2, u2, p1, -, p3⟩
    · rw [z]
    · rw [z]; exact jm_une_f (by omega)
    · have e4 : M2 10 (l1 + 6) 3 = M 10 (l1 + 6) 3 := by rw [u2]; exact jm_une_f (by decide)
      rw [e4] at p1
      rw [p3 f i k (by omega) (by omega), u2]; exact jm_une_f (by omega)
  refine ⟨v, M1, w, N1, e1, e2, ir.kk iN (fun f i k y => F f i k (Or.inl y)) (fun i f k _ _ y => F f _ k (Or.inr y)) (fun f i k y => ?_)⟩
  unfold X2 at y
  rcases b with z | ⟨-, -, q3⟩
  · rw [z]; exact jm_une (by omega)
  · exact q3 f i k (by omega)
theorem r_stop (fu : Nat) (hfu : 4000 ≤ fu) (M N : jm_M) (iv : IW M N) (it : IT M N) (tx : TXD M) (ir : IR M N) (l1 l2 l3 l4 : Int) (h1 : jm_in l1) (h2 : jm_in l2) (h3 : jm_in l3) (h4 : jm_in l4) : J2 (fX11_stop M l1 l2 l3 l4) (fX12_stop N l1 l2 l3 l4) (fun _ M1 _ N1 => IR M1 N1) := by
  have iM := iv.1.1
  have iN := iv.1.2.1
  have b5 : 0 ≤ M 2 0 5 ∧ M 2 0 5 ≤ 6 := iM 2 0 5
  have b17 : 0 ≤ N 0 0 17 ∧ N 0 0 17 ≤ 6 := iN 0 0 17
  obtain ⟨v, M1, e1, ⟨-, -, fa⟩, a⟩ := wp_and (s_fX11_stop M iM l1 l2 l3 l4 h1 h2 h3 h4) (cc_stop iM l1 l2 l3 l4 h1 h2 h3 h4)
  obtain ⟨w, N1, e2, b⟩ := dd_stop iN l1 l2 l3 l4 h1 h2 h3 h4
  have F : ∀ (f : Nat) (i k : Int), (X1 f i k ∨ CTX f 0 0) → M1 f i k = M f i k := fun f i k y => by
    unfold X1 CTX at y
    rcases a with (z | z) | ⟨M2, u2, p1, -, p3⟩
    · rw [z]
    · rw [z]; exact jm_une_f (by omega)
    · have e4 : M2 10 (l1 + 12) 3 = M 10 (l1 + 12) 3 := by rw [u2]; exact jm_une_f (by decide)
      rw [e4] at p1
      rw [p3 f i k (by omega) (by omega), u2]; exact jm_une_f (by omega)
  refine ⟨v, M1, w, N1, e1, e2, ir.kk iN (fun f i k y => F f i k (Or.inl y)) (fun i f k _ _ y => F f _ k (Or.inr y)) (fun f i k y => ?_)⟩
  unfold X2 at y
  rcases b with z | ⟨-, -, q3⟩
  · rw [z]; exact jm_une (by omega)
  · exact q3 f i k (by omega)
theorem r_sector (fu : Nat) (hfu : 4000 ≤ fu) (M N : jm_M) (iv : IW M N) (it : IT M N) (tx : TXD M) (ir : IR M N) (l1 l2 l3 : Int) (h1 : jm_in l1) (h2 : jm_in l2) (h3 : jm_in l3) : J2 (fX11_sector M l1 l2 l3) (fX12_sector N l1 l2 l3) (fun _ M1 _ N1 => IR M1 N1) := by
  have iM := iv.1.1
  have iN := iv.1.2.1
  have b5 : 0 ≤ M 2 0 5 ∧ M 2 0 5 ≤ 6 := iM 2 0 5
  have b17 : 0 ≤ N 0 0 17 ∧ N 0 0 17 ≤ 6 := iN 0 0 17
  obtain ⟨v, M1, e1, a⟩ := cc_sector iM l1 l2 l3 h1 h2 h3
  obtain ⟨w, N1, e2, b⟩ := dd_sector iN l1 l2 l3 h1 h2 h3
  have F : ∀ (f : Nat) (i k : Int), (X1 f i k ∨ CTX f 0 0) → M1 f i k = M f i k := fun f i k y => by
    unfold X1 CTX at y
    rcases a with ⟨-, z⟩ | ⟨-, z⟩
    · rw [z]
    · rw [z, jm_une_f (by omega), jm_une_f (by omega), jm_une_f (by omega)]
  refine ⟨v, M1, w, N1, e1, e2, ir.kk iN (fun f i k y => F f i k (Or.inl y)) (fun i f k _ _ y => F f _ k (Or.inr y)) (fun f i k y => ?_)⟩
  unfold X2 at y
  rcases b with ⟨-, z⟩ | ⟨-, z⟩
  · rw [z]; exact jm_une (by omega)
  · rw [z, jm_une (by omega), jm_une (by omega), jm_une (by omega)]
theorem r_tyres (fu : Nat) (hfu : 4000 ≤ fu) (M N : jm_M) (iv : IW M N) (it : IT M N) (tx : TXD M) (ir : IR M N) (l1 l2 l3 : Int) (h1 : jm_in l1) (h2 : jm_in l2) (h3 : jm_in l3) : J2 (fX11_tyres M l1 l2 l3) (fX12_tyres N l1 l2 l3) (fun _ M1 _ N1 => IR M1 N1) := by
  have iM := iv.1.1
  have iN := iv.1.2.1
  have b5 : 0 ≤ M 2 0 5 ∧ M 2 0 5 ≤ 6 := iM 2 0 5
  have b17 : 0 ≤ N 0 0 17 ∧ N 0 0 17 ≤ 6 := iN 0 0 17
  obtain ⟨v, M1, e1, a⟩ := cc_tyres iM l1 l2 l3 h1 h2 h3
  obtain ⟨w, N1, e2, b⟩ := dd_tyres iN l1 l2 l3 h1 h2 h3
  have F : ∀ (f : Nat) (i k : Int), (X1 f i k ∨ CTX f 0 0) → M1 f i k = M f i k := fun f i k y => by
    unfold X1 CTX at y
    rcases a with ⟨-, z⟩ | ⟨-, z⟩
    · rw [z]
    · rw [z, jm_une_f (by omega), jm_une_f (by omega)]
  refine ⟨v, M1, w, N1, e1, e2, ir.kk iN (fun f i k y => F f i k (Or.inl y)) (fun i f k _ _ y => F f _ k (Or.inr y)) (fun f i k y => ?_)⟩
  unfold X2 at y
  rcases b with ⟨-, z⟩ | ⟨-, z⟩
  · rw [z]; exact jm_une (by omega)
  · rw [z, jm_une (by omega), jm_une (by omega)]
theorem r_setn (fu : Nat) (hfu : 4000 ≤ fu) (M N : jm_M) (iv : IW M N) (it : IT M N) (tx : TXD M) (ir : IR M N) (l1 l2 : Int) (h1 : jm_in l1) (h2 : jm_in l2) : J2 (fX11_set M l1 l2) (fX12_set fu N l1 l2) (fun _ M1 _ N1 => IR M1 N1) := by
  have iM := iv.1.1
  have iN := iv.1.2.1
  have b5 : 0 ≤ M 2 0 5 ∧ M 2 0 5 ≤ 6 := iM 2 0 5
  have b17 : 0 ≤ N 0 0 17 ∧ N 0 0 17 ≤ 6 := iN 0 0 17
  obtain ⟨v, M1, e1, a⟩ := cc_set iM l1 l2 h1 h2
  obtain ⟨w, N1, e2, b⟩ := dd_set fu iN l1 l2 h1 h2
  have F : ∀ (f : Nat) (i k : Int), (X1 f i k ∨ CTX f 0 0) → M1 f i k = M f i k := fun f i k y => by
    unfold X1 CTX at y
    rcases a with ⟨-, z⟩ | ⟨-, z⟩
    · rw [z]
    · rw [z, jm_une_f (by omega), jm_une_f (by omega)]
  refine ⟨v, M1, w, N1, e1, e2, ir.kk iN (fun f i k y => F f i k (Or.inl y)) (fun i f k _ _ y => F f _ k (Or.inr y)) (fun f i k y => ?_)⟩
  unfold X2 at y
  rcases b with ⟨-, z⟩ | ⟨-, z⟩
  · rw [z]; exact jm_une (by omega)
  · rw [z, jm_une (by omega), jm_une (by omega)]
theorem r_unplan (fu : Nat) (hfu : 4000 ≤ fu) (M N : jm_M) (iv : IW M N) (it : IT M N) (tx : TXD M) (ir : IR M N) (l1 : Int) (h1 : jm_in l1) : J2 (fX11_unplan M l1) (fX12_unplan fu N l1) (fun _ M1 _ N1 => IR M1 N1) := by
  have iM := iv.1.1
  have iN := iv.1.2.1
  have b5 : 0 ≤ M 2 0 5 ∧ M 2 0 5 ≤ 6 := iM 2 0 5
  have b17 : 0 ≤ N 0 0 17 ∧ N 0 0 17 ≤ 6 := iN 0 0 17
  obtain ⟨v, M1, e1, a⟩ := cc_unplan iM l1 h1
  obtain ⟨w, N1, e2, b⟩ := dd_unplan fu iN l1 h1
  have F : ∀ (f : Nat) (i k : Int), (X1 f i k ∨ CTX f 0 0) → M1 f i k = M f i k := fun f i k y => by
    unfold X1 CTX at y
    rcases a with ⟨-, z⟩ | ⟨-, z⟩
    · rw [z]
    · rw [z, jm_une_f (by omega), jm_une_f (by omega)]
  refine ⟨v, M1, w, N1, e1, e2, ir.kk iN (fun f i k y => F f i k (Or.inl y)) (fun i f k _ _ y => F f _ k (Or.inr y)) (fun f i k y => ?_)⟩
  unfold X2 at y
  rcases b with ⟨-, z⟩ | ⟨-, z⟩
  · rw [z]; exact jm_une (by omega)
  · rw [z, jm_une (by omega), jm_une (by omega)]
theorem r_drop (fu : Nat) (hfu : 4000 ≤ fu) (M N : jm_M) (iv : IW M N) (it : IT M N) (tx : TXD M) (ir : IR M N) (l1 l2 : Int) (h1 : jm_in l1) (h2 : jm_in l2) : J2 (fX11_drop fu M l1 l2) (fX12_drop fu N l1 l2) (fun _ M1 _ N1 => IR M1 N1) := by
  have iM := iv.1.1
  have iN := iv.1.2.1
  have b5 : 0 ≤ M 2 0 5 ∧ M 2 0 5 ≤ 6 := iM 2 0 5
  have b17 : 0 ≤ N 0 0 17 ∧ N 0 0 17 ≤ 6 := iN 0 0 17
  obtain ⟨v, M1, e1, a⟩ := cc_drop fu hfu iM l1 l2 h1 h2
  obtain ⟨w, N1, e2, b⟩ := dd_drop fu hfu iN l1 l2 h1 h2
  have F : ∀ (f : Nat) (i k : Int), (X1 f i k ∨ CTX f 0 0) → M1 f i k = M f i k := fun f i k y => by
    unfold X1 CTX at y
    rcases a with ⟨-, z⟩ | ⟨c, -, -, z⟩
    · rw [z]
    · rw [z f i k (by omega) (by omega)]; exact jm_une_f (by omega)
  refine ⟨v, M1, w, N1, e1, e2, ir.kk iN (fun f i k y => F f i k (Or.inl y)) (fun i f k _ _ y => F f _ k (Or.inr y)) (fun f i k y => ?_)⟩
  unfold X2 at y
  rcases b with ⟨-, z⟩ | ⟨-, -, -, z⟩
  · rw [z]; exact jm_une (by omega)
  · rw [z f i k (by omega) (by omega)]; exact jm_une (by omega)
theorem r_sign (fu : Nat) (hfu : 4000 ≤ fu) (M N : jm_M) (iv : IW M N) (it : IT M N) (tx : TXD M) (ir : IR M N) (l1 : Int) (h1 : jm_in l1) : J2 (fX11_sign fu M l1) (fX12_sign fu N l1) (fun _ M1 _ N1 => IR M1 N1) := by
  have iM := iv.1.1
  have iN := iv.1.2.1
  have b5 : 0 ≤ M 2 0 5 ∧ M 2 0 5 ≤ 6 := iM 2 0 5
  have b17 : 0 ≤ N 0 0 17 ∧ N 0 0 17 ≤ 6 := iN 0 0 17
  obtain ⟨v, M1, e1, c1⟩ := c_sign fu hfu M iM l1
  obtain ⟨w, N1, e2, c2⟩ := d_signk fu hfu N iN l1
  exact ⟨v, M1, w, N1, e1, e2, ir.kk iN (fun f i k y => c1.1 f i k (by unfold X1 at y; exact ⟨by omega, by omega⟩)) (fun i f k _ _ y => c1.1 f _ k (by unfold CTX at y; exact ⟨by omega, by omega⟩)) (fun f i k y => c2 f i k (by unfold X2 at y; unfold KSG; omega))⟩
theorem r_end (fu : Nat) (hfu : 4000 ≤ fu) (M N : jm_M) (iv : IW M N) (it : IT M N) (tx : TXD M) (ir : IR M N) (l1 : Int) (h1 : jm_in l1) : J2 (fX11_end M l1) (fX12_end N l1) (fun _ M1 _ N1 => IR M1 N1) := by
  have iM := iv.1.1
  have iN := iv.1.2.1
  have b5 : 0 ≤ M 2 0 5 ∧ M 2 0 5 ≤ 6 := iM 2 0 5
  have b17 : 0 ≤ N 0 0 17 ∧ N 0 0 17 ≤ 6 := iN 0 0 17
  obtain ⟨v, M1, e1, c1⟩ := c_end M l1
  obtain ⟨w, N1, e2, c2⟩ := d_endk N iN l1 h1
  exact ⟨v, M1, w, N1, e1, e2, ir.kk iN (fun f i k y => c1 f i k (by unfold X1 at y; omega)) (fun i f k _ _ y => c1 f _ k (by unfold CTX at y; omega)) (fun f i k y => c2 f i k (by unfold X2 at y; unfold KEN; omega))⟩
theorem r_of (fu : Nat) (hfu : 4000 ≤ fu) (M N : jm_M) (iv : IW M N) (it : IT M N) (tx : TXD M) (ir : IR M N) (l1 l2 : Int) (h1 : jm_in l1) (h2 : jm_in l2) : J2 (fX11_of fu M l1 l2) (fX12_of fu N l1 l2) (fun _ M1 _ N1 => IR M1 N1) := by
  have iM := iv.1.1
  have iN := iv.1.2.1
  have b5 : 0 ≤ M 2 0 5 ∧ M 2 0 5 ≤ 6 := iM 2 0 5
  have b17 : 0 ≤ N 0 0 17 ∧ N 0 0 17 ≤ 6 := iN 0 0 17
  obtain ⟨v, M1, e1, -, k1, -⟩ := s_fX11_of fu hfu M iM l1 l2 h1 h2
  obtain ⟨w, N1, e2, -, k2, -⟩ := s_fX12_of fu hfu N iN l1 l2 h1 h2 iv.1.2.2.1
  exact ⟨v, M1, w, N1, e1, e2, ir.ta iN k1 (X2.ta k2)⟩
theorem r_at (fu : Nat) (hfu : 4000 ≤ fu) (M N : jm_M) (iv : IW M N) (it : IT M N) (tx : TXD M) (ir : IR M N) (l1 l2 l3 : Int) (h1 : jm_in l1) (h2 : jm_in l2) (h3 : jm_in l3) : J2 (fX11_at fu M l1 l2 l3) (fX12_at fu N l1 l2 l3) (fun _ M1 _ N1 => IR M1 N1) := by
  have iM := iv.1.1
  have iN := iv.1.2.1
  have b5 : 0 ≤ M 2 0 5 ∧ M 2 0 5 ≤ 6 := iM 2 0 5
  have b17 : 0 ≤ N 0 0 17 ∧ N 0 0 17 ≤ 6 := iN 0 0 17
  obtain ⟨v, M1, e1, -, k1, -⟩ := s_fX11_at fu hfu M iM l1 l2 l3 h1 h2 h3
  obtain ⟨w, N1, e2, -, k2, -⟩ := s_fX12_at fu hfu N iN l1 l2 l3 h1 h2 h3 iv.1.2.2.1
  exact ⟨v, M1, w, N1, e1, e2, ir.ta iN k1 (X2.ta k2)⟩
theorem r_led (fu : Nat) (hfu : 4000 ≤ fu) (M N : jm_M) (iv : IW M N) (it : IT M N) (tx : TXD M) (ir : IR M N) (l1 l2 : Int) (h1 : jm_in l1) (h2 : jm_in l2) : J2 (fX11_led fu M l1 l2) (fX12_led fu N l1 l2) (fun _ M1 _ N1 => IR M1 N1) := by
  have iM := iv.1.1
  have iN := iv.1.2.1
  have b5 : 0 ≤ M 2 0 5 ∧ M 2 0 5 ≤ 6 := iM 2 0 5
  have b17 : 0 ≤ N 0 0 17 ∧ N 0 0 17 ≤ 6 := iN 0 0 17
  obtain ⟨v, M1, e1, -, k1, -⟩ := s_fX11_led fu hfu M iM l1 l2 h1 h2
  obtain ⟨w, N1, e2, -, k2, -⟩ := s_fX12_led fu hfu N iN l1 l2 h1 h2 iv.1.2.2.1
  exact ⟨v, M1, w, N1, e1, e2, ir.ta iN k1 (X2.ta k2)⟩
theorem r_waited (fu : Nat) (hfu : 4000 ≤ fu) (M N : jm_M) (iv : IW M N) (it : IT M N) (tx : TXD M) (ir : IR M N) (l1 : Int) (h1 : jm_in l1) : J2 (fX11_waited fu M l1) (fX12_waited fu N l1) (fun _ M1 _ N1 => IR M1 N1) := by
  have iM := iv.1.1
  have iN := iv.1.2.1
  have b5 : 0 ≤ M 2 0 5 ∧ M 2 0 5 ≤ 6 := iM 2 0 5
  have b17 : 0 ≤ N 0 0 17 ∧ N 0 0 17 ≤ 6 := iN 0 0 17
  obtain ⟨v, M1, e1, -, k1, -⟩ := s_fX11_waited fu hfu M iM l1 h1
  obtain ⟨w, N1, e2, -, k2, -⟩ := s_fX12_waited fu hfu N iN l1 h1 iv.1.2.2.1
  exact ⟨v, M1, w, N1, e1, e2, ir.ta iN k1 (X2.ta k2)⟩
theorem r_leads (fu : Nat) (hfu : 4000 ≤ fu) (M N : jm_M) (iv : IW M N) (it : IT M N) (tx : TXD M) (ir : IR M N) : J2 (fX11_leads fu M) (fX12_leads fu N) (fun _ M1 _ N1 => IR M1 N1) := by
  have iM := iv.1.1
  have iN := iv.1.2.1
  have b5 : 0 ≤ M 2 0 5 ∧ M 2 0 5 ≤ 6 := iM 2 0 5
  have b17 : 0 ≤ N 0 0 17 ∧ N 0 0 17 ≤ 6 := iN 0 0 17
  obtain ⟨v, M1, e1, -, k1, -⟩ := s_fX11_leads fu hfu M iM
  obtain ⟨w, N1, e2, -, k2, -⟩ := s_fX12_leads fu hfu N iN iv.1.2.2.1
  exact ⟨v, M1, w, N1, e1, e2, ir.ta iN k1 (X2.ta k2)⟩
theorem r_seconds (fu : Nat) (hfu : 4000 ≤ fu) (M N : jm_M) (iv : IW M N) (it : IT M N) (tx : TXD M) (ir : IR M N) (l1 l2 : Int) (h1 : jm_in l1) (h2 : jm_in l2) : J2 (fX11_seconds fu M l1 l2) (fX12_seconds fu N l1 l2) (fun _ M1 _ N1 => IR M1 N1) := by
  have iM := iv.1.1
  have iN := iv.1.2.1
  have b5 : 0 ≤ M 2 0 5 ∧ M 2 0 5 ≤ 6 := iM 2 0 5
  have b17 : 0 ≤ N 0 0 17 ∧ N 0 0 17 ≤ 6 := iN 0 0 17
  obtain ⟨v, M1, e1, -, k1, -⟩ := s_fX11_seconds fu hfu M iM l1 l2 h1 h2
  obtain ⟨w, N1, e2, -, k2, -⟩ := s_fX12_seconds fu hfu N iN l1 l2 h1 h2 iv.1.2.2.1
  exact ⟨v, M1, w, N1, e1, e2, ir.ta iN k1 (X2.ta k2)⟩
theorem r_place (fu : Nat) (hfu : 4000 ≤ fu) (M N : jm_M) (iv : IW M N) (it : IT M N) (tx : TXD M) (ir : IR M N) (l1 l2 : Int) (h1 : jm_in l1) (h2 : jm_in l2) : J2 (fX11_place fu M l1 l2) (fX12_place fu N l1 l2) (fun _ M1 _ N1 => IR M1 N1) := by
  have iM := iv.1.1
  have iN := iv.1.2.1
  have b5 : 0 ≤ M 2 0 5 ∧ M 2 0 5 ≤ 6 := iM 2 0 5
  have b17 : 0 ≤ N 0 0 17 ∧ N 0 0 17 ≤ 6 := iN 0 0 17
  obtain ⟨v, M1, e1, -, k1, -⟩ := s_fX11_place fu hfu M iM l1 l2 h1 h2
  obtain ⟨w, N1, e2, -, k2, -⟩ := s_fX12_place fu hfu N iN l1 l2 h1 h2 iv.1.2.2.1
  exact ⟨v, M1, w, N1, e1, e2, ir.ta iN k1 (X2.ta k2)⟩
theorem r_sum (fu : Nat) (hfu : 4000 ≤ fu) (M N : jm_M) (iv : IW M N) (it : IT M N) (tx : TXD M) (ir : IR M N) (l1 l2 : Int) (h1 : jm_in l1) (h2 : jm_in l2) : J2 (fX11_sum fu M l1 l2) (fX12_sum fu N l1 l2) (fun _ M1 _ N1 => IR M1 N1) := by
  have iM := iv.1.1
  have iN := iv.1.2.1
  have b5 : 0 ≤ M 2 0 5 ∧ M 2 0 5 ≤ 6 := iM 2 0 5
  have b17 : 0 ≤ N 0 0 17 ∧ N 0 0 17 ≤ 6 := iN 0 0 17
  obtain ⟨v, M1, e1, -, k1, -⟩ := s_fX11_sum fu hfu M iM l1 l2 h1 h2
  obtain ⟨w, N1, e2, -, k2, -⟩ := s_fX12_sum fu hfu N iN l1 l2 h1 h2 iv.1.2.2.1
  exact ⟨v, M1, w, N1, e1, e2, ir.ta iN k1 (X2.ta k2)⟩
theorem r_within (fu : Nat) (hfu : 4000 ≤ fu) (M N : jm_M) (iv : IW M N) (it : IT M N) (tx : TXD M) (ir : IR M N) (l1 l2 : Int) (h1 : jm_in l1) (h2 : jm_in l2) : J2 (fX11_within fu M l1 l2) (fX12_within fu N l1 l2) (fun _ M1 _ N1 => IR M1 N1) := by
  have iM := iv.1.1
  have iN := iv.1.2.1
  have b5 : 0 ≤ M 2 0 5 ∧ M 2 0 5 ≤ 6 := iM 2 0 5
  have b17 : 0 ≤ N 0 0 17 ∧ N 0 0 17 ≤ 6 := iN 0 0 17
  obtain ⟨v, M1, e1, -, k1, -⟩ := s_fX11_within fu hfu M iM l1 l2 h1 h2
  obtain ⟨w, N1, e2, -, k2, -⟩ := s_fX12_within fu hfu N iN l1 l2 h1 h2 iv.1.2.2.1
  exact ⟨v, M1, w, N1, e1, e2, ir.ta iN k1 (X2.ta k2)⟩
theorem r_knownn (fu : Nat) (hfu : 4000 ≤ fu) (M N : jm_M) (iv : IW M N) (it : IT M N) (tx : TXD M) (ir : IR M N) (l1 l2 l3 l4 : Int) (h1 : jm_in l1) (h2 : jm_in l2) (h3 : jm_in l3) (h4 : jm_in l4) : J2 (fX11_known fu M l1 l2 l3 l4) (fX12_known fu N l1 l2 l3 l4) (fun _ M1 _ N1 => IR M1 N1) := by
  have iM := iv.1.1
  have iN := iv.1.2.1
  have b5 : 0 ≤ M 2 0 5 ∧ M 2 0 5 ≤ 6 := iM 2 0 5
  have b17 : 0 ≤ N 0 0 17 ∧ N 0 0 17 ≤ 6 := iN 0 0 17
  obtain ⟨v, M1, e1, -, k1, -⟩ := s_fX11_known fu hfu M iM l1 l2 l3 l4 h1 h2 h3 h4
  obtain ⟨w, N1, e2, -, k2, -⟩ := s_fX12_known fu hfu N iN l1 l2 l3 l4 h1 h2 h3 h4 iv.1.2.2.1
  exact ⟨v, M1, w, N1, e1, e2, ir.ta iN k1 (X2.ta k2)⟩
theorem r_ahead (fu : Nat) (hfu : 4000 ≤ fu) (M N : jm_M) (iv : IW M N) (it : IT M N) (tx : TXD M) (ir : IR M N) (l1 l2 l3 l4 : Int) (h1 : jm_in l1) (h2 : jm_in l2) (h3 : jm_in l3) (h4 : jm_in l4) : J2 (fX11_ahead fu M l1 l2 l3 l4) (fX12_ahead fu N l1 l2 l3 l4) (fun _ M1 _ N1 => IR M1 N1) := by
  have iM := iv.1.1
  have iN := iv.1.2.1
  have b5 : 0 ≤ M 2 0 5 ∧ M 2 0 5 ≤ 6 := iM 2 0 5
  have b17 : 0 ≤ N 0 0 17 ∧ N 0 0 17 ≤ 6 := iN 0 0 17
  obtain ⟨v, M1, e1, -, k1, -⟩ := s_fX11_ahead fu hfu M iM l1 l2 l3 l4 h1 h2 h3 h4
  obtain ⟨w, N1, e2, -, k2, -⟩ := s_fX12_ahead fu hfu N iN l1 l2 l3 l4 h1 h2 h3 h4 iv.1.2.2.1
  exact ⟨v, M1, w, N1, e1, e2, ir.ta iN k1 (X2.ta k2)⟩
theorem r_wall (fu : Nat) (hfu : 4000 ≤ fu) (M N : jm_M) (iv : IW M N) (it : IT M N) (tx : TXD M) (ir : IR M N) (l1 l2 : Int) (h1 : jm_in l1) (h2 : jm_in l2) : J2 (fX11_wall fu M l1 l2) (fX12_wall fu N l1 l2) (fun _ M1 _ N1 => IR M1 N1) := by
  have iM := iv.1.1
  have iN := iv.1.2.1
  have b5 : 0 ≤ M 2 0 5 ∧ M 2 0 5 ≤ 6 := iM 2 0 5
  have b17 : 0 ≤ N 0 0 17 ∧ N 0 0 17 ≤ 6 := iN 0 0 17
  obtain ⟨v, M1, e1, -, k1, -⟩ := s_fX11_wall fu hfu M iM l1 l2 h1 h2
  obtain ⟨w, N1, e2, -, k2, -⟩ := s_fX12_wall fu hfu N iN l1 l2 h1 h2 iv.1.2.2.1
  exact ⟨v, M1, w, N1, e1, e2, ir.ta iN k1 (X2.ta k2)⟩
theorem r_why (fu : Nat) (hfu : 4000 ≤ fu) (M N : jm_M) (iv : IW M N) (it : IT M N) (tx : TXD M) (ir : IR M N) (l1 l2 : Int) (h1 : jm_in l1) (h2 : jm_in l2) : J2 (fX11_why fu M l1 l2) (fX12_why fu N l1 l2) (fun _ M1 _ N1 => IR M1 N1) := by
  have iM := iv.1.1
  have iN := iv.1.2.1
  have b5 : 0 ≤ M 2 0 5 ∧ M 2 0 5 ≤ 6 := iM 2 0 5
  have b17 : 0 ≤ N 0 0 17 ∧ N 0 0 17 ≤ 6 := iN 0 0 17
  obtain ⟨v, M1, e1, -, k1, -⟩ := s_fX11_why fu hfu M iM l1 l2 h1 h2
  obtain ⟨w, N1, e2, -, k2, -⟩ := s_fX12_why fu hfu N iN l1 l2 h1 h2 iv.1.2.2.1
  exact ⟨v, M1, w, N1, e1, e2, ir.ta iN k1 (X2.ta k2)⟩
theorem r_count (fu : Nat) (hfu : 4000 ≤ fu) (M N : jm_M) (iv : IW M N) (it : IT M N) (tx : TXD M) (ir : IR M N) (l1 : Int) (h1 : jm_in l1) : J2 (fX11_count fu M l1) (fX12_count fu N l1) (fun _ M1 _ N1 => IR M1 N1) := by
  have iM := iv.1.1
  have iN := iv.1.2.1
  have b5 : 0 ≤ M 2 0 5 ∧ M 2 0 5 ≤ 6 := iM 2 0 5
  have b17 : 0 ≤ N 0 0 17 ∧ N 0 0 17 ≤ 6 := iN 0 0 17
  obtain ⟨v, M1, e1, c1⟩ := s_fX11_count fu hfu M iM l1 h1
  obtain ⟨w, N1, e2, c2⟩ := s_fX12_count fu hfu N iN l1 h1
  exact ⟨v, M1, w, N1, e1, e2, ir.m7 iN (Or.inl c1.1) (X2.ta c2.2.1)⟩
theorem r_row (fu : Nat) (hfu : 4000 ≤ fu) (M N : jm_M) (iv : IW M N) (it : IT M N) (tx : TXD M) (ir : IR M N) (l1 : Int) (h1 : jm_in l1) : J2 (fX11_row M l1) (fX12_row N l1) (fun _ M1 _ N1 => IR M1 N1) := by
  have iM := iv.1.1
  have iN := iv.1.2.1
  have b5 : 0 ≤ M 2 0 5 ∧ M 2 0 5 ≤ 6 := iM 2 0 5
  have b17 : 0 ≤ N 0 0 17 ∧ N 0 0 17 ≤ 6 := iN 0 0 17
  obtain ⟨v, M1, e1, c1⟩ := s_fX11_row M iM l1 h1
  obtain ⟨w, N1, e2, c2⟩ := s_fX12_row N iN l1 h1
  exact ⟨v, M1, w, N1, e1, e2, ir.m7 iN (Or.inl c1.1) (X2.ta c2.2.1)⟩
theorem r_result (fu : Nat) (hfu : 4000 ≤ fu) (M N : jm_M) (iv : IW M N) (it : IT M N) (tx : TXD M) (ir : IR M N) (l1 : Int) (h1 : jm_in l1) : J2 (fX11_result fu M l1) (fX12_result fu N l1) (fun _ M1 _ N1 => IR M1 N1) := by
  have iM := iv.1.1
  have iN := iv.1.2.1
  have b5 : 0 ≤ M 2 0 5 ∧ M 2 0 5 ≤ 6 := iM 2 0 5
  have b17 : 0 ≤ N 0 0 17 ∧ N 0 0 17 ≤ 6 := iN 0 0 17
  obtain ⟨v, M1, e1, -, k1, -⟩ := s_fX11_result fu hfu M iM l1 h1
  obtain ⟨w, N1, e2, -⟩ := s_fX12_result fu hfu N iN l1 h1 iv.1.2.2.1
  exact ⟨v, M1, w, N1, e1, e2, ir.tp iN k1 (X2.rl (rn_fX12_result RLX.cl fu l1 Kp.rf w N1 e2))⟩
theorem r_best (fu : Nat) (hfu : 4000 ≤ fu) (M N : jm_M) (iv : IW M N) (it : IT M N) (tx : TXD M) (ir : IR M N) (l1 l2 l3 : Int) (h1 : jm_in l1) (h2 : jm_in l2) (h3 : jm_in l3) : J2 (fX11_best fu M l1 l2 l3) (fX12_best fu N l1 l2 l3) (fun _ M1 _ N1 => IR M1 N1) := by
  have iM := iv.1.1
  have iN := iv.1.2.1
  have b5 : 0 ≤ M 2 0 5 ∧ M 2 0 5 ≤ 6 := iM 2 0 5
  have b17 : 0 ≤ N 0 0 17 ∧ N 0 0 17 ≤ 6 := iN 0 0 17
  obtain ⟨v, M1, e1, -, k1, -⟩ := s_fX11_best fu hfu M iM l1 l2 l3 h1 h2 h3
  obtain ⟨w, N1, e2, -⟩ := s_fX12_best fu hfu N iN l1 l2 l3 h1 h2 h3 iv.1.2.2.1
  exact ⟨v, M1, w, N1, e1, e2, ir.tam iN k1 (X2.rl (rl_best fu iN l1 l2 l3 h1 h2 h3 it.2 w N1 e2))⟩
theorem r_gain (fu : Nat) (hfu : 4000 ≤ fu) (M N : jm_M) (iv : IW M N) (it : IT M N) (tx : TXD M) (ir : IR M N) (l1 l2 l3 : Int) (h1 : jm_in l1) (h2 : jm_in l2) (h3 : jm_in l3) : J2 (fX11_gain fu M l1 l2 l3) (fX12_gain fu N l1 l2 l3) (fun _ M1 _ N1 => IR M1 N1) := by
  have iM := iv.1.1
  have iN := iv.1.2.1
  have b5 : 0 ≤ M 2 0 5 ∧ M 2 0 5 ≤ 6 := iM 2 0 5
  have b17 : 0 ≤ N 0 0 17 ∧ N 0 0 17 ≤ 6 := iN 0 0 17
  obtain ⟨v, M1, e1, -, k1, -⟩ := s_fX11_gain fu hfu M iM l1 l2 l3 h1 h2 h3
  obtain ⟨w, N1, e2, -⟩ := s_fX12_gain fu hfu N iN l1 l2 l3 h1 h2 h3 iv.1.2.2.1
  exact ⟨v, M1, w, N1, e1, e2, ir.tam iN (k1.weak tt_TPM_TAM) (X2.rl (rl_gain fu iN l1 l2 l3 h1 h2 h3 it.2 w N1 e2))⟩
theorem r_settle (fu : Nat) (hfu : 4000 ≤ fu) (M N : jm_M) (iv : IW M N) (it : IT M N) (tx : TXD M) (ir : IR M N) (l1 l2 l3 : Int) (h1 : jm_in l1) (h2 : jm_in l2) (h3 : jm_in l3) : J2 (fX11_settle fu M l1 l2 l3) (fX12_settle fu N l1 l2 l3) (fun _ M1 _ N1 => IR M1 N1) := by
  have iM := iv.1.1
  have iN := iv.1.2.1
  have b5 : 0 ≤ M 2 0 5 ∧ M 2 0 5 ≤ 6 := iM 2 0 5
  have b17 : 0 ≤ N 0 0 17 ∧ N 0 0 17 ≤ 6 := iN 0 0 17
  obtain ⟨v, M1, e1, -, k1, -⟩ := s_fX11_settle fu hfu M iM l1 l2 l3 h1 h2 h3
  obtain ⟨w, N1, e2, -⟩ := s_fX12_settle fu hfu N iN l1 l2 l3 h1 h2 h3 iv.1.2.2.1
  exact ⟨v, M1, w, N1, e1, e2, ir.tam iN (k1.weak tt_TPM_TAM) (X2.rl (rl_settle fu l1 l2 l3 it.2 w N1 e2))⟩
theorem r_move (fu : Nat) (hfu : 4000 ≤ fu) (M N : jm_M) (iv : IW M N) (it : IT M N) (tx : TXD M) (ir : IR M N) (l1 l2 l3 l4 : Int) (h1 : jm_in l1) (h2 : jm_in l2) (h3 : jm_in l3) (h4 : jm_in l4) : J2 (fX11_move fu M l1 l2 l3 l4) (fX12_move fu N l1 l2 l3 l4) (fun _ M1 _ N1 => IR M1 N1) := by
  have iM := iv.1.1
  have iN := iv.1.2.1
  have b5 : 0 ≤ M 2 0 5 ∧ M 2 0 5 ≤ 6 := iM 2 0 5
  have b17 : 0 ≤ N 0 0 17 ∧ N 0 0 17 ≤ 6 := iN 0 0 17
  obtain ⟨v, M1, e1, a⟩ := cc_move fu hfu M iM l1 l2 l3 l4 h1 h2 h3 h4
  obtain ⟨w, N1, e2, -⟩ := s_fX12_move fu hfu N iN l1 l2 l3 l4 h1 h2 h3 h4 iv.1.2.2.1
  have k2 := X2.rl (rl_move fu l1 l2 l3 l4 w N1 e2)
  refine ⟨v, M1, w, N1, e1, e2, ?_⟩
  rcases a with a | ⟨a1, -⟩
  · exact ir.m7 iN (Or.inl a) k2
  · exact ir.ta iN a1 k2
theorem r_lost (fu : Nat) (hfu : 4000 ≤ fu) (M N : jm_M) (iv : IW M N) (it : IT M N) (tx : TXD M) (ir : IR M N) (l1 l2 : Int) (h1 : jm_in l1) (h2 : 0 ≤ l2 ∧ l2 ≤ 1) : J2 (fX11_lost M l1 l2) (fX12_lost N l1 l2) (fun _ M1 _ N1 => IR M1 N1) := by
  have iM := iv.1.1
  have iN := iv.1.2.1
  have b5 : 0 ≤ M 2 0 5 ∧ M 2 0 5 ≤ 6 := iM 2 0 5
  have b17 : 0 ≤ N 0 0 17 ∧ N 0 0 17 ≤ 6 := iN 0 0 17
  have e01 : M 1 0 0 = N 0 0 1 := iv.1.2.2.2.1.1
  obtain ⟨v, M1, e1, a⟩ := cc_lost iM l1 l2 h1 h2
  obtain ⟨w, N1, e2, b⟩ := dd_lost iN l1 l2 h1 h2
  refine ⟨v, M1, w, N1, e1, e2, ?_⟩
  rcases a with ⟨a, z⟩ | ⟨a, z⟩
  · rcases b with ⟨b, y⟩ | ⟨b, y⟩
    · exact ir.m7 iN (Or.inl z) (by rw [y]; exact X2.r0)
    · exfalso; omega
  · rcases b with ⟨b, y⟩ | ⟨b, y⟩
    · exfalso; omega
    have kM : ∀ (f : Nat) (i k : Int), f ≠ 16 → M1 f i k = M f i k := fun f i k q => by rw [z]; exact jm_une_f q
    have kN : ∀ (f : Nat) (i k : Int), f ≠ 3 → ¬ (f = 0 ∧ k = 0) → N1 f i k = N f i k := fun f i k q q2 => by
      rw [y, jm_une_f q]; exact jm_une (by omega)
    have m : ∀ i : Int, M1 16 0 i = if i = l1 then l2 else M 16 0 i := fun i => by
      rw [z]
      by_cases q : i = l1
      · rw [if_pos q, q]; exact jm_ueq
      · rw [if_neg q]; exact jm_une_k q
    have n : ∀ i : Int, N1 3 0 i = if i = l1 then l2 else N 3 0 i := fun i => by
      rw [y]
      by_cases q : i = l1
      · rw [if_pos q, q]; exact jm_ueq
      · rw [if_neg q, jm_une_k q]; exact jm_une_f (by decide)
    refine ⟨⟨fun i y1 y2 => ?_, ?_⟩, ir.2.1.kk (fun k => kM 19 32 k (by decide)) (fun f k q1 q2 => kN f 0 k (by omega) (by omega)) (kN 0 0 75 (by decide) (by omega)), ir.2.2.1.kk b17.2 (fun i k _ _ => kM 19 i k (by decide)) (fun f k q1 q2 => kN f 0 k (by omega) (by omega)) (kN 0 0 2 (by decide) (by omega)) (kN 0 0 17 (by decide) (by omega)), ir.2.2.2.1.kk iN (kN 0 0 72 (by decide) (by omega)) (fun i _ _ => ⟨kM 35 0 i (by decide), kM 48 0 i (by decide)⟩) (fun i f k _ _ q => kM f _ k (by unfold CTX at q; omega)) (fun i _ _ => ⟨kN 61 0 i (by decide) (by omega), kN 62 0 i (by decide) (by omega), kN 36 0 (6 + i) (by decide) (by omega)⟩) (fun k _ _ => kN 35 0 k (by decide) (by omega)), ir.2.2.2.2.kk (kN 0 0 17 (by decide) (by omega)) (fun c => kN 17 0 c (by decide) (by omega))⟩
    · rw [m i, n i]
      by_cases q : i = l1
      · rw [if_pos q, if_pos q]
      · rw [if_neg q, if_neg q]; exact ir.1.1 i y1 y2
    · rw [kN 0 0 1 (by decide) (by omega), n (N 0 0 1 - 1), if_neg (by omega)]
      exact ir.1.2
theorem r_finding (fu : Nat) (hfu : 4000 ≤ fu) (M N : jm_M) (iv : IW M N) (it : IT M N) (tx : TXD M) (ir : IR M N) (l1 l2 l3 l4 : Int) (h1 : jm_in l1) (h2 : jm_in l2) (h3 : jm_in l3) (h4 : jm_in l4) : J2 (fX11_finding fu M l1 l2 l3 l4) (fX12_finding fu N l1 l2 l3 l4) (fun _ M1 _ N1 => IR M1 N1) := by
  have iM := iv.1.1
  have iN := iv.1.2.1
  have b5 : 0 ≤ M 2 0 5 ∧ M 2 0 5 ≤ 6 := iM 2 0 5
  have b17 : 0 ≤ N 0 0 17 ∧ N 0 0 17 ≤ 6 := iN 0 0 17
  have sz : M 10 32 3 = N 0 0 75 := iv.1.2.2.2.1.2.2.2.2.2.1
  obtain ⟨v, M1, e1, ⟨-, -, fa⟩, a⟩ := wp_and (s_fX11_finding fu hfu M iM l1 l2 l3 l4 h1 h2 h3 h4) (cc_finding fu iM l1 l2 l3 l4 h1 h2 h3 h4)
  obtain ⟨w, N1, e2, ⟨-, -, fb⟩, b⟩ := wp_and (s_fX12_finding fu hfu N iN l1 l2 l3 l4 h1 h2 h3 h4) (dd_finding fu iN l1 l2 l3 l4 h1 h2 h3 h4)
  have e5 : M 2 0 5 = N 0 0 17 := iv.1.2.2.2.1.2.2.1
  refine ⟨v, M1, w, N1, e1, e2, ?_⟩
  rcases a with a | ⟨M2, u2, p1, p2, p3⟩
  · have e3 : M1 10 32 3 = M 10 32 3 := by
      rcases a with z | z
      · rw [z]
      · rw [z]; exact jm_une_f (by decide)
    rcases b with b | ⟨q1, -, -⟩
    · exact ir.m7 iN a (by rw [b]; exact X2.r0)
    · exfalso
      omega
  · rw [u2] at p1 p2 p3
    rcases b with b | ⟨q1, q2, q3⟩
    · have e3 : N1 0 0 75 = N 0 0 75 := by rw [b]; exact jm_une (by omega)
      exfalso
      omega
    obtain ⟨n, hn⟩ : ∃ n : Int, n = N 0 0 75 := ⟨_, rfl⟩
    have hn2 : M 10 32 3 = n := by omega
    rw [← hn] at q1 q2 q3
    rw [hn2] at p1 p2 p3
    have bn : 0 ≤ n := by have : 0 ≤ N 0 0 75 := (iN 0 0 75).1; omega
    have dy : 0 ≤ l1 := by omega
    have kM : ∀ (f : Nat) (i k : Int), ¬ (f = 10 ∧ i = 32) → ¬ (f = 19 ∧ i = 32 ∧ 4 * n ≤ k) → M1 f i k = M f i k := fun f i k y1 y2 => p3 f i k (by omega) (by omega)
    have kN : ∀ (f : Nat) (k : Int), ¬ (f = 0 ∧ (k = 0 ∨ k = 75)) → ¬ (63 ≤ f ∧ f ≤ 66 ∧ k = n) → N1 f 0 k = N f 0 k := fun f k y1 y2 => q3 f 0 k (by omega)
    refine ⟨ir.1.kk (fun i => kM 16 0 i (by omega) (by omega)) (fun k => kN 3 k (by omega) (by omega)) (kN 0 1 (by omega) (by omega)), fun j y1 y2 => ?_, ir.2.2.1.kk b17.2 (fun i k y1 y2 => kM 19 i k (by omega) (by omega)) (fun f k q1 q2 => kN f k (by omega) (by omega)) (kN 0 2 (by omega) (by omega)) (kN 0 17 (by omega) (by omega)), ir.2.2.2.1.kk iN (kN 0 72 (by omega) (by omega)) (fun i _ _ => ⟨kM 35 0 i (by omega) (by omega), kM 48 0 i (by omega) (by omega)⟩) (fun i f k _ _ q => kM f _ k (by unfold CTX at q; omega) (by unfold CTX at q; omega)) (fun i _ _ => ⟨kN 61 i (by omega) (by omega), kN 62 i (by omega) (by omega), kN 36 (6 + i) (by omega) (by omega)⟩) (fun k _ _ => kN 35 k (by omega) (by omega)), ir.2.2.2.2.kk (kN 0 17 (by omega) (by omega)) (fun c => kN 17 c (by omega) (by omega))⟩
    rw [q1] at y2
    by_cases e : j = n
    · rw [e]
      exact ⟨p2.1.trans q2.1.symm, p2.2.1.trans q2.2.1.symm, p2.2.2.1.trans q2.2.2.1.symm, p2.2.2.2.trans q2.2.2.2.symm, by rw [q2.1]; exact dy⟩
    · rw [kM 19 32 (4 * j) (by omega) (by omega), kM 19 32 (4 * j + 1) (by omega) (by omega), kM 19 32 (4 * j + 2) (by omega) (by omega), kM 19 32 (4 * j + 3) (by omega) (by omega), kN 63 j (by omega) (by omega), kN 64 j (by omega) (by omega), kN 65 j (by omega) (by omega), kN 66 j (by omega) (by omega)]
      exact ir.2.1 j y1 (by omega)
theorem r_option (fu : Nat) (hfu : 4000 ≤ fu) (M N : jm_M) (iv : IW M N) (it : IT M N) (tx : TXD M) (ir : IR M N) (l1 l2 l3 : Int) (h1 : jm_in l1) (h2 : jm_in l2) (h3 : jm_in l3) : J2 (fX11_option M l1 l2 l3) (fX12_option fu N l1 l2 l3) (fun _ M1 _ N1 => IR M1 N1) := by
  have iM := iv.1.1
  have iN := iv.1.2.1
  have b5 : 0 ≤ M 2 0 5 ∧ M 2 0 5 ≤ 6 := iM 2 0 5
  have b17 : 0 ≤ N 0 0 17 ∧ N 0 0 17 ≤ 6 := iN 0 0 17
  have e5 : M 2 0 5 = N 0 0 17 := iv.1.2.2.2.1.2.2.1
  obtain ⟨v, M1, e1, ⟨-, -, fa⟩, a⟩ := wp_and (s_fX11_option M iM l1 l2 l3 h1 h2 h3) (cc_option iM l1 l2 l3 h1 h2 h3)
  obtain ⟨w, N1, e2, ⟨-, -, fb⟩, b⟩ := wp_and (s_fX12_option fu hfu N iN l1 l2 l3 h1 h2 h3) (dd_option fu iN l1 l2 l3 h1 h2 h3)
  refine ⟨v, M1, w, N1, e1, e2, ?_⟩
  have sz : 0 ≤ l1 → l1 < N 0 0 17 → M 10 (l1 + 18) 3 = N 31 0 l1 := fun y1 y2 => (iv.1.2.2.2.2.1 l1 y1 y2).2.2.2
  have lm : 0 ≤ l1 → l1 < 6 → lim1 (l1 + 18) = 4 := fun y1 y2 => lim1_18 (by omega) (by omega)
  have s1 : M 1 0 1 = N 0 0 2 := iv.1.2.2.2.1.2.1
  rcases a with a | ⟨M2, u2, p1, p2, p3⟩
  · have e3 : M1 10 (l1 + 18) 3 = M 10 (l1 + 18) 3 := by
      rcases a with z | z
      · rw [z]
      · rw [z]; exact jm_une_f (by decide)
    rcases b with b | ⟨q1, -, -⟩
    · exact ir.m7 iN a (by rw [b]; exact X2.r0)
    · exfalso
      omega
  · rw [u2] at p1 p2 p3
    rcases b with b | ⟨q1, q2, q3⟩
    · have e3 : N1 31 0 l1 = N 31 0 l1 := by rw [b]; exact jm_une (by omega)
      exfalso
      omega
    obtain ⟨n, hn⟩ : ∃ n : Int, n = N 31 0 l1 := ⟨_, rfl⟩
    have hn2 : M 10 (l1 + 18) 3 = n := by omega
    have bs : (-1 ≤ l2 ∧ l2 ≤ N 0 0 2 - 2) ∧ (-1 ≤ l3 ∧ l3 ≤ 3) ∧ (0 ≤ l1 ∧ l1 < 6) ∧ n < 4 := by omega
    rw [← hn] at q1 q2 q3
    rw [hn2] at p1 p2 p3
    have bn : 0 ≤ n := by have : 0 ≤ N 31 0 l1 := (iN 31 0 l1).1; omega
    clear fa fb
    have kM : ∀ (f : Nat) (i k : Int), f ≠ 10 → ¬ (f = 19 ∧ i = l1 + 18 ∧ 2 * n ≤ k) → M1 f i k = M f i k := fun f i k y1 y2 => p3 f i k (by omega) (by omega)
    have kN : ∀ (f : Nat) (k : Int), ¬ (f = 0 ∧ k = 0) → ¬ (f = 31 ∧ k = l1) → ¬ ((f = 32 ∨ f = 33) ∧ k = 4 * l1 + n) → N1 f 0 k = N f 0 k := fun f k y1 y2 y3 => q3 f 0 k (by omega)
    refine ⟨ir.1.kk (fun i => kM 16 0 i (by decide) (by omega)) (fun k => kN 3 k (by omega) (by omega) (by omega)) (kN 0 1 (by omega) (by omega) (by omega)), ir.2.1.kk (fun k => kM 19 32 k (by decide) (by omega)) (fun f k q1 q2 => kN f k (by omega) (by omega) (by omega)) (kN 0 75 (by omega) (by omega) (by omega)), fun c y1 y2 j y3 y4 => ?_, ir.2.2.2.1.kk iN (kN 0 72 (by omega) (by omega) (by omega)) (fun i _ _ => ⟨kM 35 0 i (by decide) (by omega), kM 48 0 i (by decide) (by omega)⟩) (fun i f k _ _ q => kM f _ k (by unfold CTX at q; omega) (by unfold CTX at q; omega)) (fun i _ _ => ⟨kN 61 i (by omega) (by omega) (by omega), kN 62 i (by omega) (by omega) (by omega), kN 36 (6 + i) (by omega) (by omega) (by omega)⟩) (fun k _ _ => kN 35 k (by omega) (by omega) (by omega)), ir.2.2.2.2.kk (kN 0 17 (by omega) (by omega) (by omega)) (fun c => kN 17 c (by omega) (by omega) (by omega))⟩
    rw [kN 0 17 (by omega) (by omega) (by omega)] at y2
    rw [kN 0 2 (by omega) (by omega) (by omega)]
    by_cases e : c = l1
    · rw [e] at y4 ⊢
      rw [q1] at y4
      by_cases e2 : j = n
      · rw [e2]
        rw [p2.1, p2.2, q2.1, q2.2]
        exact ⟨rfl, rfl, bs.1, bs.2.1⟩
      · rw [kM 19 (l1 + 18) (2 * j) (by decide) (by omega), kM 19 (l1 + 18) (2 * j + 1) (by decide) (by omega), kN 32 (4 * l1 + j) (by omega) (by omega) (by omega), kN 33 (4 * l1 + j) (by omega) (by omega) (by omega)]
        exact ir.2.2.1 l1 (by omega) (by omega) j y3 (by omega)
    · rw [kN 31 c (by omega) (by omega) (by omega)] at y4
      have bc : N 31 0 c ≤ 4 := (iN 31 0 c).2
      rw [kM 19 (c + 18) (2 * j) (by decide) (by omega), kM 19 (c + 18) (2 * j + 1) (by decide) (by omega), kN 32 (4 * c + j) (by omega) (by omega) (by omega), kN 33 (4 * c + j) (by omega) (by omega) (by omega)]
      exact ir.2.2.1 c y1 y2 j y3 y4
theorem r_clear (fu : Nat) (hfu : 4000 ≤ fu) (M N : jm_M) (iv : IW M N) (it : IT M N) (tx : TXD M) (ir : IR M N) : J2 (fX11_clear fu M) (fX12_clear fu N) (fun _ M1 _ N1 => IR M1 N1) := by
  have iM := iv.1.1
  have iN := iv.1.2.1
  have b5 : 0 ≤ M 2 0 5 ∧ M 2 0 5 ≤ 6 := iM 2 0 5
  have b17 : 0 ≤ N 0 0 17 ∧ N 0 0 17 ≤ 6 := iN 0 0 17
  obtain ⟨v, M1, e1, -, -, c1, -⟩ := s_fX11_clear fu hfu M iM
  obtain ⟨w, N1, e2, -, -, c2, z2⟩ := s_fX12_clear fu hfu N iN
  have kM : ∀ (f : Nat) (i k : Int), f ≠ 10 → M1 f i k = M f i k := fun f i k y => c1 f i k (show ¬ (f = 10 ∧ 18 ≤ i ∧ i < 24) by omega)
  have kN : ∀ (f : Nat) (k : Int), f ≠ 31 → ¬ (f = 0 ∧ k = 0) → N1 f 0 k = N f 0 k := fun f k y1 y2 => c2 f 0 k (show f ≠ 31 ∧ (f = 0 → k ≠ 0) by omega)
  refine ⟨v, M1, w, N1, e1, e2, ir.1.kk (fun i => kM 16 0 i (by decide)) (fun k => kN 3 k (by decide) (by omega)) (kN 0 1 (by decide) (by omega)), ir.2.1.kk (fun k => kM 19 32 k (by decide)) (fun f k q1 q2 => kN f k (by omega) (by omega)) (kN 0 75 (by decide) (by omega)), fun c y1 y2 j y3 y4 => ?_, ir.2.2.2.1.kk iN (kN 0 72 (by decide) (by omega)) (fun i _ _ => ⟨kM 35 0 i (by decide), kM 48 0 i (by decide)⟩) (fun i f k _ _ q => kM f _ k (by unfold CTX at q; omega)) (fun i _ _ => ⟨kN 61 i (by decide) (by omega), kN 62 i (by decide) (by omega), kN 36 (6 + i) (by decide) (by omega)⟩) (fun k _ _ => kN 35 k (by decide) (by omega)), ir.2.2.2.2.kk (kN 0 17 (by decide) (by omega)) (fun c => kN 17 c (by decide) (by omega))⟩
  rw [kN 0 17 (by decide) (by omega)] at y2
  rw [z2 c y1 (by omega)] at y4
  exfalso; omega
theorem r_car (fu : Nat) (hfu : 4000 ≤ fu) (M N : jm_M) (iv : IW M N) (it : IT M N) (tx : TXD M) (ir : IR M N) (l1 l2 l3 l4 l5 l6 : Int) (h1 : jm_in l1) (h2 : jm_in l2) (h3 : jm_in l3) (h4 : jm_in l4) (h5 : jm_in l5) (h6 : jm_in l6) : J2 (fX11_car M l1 l2 l3 l4 l5 l6) (fX12_car N l1 l2 l3 l4 l5 l6) (fun _ M1 _ N1 => IR M1 N1) := by
  have iM := iv.1.1
  have iN := iv.1.2.1
  have b5 : 0 ≤ M 2 0 5 ∧ M 2 0 5 ≤ 6 := iM 2 0 5
  have b17 : 0 ≤ N 0 0 17 ∧ N 0 0 17 ≤ 6 := iN 0 0 17
  have e5 : M 2 0 5 = N 0 0 17 := iv.1.2.2.2.1.2.2.1
  have zo : ∀ c : Int, N 0 0 17 ≤ c → c < 6 → N 31 0 c = 0 := iv.1.2.2.2.2.2.1
  obtain ⟨v, M1, e1, a⟩ := cc_car iM l1 l2 l3 l4 l5 l6 h1 h2 h3 h4 h5 h6
  obtain ⟨w, N1, e2, b⟩ := dd_car iN l1 l2 l3 l4 l5 l6 h1 h2 h3 h4 h5 h6
  refine ⟨v, M1, w, N1, e1, e2, ?_⟩
  rcases a with ⟨a, z⟩ | ⟨a, -, -, -, z⟩
  · rcases b with ⟨b, y⟩ | ⟨b, y⟩
    · exact ir.m7 iN (Or.inl z) (by rw [y]; exact X2.r0)
    · exact absurd ⟨b.1, by omega⟩ a
  · rcases b with ⟨b, y⟩ | ⟨b, nc, ⟨-, n17⟩, -, y⟩
    · exact absurd ⟨a.1, by omega⟩ b
    have bb := b.2
    have kM : ∀ (f : Nat) (i k : Int), f ≠ 8 → f ≠ 10 → f ≠ 2 → M1 f i k = M f i k := fun f i k q1 q2 q3 => z f i k (by omega) (by omega) (by omega)
    have kN : ∀ (f : Nat) (k : Int), ¬ (f = 0 ∧ (k = 0 ∨ k = 17)) → ¬ ((13 ≤ f ∧ f ≤ 19) ∨ f = 22 ∨ f = 26 ∨ f = 30) → N1 f 0 k = N f 0 k := fun f k q1 q2 => y f 0 k (by omega) (by omega)
    refine ⟨ir.1.kk (fun i => kM 16 0 i (by decide) (by decide) (by decide)) (fun k => kN 3 k (by omega) (by omega)) (kN 0 1 (by omega) (by omega)), ir.2.1.kk (fun k => kM 19 32 k (by decide) (by decide) (by decide)) (fun f k q1 q2 => kN f k (by omega) (by omega)) (kN 0 75 (by omega) (by omega)), fun c y1 y2 j y3 y4 => ?_, ir.2.2.2.1.kk iN (kN 0 72 (by omega) (by omega)) (fun i _ _ => ⟨kM 35 0 i (by decide) (by decide) (by decide), kM 48 0 i (by decide) (by decide) (by decide)⟩) (fun i f k _ _ q => kM f _ k (by unfold CTX at q; omega) (by unfold CTX at q; omega) (by unfold CTX at q; omega)) (fun i _ _ => ⟨kN 61 i (by omega) (by omega), kN 62 i (by omega) (by omega), kN 36 (6 + i) (by omega) (by omega)⟩) (fun k _ _ => kN 35 k (by omega) (by omega)), fun c y1 y2 => ?_⟩
    rotate_left
    · rw [n17] at y2
      by_cases e : c = N 0 0 17
      · have hcc := b.1
        unfold CC at hcc
        rw [e, nc.2.2.2.2.1]
        omega
      · rw [y 17 0 c (by omega) (by omega)]
        exact ir.2.2.2.2 c y1 (by omega)
    rw [n17] at y2
    rw [kN 31 c (by omega) (by omega)] at y4
    by_cases e : c = N 0 0 17
    · rw [e, zo (N 0 0 17) (by omega) (by omega)] at y4
      exfalso; omega
    · rw [kM 19 (c + 18) (2 * j) (by decide) (by decide) (by decide), kM 19 (c + 18) (2 * j + 1) (by decide) (by decide) (by decide), kN 32 (4 * c + j) (by omega) (by omega), kN 33 (4 * c + j) (by omega) (by omega), kN 0 2 (by omega) (by omega)]
      exact ir.2.2.1 c y1 (by omega) j y3 y4
theorem r_track (fu : Nat) (hfu : 4000 ≤ fu) (M N : jm_M) (iv : IW M N) (it : IT M N) (tx : TXD M) (ir : IR M N) (l1 l2 : Int) (h1 : jm_in l1) (h2 : jm_in l2) : J2 (fX11_track fu M l1 l2) (fX12_track fu N l1 l2) (fun _ M1 _ N1 => IR M1 N1) := by
  have iM := iv.1.1
  have iN := iv.1.2.1
  have b5 : 0 ≤ M 2 0 5 ∧ M 2 0 5 ≤ 6 := iM 2 0 5
  have b17 : 0 ≤ N 0 0 17 ∧ N 0 0 17 ≤ 6 := iN 0 0 17
  obtain ⟨v, M1, e1, a⟩ := cc_track fu hfu iM l1 l2
  obtain ⟨w, N1, e2, s, b⟩ := wp_and (s_fX12_track fu hfu N iN l1 l2 h1 h2) (dd_track fu hfu iN l1 l2 h1 h2)
  refine ⟨v, M1, w, N1, e1, e2, ?_⟩
  rcases a with ⟨a, z⟩ | ⟨a, z⟩
  · rcases b with ⟨b, y⟩ | ⟨b, y⟩
    · exact ir.m7 iN (Or.inl z) (by rw [y]; exact X2.r0)
    · exact absurd b a
  · rcases b with ⟨b, y⟩ | ⟨b, y⟩
    · exact absurd a b
    rcases s with ⟨-, s⟩
    have c0 : N1 0 0 17 = 0 ∧ N1 0 0 75 = 0 ∧ N1 0 0 72 = 0 ∧ N1 0 0 1 = l1 := by
      rcases s with s | s
      · obtain ⟨-, -, s1, -, s17, -, -, s75, s72, -⟩ := s
        exact ⟨s17, s75, s72, s1⟩
      · exact absurd b s.1
    obtain ⟨c17, c75, c72, c1⟩ := c0
    refine ⟨⟨fun i y1 y2 => by rw [(z.2.1 i y1 y2).2.2, (y.2.1 i y1 y2).2.2], by rw [c1]; exact (y.2.1 (l1 - 1) (by omega) (by omega)).2.2⟩, fun j y1 y2 => ?_, fun c y1 y2 => ?_, fun i y1 y2 => ?_, fun c y1 y2 => ?_⟩
    · rw [c75] at y2; exfalso; omega
    · rw [c17] at y2; exfalso; omega
    · rw [c72] at y2; exfalso; omega
    · rw [c17] at y2; exfalso; omega
/-- what a text's reading leaves of the other texts, in the reference -/
theorem X2.ro {N N1 N2 : jm_M} {w l2 r : Int} (h : RO N2 w l2 r N1) (u2 : N2 = jm_u N 0 0 0 0) (h62 : ∀ k : Int, k ≠ N 0 0 72 → N1 62 0 k = N 62 0 k) : ∀ (f : Nat) (k : Int), X2 f 0 k → ¬ (f = 35 ∧ 100 * w ≤ k ∧ k < 100 * w + 100) → ¬ (f = 36 ∧ k = w) → ¬ (f = 62 ∧ k = N 0 0 72) → N1 f 0 k = N f 0 k := fun f k y y1 y2 y3 => by
  unfold X2 at y
  obtain ⟨-, k8, -, q36, q35, -, -, -⟩ := h
  have e2 : N2 f 0 k = N f 0 k := by rw [u2]; exact jm_une (by omega)
  by_cases a : f = 35
  · subst a
    exact (q35 k (by omega)).trans e2
  by_cases b : f = 36
  · subst b
    exact (q36 k (by omega)).trans e2
  by_cases c : f = 62
  · subst c
    exact h62 k (by omega)
  · exact (k8 f 0 k (by unfold TRD; omega)).trans e2
def S62 (M M1 : jm_M) : Prop := M1 0 0 72 = M 0 0 72 ∧ ∀ k : Int, k ≠ M 0 0 72 → M1 62 0 k = M 62 0 k
theorem S62.u {M0 M : jm_M} {f : Nat} {i k v : Int} (h : S62 M0 M) (hn : ¬ (f = 62 ∨ (f = 0 ∧ k = 72))) : S62 M0 (jm_u M f i k v) := ⟨(jm_une (by omega)).trans h.1, fun k2 q => (jm_une_f (by omega)).trans (h.2 k2 q)⟩
theorem S62.w {M0 M : jm_M} {v : Int} (h : S62 M0 M) : S62 M0 (jm_u M 62 0 (M 0 0 72) v) := ⟨(jm_une_f (by decide)).trans h.1, fun k2 q => (jm_une_k (by rw [h.1]; exact q)).trans (h.2 k2 q)⟩
theorem S62.kp {M0 M M1 : jm_M} (h : S62 M0 M) (k : Kp TPA M M1) : S62 M0 M1 := ⟨(k 0 0 72 (by unfold TPA; omega)).trans h.1, fun k2 q => (k 62 0 k2 (by unfold TPA; omega)).trans (h.2 k2 q)⟩
theorem v_sign {M0 M : jm_M} (l w : Int) (h : S62 M0 M) : pw (fX12_isSign M l w) (S62 M0) := by
  unfold fX12_isSign
  exact pw_ite (pw_ret h) (pw_ite (pw_ite (pw_ret h) (pw_ret h)) pw_none)
theorem v_isOf {M0 M : jm_M} (l w : Int) (h : S62 M0 M) : pw (fX12_isOf M l w) (S62 M0) := by
  unfold fX12_isOf fS_indexOf
  exact pw_ite (pw_ret h) (pw_ite (pw_ite (pw_ret h) (pw_ite (pw_b (P := S62 M0) (pw_ret h) (fun v M1 h1 => pw_ite (pw_ret h1) (pw_ret h1))) pw_none)) pw_none)
theorem v_154 (fu : Nat) {M0 M : jm_M} (l1 l2 l3 : Int) (h : S62 M0 M) : pw (gX12_law_154 fu M l1 l2 l3) (S62 M0) := by
  unfold gX12_law_154
  exact pw_ite (pw_s (P := S62 M0) h.w (fun M3 h3 => pw_ite (pw_ret h3) (pw_ite (pw_ret h3) (pw_ret h3)))) pw_none
theorem v_103 (fu : Nat) {M0 : jm_M} (l1 l3 : Int) : ∀ (n : Nat) (M : jm_M) (l2 : Int), S62 M0 M → pw (fX12_law_103 fu n M l1 l2 l3) (S62 M0) := by
  intro n
  induction n with
  | zero => intro M l2 _; exact pw_none
  | succ n ih =>
    intro M l2 h
    show pw (gX12_law_103 fu (fX12_law_103 fu n) M l1 l2 l3) _
    unfold gX12_law_103
    exact pw_ite (v_154 fu l1 l2 l3 h) (pw_b (v_isOf l1 5 h) (fun v3 M4 h4 => pw_ite (v_154 fu l1 l2 l3 h4) (pw_ite (pw_e (fun v10 => pw_s (P := S62 M0) (h4.u (by omega)) (fun M13 h13 => ih M13 v10 h13))) pw_none)))
theorem v_law (fu : Nat) (hfu : 4000 ≤ fu) (l : Int) (hl : l ≤ 60) (M0 M : jm_M) (iM : bI bx2 M) (h1 : M 0 0 41 ≤ l) (h0 : nn M ≤ M 0 0 41 + 39) (h : S62 M0 M) : pw (fX12_law fu M l) (S62 M0) := by
  unfold fX12_law
  refine pw_at (s_fX12_some fu hfu l hl M iM h1 h0) (fun v1 M2 q => ?_)
  have h2 : S62 M0 M2 := h.kp q.2.1.2.1
  exact pw_ite (pw_ret h2) (pw_b (v_sign l 58 h2) (fun v5 M6 h6 => pw_ite (pw_ret h6) (pw_s (P := S62 M0) (h6.u (by omega)) (fun M10 h10 => pw_b (v_sign l 88 h10) (fun v11 M12 h12 => pw_ite (pw_b (v_sign l 43 h12) (fun v15 M16 h16 => pw_ite (pw_ret h16) (pw_s (P := S62 M0) (h16.u (by omega)) (fun M20 h20 => pw_e (fun v22 => v_103 fu l v22 fu M20 0 h20))))) (pw_s (P := S62 M0) (h12.u (by omega)) (fun M25 h25 => pw_ite (pw_s (P := S62 M0) h25.w (fun M28 h28 => pw_ite (pw_ret h28) (pw_ret h28))) pw_none)))))))
theorem v_reads (fu : Nat) (hfu : 4000 ≤ fu) (M : jm_M) (iM : bI bx2 M) (w l2 : Int) (hw : 0 ≤ w ∧ w ≤ 16) : pw (fX12_reads fu M w l2) (S62 M) := by
  have b40 : 0 ≤ M 0 0 40 ∧ M 0 0 40 ≤ 100 := iM 0 0 40
  unfold fX12_reads
  refine pw_ev (fun v2 e2 => pw_sv (fun M4 u4 => ?_))
  have bm := jm_min_f v2 60
  refine pw_ev (fun v5 e5 => pw_sv (fun M7 u7 => pw_sv (fun M8 u8 => ?_)))
  have i4 : bI bx2 M4 := by rw [u4]; exact bI_u iM (show (0 : Int) ≤ 0 ∧ (0 : Int) ≤ 100 by omega)
  have i7 : bI bx2 M7 := by rw [u7]; exact bI_u i4 (show (0 : Int) ≤ 0 ∧ (0 : Int) ≤ 60 by omega)
  have i8 : bI bx2 M8 := by rw [u8]; exact bI_u i7 (show 0 ≤ w ∧ w ≤ 16 by omega)
  have h8 : S62 M M8 := by
    rw [u8, u7, u4]
    exact S62.u (S62.u (S62.u ⟨rfl, fun _ _ => rfl⟩ (by omega)) (by omega)) (by omega)
  refine pw_ite (pw_sv (fun M10 u10 => ?_)) pw_none
  have i10 : bI bx2 M10 := by rw [u10]; exact bI_u i8 (show (0 : Int) ≤ 0 ∧ (0 : Int) ≤ 100 by omega)
  have h10 : S62 M M10 := by rw [u10]; exact h8.u (by omega)
  have z49 : ∀ u0 : Int, 0 ≤ u0 ∧ u0 ≤ 10 → pw (gX12_reads_49 fu M10 l2 v2 v5 u0) (S62 M) := by
    intro u0 hu
    unfold gX12_reads_49
    refine pw_sv (fun Ms us => ?_)
    have is : bI bx2 Ms := by rw [us]; exact bI_u i10 (show 0 ≤ u0 ∧ u0 ≤ 10 by omega)
    have s41 : Ms 0 0 41 = 0 := by rw [us, jm_une_k (by decide), u10, jm_une_f (by decide), u8, jm_une_k (by decide), u7]; exact jm_ueq
    have s42 : Ms 0 0 42 = w := by rw [us, jm_une_k (by decide), u10, jm_une_f (by decide), u8]; exact jm_ueq
    have sn : nn Ms = 0 := by
      unfold nn
      rw [s42, us, jm_une_f (by decide), u10]
      exact jm_ueq
    have hs : S62 M Ms := by rw [us]; exact h10.u (by omega)
    have z71 : ∀ (M1 : jm_M) (v : Int), S62 M M1 → pw (gX12_reads_71 fu M1 v2 v) (S62 M) := fun M1 v q => by
      unfold gX12_reads_71 gX12_reads_96
      exact pw_ite (pw_ite (pw_ret q) (pw_ret q)) (pw_ite (pw_ite (pw_ite (pw_ret q) (pw_ret q)) (pw_ret q)) (pw_ret q))
    refine pw_ite (pw_b (v_law fu hfu v5 (by omega) M Ms is (by omega) (by omega) hs) (fun v3 M4 q => z71 M4 v3 q)) (pw_at (s_lines fu hfu v5 (by omega) Ms is (by omega) (by omega)) (fun v3 M4 q => z71 M4 v3 (hs.kp q.2.1.2.1)))
  exact pw_ite (z49 3 (by omega)) (z49 2 (by omega))
theorem dx_plan (fu : Nat) (hfu : 4000 ≤ fu) (N : jm_M) (iN : bI bx2 N) (l1 : Int) (h1 : jm_in l1) : wp (fX12_plan fu N l1) (fun _ N1 => ∀ (f : Nat) (k : Int), X3 (N 0 0 72) f k → N1 f 0 k = N f 0 k) := by
  have b17 : 0 ≤ N 0 0 17 ∧ N 0 0 17 ≤ 6 := iN 0 0 17
  obtain ⟨i2, k2⟩ := d_first iN
  unfold fX12_plan
  refine wp_sv (fun N2 u2 => ?_)
  rw [← u2] at i2 k2
  have e17 : N2 0 0 17 = N 0 0 17 := k2 0 0 17 (by decide)
  refine wp_bp (s_fX12_isCar N2 i2 l1 h1) (fun v2 h2 => ?_)
  rw [e17] at h2
  refine wp_ite (fun c => wp_sv (fun M6 u6 => wp_ret (fun f k y => ?_))) (fun c => ?_)
  · unfold X3 X2 at y
    rw [u6, jm_une (by omega), u2, jm_une (by omega)]
  obtain ⟨v7, M8, e7, ro, h62⟩ := wp_pw (s_reads fu hfu N2 i2 16 1 ⟨by decide, by decide⟩) (v_reads fu hfu N2 i2 16 1 ⟨by decide, by decide⟩)
  have e62 : ∀ k : Int, k ≠ N 0 0 72 → M8 62 0 k = N 62 0 k := fun k q => (h62.2 k (by rw [u2, jm_une_k (by decide)]; exact q)).trans (by rw [u2]; exact jm_une_f (by decide))
  have fr := X2.ro ro u2 e62
  have i8 := ro.1
  have r1 := ro.2.2.2.2.2.2.1
  have F8 : ∀ (f : Nat) (k : Int), X3 (N 0 0 72) f k → M8 f 0 k = N f 0 k := fun f k y => by
    obtain ⟨y, y1, y2, y3⟩ := y
    have y4 := y
    unfold X2 at y4
    exact fr f k y (by omega) (by omega) (by omega)
  rw [e7, jm_bsm]
  refine wp_ite (fun c2 => wp_ret F8) (fun c2 => ?_)
  have b16 : 0 ≤ M8 36 0 16 ∧ M8 36 0 16 ≤ 100 := i8 36 0 16
  refine wp_mono (s_plan_38 fu M8 i8 l1 v7 ⟨by omega, by omega⟩ fu M8 0 i8 Kp.rf (fun _ _ => rfl) (fun t z1 z2 => by exfalso; omega) (by omega) (by omega) (by omega)) (fun r M1 h => ?_)
  obtain ⟨-, -, k1, g36, -, -, g35, -⟩ := h
  intro f k y
  refine Eq.trans ?_ (F8 f k y)
  obtain ⟨y, -, -, -⟩ := y
  unfold X2 at y
  by_cases a : f = 35
  · subst a
    exact g35 k (by omega)
  by_cases b : f = 36
  · subst b
    exact g36 k (by omega)
  · exact k1 f 0 k ⟨by omega, a, b⟩
theorem dx_rule (fu : Nat) (hfu : 4000 ≤ fu) (N : jm_M) (iN : bI bx2 N) (l1 : Int) (h1 : jm_in l1) : wp (fX12_rule fu N l1) (fun r N1 => (r < 0 ∧ ∀ (f : Nat) (k : Int), X3 (N 0 0 72) f k → N1 f 0 k = N f 0 k) ∨ (0 ≤ r ∧ N 0 0 72 < 10 ∧ N1 0 0 72 = N 0 0 72 + 1 ∧ N1 61 0 (N 0 0 72) = l1 ∧ (∀ (f : Nat) (k : Int), X3 (N 0 0 72) f k → ¬ (f = 0 ∧ k = 72) → N1 f 0 k = N f 0 k) ∧ ∃ (wr : Int) (Nt : jm_M), fX12_reads fu (jm_u N 0 0 0 0) (6 + N 0 0 72) 0 = some (wr, Nt) ∧ ∀ (f : Nat) (k : Int), f = 35 ∨ f = 36 ∨ f = 62 → N1 f 0 k = Nt f 0 k)) := by
  have b72 : 0 ≤ N 0 0 72 ∧ N 0 0 72 ≤ 10 := iN 0 0 72
  obtain ⟨i2, k2⟩ := d_first iN
  unfold fX12_rule
  refine wp_sv (fun N2 u2 => ?_)
  rw [← u2] at i2 k2
  have e72 : N2 0 0 72 = N 0 0 72 := k2 0 0 72 (by decide)
  have no : ∀ M6 : jm_M, M6 = jm_u N2 0 0 40 0 → ∀ (f : Nat) (k : Int), X3 (N 0 0 72) f k → M6 f 0 k = N f 0 k := fun M6 u6 f k y => by
    unfold X3 X2 at y
    rw [u6, jm_une (by omega), u2, jm_une (by omega)]
  refine wp_bp (s_fX12_isDay N2 i2 l1 h1) (fun v2 h2 => ?_)
  refine wp_ite (fun c => wp_sv (fun M6 u6 => wp_ret (Or.inl ⟨by decide, no M6 u6⟩))) (fun c => ?_)
  refine wp_ite (fun c2 => wp_sv (fun M6 u6 => wp_ret (Or.inl ⟨by decide, no M6 u6⟩))) (fun c2 => ?_)
  have w6 : jm_w (6 + N2 0 0 72) = 6 + N 0 0 72 := by rw [e72]; exact jm_wid (by omega) (by omega)
  rw [w6]
  obtain ⟨v7, M8, e7, ro, h62⟩ := wp_pw (s_reads fu hfu N2 i2 (6 + N 0 0 72) 0 ⟨by omega, by omega⟩) (v_reads fu hfu N2 i2 (6 + N 0 0 72) 0 ⟨by omega, by omega⟩)
  have e62 : ∀ k : Int, k ≠ N 0 0 72 → M8 62 0 k = N 62 0 k := fun k q => (h62.2 k (by rw [e72]; exact q)).trans (by rw [u2]; exact jm_une_f (by decide))
  have fr := X2.ro ro u2 e62
  have k8 := ro.2.1
  have r1 := ro.2.2.2.2.2.2.1
  have F8 : ∀ (f : Nat) (k : Int), X3 (N 0 0 72) f k → M8 f 0 k = N f 0 k := fun f k y => by
    obtain ⟨y, y1, y2, y3⟩ := y
    exact fr f k y (by omega) (by omega) (by omega)
  rw [e7, jm_bsm]
  have f72 : M8 0 0 72 = N 0 0 72 := (k8 0 0 72 (by unfold TRD; omega)).trans e72
  refine wp_ite (fun c3 => ?_) (fun c3 => wp_ret (Or.inl ⟨by omega, F8⟩))
  rw [f72]
  refine wp_T ⟨by omega, by omega⟩ (wp_sv (fun M17 u17 => ?_))
  have e17 : M17 0 0 72 = N 0 0 72 := by rw [u17, jm_une_f (by decide)]; exact f72
  rw [e17, jm_wid (x := N 0 0 72 + 1) (by omega) (by omega)]
  refine wp_sv (fun M19 u19 => wp_ret (Or.inr ⟨?_, by omega, by rw [u19]; exact jm_ueq, by rw [u19, jm_une_f (by decide), u17]; exact jm_ueq, fun f k y y2 => ?_, v7, M8, by rw [← u2, e7], fun f k y => ?_⟩))
  · rw [u19, jm_ueq]; omega
  · refine Eq.trans ?_ (F8 f k y)
    obtain ⟨-, -, -, y3⟩ := y
    rw [u19, jm_une (by omega), u17, jm_une (by omega)]
  · rw [u19, jm_une_f (by omega), u17, jm_une_f (by omega)]
theorem r_plan (fu : Nat) (hfu : 4000 ≤ fu) (M N : jm_M) (iv : IW M N) (it : IT M N) (tx : TXD M) (ir : IR M N) (l1 : Int) (h1 : jm_in l1) : J2 (fX11_plan fu M l1) (fX12_plan fu N l1) (fun _ M1 _ N1 => IR M1 N1) := by
  have iM := iv.1.1
  have iN := iv.1.2.1
  have b5 : 0 ≤ M 2 0 5 ∧ M 2 0 5 ≤ 6 := iM 2 0 5
  have b17 : 0 ≤ N 0 0 17 ∧ N 0 0 17 ≤ 6 := iN 0 0 17
  obtain ⟨v, M1, e1, a⟩ := cc_plan fu hfu M iM l1 h1
  obtain ⟨w, N1, e2, b⟩ := dx_plan fu hfu N iN l1 h1
  have F : ∀ (f : Nat) (i k : Int), (X1 f i k ∨ CTX f 0 0) → (CTX f 0 0 → i ≠ M 0 0 10) → M1 f i k = M f i k := fun f i k y c => by
    unfold X1 CTX at y
    rcases a with ⟨-, z⟩ | ⟨-, -, -, z, -⟩
    · exact z f i k (by omega) c
    · exact z f i k (by omega) c
  exact ⟨v, M1, w, N1, e1, e2, ir.kw iN (fun f i k y => F f i k (Or.inl y) (fun z => by unfold X1 at y; unfold CTX at z; omega)) (fun i f k y1 y2 y => F f _ k (Or.inr y) (fun _ => tx.2.2.1 i y1 y2)) b⟩
theorem r_rule (fu : Nat) (hfu : 4000 ≤ fu) (M N : jm_M) (iv : IW M N) (it : IT M N) (tx : TXD M) (ir : IR M N) (l1 : Int) (h1 : jm_in l1) : J2 (fX11_rule fu M l1) (fX12_rule fu N l1) (fun _ M1 _ N1 => IR M1 N1) := by
  have iM := iv.1.1
  have iN := iv.1.2.1
  have b5 : 0 ≤ M 2 0 5 ∧ M 2 0 5 ≤ 6 := iM 2 0 5
  have b17 : 0 ≤ N 0 0 17 ∧ N 0 0 17 ≤ 6 := iN 0 0 17
  have b10 : 0 ≤ M 0 0 10 ∧ M 0 0 10 ≤ 16 := iM 0 0 10
  have b72 : 0 ≤ N 0 0 72 ∧ N 0 0 72 ≤ 10 := iN 0 0 72
  have e3 : M 3 0 3 = N 0 0 72 := iv.2.2.2
  obtain ⟨v, M1, w, N1, e1, e2, -, vw⟩ := q_rule fu hfu M N iv l1 h1
  have vw := vw trivial
  refine ⟨v, M1, w, N1, e1, e2, ?_⟩
  have a := wp_at (cc_rule fu hfu M iM l1 h1) e1
  have b := wp_at (dx_rule fu hfu N iN l1 h1) e2
  have nc : ∀ {f : Nat} {i k : Int}, X1 f i k → CTX f 0 0 → i ≠ M 0 0 10 := fun y z => by
    unfold X1 at y; unfold CTX at z; omega
  rcases a with ⟨a1, fr⟩ | ⟨a0, ⟨a1, a2, a3, a4, a5⟩, fr, Mt, eM, cM⟩
  · rcases b with ⟨b1, b2⟩ | ⟨b1, -⟩
    · exact ir.kw iN (fun f i k y => fr f i k (by unfold X1 at y; omega) (nc y)) (fun i f k y1 y2 y => fr f _ k (by unfold CTX at y; omega) (fun _ => tx.2.2.1 i y1 y2)) b2
    · exfalso; omega
  · rcases b with ⟨b1, -⟩ | ⟨b1, b2, b3, b4, kN, wr, Nt, eN, cN⟩
    · exfalso; omega
    rw [e3] at a1 a2 a3 a4 a5 fr
    obtain ⟨i1', -⟩ := c_tape0 iM
    obtain ⟨i2', -⟩ := d_first iN
    obtain ⟨s1, s2⟩ := t_start iv
    have w1 : wr = 1 := by
      obtain ⟨cv, -, -, hk1, hk2⟩ := k_text fu hfu (jm_u N 0 0 0 0) (jm_u M 0 0 7 0) i2' i1' (6 + N 0 0 72) (M 0 0 10) (M 0 0 7) 0 ⟨by omega, by omega⟩ b10 (Or.inl rfl) s1 s2
      have a := wp_at hk1 eM
      have b := wp_at hk2 eN
      rw [← a, if_pos rfl] at b
      exact b
    rw [w1] at eN
    have kM : ∀ (f : Nat) (i k : Int), X1 f i k → ¬ ((f = 35 ∨ f = 48) ∧ k = N 0 0 72) → M1 f i k = M f i k := fun f i k y y2 => fr f i k (by unfold X1 at y; omega) (nc y)
    refine ⟨ir.1.kk (fun i => kM 16 0 i (by unfold X1; omega) (by omega)) (fun k => kN 3 k (by unfold X3 X2; omega) (by omega)) (kN 0 1 (by unfold X3 X2; omega) (by omega)), ir.2.1.kk (fun k => kM 19 32 k (by unfold X1; omega) (by omega)) (fun f k y1 y2 => kN f k (by unfold X3 X2; omega) (by omega)) (kN 0 75 (by unfold X3 X2; omega) (by omega)), ir.2.2.1.kk b17.2 (fun i k y1 y2 => kM 19 i k (by unfold X1; omega) (by omega)) (fun f k y1 y2 => kN f k (by unfold X3 X2; omega) (by omega)) (kN 0 2 (by unfold X3 X2; omega) (by omega)) (kN 0 17 (by unfold X3 X2; omega) (by omega)), fun i y1 y2 => ?_, ir.2.2.2.2.kk (kN 0 17 (by unfold X3 X2; omega) (by omega)) (fun c => kN 17 c (by unfold X3 X2; omega) (by omega))⟩
    rw [b3] at y2
    by_cases e : i = N 0 0 72
    · rw [e, a4, a3, b4, cN 36 _ (Or.inr (Or.inl rfl)), cN 62 _ (Or.inr (Or.inr rfl))]
      refine ⟨rfl, ?_⟩
      obtain ⟨Mt2, e9, z⟩ := wp_at (kx_rule fu hfu (jm_u N 0 0 0 0) (jm_u M 0 0 7 0) i2' i1' (6 + N 0 0 72) (M 0 0 10) (M 0 0 7) ⟨by omega, by omega⟩ b10 s1 s2) eN rfl
      rw [eM] at e9
      obtain ⟨-, rfl⟩ := Prod.mk.inj (Option.some.inj e9)
      rw [show (jm_u N 0 0 0 0) 0 0 72 = N 0 0 72 from jm_une_k (by decide)] at z
      exact z.kk (fun f k y => cM f _ k y) (fun k _ _ => cN 35 k (Or.inl rfl))
    · obtain ⟨h1, h2⟩ := ir.2.2.2.1 i y1 (by omega)
      have b36 : N 36 0 (6 + i) ≤ 100 := (iN 36 0 (6 + i)).2
      rw [kM 35 0 i (by unfold X1; omega) (by omega), kM 48 0 i (by unfold X1; omega) (by omega), kN 61 i (by unfold X3 X2; omega) (by omega), kN 62 i (by unfold X3 X2; omega) (by omega), kN 36 (6 + i) (by unfold X3 X2; omega) (by omega)]
      exact ⟨h1, h2.kk (fun f k y => fr f _ k (by unfold CTX at y; omega) (fun _ => tx.2.2.1 i y1 (by omega))) (fun k q1 q2 => kN 35 k (by unfold X3 X2; omega) (by omega))⟩

