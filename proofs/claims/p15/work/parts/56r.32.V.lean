/-! what is told, part by part, kept -/
def C1r (f : Nat) (i k : Int) : Prop := (f = 10 ∧ i = 30 ∧ k = 3) ∨ (f = 19 ∧ i = 30)
def C2r (f : Nat) (i k : Int) : Prop := i = 0 ∧ ((f = 0 ∧ k = 8) ∨ f = 6 ∨ f = 7 ∨ f = 8)
def C1f (f : Nat) (i k : Int) : Prop := (f = 10 ∧ i = 31 ∧ k = 3) ∨ (f = 19 ∧ i = 31)
def C2f (f : Nat) (i k : Int) : Prop := i = 0 ∧ ((f = 0 ∧ k = 12) ∨ (9 ≤ f ∧ f ≤ 12))
def C1s (f : Nat) (i k : Int) : Prop := (f = 10 ∧ k = 3 ∧ 0 ≤ i ∧ i < 6) ∨ (f = 19 ∧ 0 ≤ i ∧ i < 6)
def C2s (f : Nat) (i k : Int) : Prop := i = 0 ∧ ((f = 0 ∧ k = 17) ∨ (19 ≤ f ∧ f ≤ 21))
def C1p (f : Nat) (i k : Int) : Prop := (f = 8 ∧ k = 13) ∨ (f = 10 ∧ k = 3 ∧ ((12 ≤ i ∧ i < 18) ∨ (24 ≤ i ∧ i < 30))) ∨ (f = 19 ∧ ((12 ≤ i ∧ i < 18) ∨ (24 ≤ i ∧ i < 30)))
def C2p (f : Nat) (i k : Int) : Prop := i = 0 ∧ ((f = 0 ∧ k = 17) ∨ (26 ≤ f ∧ f ≤ 29))
def C1o (f : Nat) (i k : Int) : Prop := (f = 10 ∧ k = 3 ∧ 6 ≤ i ∧ i < 12) ∨ (f = 19 ∧ 6 ≤ i ∧ i < 12)
def C2o (f : Nat) (i k : Int) : Prop := i = 0 ∧ ((f = 0 ∧ k = 17) ∨ (22 ≤ f ∧ f ≤ 25))
def C1n (f : Nat) (i k : Int) : Prop := i = 0 ∧ (f = 1 ∨ (f = 2 ∧ k = 5) ∨ f = 14 ∨ f = 15 ∨ f = 17 ∨ f = 18)
def C2n (f : Nat) (i k : Int) : Prop := i = 0 ∧ ((f = 0 ∧ (k = 1 ∨ k = 2 ∨ k = 17)) ∨ f = 1 ∨ f = 2 ∨ f = 4 ∨ f = 5)
def C1c (f : Nat) (i k : Int) : Prop := f = 8 ∧ (k ≤ 5 ∨ k = 11 ∨ k = 12 ∨ k = 13)
def C2c (f : Nat) (i k : Int) : Prop := i = 0 ∧ ((f = 0 ∧ k = 17) ∨ (13 ≤ f ∧ f ≤ 18) ∨ f = 30 ∨ f = 60 ∨ (f = 35 ∧ k < 600) ∨ (f = 36 ∧ k < 6))
def C2l (f : Nat) (i k : Int) : Prop := i = 0 ∧ ((f = 0 ∧ k = 17) ∨ f = 1 ∨ f = 2 ∨ f = 4 ∨ f = 5 ∨ f = 13 ∨ f = 14 ∨ f = 15 ∨ f = 18 ∨ f = 19 ∨ f = 21)
def CTX (f : Nat) (i k : Int) : Prop := f = 11 ∨ (20 ≤ f ∧ f ≤ 24)
theorem TDr.kk {M N M1 N1 : jm_M} (h : TDr M N) (k1 : Kp C1r M M1) (k2 : Kp C2r N N1) : TDr M1 N1 := by
  have e8 : N1 0 0 8 = N 0 0 8 := k2 0 0 8 (by unfold C2r; omega)
  refine ⟨(k1 10 30 3 (by unfold C1r; omega)).trans (h.1.trans e8.symm), fun j y1 y2 => ?_⟩
  rw [e8] at y2
  rw [k1 19 30 (3 * j) (by unfold C1r; omega), k1 19 30 (3 * j + 1) (by unfold C1r; omega), k1 19 30 (3 * j + 2) (by unfold C1r; omega), k2 6 0 j (by unfold C2r; omega), k2 7 0 j (by unfold C2r; omega), k2 8 0 j (by unfold C2r; omega)]
  exact h.2 j y1 y2
theorem TDf.kk {M N M1 N1 : jm_M} (h : TDf M N) (k1 : Kp C1f M M1) (k2 : Kp C2f N N1) : TDf M1 N1 := by
  have e8 : N1 0 0 12 = N 0 0 12 := k2 0 0 12 (by unfold C2f; omega)
  refine ⟨(k1 10 31 3 (by unfold C1f; omega)).trans (h.1.trans e8.symm), fun j y1 y2 => ?_⟩
  rw [e8] at y2
  rw [k1 19 31 (4 * j) (by unfold C1f; omega), k1 19 31 (4 * j + 1) (by unfold C1f; omega), k1 19 31 (4 * j + 2) (by unfold C1f; omega), k1 19 31 (4 * j + 3) (by unfold C1f; omega), k2 9 0 j (by unfold C2f; omega), k2 10 0 j (by unfold C2f; omega), k2 11 0 j (by unfold C2f; omega), k2 12 0 j (by unfold C2f; omega)]
  exact h.2 j y1 y2
theorem TDs.kk {M N M1 N1 : jm_M} (h : TDs M N) (b17 : N 0 0 17 ≤ 6) (k1 : Kp C1s M M1) (k2 : Kp C2s N N1) : TDs M1 N1 := by
  intro c y1 y2
  rw [k2 0 0 17 (by unfold C2s; omega)] at y2
  obtain ⟨a, b⟩ := h c y1 y2
  rw [k1 10 c 3 (by unfold C1s; omega), k2 19 0 c (by unfold C2s; omega)]
  refine ⟨a, fun j y3 y4 => ?_⟩
  rw [k1 19 c (2 * j) (by unfold C1s; omega), k1 19 c (2 * j + 1) (by unfold C1s; omega), k2 20 0 (4 * c + j) (by unfold C2s; omega), k2 21 0 (4 * c + j) (by unfold C2s; omega)]
  exact b j y3 y4
theorem TDp.kk {M N M1 N1 : jm_M} (h : TDp M N) (b17 : N 0 0 17 ≤ 6) (k1 : Kp C1p M M1) (k2 : Kp C2p N N1) : TDp M1 N1 := by
  intro c y1 y2
  rw [k2 0 0 17 (by unfold C2p; omega)] at y2
  obtain ⟨a, b⟩ := h c y1 y2
  have st : stT M1 c = stT M c := by
    unfold stT
    rw [k1 8 c 13 (by unfold C1p; omega)]
  have sr : (12 ≤ stT M c ∧ stT M c < 18) ∨ (24 ≤ stT M c ∧ stT M c < 30) := by
    unfold stT
    by_cases q : M 8 c 13 = 0
    · rw [if_pos q]; omega
    · rw [if_neg q]; omega
  rw [st, k1 10 (stT M c) 3 (by unfold C1p; omega), k2 26 0 c (by unfold C2p; omega)]
  refine ⟨a, fun j y3 y4 => ?_⟩
  rw [k1 19 (stT M c) (3 * j) (by unfold C1p; omega), k1 19 (stT M c) (3 * j + 1) (by unfold C1p; omega), k1 19 (stT M c) (3 * j + 2) (by unfold C1p; omega), k2 27 0 (5 * c + j) (by unfold C2p; omega), k2 28 0 (5 * c + j) (by unfold C2p; omega), k2 29 0 (5 * c + j) (by unfold C2p; omega)]
  exact b j y3 y4
theorem TDo.kk {M N M1 N1 : jm_M} (h : TDo M N) (b17 : N 0 0 17 ≤ 6) (k1 : Kp C1o M M1) (k2 : Kp C2o N N1) : TDo M1 N1 := by
  intro c y1 y2
  rw [k2 0 0 17 (by unfold C2o; omega)] at y2
  obtain ⟨a, b⟩ := h c y1 y2
  rw [k1 10 (c + 6) 3 (by unfold C1o; omega), k2 22 0 c (by unfold C2o; omega)]
  refine ⟨a, fun j y3 y4 => ?_⟩
  rw [k1 19 (c + 6) (3 * j) (by unfold C1o; omega), k1 19 (c + 6) (3 * j + 1) (by unfold C1o; omega), k1 19 (c + 6) (3 * j + 2) (by unfold C1o; omega), k2 23 0 (12 * c + j) (by unfold C2o; omega), k2 24 0 (12 * c + j) (by unfold C2o; omega), k2 25 0 (12 * c + j) (by unfold C2o; omega)]
  exact b j y3 y4
theorem TNUM.kk {M N M1 N1 : jm_M} (h : TNUM M N) (k1 : Kp C1n M M1) (k2 : Kp C2n N N1) : TNUM M1 N1 := by
  have m1 : M1 1 0 = M 1 0 := funext fun k => k1 1 0 k (by unfold C1n; omega)
  have m5 : M1 2 0 5 = M 2 0 5 := k1 2 0 5 (by unfold C1n; omega)
  have m14 : M1 14 0 = M 14 0 := funext fun k => k1 14 0 k (by unfold C1n; omega)
  have m15 : M1 15 0 = M 15 0 := funext fun k => k1 15 0 k (by unfold C1n; omega)
  have m17 : M1 17 0 = M 17 0 := funext fun k => k1 17 0 k (by unfold C1n; omega)
  have m18 : M1 18 0 = M 18 0 := funext fun k => k1 18 0 k (by unfold C1n; omega)
  have n1 : N1 1 0 = N 1 0 := funext fun k => k2 1 0 k (by unfold C2n; omega)
  have n2 : N1 2 0 = N 2 0 := funext fun k => k2 2 0 k (by unfold C2n; omega)
  have n4 : N1 4 0 = N 4 0 := funext fun k => k2 4 0 k (by unfold C2n; omega)
  have n5 : N1 5 0 = N 5 0 := funext fun k => k2 5 0 k (by unfold C2n; omega)
  have a1 : N1 0 0 1 = N 0 0 1 := k2 0 0 1 (by unfold C2n; omega)
  have a2 : N1 0 0 2 = N 0 0 2 := k2 0 0 2 (by unfold C2n; omega)
  have a17 : N1 0 0 17 = N 0 0 17 := k2 0 0 17 (by unfold C2n; omega)
  unfold TNUM at h ⊢
  rw [m1, m5, m14, m15, m17, m18, n1, n2, n4, n5, a1, a2, a17]
  exact h
theorem LIM.kk {N N1 : jm_M} (h : LIM N) (k2 : Kp C2l N N1) : LIM N1 := by
  have n1 : N1 1 0 = N 1 0 := funext fun k => k2 1 0 k (by unfold C2l; omega)
  have n2 : N1 2 0 = N 2 0 := funext fun k => k2 2 0 k (by unfold C2l; omega)
  have n4 : N1 4 0 = N 4 0 := funext fun k => k2 4 0 k (by unfold C2l; omega)
  have n5 : N1 5 0 = N 5 0 := funext fun k => k2 5 0 k (by unfold C2l; omega)
  have n13 : N1 13 0 = N 13 0 := funext fun k => k2 13 0 k (by unfold C2l; omega)
  have n14 : N1 14 0 = N 14 0 := funext fun k => k2 14 0 k (by unfold C2l; omega)
  have n15 : N1 15 0 = N 15 0 := funext fun k => k2 15 0 k (by unfold C2l; omega)
  have n18 : N1 18 0 = N 18 0 := funext fun k => k2 18 0 k (by unfold C2l; omega)
  have n19 : N1 19 0 = N 19 0 := funext fun k => k2 19 0 k (by unfold C2l; omega)
  have n21 : N1 21 0 = N 21 0 := funext fun k => k2 21 0 k (by unfold C2l; omega)
  have a17 : N1 0 0 17 = N 0 0 17 := k2 0 0 17 (by unfold C2l; omega)
  unfold LIM at h ⊢
  rw [n1, n2, n4, n5, n13, n14, n15, n18, n19, n21, a17]
  exact h
theorem aF_congr (c d : Int → Int) : ∀ (n : Nat) (a : Int) (s : Int × Int × Int), (∀ j : Int, a ≤ j → j < a + (n : Int) → c j = d j) → aF c n a s = aF d n a s := by
  intro n
  induction n with
  | zero => intro a s _; rfl
  | succ n ih =>
    intro a s h
    show aF c n (a + 1) (aStep (c a) s) = aF d n (a + 1) (aStep (d a) s)
    rw [h a (by omega) (by omega)]
    exact ih (a + 1) _ (fun j y1 y2 => h j (by omega) (by omega))
theorem LR.kk {u t l p q r a b : Int} {M N M1 N1 : jm_M} (h : LR u M N t l p q r) (hp : a ≤ p) (hr : r < b) (m20 : M1 20 t = M 20 t) (m21 : M1 21 t = M 21 t) (m22 : M1 22 t = M 22 t) (m23 : M1 23 t = M 23 t) (m24 : M1 24 t = M 24 t) (kn : ∀ k : Int, a ≤ k → k < b → N1 35 0 k = N 35 0 k) : LR u M1 N1 t l p q r := by
  have fr : frm M1 t l = frm M t l := by
    unfold frm
    rw [m21]
  obtain ⟨h1, h2, ⟨h3, h4, h5, h6⟩, h7⟩ := h
  have pq : p ≤ q := by
    rcases h2 with ⟨g1, g2, -, -⟩ | ⟨g1, g2, -⟩
    · omega
    · omega
  refine ⟨by rw [fr, m21]; exact h1, ?_, ⟨by rw [kn q (by omega) (by omega)]; exact h3, h4, by rw [kn r (by omega) (by omega)]; exact h5, fun j y1 y2 => by rw [kn j (by omega) (by omega)]; exact h6 j y1 y2⟩, ?_⟩
  · rcases h2 with ⟨g1, g2, g3, g4⟩ | ⟨g1, g2, g3⟩
    · refine Or.inl ⟨by rw [fr, m21]; exact g1, by rw [fr, m21]; exact g2, ?_, fun j y1 y2 => ?_⟩
      · rw [fr, m21, hg_congr (c := N1 35 0) (d := N 35 0) (M 21 t l - frm M t l).toNat p 0 (fun j y1 y2 => kn j (by omega) (by omega))]
        exact g3
      · rw [fr, m21] at y2
        rw [fr, m20, kn (p + j) (by omega) (by omega)]
        exact g4 j y1 y2
    · exact Or.inr ⟨by rw [fr, m21]; exact g1, g2, by rw [kn p (by omega) (by omega)]; exact g3⟩
  · rw [m22, m23, m24, aF_congr (N1 35 0) (N 35 0) (r - q - 1).toNat (q + 1) (9, 9, -1) (fun j y1 y2 => kn j (by omega) (by omega))]
    exact h7
theorem TXT.kk {u t a b : Int} {M N M1 N1 : jm_M} (h : TXT u M N t a b) (kt : ∀ (f : Nat) (k : Int), CTX f 0 0 → M1 f t k = M f t k) (kn : ∀ k : Int, a ≤ k → k < b → N1 35 0 k = N 35 0 k) : TXT u M1 N1 t a b := by
  have fm : ∀ f : Nat, CTX f 0 0 → M1 f t = M f t := fun f q => funext fun k => kt f k q
  obtain ⟨h1, P, p0, pe, hl⟩ := h
  have e11 := fm 11 (by unfold CTX; omega)
  refine ⟨by rw [e11]; exact h1, P, p0, by rw [e11]; exact pe, fun l y1 y2 => ?_⟩
  rw [e11] at y2
  obtain ⟨q, r, lr, e, g1, g2⟩ := hl l y1 y2
  exact ⟨q, r, lr.kk g1 g2 (fm 20 (by unfold CTX; omega)) (fm 21 (by unfold CTX; omega)) (fm 22 (by unfold CTX; omega)) (fm 23 (by unfold CTX; omega)) (fm 24 (by unfold CTX; omega)) kn, e, g1, g2⟩
theorem TCAR.kk {M N M1 N1 : jm_M} (h : TCAR M N) (iN : bI bx2 N) (k1 : Kp C1c M M1) (kt : ∀ (c : Int) (f : Nat) (k : Int), 0 ≤ c → c < N 0 0 17 → N 30 0 c ≠ 0 → CTX f 0 0 → M1 f (M 8 c 11) k = M f (M 8 c 11) k) (k2 : Kp C2c N N1) : TCAR M1 N1 := by
  intro c y1 y2
  have b17 : 0 ≤ N 0 0 17 ∧ N 0 0 17 ≤ 6 := iN 0 0 17
  rw [k2 0 0 17 (by unfold C2c; omega)] at y2
  obtain ⟨⟨a0, a1, a2, a3, a4, a5⟩, ⟨b0, b1⟩, tx⟩ := h c y1 y2
  refine ⟨⟨?_, ?_, ?_, ?_, ?_, ?_⟩, ⟨?_, ?_⟩, fun y => ?_⟩
  · rw [k1 8 c 0 (by unfold C1c; omega), k2 13 0 c (by unfold C2c; omega)]; exact a0
  · rw [k1 8 c 1 (by unfold C1c; omega), k2 14 0 c (by unfold C2c; omega)]; exact a1
  · rw [k1 8 c 2 (by unfold C1c; omega), k2 15 0 c (by unfold C2c; omega)]; exact a2
  · rw [k1 8 c 3 (by unfold C1c; omega), k2 16 0 c (by unfold C2c; omega)]; exact a3
  · rw [k1 8 c 4 (by unfold C1c; omega), k2 17 0 c (by unfold C2c; omega)]; exact a4
  · rw [k1 8 c 5 (by unfold C1c; omega), k2 18 0 c (by unfold C2c; omega)]; exact a5
  · rw [k1 8 c 12 (by unfold C1c; omega), k2 30 0 c (by unfold C2c; omega)]; exact b0
  · rw [k1 8 c 13 (by unfold C1c; omega), k2 60 0 c (by unfold C2c; omega)]; exact b1
  · rw [k2 30 0 c (by unfold C2c; omega)] at y
    rw [k1 8 c 11 (by unfold C1c; omega), k2 36 0 c (by unfold C2c; omega)]
    have b36 : N 36 0 c ≤ 100 := (iN 36 0 c).2
    exact (tx y).kk (fun f k q => kt c f k y1 y2 y q) (fun k q1 q2 => k2 35 0 k (by unfold C2c; omega))
/-- all told of the race, kept -/
def RL1 (f : Nat) (i k : Int) : Prop := C1r f i k ∨ C1f f i k ∨ C1s f i k ∨ C1p f i k ∨ C1o f i k ∨ C1n f i k ∨ C1c f i k
def RL2 (f : Nat) (i k : Int) : Prop := C2r f i k ∨ C2f f i k ∨ C2s f i k ∨ C2p f i k ∨ C2o f i k ∨ C2n f i k ∨ C2c f i k ∨ C2l f i k
theorem TLD.kk {M N M1 N1 : jm_M} (h : TLD M N) (iN : bI bx2 N) (k1 : Kp RL1 M M1) (kt : ∀ (c : Int) (f : Nat) (k : Int), 0 ≤ c → c < N 0 0 17 → N 30 0 c ≠ 0 → CTX f 0 0 → M1 f (M 8 c 11) k = M f (M 8 c 11) k) (k2 : Kp RL2 N N1) : TLD M1 N1 := by
  have b17 : N 0 0 17 ≤ 6 := (iN 0 0 17).2
  obtain ⟨⟨h1, h2, h3, h4, h5⟩, h6, h7, h8⟩ := h
  exact ⟨⟨h1.kk (fun f i k q => k1 f i k (Or.inl q)) (fun f i k q => k2 f i k (Or.inl q)), h2.kk (fun f i k q => k1 f i k (Or.inr (Or.inl q))) (fun f i k q => k2 f i k (Or.inr (Or.inl q))), h3.kk b17 (fun f i k q => k1 f i k (Or.inr (Or.inr (Or.inl q)))) (fun f i k q => k2 f i k (Or.inr (Or.inr (Or.inl q)))), h4.kk b17 (fun f i k q => k1 f i k (Or.inr (Or.inr (Or.inr (Or.inl q))))) (fun f i k q => k2 f i k (Or.inr (Or.inr (Or.inr (Or.inl q))))), h5.kk b17 (fun f i k q => k1 f i k (Or.inr (Or.inr (Or.inr (Or.inr (Or.inl q)))))) (fun f i k q => k2 f i k (Or.inr (Or.inr (Or.inr (Or.inr (Or.inl q))))))⟩, h6.kk (fun f i k q => k1 f i k (Or.inr (Or.inr (Or.inr (Or.inr (Or.inr (Or.inl q))))))) (fun f i k q => k2 f i k (Or.inr (Or.inr (Or.inr (Or.inr (Or.inr (Or.inl q))))))), h7.kk iN (fun f i k q => k1 f i k (Or.inr (Or.inr (Or.inr (Or.inr (Or.inr (Or.inr q))))))) kt (fun f i k q => k2 f i k (Or.inr (Or.inr (Or.inr (Or.inr (Or.inr (Or.inr (Or.inl q)))))))), h8.kk (fun f i k q => k2 f i k (Or.inr (Or.inr (Or.inr (Or.inr (Or.inr (Or.inr (Or.inr q)))))))) ⟩
