/-! what both have come to in the race -/
def BB (N : jm_M) : Int := 20000 + 400000 * N 0 0 70
def RUNc (M N : jm_M) (c : Int) : Prop := (M 9 c 0 = N 41 0 c ∧ M 9 c 1 = N 42 0 c ∧ M 9 c 3 = N 39 0 c ∧ (N 39 0 c = 1 → M 9 c 4 = N 40 0 c)) ∧ (M 9 c 5 = N 49 0 c ∧ M 9 c 6 = N 50 0 c ∧ M 9 c 7 = N 51 0 c ∧ M 9 c 8 = N 44 0 c ∧ M 9 c 9 = N 45 0 c ∧ M 9 c 10 = N 52 0 c ∧ M 9 c 11 = N 53 0 c ∧ M 9 c 12 = N 54 0 c ∧ M 9 c 13 = N 47 0 c ∧ M 9 c 14 = N 48 0 c) ∧ (∀ j : Int, 0 ≤ j → j < N 19 0 c → M 29 c j = N 46 0 (4 * c + j)) ∧ (∀ i : Int, 0 ≤ i → i < 5 → M 32 c i = N 56 0 (5 * c + i) + 1 ∧ -1 ≤ N 56 0 (5 * c + i) ∧ (0 ≤ N 56 0 (5 * c + i) → M 33 c i = N 57 0 (5 * c + i))) ∧ (∀ l : Int, 0 ≤ l → l < 12 → M 31 c l = N 59 0 (12 * c + l))
def INVc (N : jm_M) (c : Int) : Prop := (0 ≤ N 41 0 c ∧ N 41 0 c ≤ BB N) ∧ (-1 ≤ N 47 0 c ∧ N 47 0 c ≤ 1) ∧ (∀ j : Int, 0 ≤ j → j < N 19 0 c → 0 ≤ N 46 0 (4 * c + j) ∧ N 46 0 (4 * c + j) ≤ 100 + 2 * N 0 0 70) ∧ (∀ i : Int, 0 ≤ i → i < 5 → 0 ≤ N 56 0 (5 * c + i) → 0 ≤ N 57 0 (5 * c + i) ∧ N 57 0 (5 * c + i) ≤ BB N) ∧ (N 39 0 c = 0 → (0 ≤ N 45 0 c ∧ N 45 0 c < N 19 0 c) ∧ N 42 0 c = N 43 0 c ∧ N 42 0 c < N 0 0 1 * N 0 0 2 ∧ (0 ≤ N 44 0 c ∧ N 44 0 c ≤ N 14 0 c))
def RUN (M N : jm_M) : Prop := (M 2 0 6 = N 0 0 70 ∧ 0 ≤ N 0 0 70) ∧ (∀ t : Int, 0 ≤ t → t < 4 → M 34 0 t = N 58 0 t ∧ 0 ≤ N 58 0 t ∧ N 58 0 t ≤ BB N) ∧ RTm M N ∧ ∀ c : Int, 0 ≤ c → c < N 0 0 17 → RUNc M N c ∧ INVc N c
/-- cells of a car that may change while it goes on -/
def KG1 (c : Int) (f : Nat) (i k : Int) : Prop := ¬ ((f = 9 ∨ (29 ≤ f ∧ f ≤ 33)) ∧ i = c) ∧ f ≠ 34 ∧ f ≠ 27 ∧ f ≠ 28 ∧ ¬ (f = 2 ∧ k = 6)
def KG2 (c : Int) (f : Nat) (i k : Int) : Prop := ¬ (((39 ≤ f ∧ f ≤ 45) ∨ (47 ≤ f ∧ f ≤ 54)) ∧ i = 0 ∧ k = c) ∧ ¬ (f = 46 ∧ i = 0 ∧ 4 * c ≤ k ∧ k < 4 * c + 4) ∧ ¬ (f = 55 ∧ i = 0 ∧ 60 * c ≤ k ∧ k < 60 * c + 60) ∧ ¬ ((f = 56 ∨ f = 57) ∧ i = 0 ∧ 5 * c ≤ k ∧ k < 5 * c + 5) ∧ ¬ (f = 59 ∧ i = 0 ∧ 12 * c ≤ k ∧ k < 12 * c + 12) ∧ f ≠ 58 ∧ f ≠ 37 ∧ f ≠ 38 ∧ ¬ (f = 0 ∧ (k = 47 ∨ k = 70))
theorem KG1.tol {c : Int} : ∀ (f : Nat) (i k : Int), TD1 f i k → KG1 c f i k := by
  intro f i k h
  unfold TD1 at h
  unfold KG1
  omega
theorem KG2.tol {c : Int} : ∀ (f : Nat) (i k : Int), TD2 f i k → KG2 c f i k := by
  intro f i k h
  unfold TD2 at h
  unfold KG2
  omega
/-- the others stay as they were -/
theorem run_others {M N M1 N1 : jm_M} {c : Int} (h : RUN M N) (k1 : Kp (KG1 c) M M1) (k2 : Kp (KG2 c) N N1) (b17 : N 0 0 17 ≤ 6) (b4 : ∀ o : Int, N 19 0 o ≤ 4) (ht : N 0 0 70 ≤ N1 0 0 70) : ∀ o : Int, 0 ≤ o → o < N 0 0 17 → o ≠ c → (RUNc M1 N1 o ∧ INVc N1 o) ∧ ((M1 9 o 2 = N1 43 0 o ∧ 0 ≤ N1 43 0 o ∧ N1 43 0 o ≤ 60) ∧ ∀ g : Int, 0 ≤ g → g < 60 → (g < N1 43 0 o → N1 55 0 (60 * o + g) = M1 30 o g ∧ 0 ≤ M1 30 o g) ∧ (N1 43 0 o ≤ g → N1 55 0 (60 * o + g) = -1)) := by
  intro o o0 o1 oc
  obtain ⟨-, -, rt, hr⟩ := h
  obtain ⟨⟨⟨a0, a1, a3, a4⟩, ⟨a5, a6, a7, a8, a9, a10, a11, a12, a13, a14⟩, ag, te, ln⟩, i0, im, ia, ie, ir⟩ := hr o o0 o1
  obtain ⟨⟨r1, r2, r3⟩, r4⟩ := rt o o0 o1
  have m9 : ∀ k : Int, M1 9 o k = M 9 o k := fun k => k1 9 o k (by unfold KG1; omega)
  have mx : ∀ (f : Nat) (k : Int), 29 ≤ f → f ≤ 33 → M1 f o k = M f o k := fun f k y1 y2 => k1 f o k (by unfold KG1; omega)
  have ns : ∀ f : Nat, ((39 ≤ f ∧ f ≤ 45) ∨ (47 ≤ f ∧ f ≤ 54)) → N1 f 0 o = N f 0 o := fun f y => k2 f 0 o (by unfold KG2; omega)
  have n46 : ∀ j : Int, 0 ≤ j → j < 4 → N1 46 0 (4 * o + j) = N 46 0 (4 * o + j) := fun j y1 y2 => k2 46 0 _ (by unfold KG2; omega)
  have n55 : ∀ g : Int, 0 ≤ g → g < 60 → N1 55 0 (60 * o + g) = N 55 0 (60 * o + g) := fun g y1 y2 => k2 55 0 _ (by unfold KG2; omega)
  have n56 : ∀ i : Int, 0 ≤ i → i < 5 → N1 56 0 (5 * o + i) = N 56 0 (5 * o + i) := fun i y1 y2 => k2 56 0 _ (by unfold KG2; omega)
  have n57 : ∀ i : Int, 0 ≤ i → i < 5 → N1 57 0 (5 * o + i) = N 57 0 (5 * o + i) := fun i y1 y2 => k2 57 0 _ (by unfold KG2; omega)
  have n59 : ∀ l : Int, 0 ≤ l → l < 12 → N1 59 0 (12 * o + l) = N 59 0 (12 * o + l) := fun l y1 y2 => k2 59 0 _ (by unfold KG2; omega)
  have n19 : N1 19 0 o = N 19 0 o := k2 19 0 o (by unfold KG2; omega)
  have n14 : N1 14 0 o = N 14 0 o := k2 14 0 o (by unfold KG2; omega)
  have n01 : N1 0 0 1 = N 0 0 1 := k2 0 0 1 (by unfold KG2; omega)
  have n02 : N1 0 0 2 = N 0 0 2 := k2 0 0 2 (by unfold KG2; omega)
  have bb : BB N ≤ BB N1 := by
    unfold BB
    omega
  have f39 := ns 39 (by decide)
  have f40 := ns 40 (by decide)
  have f41 := ns 41 (by decide)
  have f42 := ns 42 (by decide)
  have f43 := ns 43 (by decide)
  have f44 := ns 44 (by decide)
  have f45 := ns 45 (by decide)
  have f47 := ns 47 (by decide)
  have f48 := ns 48 (by decide)
  have f49 := ns 49 (by decide)
  have f50 := ns 50 (by decide)
  have f51 := ns 51 (by decide)
  have f52 := ns 52 (by decide)
  have f53 := ns 53 (by decide)
  have f54 := ns 54 (by decide)
  refine ⟨⟨⟨⟨?_, ?_, ?_, fun y => ?_⟩, ⟨?_, ?_, ?_, ?_, ?_, ?_, ?_, ?_, ?_, ?_⟩, fun j y1 y2 => ?_, fun i y1 y2 => ?_, fun l y1 y2 => ?_⟩, ?_, ?_, fun j y1 y2 => ?_, fun i y1 y2 y3 => ?_, fun y => ?_⟩, ⟨?_, ?_, ?_⟩, fun g y1 y2 => ⟨fun y3 => ?_, fun y3 => ?_⟩⟩
  · rw [m9, f41]; exact a0
  · rw [m9, f42]; exact a1
  · rw [m9, f39]; exact a3
  · rw [m9, f40]; exact a4 (by rw [← f39]; exact y)
  · rw [m9, f49]; exact a5
  · rw [m9, f50]; exact a6
  · rw [m9, f51]; exact a7
  · rw [m9, f44]; exact a8
  · rw [m9, f45]; exact a9
  · rw [m9, f52]; exact a10
  · rw [m9, f53]; exact a11
  · rw [m9, f54]; exact a12
  · rw [m9, f47]; exact a13
  · rw [m9, f48]; exact a14
  · rw [n19] at y2
    have b19 := b4 o
    rw [mx 29 j (by decide) (by decide), n46 j y1 (by omega)]
    exact ag j y1 y2
  · rw [mx 32 i (by decide) (by decide), mx 33 i (by decide) (by decide), n56 i y1 y2, n57 i y1 y2]; exact te i y1 y2
  · rw [mx 31 l (by decide) (by decide), n59 l y1 y2]; exact ln l y1 y2
  · rw [f41]; exact ⟨i0.1, by omega⟩
  · rw [f47]; exact im
  · rw [n19] at y2
    have b19 := b4 o
    have := ia j y1 y2
    rw [n46 j y1 (by omega)]
    exact ⟨this.1, by omega⟩
  · rw [n56 i y1 y2] at y3
    rw [n57 i y1 y2]
    have := ie i y1 y2 y3
    exact ⟨this.1, by omega⟩
  · rw [f39] at y
    rw [f45, f42, f43, f44, n19, n14, n01, n02]
    exact ir y
  · rw [m9, f43]; exact r1
  · rw [f43]; exact r2
  · rw [f43]; exact r3
  · rw [f43] at y3
    rw [n55 g y1 y2, mx 30 g (by decide) (by decide)]
    exact (r4 g y1 y2).1 y3
  · rw [f43] at y3
    rw [n55 g y1 y2]
    exact (r4 g y1 y2).2 y3
