def bxo2 (k v : Int) : Prop := if k = 1 then (2 ≤ v ∧ v ≤ 5) else if k = 2 then (1 ≤ v ∧ v ≤ 12) else if k = 8 then (0 ≤ v ∧ v ≤ 30) else if k = 12 then (0 ≤ v ∧ v ≤ 20) else if k = 17 then (0 ≤ v ∧ v ≤ 6) else if k = 40 then (0 ≤ v ∧ v ≤ 100) else if k = 41 then (0 ≤ v ∧ v ≤ 60) else if k = 42 then (0 ≤ v ∧ v ≤ 16) else if k = 43 then (0 ≤ v ∧ v ≤ 10) else if k = 70 then (0 ≤ v ∧ v ≤ 361) else if k = 72 then (0 ≤ v ∧ v ≤ 10) else if k = 75 then (0 ≤ v ∧ v ≤ 20) else if k = 82 then (0 ≤ v ∧ v ≤ 6) else if k = 88 then (0 ≤ v ∧ v ≤ 1) else jm_in v
theorem ite_in {p A B C : Prop} [Decidable p] (h : if p then A else B) (ha : A → C) (hb : B → C) : C := by
  by_cases hp : p
  · rw [if_pos hp] at h; exact ha h
  · rw [if_neg hp] at h; exact hb h
theorem bxo2_in {k v : Int} (h : bxo2 k v) : jm_in v :=
  ite_in h (fun h => by unfold jm_in; omega) fun h =>
  ite_in h (fun h => by unfold jm_in; omega) fun h =>
  ite_in h (fun h => by unfold jm_in; omega) fun h =>
  ite_in h (fun h => by unfold jm_in; omega) fun h =>
  ite_in h (fun h => by unfold jm_in; omega) fun h =>
  ite_in h (fun h => by unfold jm_in; omega) fun h =>
  ite_in h (fun h => by unfold jm_in; omega) fun h =>
  ite_in h (fun h => by unfold jm_in; omega) fun h =>
  ite_in h (fun h => by unfold jm_in; omega) fun h =>
  ite_in h (fun h => by unfold jm_in; omega) fun h =>
  ite_in h (fun h => by unfold jm_in; omega) fun h =>
  ite_in h (fun h => by unfold jm_in; omega) fun h =>
  ite_in h (fun h => by unfold jm_in; omega) fun h =>
  ite_in h (fun h => by unfold jm_in; omega) fun h =>
  h
def bx2 (f : Nat) (i k v : Int) : Prop := match f with
  | 0 => bxo2 k v
  | 3 => (0 ≤ v ∧ v ≤ 1)
  | 16 => (0 ≤ v ∧ v ≤ 3)
  | 19 => (0 ≤ v ∧ v ≤ 4)
  | 20 => (0 ≤ v ∧ v ≤ 3)
  | 22 => (0 ≤ v ∧ v ≤ 12)
  | 26 => (0 ≤ v ∧ v ≤ 5)
  | 30 => (0 ≤ v ∧ v ≤ 1)
  | 31 => (0 ≤ v ∧ v ≤ 4)
  | 36 => (0 ≤ v ∧ v ≤ 100)
  | 42 => (0 ≤ v ∧ v ≤ 60)
  | 45 => ((-1) ≤ v ∧ v ≤ 3)
  | 60 => (0 ≤ v ∧ v ≤ 1)
  | 67 => (0 ≤ v ∧ v ≤ 1)
  | 73 => (0 ≤ v ∧ v ≤ 5)
  | _ => jm_in v
def TA2 (f : Nat) (i k : Int) : Prop := ¬ (f = 37 ∨ f = 38 ∨ f = 40 ∨ f = 41 ∨ f = 43 ∨ f = 44 ∨ (46 ≤ f ∧ f ≤ 59) ∨ f = 67 ∨ f = 68) ∧ (f = 0 → k ≠ 0 ∧ k ≠ 47 ∧ k ≠ 70) ∧ f ≠ 39 ∧ f ≠ 42 ∧ f ≠ 45
def TH2 (f : Nat) (i k : Int) : Prop := ¬ (f = 37 ∨ f = 38 ∨ f = 40 ∨ f = 41 ∨ f = 43 ∨ f = 44 ∨ (46 ≤ f ∧ f ≤ 59) ∨ f = 67 ∨ f = 68) ∧ (f = 0 → k ≠ 0 ∧ k ≠ 47)
def TE2 (z : Int) (f : Nat) (i k : Int) : Prop := ¬ (f = 37 ∨ f = 38 ∨ f = 40 ∨ f = 41 ∨ f = 43 ∨ f = 44 ∨ (46 ≤ f ∧ f ≤ 59) ∨ f = 67 ∨ f = 68) ∧ (f = 0 → k ≠ 0 ∧ k ≠ 47) ∧ (f = 39 → k ≠ z) ∧ (f = 45 → k ≠ z)
def TT2 (z : Int) (f : Nat) (i k : Int) : Prop := ¬ (f = 37 ∨ f = 38 ∨ f = 40 ∨ f = 41 ∨ f = 43 ∨ f = 44 ∨ (46 ≤ f ∧ f ≤ 59) ∨ f = 67 ∨ f = 68) ∧ (f = 0 → k ≠ 0 ∧ k ≠ 47 ∧ k ≠ 70) ∧ f ≠ 39 ∧ f ≠ 42 ∧ f ≠ 45 ∧ ¬ (27 ≤ f ∧ f ≤ 29) ∧ (f = 26 → k ≠ z) ∧ f ≠ 74 ∧ f ≠ 75 ∧ (f = 0 → ¬ (88 ≤ k ∧ k ≤ 90))
def TG2 (z : Int) (f : Nat) (i k : Int) : Prop := ¬ (f = 37 ∨ f = 38 ∨ f = 40 ∨ f = 41 ∨ f = 43 ∨ f = 44 ∨ (46 ≤ f ∧ f ≤ 59) ∨ f = 67 ∨ f = 68) ∧ (f = 0 → k ≠ 0 ∧ k ≠ 47 ∧ k ≠ 70) ∧ (f = 39 → k ≠ z) ∧ (f = 42 → k ≠ z) ∧ (f = 45 → k ≠ z)
def TK2 (z : Int) (f : Nat) (i k : Int) : Prop := ¬ (27 ≤ f ∧ f ≤ 29) ∧ ¬ (70 ≤ f ∧ f ≤ 72) ∧ (f = 26 → k ≠ z) ∧ (f = 73 → k ≠ z) ∧ f ≠ 60
def TU2 (z : Int) (f : Nat) (i k : Int) : Prop := f ≠ 27 ∧ f ≠ 28 ∧ f ≠ 29 ∧ (f = 26 → k ≠ z)
def RC2 (f : Nat) (i k : Int) : Prop := i = 0 ∧ ((f = 0 ∧ (k = 1 ∨ k = 2 ∨ k = 8 ∨ k = 12 ∨ k = 17 ∨ k = 40 ∨ k = 72 ∨ k = 75)) ∨ f = 4 ∨ f = 5 ∨ f = 19 ∨ f = 22 ∨ f = 26 ∨ f = 30 ∨ f = 31 ∨ f = 35 ∨ f = 36 ∨ f = 34)
def TM2 (g : Nat) (a : Int) (f : Nat) (i k : Int) : Prop := RC2 f i k ∧ ¬ (f = g ∧ k = a)
def TB2 (z : Int) (f : Nat) (i k : Int) : Prop := RC2 f i k ∧ (f = 26 → k ≠ z)
def TS2 (z y : Int) (f : Nat) (i k : Int) : Prop := RC2 f i k ∧ (f = 26 → k ≠ z ∧ k ≠ y)
def TV2 (f : Nat) (i k : Int) : Prop := RC2 f i k ∧ ¬ (f = 0 ∧ k = 40) ∧ f ≠ 34
theorem tt_TG2_TH2 {z : Int} : ∀ (f : Nat) (i k : Int), TG2 z f i k → TH2 f i k := fun f i k h => ⟨h.1, by have h2 := h.2; clear h; omega⟩
theorem tt_TG2_TE2 {z : Int} : ∀ (f : Nat) (i k : Int), TG2 z f i k → TE2 z f i k := fun f i k h => ⟨h.1, by have h2 := h.2; clear h; omega⟩
theorem tt_TA2_TG2 {z : Int} : ∀ (f : Nat) (i k : Int), TA2 f i k → TG2 z f i k := fun f i k h => ⟨h.1, by have h2 := h.2; clear h; omega⟩
theorem tt_TA2_TH2 : ∀ (f : Nat) (i k : Int), TA2 f i k → TH2 f i k := fun f i k h => ⟨h.1, by have h2 := h.2; clear h; omega⟩
theorem tt_TA2_TE2 {z : Int} : ∀ (f : Nat) (i k : Int), TA2 f i k → TE2 z f i k := fun f i k h => ⟨h.1, by have h2 := h.2; clear h; omega⟩
theorem tt_TE2_TH2 {z : Int} : ∀ (f : Nat) (i k : Int), TE2 z f i k → TH2 f i k := fun f i k h => ⟨h.1, by have h2 := h.2; clear h; omega⟩
theorem tt_TT2_TA2 {z : Int} : ∀ (f : Nat) (i k : Int), TT2 z f i k → TA2 f i k := by
  intro f i k h
  unfold TT2 at h
  unfold TA2
  omega
theorem tt_TT2_TU2 {z : Int} : ∀ (f : Nat) (i k : Int), TT2 z f i k → TU2 z f i k := by
  intro f i k h
  unfold TT2 at h
  unfold TU2
  omega
theorem tt_RC2_TA2 : ∀ (f : Nat) (i k : Int), RC2 f i k → TA2 f i k := by
  intro f i k h
  unfold RC2 at h
  unfold TA2
  omega
theorem tt_TB2_TK2 {z : Int} : ∀ (f : Nat) (i k : Int), TB2 z f i k → TK2 z f i k := by
  intro f i k h
  unfold TB2 RC2 at h
  unfold TK2
  omega
theorem tt_TB2_TT2 {z : Int} : ∀ (f : Nat) (i k : Int), TB2 z f i k → TT2 z f i k := by
  intro f i k h
  unfold TB2 RC2 at h
  unfold TT2
  omega
theorem tt_TS2_TA2 {z y : Int} : ∀ (f : Nat) (i k : Int), TS2 z y f i k → TA2 f i k := by
  intro f i k h
  unfold TS2 RC2 at h
  unfold TA2
  omega
theorem tt_TM2_RC2 {g : Nat} {a : Int} : ∀ (f : Nat) (i k : Int), TM2 g a f i k → RC2 f i k := fun _ _ _ h => h.1
theorem tt_TB2_RC2 {z : Int} : ∀ (f : Nat) (i k : Int), TB2 z f i k → RC2 f i k := fun _ _ _ h => h.1
theorem tt_TM2_TU2 {a : Int} : ∀ (f : Nat) (i k : Int), TM2 26 a f i k → TU2 a f i k := by
  intro f i k h
  unfold TM2 RC2 at h
  unfold TU2
  omega
theorem tt_TS2_TK2 {z y w : Int} (hw : w = z ∨ w = y) : ∀ (f : Nat) (i k : Int), TS2 z y f i k → TK2 w f i k := by
  intro f i k h
  unfold TS2 RC2 at h
  unfold TK2
  omega
theorem tt_TS2_TU2 {z y w : Int} (hw : w = z ∨ w = y) : ∀ (f : Nat) (i k : Int), TS2 z y f i k → TU2 w f i k := by
  intro f i k h
  unfold TS2 RC2 at h
  unfold TU2
  omega
theorem bx2_in {f : Nat} {i k v : Int} (h : bx2 f i k v) : jm_in v := by
  unfold bx2 at h
  split at h
  · exact bxo2_in h
  all_goals first | exact h | (unfold jm_in; omega)
theorem bI.rm2 {M : jm_M} (h : bI bx2 M) : jm_RM M := fun f i k => bx2_in (h f i k)
theorem jm_mulstep {s a b : Int} (h : a < b) (hs : 0 ≤ s) : s * a + s ≤ s * b := by
  have h1 : s * (a + 1) ≤ s * b := Int.mul_le_mul_of_nonneg_left (by omega) hs
  rw [Int.mul_add, Int.mul_one] at h1
  exact h1
/-! well-formed texts: what a mark does to the height of the stack -/
def tk (m : Int) (n : Nat) : Option Nat := if m = -300 then none else if -13 ≤ m then some (n + 1) else if m = -167 ∨ m = -74 then (if 1 ≤ n then some n else none) else (if 2 ≤ n then some (n - 1) else none)
def hg (c : Int → Int) : Nat → Int → Nat → Option Nat
  | 0, _, n => some n
  | l + 1, a, n => match tk (c a) n with
    | none => none
    | some m => hg c l (a + 1) m
/-- a line: a condition, its end, acts, its own end -/
def WFl (c : Int → Int) (a b : Int) : Prop := ∃ e x : Int, a ≤ e ∧ hg c (e - a).toNat a 0 = some 1 ∧ c e = -300 ∧ e < x ∧ (∀ j : Int, e < j → j < x → c j ≠ -302) ∧ c x = -302 ∧ b = x + 1
def WFt (c : Int → Int) : Nat → Int → Int → Prop
  | 0, a, b => a = b
  | n + 1, a, b => ∃ y : Int, WFl c a y ∧ WFt c n y b
def WF (M : jm_M) : Prop := (∀ k : Int, 0 ≤ k → k < M 0 0 72 → hg (M 35 0) (M 36 0 (6 + k)).toNat (100 * (6 + k)) 0 = some 1) ∧ (∀ c : Int, 0 ≤ c → c < 6 → M 30 0 c = 1 → ∃ n : Nat, WFt (M 35 0) n (100 * c) (100 * c + M 36 0 c))
def wfT (T : Nat → Int → Int → Prop) : Prop := ∀ k : Int, T 35 0 k ∧ T 36 0 k ∧ T 30 0 k ∧ T 0 0 72
theorem WF.kp {T : Nat → Int → Int → Prop} {M0 M : jm_M} (h : Kp T M0 M) (w : WF M0) (hT : wfT T) : WF M := by
  have e1 : M 35 0 = M0 35 0 := funext fun k => h 35 0 k (hT k).1
  have e2 : M 36 0 = M0 36 0 := funext fun k => h 36 0 k (hT k).2.1
  have e3 : M 30 0 = M0 30 0 := funext fun k => h 30 0 k (hT k).2.2.1
  have e4 : M 0 0 72 = M0 0 0 72 := h 0 0 72 (hT 0).2.2.2
  unfold WF
  rw [e1, e2, e3, e4]
  exact w
theorem wf_TA2 : wfT TA2 := by intro k; unfold TA2; omega
theorem wf_TH2 : wfT TH2 := by intro k; unfold TH2; omega
theorem wf_TE2 {z : Int} : wfT (TE2 z) := by intro k; unfold TE2; omega
theorem wf_RC2 : wfT RC2 := by intro k; unfold RC2; omega
theorem wf_TB2 {z : Int} : wfT (TB2 z) := by intro k; unfold TB2 RC2; omega
theorem wf_TS2 {z y : Int} : wfT (TS2 z y) := by intro k; unfold TS2 RC2; omega
theorem wf_TG2 {z : Int} : wfT (TG2 z) := by intro k; unfold TG2; omega
theorem wf_TT2 {z : Int} : wfT (TT2 z) := by intro k; unfold TT2; omega
theorem wf_TK2 {z : Int} : wfT (TK2 z) := by intro k; unfold TK2; omega
theorem wf_TU2 {z : Int} : wfT (TU2 z) := by intro k; unfold TU2; omega
theorem hg_app (c : Int → Int) : ∀ (l1 l2 : Nat) (a : Int) (n m : Nat), hg c l1 a n = some m → hg c (l1 + l2) a n = hg c l2 (a + l1) m := by
  intro l1
  induction l1 with
  | zero =>
    intro l2 a n m h
    have h : some n = some m := h
    cases h
    rw [Nat.zero_add]
    congr 1
    omega
  | succ l1 ih =>
    intro l2 a n m h
    have h : (match tk (c a) n with | none => none | some m => hg c l1 (a + 1) m) = some m := h
    rw [show l1 + 1 + l2 = (l1 + l2) + 1 by omega]
    show (match tk (c a) n with | none => none | some m => hg c (l1 + l2) (a + 1) m) = _
    cases ht : tk (c a) n with
    | none => rw [ht] at h; cases h
    | some q =>
      rw [ht] at h
      have := ih l2 (a + 1) q m h
      show hg c (l1 + l2) (a + 1) q = _
      rw [this]
      congr 1
      omega
theorem hg_mono (c : Int → Int) : ∀ (l : Nat) (a : Int) (n m k : Nat), hg c l a n = some m → hg c l a (n + k) = some (m + k) := by
  intro l
  induction l with
  | zero =>
    intro a n m k h
    have h : some n = some m := h
    cases h
    rfl
  | succ l ih =>
    intro a n m k h
    have h : (match tk (c a) n with | none => none | some m => hg c l (a + 1) m) = some m := h
    show (match tk (c a) (n + k) with | none => none | some m => hg c l (a + 1) m) = _
    cases ht : tk (c a) n with
    | none => rw [ht] at h; cases h
    | some q =>
      rw [ht] at h
      have h : hg c l (a + 1) q = some m := h
      have e : tk (c a) (n + k) = some (q + k) := by
        unfold tk at ht ⊢
        repeat' (split at ht)
        all_goals first | cases ht | skip
        all_goals (repeat' split)
        all_goals first | rfl | omega | (congr 1; omega)
      rw [e]
      exact ih (a + 1) q m k h
theorem hg_congr {c d : Int → Int} : ∀ (l : Nat) (a : Int) (n : Nat), (∀ j : Int, a ≤ j → j < a + l → c j = d j) → hg c l a n = hg d l a n := by
  intro l
  induction l with
  | zero => intro a n h; rfl
  | succ l ih =>
    intro a n h
    show (match tk (c a) n with | none => none | some m => hg c l (a + 1) m) = (match tk (d a) n with | none => none | some m => hg d l (a + 1) m)
    rw [h a (Int.le_refl a) (by omega)]
    cases tk (d a) n with
    | none => rfl
    | some q => exact ih (a + 1) q (fun j h1 h2 => h j (by omega) (by omega))
/-! what stands in the way: by the time it began -/
def hdm (M : jm_M) (l2 l8 : Int) : Int := if l8 < 0 then 0 else M 56 0 (jm_w ((jm_w (5 * l8)) + l2)) + 1
theorem hdm_neg {M : jm_M} {l2 l8 : Int} (h : l8 < 0) : hdm M l2 l8 = 0 := if_pos h
theorem hdm_pos {M : jm_M} {l2 l8 : Int} (h : 0 ≤ l8) : hdm M l2 l8 = M 56 0 (jm_w ((jm_w (5 * l8)) + l2)) + 1 := if_neg (by omega)
theorem hdm_eq {M M1 : jm_M} (h : ∀ x : Int, M1 56 0 x = M 56 0 x) (l2 l8 : Int) : hdm M1 l2 l8 = hdm M l2 l8 := by unfold hdm; rw [h]
/-- the last sector of the last lap -/
theorem jm_last {s n v : Int} (hs : 2 ≤ s ∧ s ≤ 5) (hn : 1 ≤ n ∧ n ≤ 12) (h0 : 0 ≤ v) (h1 : v < s * n) : 0 ≤ jm_mod v s ∧ jm_mod v s < s ∧ 0 ≤ jm_div v s ∧ jm_div v s < n ∧ (jm_mod v s ≠ s - 1 → v + 1 < s * n) ∧ (jm_div v s + 1 ≠ n → v + 1 < s * n) := by
  have e1 : jm_mod v s = v % s := Int.tmod_eq_emod_of_nonneg h0
  have e2 : jm_div v s = jm_w (v / s) := by
    unfold jm_div
    rw [Int.tdiv_eq_ediv_of_nonneg h0]
  rw [e1, e2]
  have hs4 : s = 2 ∨ s = 3 ∨ s = 4 ∨ s = 5 := by omega
  rcases hs4 with rfl | rfl | rfl | rfl
  all_goals (rw [jm_wid (by omega) (by omega)]; omega)
