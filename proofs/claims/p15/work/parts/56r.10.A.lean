/-! two programs at once -/
def J2 (x y : jm_R) (Q : Int → jm_M → Int → jm_M → Prop) : Prop := ∃ (v : Int) (M1 : jm_M) (w : Int) (N1 : jm_M), x = some (v, M1) ∧ y = some (w, N1) ∧ Q v M1 w N1
section JJ
variable {M N : jm_M} {x x' y y' g g' : jm_R} {Q : Int → jm_M → Int → jm_M → Prop} {v w : Int} {c d : Prop}
theorem J2.ret (h : Q v M w N) : J2 (some (v, M)) (some (w, N)) Q := ⟨v, M, w, N, rfl, rfl, h⟩
theorem J2.lT {inst : Decidable c} (hc : c) (h : J2 x y Q) : J2 (@ite jm_R c inst x x') y Q := by rw [if_pos hc]; exact h
theorem J2.lF {inst : Decidable c} (hc : ¬ c) (h : J2 x' y Q) : J2 (@ite jm_R c inst x x') y Q := by rw [if_neg hc]; exact h
theorem J2.rT {inst : Decidable c} (hc : c) (h : J2 x y Q) : J2 x (@ite jm_R c inst y y') Q := by rw [if_pos hc]; exact h
theorem J2.rF {inst : Decidable c} (hc : ¬ c) (h : J2 x y' Q) : J2 x (@ite jm_R c inst y y') Q := by rw [if_neg hc]; exact h
theorem J2.li {inst : Decidable c} (h1 : c → J2 x y Q) (h2 : ¬ c → J2 x' y Q) : J2 (@ite jm_R c inst x x') y Q := by
  by_cases hc : c
  · exact J2.lT hc (h1 hc)
  · exact J2.lF hc (h2 hc)
theorem J2.ri {inst : Decidable c} (h1 : c → J2 x y Q) (h2 : ¬ c → J2 x y' Q) : J2 x (@ite jm_R c inst y y') Q := by
  by_cases hc : c
  · exact J2.rT hc (h1 hc)
  · exact J2.rF hc (h2 hc)
theorem J2.bi {inst : Decidable c} {inst2 : Decidable d} (e : c ↔ d) (h1 : c → J2 x y Q) (h2 : ¬ c → J2 x' y' Q) : J2 (@ite jm_R c inst x x') (@ite jm_R d inst2 y y') Q := by
  by_cases hc : c
  · exact J2.lT hc (J2.rT (e.1 hc) (h1 hc))
  · exact J2.lF hc (J2.rF (fun q => hc (e.2 q)) (h2 hc))
theorem J2.lb {P : Int → jm_M → Prop} {K : Int → jm_M → jm_R} (h : wp g P) (k : ∀ (r : Int) (M1 : jm_M), P r M1 → J2 (K r M1) y Q) : J2 (jm_b g K) y Q := by
  obtain ⟨r, M1, e, q⟩ := h
  rw [e]
  exact k r M1 q
theorem J2.rb {P : Int → jm_M → Prop} {K : Int → jm_M → jm_R} (h : wp g P) (k : ∀ (r : Int) (M1 : jm_M), P r M1 → J2 x (K r M1) Q) : J2 x (jm_b g K) Q := by
  obtain ⟨r, M1, e, q⟩ := h
  rw [e]
  exact k r M1 q
/-- a call that writes nothing, its answer told -/
theorem J2.lq {P : Int → Prop} {K : Int → jm_M → jm_R} (h : wp g (fun r M1 => M1 = M ∧ P r)) (k : ∀ r : Int, P r → J2 (K r M) y Q) : J2 (jm_b g K) y Q := J2.lb h fun r M1 q => by
  obtain ⟨rfl, q⟩ := q
  exact k r q
theorem J2.rq {P : Int → Prop} {K : Int → jm_M → jm_R} (h : wp g (fun r M1 => M1 = N ∧ P r)) (k : ∀ r : Int, P r → J2 x (K r N) Q) : J2 x (jm_b g K) Q := J2.rb h fun r M1 q => by
  obtain ⟨rfl, q⟩ := q
  exact k r q
theorem J2.bb {P : Int → jm_M → Int → jm_M → Prop} {K K' : Int → jm_M → jm_R} (h : J2 g g' P) (k : ∀ (v : Int) (M1 : jm_M) (w : Int) (N1 : jm_M), P v M1 w N1 → J2 (K v M1) (K' w N1) Q) : J2 (jm_b g K) (jm_b g' K') Q := by
  obtain ⟨v, M1, w, N1, e1, e2, q⟩ := h
  rw [e1, e2]
  exact k v M1 w N1 q
/-- a pair of calls that write nothing -/
theorem J2.bq {P : Int → Int → Prop} {K K' : Int → jm_M → jm_R} (h : J2 g g' (fun v M1 w N1 => M1 = M ∧ N1 = N ∧ P v w)) (k : ∀ v w : Int, P v w → J2 (K v M) (K' w N) Q) : J2 (jm_b g K) (jm_b g' K') Q := J2.bb h fun v M1 w N1 q => by
  obtain ⟨rfl, rfl, q⟩ := q
  exact k v w q
theorem J2.le {e : Int} {K : Int → jm_R} (k : J2 (K e) y Q) : J2 (jm_e e K) y Q := k
theorem J2.re {e : Int} {K : Int → jm_R} (k : J2 x (K e) Q) : J2 x (jm_e e K) Q := k
theorem J2.le' {e a : Int} {K : Int → jm_R} (h : e = a) (k : J2 (K a) y Q) : J2 (jm_e e K) y Q := by rw [h]; exact k
theorem J2.re' {e a : Int} {K : Int → jm_R} (h : e = a) (k : J2 x (K a) Q) : J2 x (jm_e e K) Q := by rw [h]; exact k
theorem J2.ls {K : jm_M → jm_R} (k : ∀ M1 : jm_M, M1 = M → J2 (K M1) y Q) : J2 (jm_s M K) y Q := k M rfl
theorem J2.rs {K : jm_M → jm_R} (k : ∀ N1 : jm_M, N1 = N → J2 x (K N1) Q) : J2 x (jm_s N K) Q := k N rfl
theorem J2.mono {Q2 : Int → jm_M → Int → jm_M → Prop} (h : J2 x y Q) (k : ∀ (v : Int) (M1 : jm_M) (w : Int) (N1 : jm_M), Q v M1 w N1 → Q2 v M1 w N1) : J2 x y Q2 := by
  obtain ⟨v, M1, w, N1, e1, e2, q⟩ := h
  exact ⟨v, M1, w, N1, e1, e2, k v M1 w N1 q⟩
theorem J2.al {P : Int → jm_M → Prop} (h : J2 x y Q) (g : wp x P) : J2 x y (fun v M1 w N1 => Q v M1 w N1 ∧ P v M1) := by
  obtain ⟨v, M1, w, N1, e1, e2, q⟩ := h
  obtain ⟨r, M2, e3, p⟩ := g
  rw [e1] at e3
  obtain ⟨rfl, rfl⟩ := Prod.mk.inj (Option.some.inj e3)
  exact ⟨_, _, _, _, e1, e2, q, p⟩
theorem J2.ar {P : Int → jm_M → Prop} (h : J2 x y Q) (g : wp y P) : J2 x y (fun v M1 w N1 => Q v M1 w N1 ∧ P w N1) := by
  obtain ⟨v, M1, w, N1, e1, e2, q⟩ := h
  obtain ⟨r, M2, e3, p⟩ := g
  rw [e2] at e3
  obtain ⟨rfl, rfl⟩ := Prod.mk.inj (Option.some.inj e3)
  exact ⟨_, _, _, _, e1, e2, q, p⟩
theorem J2.lw {P : Int → jm_M → Prop} (h : J2 x y Q) (k : ∀ (v : Int) (M1 : jm_M) (w : Int) (N1 : jm_M), Q v M1 w N1 → P v M1) : wp x P := by
  obtain ⟨v, M1, w, N1, e1, e2, q⟩ := h
  exact ⟨v, M1, e1, k v M1 w N1 q⟩
theorem J2.of (h1 : wp x (fun v M1 => wp y (fun w N1 => Q v M1 w N1))) : J2 x y Q := by
  obtain ⟨v, M1, e1, w, N1, e2, q⟩ := h1
  exact ⟨v, M1, w, N1, e1, e2, q⟩
end JJ
/-! a cell of the class's tables -/
theorem wid1_0 {i : Int} (h : i < 6) : wid1 i = 2 := by unfold wid1; rw [if_pos h]
theorem wid1_6 {i : Int} (h : 6 ≤ i) (h2 : i < 18) : wid1 i = 3 := by unfold wid1; rw [if_neg (by omega), if_pos h2]
theorem wid1_18 {i : Int} (h : 18 ≤ i) (h2 : i < 24) : wid1 i = 2 := by unfold wid1; rw [if_neg (by omega), if_neg (by omega), if_pos h2]
theorem wid1_24 {i : Int} (h : 24 ≤ i) (h2 : i < 31) : wid1 i = 3 := by unfold wid1; rw [if_neg (by omega), if_neg (by omega), if_neg (by omega), if_pos h2]
theorem wid1_31 {i : Int} (h : 31 ≤ i) : wid1 i = 4 := by unfold wid1; rw [if_neg (by omega), if_neg (by omega), if_neg (by omega), if_neg (by omega)]
theorem lim1_30 : lim1 30 = 30 := by decide
theorem lim1_31 : lim1 31 = 20 := by decide
theorem lim1_32 : lim1 32 = 20 := by decide
/-- within the table: the cell -/
theorem cell_in {M : jm_M} (iM : bI bx1 M) {r i k w a : Int} (hr : 0 ≤ r ∧ r ≤ 32) (hw : wid1 r = w) (hi : 0 ≤ i ∧ i < M 10 r 3) (hk : 0 ≤ k ∧ k < w) (ha : i * w + k = a) : wp (fX7_cell M r i k) (fun v M1 => M1 = M ∧ v = M 19 r a) := by
  have b3 : 0 ≤ M 10 r 3 ∧ M 10 r 3 ≤ lim1 r := iM 10 r 3
  have b1 : M 10 r 1 = wid1 r := iM 10 r 1
  have bl := lim1_any r
  have bw := wid1_any r
  have hm : 0 ≤ i * w ∧ i * w ≤ 30 * 4 := jm_mulb (A := 30) (B := 4) (by omega) (by omega) (by omega) (by omega) rfl
  have z := jm_tab (l2 := k) hr ⟨hi.1, hi.2⟩ b3.2 ⟨hk.1, by omega⟩
  unfold fX7_cell
  rw [b1, hw]
  rw [hw, jm_wid (x := i * w) (by omega) (by omega), jm_wid (x := i * w + k) (by omega) (by omega), ha] at z
  refine wp_F (by omega) (wp_F (by omega) (wp_F (by omega) (wp_T hk.2 ?_)))
  rw [jm_wid (x := i * w) (by omega) (by omega), jm_wid (x := i * w + k) (by omega) (by omega), ha]
  exact wp_T z (wp_ret ⟨rfl, rfl⟩)
/-- behind its end: NONE -/
theorem cell_out {M : jm_M} {r i k : Int} (hi : i < 0 ∨ M 10 r 3 ≤ i) : wp (fX7_cell M r i k) (fun v M1 => M1 = M ∧ v = -1) := by
  unfold fX7_cell
  by_cases c : i < 0
  · exact wp_T c (wp_ret ⟨rfl, rfl⟩)
  · exact wp_F c (wp_T (by omega) (wp_ret ⟨rfl, rfl⟩))
