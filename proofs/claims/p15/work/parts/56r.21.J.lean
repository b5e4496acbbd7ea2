/-! a condition -/
def bop (op : Int) : Prop := op = 38 ∨ op = 42 ∨ op = 43 ∨ op = 45 ∨ op = 60 ∨ op = 61 ∨ op = 62 ∨ op = 124
/-- an item of the class's code and a mark of the reference's: the same -/
def CRel (M N : jm_M) (x y : Int) : Prop := (0 ≤ x ∧ x < 1000 ∧ y = x) ∨ (1000 ≤ x ∧ x < 1026 ∧ -13 ≤ y ∧ y ≤ -1 ∧ M 27 0 (x - 1000) = N 38 0 (-1 - y)) ∨ ((x = 2033 ∧ y = -167) ∨ (x = 2126 ∧ y = -74)) ∨ (bop (x - 2000) ∧ y = x - 2200)
def jn (op a b : Int) : Int := if op = 38 then (if a = 0 then 0 else if b = 0 then 0 else 1) else if op = 42 then jm_w (a * b) else if op = 43 then jm_w (a + b) else if op = 45 then jm_w (a - b) else if op = 60 then (if b ≤ a then 0 else 1) else if op = 61 then (if a = b then 1 else 0) else if op = 62 then (if a ≤ b then 0 else 1) else (if a = 0 then (if b = 0 then 0 else 1) else 1)
theorem jn_in (op a b : Int) : jm_in (jn op a b) := by
  have z0 : jm_in 0 := jm_inL (by decide) (by decide)
  have z1 : jm_in 1 := jm_inL (by decide) (by decide)
  unfold jn
  repeat' split
  all_goals first | exact z0 | exact z1 | exact jm_w_in _
theorem jn_38 (a b : Int) : jn 38 a b = (if a = 0 then 0 else if b = 0 then 0 else 1) := by unfold jn; rw [if_pos rfl]
theorem jn_42 (a b : Int) : jn 42 a b = (jm_w (a * b)) := by unfold jn; rw [if_neg (show ¬ (42 : Int) = 38 by decide), if_pos rfl]
theorem jn_43 (a b : Int) : jn 43 a b = (jm_w (a + b)) := by unfold jn; rw [if_neg (show ¬ (43 : Int) = 38 by decide), if_neg (show ¬ (43 : Int) = 42 by decide), if_pos rfl]
theorem jn_45 (a b : Int) : jn 45 a b = (jm_w (a - b)) := by unfold jn; rw [if_neg (show ¬ (45 : Int) = 38 by decide), if_neg (show ¬ (45 : Int) = 42 by decide), if_neg (show ¬ (45 : Int) = 43 by decide), if_pos rfl]
theorem jn_60 (a b : Int) : jn 60 a b = (if b ≤ a then 0 else 1) := by unfold jn; rw [if_neg (show ¬ (60 : Int) = 38 by decide), if_neg (show ¬ (60 : Int) = 42 by decide), if_neg (show ¬ (60 : Int) = 43 by decide), if_neg (show ¬ (60 : Int) = 45 by decide), if_pos rfl]
theorem jn_61 (a b : Int) : jn 61 a b = (if a = b then 1 else 0) := by unfold jn; rw [if_neg (show ¬ (61 : Int) = 38 by decide), if_neg (show ¬ (61 : Int) = 42 by decide), if_neg (show ¬ (61 : Int) = 43 by decide), if_neg (show ¬ (61 : Int) = 45 by decide), if_neg (show ¬ (61 : Int) = 60 by decide), if_pos rfl]
theorem jn_62 (a b : Int) : jn 62 a b = (if a ≤ b then 0 else 1) := by unfold jn; rw [if_neg (show ¬ (62 : Int) = 38 by decide), if_neg (show ¬ (62 : Int) = 42 by decide), if_neg (show ¬ (62 : Int) = 43 by decide), if_neg (show ¬ (62 : Int) = 45 by decide), if_neg (show ¬ (62 : Int) = 60 by decide), if_neg (show ¬ (62 : Int) = 61 by decide), if_pos rfl]
theorem jn_124 (a b : Int) : jn 124 a b = (if a = 0 then (if b = 0 then 0 else 1) else 1) := by unfold jn; rw [if_neg (show ¬ (124 : Int) = 38 by decide), if_neg (show ¬ (124 : Int) = 42 by decide), if_neg (show ¬ (124 : Int) = 43 by decide), if_neg (show ¬ (124 : Int) = 45 by decide), if_neg (show ¬ (124 : Int) = 60 by decide), if_neg (show ¬ (124 : Int) = 61 by decide), if_neg (show ¬ (124 : Int) = 62 by decide)]
theorem bop_r {op : Int} (h : bop op) : 38 ≤ op ∧ op ≤ 124 ∧ op ≠ 33 ∧ op ≠ 126 := by
  unfold bop at h
  rcases h with h | h | h | h | h | h | h | h <;> (rw [h]; decide)
theorem c_join (M : jm_M) (op a b : Int) (h : bop op) : wp (fX4_join M op a b) (fun v M1 => M1 = M ∧ v = jn op a b) := by
  unfold fX4_join
  unfold bop at h
  rcases h with rfl | rfl | rfl | rfl | rfl | rfl | rfl | rfl
  · rw [jn_38]
    exact wp_T rfl (wp_ite (fun q => wp_ret ⟨rfl, by rw [if_pos q]⟩) (fun q => wp_ite (fun q2 => wp_ret ⟨rfl, by rw [if_neg q, if_pos q2]⟩) (fun q2 => wp_ret ⟨rfl, by rw [if_neg q, if_neg q2]⟩)))
  · rw [jn_42]
    exact wp_F (by decide) (wp_F (by decide) (wp_F (by decide) (wp_F (by decide) (wp_F (by decide) (wp_F (by decide) (wp_F (by decide) (wp_ret ⟨rfl, rfl⟩)))))))
  · rw [jn_43]
    exact wp_F (by decide) (wp_T rfl (wp_ret ⟨rfl, rfl⟩))
  · rw [jn_45]
    exact wp_F (by decide) (wp_F (by decide) (wp_T rfl (wp_ret ⟨rfl, rfl⟩)))
  · rw [jn_60]
    exact wp_F (by decide) (wp_F (by decide) (wp_F (by decide) (wp_T rfl (wp_ite (fun q => wp_ret ⟨rfl, by rw [if_pos q]⟩) (fun q => wp_ret ⟨rfl, by rw [if_neg q]⟩)))))
  · rw [jn_61]
    exact wp_F (by decide) (wp_F (by decide) (wp_F (by decide) (wp_F (by decide) (wp_T rfl (wp_ite (fun q => wp_ret ⟨rfl, by rw [if_pos q]⟩) (fun q => wp_ret ⟨rfl, by rw [if_neg q]⟩))))))
  · rw [jn_62]
    exact wp_F (by decide) (wp_F (by decide) (wp_F (by decide) (wp_F (by decide) (wp_F (by decide) (wp_T rfl (wp_ite (fun q => wp_ret ⟨rfl, by rw [if_pos q]⟩) (fun q => wp_ret ⟨rfl, by rw [if_neg q]⟩)))))))
  · rw [jn_124]
    exact wp_F (by decide) (wp_F (by decide) (wp_F (by decide) (wp_F (by decide) (wp_F (by decide) (wp_F (by decide) (wp_T rfl (wp_ite (fun q => wp_ite (fun q2 => wp_ret ⟨rfl, by rw [if_pos q, if_pos q2]⟩) (fun q2 => wp_ret ⟨rfl, by rw [if_pos q, if_neg q2]⟩)) (fun q => wp_ret ⟨rfl, by rw [if_neg q]⟩))))))))
theorem d_acted (N : jm_M) (op a b : Int) : wp (fX12_acted N op a b) (fun v N1 => N1 = N ∧ v = jn op a b) := by
  have tr : ∀ x : Int, (x = 0 ∨ x = 1) → x = jn op a b → wp (jm_b (fX12_truth N x) fun v M1 => some (v, M1)) (fun v N1 => N1 = N ∧ v = jn op a b) := fun x hx h => wp_bp (d_truth N x hx) (fun v z => wp_ret ⟨rfl, z.trans h⟩)
  unfold fX12_acted
  refine wp_ite (fun c => ?_) (fun c => ?_)
  · have e : jn op a b = if a = 0 then 0 else if b = 0 then 0 else 1 := if_pos c
    refine wp_ite (fun q => tr 0 (Or.inl rfl) (by rw [e, if_pos q])) (fun q => ?_)
    exact wp_ite (fun q2 => tr 0 (Or.inl rfl) (by rw [e, if_neg q, if_pos q2])) (fun q2 => tr 1 (Or.inr rfl) (by rw [e, if_neg q, if_neg q2]))
  refine wp_ite (fun c1 => wp_ret ⟨rfl, by unfold jn; rw [if_neg c, if_pos c1]⟩) (fun c1 => ?_)
  refine wp_ite (fun c2 => wp_ret ⟨rfl, by unfold jn; rw [if_neg c, if_neg c1, if_pos c2]⟩) (fun c2 => ?_)
  refine wp_ite (fun c3 => wp_ret ⟨rfl, by unfold jn; rw [if_neg c, if_neg c1, if_neg c2, if_pos c3]⟩) (fun c3 => ?_)
  refine wp_ite (fun c4 => ?_) (fun c4 => ?_)
  · have e : jn op a b = if b ≤ a then 0 else 1 := by unfold jn; rw [if_neg c, if_neg c1, if_neg c2, if_neg c3, if_pos c4]
    exact wp_ite (fun q => tr 0 (Or.inl rfl) (by rw [e, if_pos q])) (fun q => tr 1 (Or.inr rfl) (by rw [e, if_neg q]))
  refine wp_ite (fun c5 => ?_) (fun c5 => ?_)
  · have e : jn op a b = if a = b then 1 else 0 := by unfold jn; rw [if_neg c, if_neg c1, if_neg c2, if_neg c3, if_neg c4, if_pos c5]
    exact wp_ite (fun q => tr 1 (Or.inr rfl) (by rw [e, if_pos q])) (fun q => tr 0 (Or.inl rfl) (by rw [e, if_neg q]))
  refine wp_ite (fun c6 => ?_) (fun c6 => ?_)
  · have e : jn op a b = if a ≤ b then 0 else 1 := by unfold jn; rw [if_neg c, if_neg c1, if_neg c2, if_neg c3, if_neg c4, if_neg c5, if_pos c6]
    exact wp_ite (fun q => tr 0 (Or.inl rfl) (by rw [e, if_pos q])) (fun q => tr 1 (Or.inr rfl) (by rw [e, if_neg q]))
  have e : jn op a b = if a = 0 then (if b = 0 then 0 else 1) else 1 := by unfold jn; rw [if_neg c, if_neg c1, if_neg c2, if_neg c3, if_neg c4, if_neg c5, if_neg c6]
  refine wp_ite (fun q => ?_) (fun q => tr 1 (Or.inr rfl) (by rw [e, if_neg q]))
  exact wp_ite (fun q2 => tr 0 (Or.inl rfl) (by rw [e, if_pos q, if_pos q2])) (fun q2 => tr 1 (Or.inr rfl) (by rw [e, if_pos q, if_neg q2]))
def K28 (f : Nat) (_ _ : Int) : Prop := f ≠ 28
def K37 (f : Nat) (_ k : Int) : Prop := f ≠ 37 ∧ ¬ (f = 0 ∧ k = 47)
def QV (M0 N0 : jm_M) (z : Int) (v : Int) (M : jm_M) (w : Int) (N : jm_M) : Prop := bI bx1 M ∧ bI bx2 N ∧ Kp K28 M0 M ∧ Kp K37 N0 N ∧ N 0 0 47 = z ∧ ((v = 1 ∧ w ≠ 0) ∨ (v = 0 ∧ w = 0))
/-- m items are still to come -/
def EVS (fu : Nat) (M0 N0 : jm_M) (t fr to z tz : Int) (m : Nat) : Prop := ∀ (n1 n2 : Nat) (M N : jm_M) (n : Nat) (i k : Int), m < n1 → m < n2 → bI bx1 M → bI bx2 N → Kp K28 M0 M → Kp K37 N0 N → i + (m : Int) = to → k + (m : Int) = z → z ≤ tz → 0 ≤ k → (n : Int) ≤ i → (∀ q : Int, 0 ≤ q → q < (n : Int) → M 28 0 q = N 37 0 q) → (∀ j : Int, 0 ≤ j → j < (m : Int) → CRel M0 N0 (M0 20 t (i + j)) (N0 35 0 (k + j))) → hg (N0 35 0) m k n = some 1 → J2 (fX4_holds_47 fu n1 M t fr to ((n : Int) - 1) i) (fX12_gives_5 fu n2 N tz (n : Int) k) (QV M0 N0 z)
theorem ev_zero (fu : Nat) (M0 N0 : jm_M) (t fr to z tz : Int) (hz : 0 ≤ z ∧ z ≤ 1700) (ht : to ≤ 60) (hft : fr < to) (hend : tz ≤ z ∨ (z < tz ∧ z < 1700 ∧ N0 35 0 z = -300)) : EVS fu M0 N0 t fr to z tz 0 := by
  intro n1 n2 M N n i k h1 h2 i1 i2 k1 k2 ei ek hzt hk0 hn hs hc hh
  obtain ⟨a, rfl⟩ : ∃ a, n1 = a + 1 := ⟨n1 - 1, by omega⟩
  obtain ⟨b, rfl⟩ : ∃ b, n2 = b + 1 := ⟨n2 - 1, by omega⟩
  have hh : n = 1 := by
    have hh : some n = some 1 := hh
    exact Option.some.inj hh
  subst hh
  show J2 (gX4_holds_47 fu (fX4_holds_47 fu a) M t fr to ((1 : Nat) - 1 : Int) i) (gX12_gives_5 fu (fX12_gives_5 fu b) N tz ((1 : Nat) : Int) k) _
  unfold gX4_holds_47 gX12_gives_5
  have s0 := hs 0 (by decide) (by decide)
  have n47 : bI bx2 (jm_u N 0 0 47 k) := bI_u i2 (jm_inL (by omega) (by omega))
  have fin : ∀ v : Int, ((v = 1 ∧ N 37 0 0 ≠ 0) ∨ (v = 0 ∧ N 37 0 0 = 0)) → QV M0 N0 z v M ((jm_u N 0 0 47 k) 37 0 0) (jm_u N 0 0 47 k) := fun v h => by
    refine ⟨i1, n47, k1, fun f i' k' q => ?_, ?_, ?_⟩
    · rw [jm_une (fun y => q.2 ⟨y.1, y.2.2⟩)]
      exact k2 f i' k' q
    · rw [jm_ueq]; omega
    · rw [jm_une_f (by decide)]; exact h
  have n35 : N 35 0 k = N0 35 0 k := k2 35 0 k (by unfold K37; omega)
  have ek : k = z := by omega
  refine J2.lT (by omega) (J2.lF (by omega) (J2.lT (by decide) ?_))
  have go : ∀ v : Int, ((v = 1 ∧ N 37 0 0 ≠ 0) ∨ (v = 0 ∧ N 37 0 0 = 0)) → J2 (some (v, M)) (gX12_gives_5 fu (fX12_gives_5 fu b) N tz ((1 : Nat) : Int) k) (QV M0 N0 z) := fun v h => by
    unfold gX12_gives_5
    rcases hend with q | ⟨q1, q2, q3⟩
    · exact J2.rT (by omega) (J2.rs (fun N1 u => J2.rT (by decide) (by rw [u]; exact J2.ret (fin v h))))
    · refine J2.rF (by omega) (J2.rT ⟨by omega, by omega⟩ (J2.rT (by rw [n35, ek]; exact q3) (J2.rs (fun N1 u => J2.rT (by decide) (by rw [u]; exact J2.ret (fin v h))))))
  unfold gX12_gives_5 at go
  by_cases q : M 28 0 0 = 0
  · exact J2.lT q (go 0 (Or.inr ⟨rfl, by omega⟩))
  · exact J2.lF q (go 1 (Or.inl ⟨rfl, by omega⟩))
theorem ev_num {fu a b : Nat} {M N : jm_M} {t fr to tz i k n x y : Int} {Q : Int → jm_M → Int → jm_M → Prop} (hito : ¬ to ≤ i) (hi60 : 0 ≤ i ∧ i < 60) (hktz : ¬ tz ≤ k) (hk17 : 0 ≤ k ∧ k < 1700) (yn : y ≠ -300) (hn60 : 0 ≤ n ∧ n < 60) (m20 : M 20 t i = x) (n35 : N 35 0 k = y) (c : 0 ≤ x ∧ x < 1000 ∧ y = x) (push : ∀ v : Int, jm_in v → v = x → J2 (fX4_holds_47 fu a (jm_u M 28 0 n v) t fr to n (i + 1)) (fX12_gives_5 fu b (jm_u N 37 0 n v) tz (n + 1) (k + 1)) Q) : J2 (gX4_holds_47 fu (fX4_holds_47 fu a) M t fr to (n - 1) i) (gX12_gives_5 fu (fX12_gives_5 fu b) N tz n k) Q := by
  obtain ⟨x0, x1, rfl⟩ := c
  have f1 : ¬ 2000 ≤ y := by omega
  have f2 : ¬ 1000 ≤ y := by omega
  have f3 : ¬ y < 0 := by omega
  have iy : jm_in y := jm_inL (by omega) (by omega)
  have hn100 : 0 ≤ n ∧ n < 100 := ⟨hn60.1, by omega⟩
  have w5 : jm_min (jm_w (n - 1 + 1)) 59 = n := by
    rw [jm_wid (x := n - 1 + 1) (by omega) (by omega)]
    unfold jm_min
    rw [if_neg (by omega)]
    omega
  have wn : jm_w (n + 1) = n + 1 := jm_wid (by omega) (by omega)
  have wi : jm_w (i + 1) = i + 1 := jm_wid (by omega) (by omega)
  have wk : jm_w (k + 1) = k + 1 := jm_wid (by omega) (by omega)
  unfold gX4_holds_47 gX12_gives_5
  rw [m20, n35]
  refine J2.lF hito (J2.lT hi60 (J2.le ?_))
  refine J2.rF hktz (J2.rT hk17 (J2.rF yn (J2.rT hk17 (J2.re ?_))))
  refine J2.lF f1 (J2.le' w5 ?_)
  have vo : wp (fX4_valueOf M y) (fun v M1 => M1 = M ∧ v = y) := by
    unfold fX4_valueOf
    exact wp_F f2 (wp_ret ⟨rfl, rfl⟩)
  refine J2.lq vo (fun v zv => ?_)
  rw [zv]
  refine J2.lT hn60 (J2.ls (fun M1 u1 => J2.le' wi ?_))
  refine J2.rF f3 (J2.rT hn100 (J2.rs (fun N1 u2 => J2.re' wn (J2.re' wk ?_))))
  rw [u1, u2]
  exact push y iy rfl
theorem ev_let {fu a b : Nat} {M N : jm_M} {t fr to tz i k n x y : Int} {Q : Int → jm_M → Int → jm_M → Prop} (hito : ¬ to ≤ i) (hi60 : 0 ≤ i ∧ i < 60) (hktz : ¬ tz ≤ k) (hk17 : 0 ≤ k ∧ k < 1700) (yn : y ≠ -300) (hn60 : 0 ≤ n ∧ n < 60) (m20 : M 20 t i = x) (n35 : N 35 0 k = y) (i1 : bI bx1 M) (x0 : 1000 ≤ x) (x1 : x < 1026) (y0 : -13 ≤ y) (y1 : y ≤ -1) (xl : M 27 0 (x - 1000) = N 38 0 (-1 - y)) (push : ∀ v : Int, jm_in v → v = M 27 0 (x - 1000) → J2 (fX4_holds_47 fu a (jm_u M 28 0 n v) t fr to n (i + 1)) (fX12_gives_5 fu b (jm_u N 37 0 n v) tz (n + 1) (k + 1)) Q) : J2 (gX4_holds_47 fu (fX4_holds_47 fu a) M t fr to (n - 1) i) (gX12_gives_5 fu (fX12_gives_5 fu b) N tz n k) Q := by
  have f1 : ¬ 2000 ≤ x := by omega
  have f3 : y < 0 := by omega
  have f5 : ¬ y < -13 := by omega
  have f6 : ¬ 26 ≤ x - 1000 := by omega
  have f7 : 0 ≤ x - 1000 ∧ x - 1000 < 26 := ⟨by omega, by omega⟩
  have f8 : 0 ≤ -1 - y ∧ -1 - y < 13 := ⟨by omega, by omega⟩
  have wx : jm_w (x - 1000) = x - 1000 := jm_wid (by omega) (by omega)
  have wy : jm_w ((-1) - y) = -1 - y := jm_wid (by omega) (by omega)
  have hn100 : 0 ≤ n ∧ n < 100 := ⟨hn60.1, by omega⟩
  have w5 : jm_min (jm_w (n - 1 + 1)) 59 = n := by
    rw [jm_wid (x := n - 1 + 1) (by omega) (by omega)]
    unfold jm_min
    rw [if_neg (by omega)]
    omega
  have wn : jm_w (n + 1) = n + 1 := jm_wid (by omega) (by omega)
  have wi : jm_w (i + 1) = i + 1 := jm_wid (by omega) (by omega)
  have wk : jm_w (k + 1) = k + 1 := jm_wid (by omega) (by omega)
  unfold gX4_holds_47 gX12_gives_5
  rw [m20, n35]
  refine J2.lF hito (J2.lT hi60 (J2.le ?_))
  refine J2.rF hktz (J2.rT hk17 (J2.rF yn (J2.rT hk17 (J2.re ?_))))
  refine J2.lF f1 (J2.le' w5 ?_)
  have vo : wp (fX4_valueOf M x) (fun v M1 => M1 = M ∧ v = M 27 0 (x - 1000)) := by
    unfold fX4_valueOf
    refine wp_T x0 (wp_e (jm_w_in _) (fun v e _ => ?_))
    rw [e, wx]
    exact wp_F f6 (wp_T f7 (wp_ret ⟨rfl, rfl⟩))
  refine J2.lq vo (fun v zv => ?_)
  rw [zv]
  refine J2.lT hn60 (J2.ls (fun M1 u1 => J2.le' wi ?_))
  refine J2.rT f3 (J2.rF f5 ?_)
  rw [wy, ← xl]
  refine J2.rT f8 (J2.rT hn100 (J2.rs (fun N1 u2 => J2.re' wn (J2.re' wk ?_))))
  rw [u1, u2]
  exact push _ (bx1_in (i1 27 0 _)) rfl
theorem ev_un {fu a b : Nat} {M N : jm_M} {t fr to tz i k n x y : Int} {Q : Int → jm_M → Int → jm_M → Prop} (hito : ¬ to ≤ i) (hi60 : 0 ≤ i ∧ i < 60) (hktz : ¬ tz ≤ k) (hk17 : 0 ≤ k ∧ k < 1700) (yn : y ≠ -300) (hn60 : 0 ≤ n ∧ n < 60) (m20 : M 20 t i = x) (n35 : N 35 0 k = y) (hn : 1 ≤ n) (hu : (x = 2033 ∧ y = -167) ∨ (x = 2126 ∧ y = -74)) (top : M 28 0 (n - 1) = N 37 0 (n - 1)) (put : ∀ v : Int, jm_in v → J2 (fX4_holds_47 fu a (jm_u M 28 0 (n - 1) v) t fr to (n - 1) (i + 1)) (fX12_gives_5 fu b (jm_u N 37 0 (n - 1) v) tz n (k + 1)) Q) : J2 (gX4_holds_47 fu (fX4_holds_47 fu a) M t fr to (n - 1) i) (gX12_gives_5 fu (fX12_gives_5 fu b) N tz n k) Q := by
  have g60 : 0 ≤ n - 1 ∧ n - 1 < 60 := ⟨by omega, by omega⟩
  have g100 : 0 ≤ n - 1 ∧ n - 1 < 100 := ⟨by omega, by omega⟩
  have gneg : ¬ n - 1 < 0 := by omega
  have wm : jm_w (n - 1) = n - 1 := jm_wid (by omega) (by omega)
  have a33 : wp (fX12_act N 33) (fun v N1 => N1 = N ∧ v = -167) := by
    unfold fX12_act
    exact wp_ret ⟨rfl, by decide⟩
  have a126 : wp (fX12_act N 126) (fun v N1 => N1 = N ∧ v = -74) := by
    unfold fX12_act
    exact wp_ret ⟨rfl, by decide⟩
  have tr0 : wp (fX12_truth N 0) (fun v N1 => N1 = N ∧ v = 0) := d_truth N 0 (Or.inl rfl)
  have tr1 : wp (fX12_truth N 1) (fun v N1 => N1 = N ∧ v = 1) := d_truth N 1 (Or.inr rfl)
  have z0 : jm_in 0 := jm_inL (by decide) (by decide)
  have z1 : jm_in 1 := jm_inL (by decide) (by decide)
  rcases hu with ⟨hx2, hy2⟩ | ⟨hx2, hy2⟩
  · rw [hx2] at m20
    rw [hy2] at n35
    have yn : ¬ (-167 : Int) = -300 := by decide
    have wi : jm_w (i + 1) = i + 1 := jm_wid (by omega) (by omega)
    have wk : jm_w (k + 1) = k + 1 := jm_wid (by omega) (by omega)
    unfold gX4_holds_47 gX12_gives_5
    rw [m20, n35]
    refine J2.lF hito (J2.lT hi60 (J2.le ?_))
    refine J2.rF hktz (J2.rT hk17 (J2.rF yn (J2.rT hk17 (J2.re ?_))))
    refine J2.lT (by decide) (J2.lF gneg (J2.lT rfl ?_))
    refine J2.rT (by decide) (J2.rT (by decide) (J2.rq a33 (fun v17 z17 => ?_)))
    rw [z17]
    unfold gX4_holds_119
    refine J2.lF (by decide) (J2.lT g60 (J2.rT rfl ?_))
    rw [wm]
    refine J2.rT g100 ?_
    by_cases q : N 37 0 (n - 1) = 0
    · refine J2.lT (top.trans q) (J2.lT g60 (J2.ls (fun M1 u1 => J2.le' wi ?_)))
      refine J2.rT q (J2.rq tr1 (fun v zv => J2.rT g100 (J2.rs (fun N1 u2 => J2.re' wk ?_))))
      rw [u1, u2, zv]
      exact put 1 z1
    · refine J2.lF (fun z => q (top.symm.trans z)) (J2.lT g60 (J2.ls (fun M1 u1 => J2.le' wi ?_)))
      refine J2.rF q (J2.rq tr0 (fun v zv => J2.rT g100 (J2.rs (fun N1 u2 => J2.re' wk ?_))))
      rw [u1, u2, zv]
      exact put 0 z0
  · rw [hx2] at m20
    rw [hy2] at n35
    have yn : ¬ (-74 : Int) = -300 := by decide
    have wi : jm_w (i + 1) = i + 1 := jm_wid (by omega) (by omega)
    have wk : jm_w (k + 1) = k + 1 := jm_wid (by omega) (by omega)
    unfold gX4_holds_47 gX12_gives_5
    rw [m20, n35]
    refine J2.lF hito (J2.lT hi60 (J2.le ?_))
    refine J2.rF hktz (J2.rT hk17 (J2.rF yn (J2.rT hk17 (J2.re ?_))))
    refine J2.lT (by decide) (J2.lF gneg (J2.lF (by decide) (J2.lT rfl ?_)))
    refine J2.rT (by decide) (J2.rT (by decide) (J2.rq a33 (fun v17 z17 => ?_)))
    rw [z17]
    unfold gX4_holds_119
    refine J2.lT rfl (J2.lT g60 (J2.lT g60 (J2.ls (fun M1 u1 => J2.le' wi ?_))))
    refine J2.rF (by decide) (J2.rq a126 (fun v38 z38 => ?_))
    rw [z38, wm]
    refine J2.rT rfl (J2.rT g100 (J2.rT g100 (J2.rs (fun N1 u2 => J2.re' wk ?_))))
    rw [u1, u2, top]
    exact put _ (jm_w_in _)
theorem ev_bin {fu a b : Nat} {M N : jm_M} {t fr to tz i k n x y : Int} {Q : Int → jm_M → Int → jm_M → Prop} (hito : ¬ to ≤ i) (hi60 : 0 ≤ i ∧ i < 60) (hktz : ¬ tz ≤ k) (hk17 : 0 ≤ k ∧ k < 1700) (yn : y ≠ -300) (hn60 : 0 ≤ n ∧ n < 60) (m20 : M 20 t i = x) (n35 : N 35 0 k = y) (hn : 2 ≤ n) (hb : bop (x - 2000)) (hyx : y = x - 2200) (t1 : M 28 0 (n - 1) = N 37 0 (n - 1)) (t2 : M 28 0 (n - 2) = N 37 0 (n - 2)) (put : ∀ v : Int, jm_in v → J2 (fX4_holds_47 fu a (jm_u M 28 0 (n - 2) v) t fr to (n - 2) (i + 1)) (fX12_gives_5 fu b (jm_u N 37 0 (n - 2) v) tz (n - 1) (k + 1)) Q) : J2 (gX4_holds_47 fu (fX4_holds_47 fu a) M t fr to (n - 1) i) (gX12_gives_5 fu (fX12_gives_5 fu b) N tz n k) Q := by
  have hr := bop_r hb
  have e1 : jm_w (n - 1 + (-1)) = n - 2 := by rw [jm_wid (by omega) (by omega)]; omega
  have e2 : jm_w (n - 2 + 1) = n - 1 := by rw [jm_wid (by omega) (by omega)]; omega
  have e3 : jm_w (n + (-1)) = n - 1 := by rw [jm_wid (by omega) (by omega)]; omega
  have e4 : jm_w (n - 1 - 1) = n - 2 := by rw [jm_wid (by omega) (by omega)]; omega
  have e5 : jm_w (x - 2000) = x - 2000 := jm_wid (by omega) (by omega)
  have e6 : jm_w (y + 200) = x - 2000 := by rw [hyx, jm_wid (by omega) (by omega)]; omega
  have f1 : 2000 ≤ x := by omega
  have f2 : ¬ n - 1 < 0 := by omega
  have f3 : ¬ x = 2033 := by omega
  have f4 : ¬ x = 2126 := by omega
  have f5 : ¬ n - 1 < 1 := by omega
  have f6 : y < 0 := by omega
  have f7 : y < -13 := by omega
  have f8 : ¬ y = -167 := by omega
  have f9 : ¬ y = -74 := by omega
  have g60 : 0 ≤ n - 2 ∧ n - 2 < 60 := ⟨by omega, by omega⟩
  have h60 : 0 ≤ n - 1 ∧ n - 1 < 60 := ⟨by omega, by omega⟩
  have g100 : 0 ≤ n - 2 ∧ n - 2 < 100 := ⟨by omega, by omega⟩
  have h100 : 0 ≤ n - 1 ∧ n - 1 < 100 := ⟨by omega, by omega⟩
  have iv := jn_in (x - 2000) (N 37 0 (n - 2)) (N 37 0 (n - 1))
  have a33 : wp (fX12_act N 33) (fun v N1 => N1 = N ∧ v = -167) := by
    unfold fX12_act
    exact wp_ret ⟨rfl, by decide⟩
  have a126 : wp (fX12_act N 126) (fun v N1 => N1 = N ∧ v = -74) := by
    unfold fX12_act
    exact wp_ret ⟨rfl, by decide⟩
  have wi : jm_w (i + 1) = i + 1 := jm_wid (by omega) (by omega)
  have wk : jm_w (k + 1) = k + 1 := jm_wid (by omega) (by omega)
  unfold gX4_holds_47 gX12_gives_5
  rw [m20, n35]
  refine J2.lF hito (J2.lT hi60 (J2.le ?_))
  refine J2.rF hktz (J2.rT hk17 (J2.rF yn (J2.rT hk17 (J2.re ?_))))
  refine J2.lT f1 (J2.lF f2 (J2.lF f3 (J2.lF f4 ?_)))
  unfold gX4_holds_163
  refine J2.lF f5 (J2.le' e1 ?_)
  rw [e2, e5]
  refine J2.lT g60 (J2.lT h60 ?_)
  refine J2.lq (c_join M (x - 2000) _ _ hb) (fun v10 z10 => J2.lT g60 (J2.ls (fun M1 u1 => J2.le' wi ?_)))
  refine J2.rT f6 (J2.rT f7 (J2.rq a33 (fun v17 z17 => ?_)))
  rw [z17]
  refine J2.rF f8 (J2.rq a126 (fun v38 z38 => ?_))
  rw [z38]
  refine J2.rF f9 (J2.re' e3 ?_)
  rw [e4, e6]
  refine J2.rT g100 (J2.rT h100 ?_)
  refine J2.rq (d_acted N (x - 2000) _ _) (fun v54 z54 => J2.rT g100 (J2.rs (fun N1 u2 => J2.re' wk ?_)))
  rw [u1, u2, z10, z54, t1, t2]
  exact put _ iv
theorem ev_succ (fu : Nat) (M0 N0 : jm_M) (t fr to z tz : Int) (hz : 0 ≤ z ∧ z ≤ 1700) (ht : to ≤ 60) (hft : fr < to) (m : Nat) (ih : EVS fu M0 N0 t fr to z tz m) : EVS fu M0 N0 t fr to z tz (m + 1) := by
  intro n1 n2 M N n i k h1 h2 i1 i2 k1 k2 ei ek hzt hk0 hn hs hc hh
  obtain ⟨a, rfl⟩ : ∃ a, n1 = a + 1 := ⟨n1 - 1, by omega⟩
  obtain ⟨b, rfl⟩ : ∃ b, n2 = b + 1 := ⟨n2 - 1, by omega⟩
  have c0 := hc 0 (by decide) (by omega)
  rw [Int.add_zero, Int.add_zero] at c0
  have m20 : M 20 t i = M0 20 t i := k1 20 t i (by unfold K28; decide)
  have n35 : N 35 0 k = N0 35 0 k := k2 35 0 k ⟨by decide, fun z => absurd z.1 (by decide)⟩
  have hc' : ∀ j : Int, 0 ≤ j → j < (m : Int) → CRel M0 N0 (M0 20 t (i + 1 + j)) (N0 35 0 (k + 1 + j)) := fun j y1 y2 => by
    have := hc (j + 1) (by omega) (by omega)
    rw [show i + (j + 1) = i + 1 + j by omega, show k + (j + 1) = k + 1 + j by omega] at this
    exact this
  have hh : (match tk (N0 35 0 k) n with
    | none => none
    | some r => hg (N0 35 0) m (k + 1) r) = some 1 := hh
  have hito : ¬ to ≤ i := by omega
  have hktz : ¬ tz ≤ k := by omega
  have hi60 : 0 ≤ i ∧ i < 60 := ⟨by omega, by omega⟩
  have hk17 : 0 ≤ k ∧ k < 1700 := ⟨by omega, by omega⟩
  have hn60 : 0 ≤ (n : Int) ∧ (n : Int) < 60 := ⟨by omega, by omega⟩
  have yn : N0 35 0 k ≠ -300 := by
    intro q
    rw [q] at hh
    cases hh
  have pm : m < a := by omega
  have qm : m < b := by omega
  have p1 : i + 1 + (m : Int) = to := by omega
  have p2 : k + 1 + (m : Int) = z := by omega
  have p3 : 0 ≤ k + 1 := by omega
  have next : ∀ (n' : Nat) (c v : Int), (n' : Int) = c + 1 → c ≤ (n : Int) → 0 ≤ c → jm_in v → tk (N0 35 0 k) n = some n' → J2 (fX4_holds_47 fu a (jm_u M 28 0 c v) t fr to c (i + 1)) (fX12_gives_5 fu b (jm_u N 37 0 c v) tz (c + 1) (k + 1)) (QV M0 N0 z) := fun n' c v hcn hcl hc0 iv htk => by
    rw [htk] at hh
    have p4 : (n' : Int) ≤ i + 1 := by omega
    have hs' : ∀ q : Int, 0 ≤ q → q < (n' : Int) → (jm_u M 28 0 c v) 28 0 q = (jm_u N 37 0 c v) 37 0 q := fun q y1 y2 => by
      by_cases e : q = c
      · rw [e, jm_ueq, jm_ueq]
      · rw [jm_une_k e, jm_une_k e]
        exact hs q y1 (by omega)
    have := ih a b (jm_u M 28 0 c v) (jm_u N 37 0 c v) n' (i + 1) (k + 1) pm qm (bI_u i1 iv) (bI_u i2 iv) (fun f i' k' q => (jm_une_f q).trans (k1 f i' k' q)) (fun f i' k' q => (jm_une_f q.1).trans (k2 f i' k' q)) p1 p2 hzt p3 p4 hs' hc' hh
    rw [show (n' : Int) - 1 = c by omega, hcn] at this
    exact this
  show J2 (gX4_holds_47 fu (fX4_holds_47 fu a) M t fr to ((n : Int) - 1) i) (gX12_gives_5 fu (fX12_gives_5 fu b) N tz (n : Int) k) _
  unfold CRel at c0
  rcases c0 with c | ⟨x0, x1, y0, y1, xl⟩ | hu | ⟨hb, hyx⟩
  · refine ev_num hito hi60 hktz hk17 yn hn60 m20 n35 c (fun v iv _ => next (n + 1) (n : Int) v (by omega) (by omega) (by omega) iv ?_)
    unfold tk
    rw [if_neg yn, if_pos (by omega)]
  · refine ev_let hito hi60 hktz hk17 yn hn60 m20 n35 i1 x0 x1 y0 y1 ?_ (fun v iv _ => next (n + 1) (n : Int) v (by omega) (by omega) (by omega) iv ?_)
    · rw [k1 27 0 _ (by unfold K28; decide), k2 38 0 _ ⟨by decide, fun z => absurd z.1 (by decide)⟩]
      exact xl
    · unfold tk
      rw [if_neg yn, if_pos (by omega)]
  · have htk : tk (N0 35 0 k) n = if 1 ≤ n then some n else none := by
      unfold tk
      rcases hu with ⟨u1, u2⟩ | ⟨u1, u2⟩
      · rw [if_neg yn, u2]
        rfl
      · rw [if_neg yn, u2]
        rfl
    by_cases no : 1 ≤ n
    · rw [if_pos no] at htk
      refine ev_un hito hi60 hktz hk17 yn hn60 m20 n35 (by omega) hu (hs _ (by omega) (by omega)) (fun v iv => ?_)
      have := next n ((n : Int) - 1) v (by omega) (by omega) (by omega) iv htk
      rw [show (n : Int) - 1 + 1 = (n : Int) by omega] at this
      exact this
    · rw [if_neg no] at htk
      rw [htk] at hh
      cases hh
  · have hr := bop_r hb
    have htk : tk (N0 35 0 k) n = if 2 ≤ n then some (n - 1) else none := by
      unfold tk
      rw [if_neg yn, if_neg (by omega), if_neg (by omega)]
    by_cases no : 2 ≤ n
    · rw [if_pos no] at htk
      refine ev_bin hito hi60 hktz hk17 yn hn60 m20 n35 (by omega) hb hyx (hs _ (by omega) (by omega)) (hs _ (by omega) (by omega)) (fun v iv => ?_)
      have := next (n - 1) ((n : Int) - 2) v (by omega) (by omega) (by omega) iv htk
      rw [show (n : Int) - 2 + 1 = (n : Int) - 1 by omega] at this
      exact this
    · rw [if_neg no] at htk
      rw [htk] at hh
      cases hh
theorem j_ev (fu : Nat) (M0 N0 : jm_M) (t fr to z tz : Int) (hz : 0 ≤ z ∧ z ≤ 1700) (ht : to ≤ 60) (hft : fr < to) (hend : tz ≤ z ∨ (z < tz ∧ z < 1700 ∧ N0 35 0 z = -300)) : ∀ m : Nat, EVS fu M0 N0 t fr to z tz m := by
  intro m
  induction m with
  | zero => exact ev_zero fu M0 N0 t fr to z tz hz ht hft hend
  | succ m ih => exact ev_succ fu M0 N0 t fr to z tz hz ht hft m ih
