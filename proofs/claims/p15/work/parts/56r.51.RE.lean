/-! the judging asked: equal answers -/
theorem jm_ba (g : jm_R) (h k : Int → jm_M → jm_R) : jm_b (jm_b g h) k = jm_b g (fun v M => jm_b (h v M) k) := by
  cases g with
  | none => rfl
  | some p => rfl
theorem j_asked (fu : Nat) (hfu : 4000 ≤ fu) {M N N1 : jm_M} (iv : IW M N) (it : IT M N) (ca : CA fu M N) (ir : IR M N) (u1 : N1 = jm_u N 0 0 0 0) : J2 (fX2_reckon fu M) (fX12_runs fu N1) (fun _ M6 _ N7 => (bI bx1 M6 ∧ bI bx2 N7) ∧ JC M6 N7 ∧ (Kp TA M M6 ∧ Kp KR2 N1 N7) ∧ (N7 0 0 1 = N 0 0 1 ∧ N7 0 0 2 = N 0 0 2 ∧ N7 0 0 17 = N 0 0 17) ∧ CA fu M6 N7) := by
  have iM := iv.1.1
  have iN := iv.1.2.1
  obtain ⟨j1, tl1, ca1, d1, d2, d17⟩ := q_pre iN it ca u1
  refine (j_reckon2 fu hfu iM j1 tl1 ca1).mono (fun v M6 w N7 q => ?_)
  obtain ⟨⟨⟨i6, j7⟩, ⟨k6, k7⟩, c6, tl6, run⟩, gw, dn⟩ := q
  have k17 : Kp X2 N1 N7 := k7.weak (fun f i k y => by unfold X2 at y; unfold KR2; omega)
  have ir1 : IR M N1 := ir.m7 iN (Or.inl rfl) (by rw [u1]; exact X2.r0)
  have n75 : M 10 32 3 = N 0 0 75 := iv.1.2.2.2.1.2.2.2.2.2.1
  have n3 : M 3 0 3 = N 0 0 72 := iv.2.2.2
  refine ⟨⟨i6, j7⟩, ⟨tl6, run, ir1.ta j1 k6 k17, ⟨?_, ?_⟩, gw, dn⟩, ⟨k6, k7⟩, ⟨(k7 0 0 1 (by unfold KR2; omega)).trans d1, (k7 0 0 2 (by unfold KR2; omega)).trans d2, (k7 0 0 17 (by unfold KR2; omega)).trans d17⟩, c6⟩
  · rw [k6 10 32 3 (by unfold TA; omega), k7 0 0 75 (by unfold KR2; omega), u1, jm_une_k (by decide)]; exact n75
  · rw [k6 3 0 3 (by unfold TA; omega), k7 0 0 72 (by unfold KR2; omega), u1, jm_une_k (by decide)]; exact n3
theorem a_seconds (fu : Nat) (hfu : 4000 ≤ fu) (M N : jm_M) (iv : IW M N) (it : IT M N) (ca : CA fu M N) (ir : IR M N) (l1 l2 : Int) (h1 : jm_in l1) (h2 : jm_in l2) : J2 (fX11_seconds fu M l1 l2) (fX12_seconds fu N l1 l2) (fun v _ w _ => v = w) := by
  have iM := iv.1.1
  have iN := iv.1.2.1
  obtain ⟨⟨s0, s1, s5⟩, -, -, -⟩ := id it.1.2.1
  have b17 : 0 ≤ N 0 0 17 ∧ N 0 0 17 ≤ 6 := iN 0 0 17
  unfold fX11_seconds fX12_seconds
  refine J2.rs (fun N1 u1 => ?_)
  obtain ⟨j1, -, -, d1, d2, d17⟩ := q_pre iN it ca u1
  refine J2.lq (s_fX2_has M iM l1 h1) (fun v1 g1 => J2.rq (s_fX12_isCar N1 j1 l1 h1) (fun v2 g2 => ?_))
  rw [d17] at g2
  refine J2.bi (by omega) (fun _ => J2.ret rfl) (fun z1 => ?_)
  refine J2.lq (s_fX11_isDay M iM l2 h2) (fun v3 g3 => J2.rq (s_fX12_isDay N1 j1 l2 h2) (fun v4 g4 => ?_))
  refine J2.bi (by omega) (fun _ => J2.ret rfl) (fun z2 => ?_)
  refine J2.bb (j_asked fu hfu iv it ca ir u1) (fun v M6 w N7 q => ?_)
  obtain ⟨⟨i6, j7⟩, jc, -, ⟨x1, x2, x17⟩, -⟩ := q
  have hc : 0 ≤ l1 ∧ l1 < N7 0 0 17 := ⟨by omega, by omega⟩
  have hc6 : 0 ≤ l1 ∧ l1 < 6 := ⟨by omega, by omega⟩
  have bs : 2 ≤ N7 0 0 1 ∧ N7 0 0 1 ≤ 5 := j7 0 0 1
  refine J2.lT hc6 (J2.lT hc6 (J2.lq (c_lapsEnded jc.1.2.1.1.2.2 jc.1.2.1.1.1 bs.1 (by omega) hc (jc.2.1.2.2.1 l1 hc.1 hc.2).1.1) (fun v13 q13 => ?_)))
  refine J2.lq (c_weight fu hfu i6 j7 jc.2.2.1.2.1 jc.2.2.2.1.1 l1 l2) (fun v16 q16 => ?_)
  refine J2.bb (j_secs fu hfu i6 j7 j7 jc Kp.rf Kp.rf l1 l2 hc v13 v16 q13 q16.1 q16.2) (fun va Ma wa Na p => J2.ret p.1)
/-- a day judged -/
theorem j_judged (fu : Nat) (hfu : 4000 ≤ fu) {M N N1 : jm_M} (iv : IW M N) (it : IT M N) (ca : CA fu M N) (ir : IR M N) (u1 : N1 = jm_u N 0 0 0 0) (day : Int) {ka kb : Int → jm_M → jm_R} {Q : Int → jm_M → Int → jm_M → Prop} (k : ∀ (v : Int) (M9 : jm_M) (w : Int) (N9 : jm_M), (bI bx1 M9 ∧ bI bx2 N9) → JG M9 N9 (N9 0 0 17) → (M9 2 0 5 = N9 0 0 17 ∧ N9 0 0 17 = N 0 0 17) → (∀ o : Int, 0 ≤ o → o < N9 0 0 17 → M9 8 o 4 = N9 17 0 o ∧ 0 ≤ N9 17 0 o) → (∃ M6 N7 : jm_M, JC M6 N7 ∧ (bI bx1 M6 ∧ bI bx2 N7) ∧ Kp KJ1 M6 M9 ∧ Kp KJ2 N7 N9 ∧ Kp TA M M6 ∧ Kp KR2 N1 N7 ∧ CA fu M6 N7) → J2 (ka v M9) (kb w N9) Q) : J2 (jm_b (fX2_reckon fu M) fun _ M6 => jm_b (fX5_reckonFor fu M6 day) ka) (jm_b (fX12_judges fu N1 day) kb) Q := by
  unfold fX12_judges
  rw [jm_ba]
  refine J2.bb (j_asked fu hfu iv it ca ir u1) (fun v M6 w N7 q => ?_)
  obtain ⟨⟨i6, j7⟩, jc, ⟨t6, t7⟩, ⟨x1, x2, x17⟩, c6⟩ := q
  refine J2.bb (j_judge fu hfu i6 j7 jc day) (fun va M9 wa N9 g => ?_)
  obtain ⟨ib, g1, g2, jg⟩ := g
  have n17 : N9 0 0 17 = N7 0 0 17 := g2 0 0 17 (by unfold KJ2; omega)
  refine k va M9 wa N9 ib (by rw [n17]; exact jg) ⟨by rw [n17, g1 2 0 5 (by unfold KJ1; decide)]; exact jc.1.2.1.1.2.2, n17.trans x17⟩ (fun o y1 y2 => ?_) ⟨M6, N7, jc, ⟨i6, j7⟩, g1, g2, t6, t7, c6⟩
  rw [n17] at y2
  rw [g1 8 o 4 (by unfold KJ1; decide), g2 17 0 o (by unfold KJ2; omega)]
  exact ⟨(jc.1.2.2.1 o y1 y2).1.2.2.2.2.1, jc.2.2.1.2.2.2.2 o y1 y2⟩
theorem a_place (fu : Nat) (hfu : 4000 ≤ fu) (M N : jm_M) (iv : IW M N) (it : IT M N) (ca : CA fu M N) (ir : IR M N) (l1 l2 : Int) (h1 : jm_in l1) (h2 : jm_in l2) : J2 (fX11_place fu M l1 l2) (fX12_place fu N l1 l2) (fun v _ w _ => v = w) := by
  have iM := iv.1.1
  have iN := iv.1.2.1
  obtain ⟨⟨s0, s1, s5⟩, -, -, -⟩ := id it.1.2.1
  have b17 : 0 ≤ N 0 0 17 ∧ N 0 0 17 ≤ 6 := iN 0 0 17
  unfold fX11_place fX12_place
  refine J2.rs (fun N1 u1 => ?_)
  obtain ⟨j1, -, -, d1, d2, d17⟩ := q_pre iN it ca u1
  refine J2.lq (s_fX2_has M iM l1 h1) (fun v1 g1 => J2.rq (s_fX12_isCar N1 j1 l1 h1) (fun v2 g2 => ?_))
  rw [d17] at g2
  refine J2.bi (by omega) (fun _ => J2.ret rfl) (fun z1 => ?_)
  refine J2.lq (s_fX11_isDay M iM l2 h2) (fun v3 g3 => J2.rq (s_fX12_isDay N1 j1 l2 h2) (fun v4 g4 => ?_))
  refine J2.bi (by omega) (fun _ => J2.ret rfl) (fun z2 => ?_)
  refine j_judged fu hfu iv it ca ir u1 l2 (fun v M9 w N9 ib jg n17 m84 _ => ?_)
  exact J2.bb (j_place fu hfu ib.2 n17.1 (fun o y1 y2 => (m84 o y1 y2).1) jg ⟨by omega, by omega⟩ (Or.inl ⟨rfl, rfl⟩)) (fun va Ma wa Na p => J2.ret p.1.2.2)
theorem a_within (fu : Nat) (hfu : 4000 ≤ fu) (M N : jm_M) (iv : IW M N) (it : IT M N) (ca : CA fu M N) (ir : IR M N) (l1 l2 : Int) (h1 : jm_in l1) (h2 : jm_in l2) : J2 (fX11_within fu M l1 l2) (fX12_within fu N l1 l2) (fun v _ w _ => v = w) := by
  have iM := iv.1.1
  have iN := iv.1.2.1
  obtain ⟨⟨s0, s1, s5⟩, -, -, -⟩ := id it.1.2.1
  have b17 : 0 ≤ N 0 0 17 ∧ N 0 0 17 ≤ 6 := iN 0 0 17
  unfold fX11_within fX12_within
  refine J2.rs (fun N1 u1 => ?_)
  obtain ⟨j1, -, -, d1, d2, d17⟩ := q_pre iN it ca u1
  refine J2.lq (s_fX2_has M iM l1 h1) (fun v1 g1 => J2.rq (s_fX12_isCar N1 j1 l1 h1) (fun v2 g2 => ?_))
  rw [d17] at g2
  refine J2.bi (by omega) (fun _ => J2.ret rfl) (fun z1 => ?_)
  refine J2.lq (s_fX11_isDay M iM l2 h2) (fun v3 g3 => J2.rq (s_fX12_isDay N1 j1 l2 h2) (fun v4 g4 => ?_))
  refine J2.bi (by omega) (fun _ => J2.ret rfl) (fun z2 => ?_)
  refine j_judged fu hfu iv it ca ir u1 l2 (fun v M9 w N9 ib jg n17 m84 _ => ?_)
  have hc : 0 ≤ l1 ∧ l1 < N9 0 0 17 := ⟨by omega, by omega⟩
  have hm := m84 l1 hc.1 hc.2
  refine J2.lT ⟨by omega, by omega⟩ ?_
  exact J2.bb (j_place fu hfu ib.2 n17.1 (fun o y1 y2 => (m84 o y1 y2).1) jg hc (Or.inr ⟨rfl, by omega, rfl⟩)) (fun va Ma wa Na p => J2.ret p.1.2.2)
/-- the sum: refused on both, or told alike -/
theorem aa_sum (fu : Nat) (hfu : 4000 ≤ fu) (M N : jm_M) (iv : IW M N) (it : IT M N) (ca : CA fu M N) (ir : IR M N) (l1 l2 : Int) (h1 : jm_in l1) (h2 : jm_in l2) : J2 (fX11_sum fu M l1 l2) (fX12_sum fu N l1 l2) (fun v _ w N1 => (v = 4294967296 ∧ N1 0 0 0 = 1) ∨ (jm_in v ∧ N1 0 0 0 = 0 ∧ v = w)) := by
  have iM := iv.1.1
  have iN := iv.1.2.1
  obtain ⟨⟨s0, s1, s5⟩, -, -, -⟩ := id it.1.2.1
  have b17 : 0 ≤ N 0 0 17 ∧ N 0 0 17 ≤ 6 := iN 0 0 17
  unfold fX11_sum fX12_sum
  refine J2.rs (fun N1 u1 => ?_)
  obtain ⟨j1, -, -, d1, d2, d17⟩ := q_pre iN it ca u1
  have ref : ∀ N2 : jm_M, J2 (some (4294967296, M)) (jm_b (fX12_refuse N2) fun v6 M7 => some (v6, M7)) (fun v _ w N1 => (v = 4294967296 ∧ N1 0 0 0 = 1) ∨ (jm_in v ∧ N1 0 0 0 = 0 ∧ v = w)) := fun N2 => J2.ret (Or.inl ⟨rfl, (show jm_u N2 0 0 0 1 0 0 0 = 1 from jm_ueq)⟩)
  refine J2.lq (s_fX2_has M iM l1 h1) (fun v1 g1 => J2.rq (s_fX12_isCar N1 j1 l1 h1) (fun v2 g2 => ?_))
  rw [d17] at g2
  refine J2.bi (by omega) (fun _ => ref N1) (fun z1 => ?_)
  refine J2.lq (s_fX11_isDay M iM l2 h2) (fun v3 g3 => J2.rq (s_fX12_isDay N1 j1 l2 h2) (fun v4 g4 => ?_))
  refine J2.bi (by omega) (fun _ => ref N1) (fun z2 => ?_)
  refine j_judged fu hfu iv it ca ir u1 l2 (fun v M9 w N9 ib jg n17 m84 fr => ?_)
  obtain ⟨M6, N7, -, -, -, g2', -, t7, -⟩ := fr
  have hc : 0 ≤ l1 ∧ l1 < N9 0 0 17 := ⟨by omega, by omega⟩
  have hc6 : 0 ≤ l1 ∧ l1 < 6 := ⟨by omega, by omega⟩
  obtain ⟨⟨e1, e2, e3⟩, -⟩ := jg l1 hc.1 hc.2
  have e0 : N9 0 0 0 = 0 := by
    rw [g2' 0 0 0 (by unfold KJ2; omega), t7 0 0 0 (by unfold KR2; omega), u1]
    exact jm_ueq
  refine J2.lT hc6 (J2.rT hc6 ?_)
  by_cases out : N9 67 0 l1 = 0
  · exact J2.lT (e1.trans out) (J2.rT out (J2.ret (Or.inl ⟨rfl, (show jm_u N9 0 0 0 1 0 0 0 = 1 from jm_ueq)⟩)))
  · have inn : M9 36 0 l1 ≠ 0 := by rw [e1]; exact out
    exact J2.lF inn (J2.rF out (J2.lT hc6 (J2.rT hc6 (J2.ret (Or.inr ⟨bx1_in (ib.1 38 0 l1), e0, e3 inn⟩)))))
/-! the result: rows -/
def inC (N : jm_M) : Nat → Int
  | 0 => 0
  | n + 1 => inC N n + (if N 67 0 (n : Int) = 0 then 0 else 1)
theorem inC_s (N : jm_M) (l : Int) (h : 0 ≤ l) : inC N (l + 1).toNat = inC N l.toNat + (if N 67 0 l = 0 then 0 else 1) := by
  obtain ⟨n, rfl⟩ := Int.eq_ofNat_of_zero_le h
  rw [show ((n : Int) + 1).toNat = n + 1 by omega, Int.toNat_natCast]
  rfl
theorem inC_b (N : jm_M) : ∀ n : Nat, 0 ≤ inC N n ∧ inC N n ≤ (n : Int) := by
  intro n
  induction n with
  | zero => exact ⟨Int.le_refl 0, Int.le_refl 0⟩
  | succ n ih =>
    have e := inC_s N (n : Int) (by omega)
    rw [show ((n : Int) + 1).toNat = n + 1 by omega, Int.toNat_natCast] at e
    rw [e]
    split <;> omega
theorem inC_eq {N N1 : jm_M} (h : ∀ c : Int, N1 67 0 c = N 67 0 c) : ∀ n : Nat, inC N1 n = inC N n := by
  intro n
  induction n with
  | zero => rfl
  | succ n ih =>
    show inC N1 n + (if N1 67 0 (n : Int) = 0 then 0 else 1) = inC N n + (if N 67 0 (n : Int) = 0 then 0 else 1)
    rw [ih, h]
def K82s (f : Nat) (_ k : Int) : Prop := ¬ (f = 0 ∧ k = 82)
/-- the reference counts first -/
theorem d_26 (fu : Nat) (N0 : jm_M) (b17 : N0 0 0 17 ≤ 6) : ∀ (n : Nat) (N : jm_M) (l2 : Int), Kp K82s N0 N → N 0 0 82 = inC N0 l2.toNat → 0 ≤ l2 → l2 ≤ N0 0 0 17 → N0 0 0 17 - l2 < (n : Int) → ∃ N9 : jm_M, Kp K82s N0 N9 ∧ N9 0 0 82 = inC N0 (N0 0 0 17).toNat ∧ (bI bx2 N → bI bx2 N9) ∧ fX12_result_26 fu n N l2 = fX12_result_65 fu fu N9 0 := by
  intro n
  induction n with
  | zero => intro N l2 _ _ _ h1 hm; exfalso; omega
  | succ n ih =>
    intro N l2 k e h0 h1 hm
    have en : fX12_result_26 fu (n + 1) N l2 = gX12_result_26 fu (fX12_result_26 fu n) N l2 := rfl
    rw [en]
    unfold gX12_result_26
    have e17 : N 0 0 17 = N0 0 0 17 := k 0 0 17 (by unfold K82s; omega)
    have e67 : N 67 0 l2 = N0 67 0 l2 := k 67 0 l2 (by unfold K82s; omega)
    have w1 : jm_w (l2 + 1) = l2 + 1 := jm_wid (by omega) (by omega)
    have bc := inC_b N0 l2.toNat
    have st := inC_s N0 l2 h0
    rw [e17, e67, w1, e]
    by_cases z : N0 0 0 17 ≤ l2
    · rw [if_pos z]
      exact ⟨N, k, by rw [e, show l2 = N0 0 0 17 by omega], fun h => h, rfl⟩
    · rw [if_neg z, if_pos (show 0 ≤ l2 ∧ l2 < 6 by omega)]
      by_cases y : N0 67 0 l2 = 0
      · rw [if_pos y, Int.add_zero] at st
        have w0 : jm_w (inC N0 l2.toNat + 0) = inC N0 l2.toNat := by rw [Int.add_zero]; exact jm_wid (by omega) (by omega)
        rw [if_pos y, w0]
        obtain ⟨N9, a, b, c, d⟩ := ih (jm_u N 0 0 82 (inC N0 l2.toNat)) (l2 + 1) (fun f i k2 q => (jm_une (by unfold K82s at q; omega)).trans (k f i k2 q)) (by rw [jm_ueq, st]) (by omega) (by omega) (by omega)
        exact ⟨N9, a, b, fun h => c (bI_u h (by first | exact jm_inL (by omega) (by omega) | exact ⟨by omega, by omega⟩)), d⟩
      · rw [if_neg y] at st
        have wp1 : jm_w (inC N0 l2.toNat + 1) = inC N0 l2.toNat + 1 := jm_wid (by omega) (by omega)
        rw [if_neg y, wp1]
        obtain ⟨N9, a, b, c, d⟩ := ih (jm_u N 0 0 82 (inC N0 l2.toNat + 1)) (l2 + 1) (fun f i k2 q => (jm_une (by unfold K82s at q; omega)).trans (k f i k2 q)) (by rw [jm_ueq, st]) (by omega) (by omega) (by omega)
        exact ⟨N9, a, b, fun h => c (bI_u h (by first | exact jm_inL (by omega) (by omega) | exact ⟨by omega, by omega⟩)), d⟩
def RW6 (M N : jm_M) : Prop := ∀ j : Int, 0 ≤ j → j < 6 → M 13 0 j = N 69 0 j
theorem j_28 (fu : Nat) (hfu : 4000 ≤ fu) {M0 N0 : jm_M} (j0 : bI bx2 N0) (s5 : M0 2 0 5 = N0 0 0 17) (m84 : ∀ o : Int, 0 ≤ o → o < N0 0 0 17 → M0 8 o 4 = N0 17 0 o) (jg : JG M0 N0 (N0 0 0 17)) (e82 : N0 0 0 82 = inC N0 (N0 0 0 17).toNat) : ∀ (n m : Nat) (M N : jm_M) (l2 l3 : Int), bI bx2 N → Kp (fun f _ _ => f ≠ 13) M0 M → Kp (fun f _ _ => f ≠ 69) N0 N → l2 = inC N0 l3.toNat → 0 ≤ l3 → l3 ≤ N0 0 0 17 → (RW6 M0 N0 → RW6 M N) → N0 0 0 17 - l3 < (n : Int) → N0 0 0 17 - l3 < (m : Int) → J2 (fX11_result_28 fu n M l2 l3) (fX12_result_65 fu m N l3) (fun v M1 w N1 => v = w ∧ M1 0 0 9 = N1 0 0 82 ∧ (RW6 M0 N0 → RW6 M1 N1)) := by
  have b17 : 0 ≤ N0 0 0 17 ∧ N0 0 0 17 ≤ 6 := j0 0 0 17
  intro n
  induction n with
  | zero => intro m M N l2 l3 _ _ _ _ _ h1 _ hm; exfalso; omega
  | succ n ih =>
    intro m M N l2 l3 jN k1 k2 e2 h0 h1 rw6 hn hm
    cases m with
    | zero => exfalso; omega
    | succ m =>
      show J2 (gX11_result_28 fu (fX11_result_28 fu n) M l2 l3) (gX12_result_65 fu (fX12_result_65 fu m) N l3) _
      unfold gX11_result_28 gX12_result_65
      have e5 : M 2 0 5 = N0 0 0 17 := (k1 2 0 5 (by decide)).trans s5
      have e17 : N 0 0 17 = N0 0 0 17 := k2 0 0 17 (by decide)
      have e82' : N 0 0 82 = N0 0 0 82 := k2 0 0 82 (by decide)
      have w1 : jm_w (l3 + 1) = l3 + 1 := jm_wid (by omega) (by omega)
      have bc := inC_b N0 l3.toNat
      have st := inC_s N0 l3 h0
      have w2 : jm_w (l2 + 1) = l2 + 1 := jm_wid (by omega) (by omega)
      rw [e5, e17, w1, w2]
      refine J2.bi Iff.rfl (fun z => J2.ls (fun M3 u3 => J2.ret ?_)) (fun z => ?_)
      · have e3 : l3 = N0 0 0 17 := by omega
        rw [e3] at e2
        refine ⟨by rw [e82', e82, e2], by rw [u3, jm_ueq, e82', e82, e2], fun h j y1 y2 => ?_⟩
        rw [u3, jm_une_f (by decide)]
        exact rw6 h j y1 y2
      · have hl : 0 ≤ l3 ∧ l3 < N0 0 0 17 := ⟨h0, by omega⟩
        have hl6 : 0 ≤ l3 ∧ l3 < 6 := ⟨h0, by omega⟩
        have n67 : N 67 0 l3 = N0 67 0 l3 := k2 67 0 l3 (show (67 : Nat) ≠ 69 by decide)
        have jgN : JG M N (N 0 0 17) := fun c y1 y2 => by
          rw [e17] at y2
          rw [k1 36 0 c (show (36 : Nat) ≠ 13 by decide), k1 37 0 c (show (37 : Nat) ≠ 13 by decide), k1 38 0 c (show (38 : Nat) ≠ 13 by decide), k2 67 0 c (show (67 : Nat) ≠ 69 by decide), k2 68 0 c (show (68 : Nat) ≠ 69 by decide), k2 43 0 c (show (43 : Nat) ≠ 69 by decide), k2 0 0 1 (show (0 : Nat) ≠ 69 by decide)]
          exact jg c y1 y2
        refine J2.lF (by omega) (J2.rT hl6 ?_)
        rw [n67]
        obtain ⟨v, Ma, w, Na, ea, eb, ⟨p1, p2, p3⟩, p4, p5⟩ := j_place fu hfu jN (by rw [e5, e17]) (fun o y1 y2 => by rw [e17] at y2; rw [k1 8 o 4 (show (8 : Nat) ≠ 13 by decide), k2 17 0 o (show (17 : Nat) ≠ 69 by decide)]; exact m84 o y1 y2) jgN (l1 := l3) (x := -1) (y := 0) ⟨h0, by rw [e17]; exact hl.2⟩ (Or.inl ⟨rfl, rfl⟩)
        rw [n67] at p5
        rw [ea, jm_bsm, p1]
        refine J2.lq (x_isIndex M v 6) (fun v9 q9 => ?_)
        by_cases out : N0 67 0 l3 = 0
        · rw [if_pos out, Int.add_zero] at st
          have vm := p5.2 out
          refine J2.lT (by omega) (J2.rT out (J2.le (J2.re ?_)))
          exact ih m M N l2 (l3 + 1) jN k1 k2 (by rw [st]; exact e2) (by omega) (by omega) rw6 (by omega) (by omega)
        · rw [if_neg out] at st
          have vm : v ≠ -1 := fun h => out (p5.1 h)
          refine J2.lF (by omega) (J2.rF out ?_)
          rw [eb, jm_bsm, p2, ← p3]
          refine J2.lT ⟨by omega, by omega⟩ (J2.rT ⟨by omega, by omega⟩ (J2.ls (fun M9 u9 => J2.rs (fun N9 v9' => J2.le (J2.le (J2.re ?_))))))
          have j9 : bI bx2 N9 := by rw [v9']; exact bI_u jN (by first | exact jm_inL (by omega) (by omega) | exact ⟨by omega, by omega⟩)
          refine ih m M9 N9 (l2 + 1) (l3 + 1) j9 (fun f i k y => by rw [u9, jm_une_f y]; exact k1 f i k y) (fun f i k y => by rw [v9', jm_une_f y]; exact k2 f i k y) (by rw [st, e2]) (by omega) (by omega) (fun h j y1 y2 => ?_) (by omega) (by omega)
          rw [u9, v9']
          by_cases q : j = v
          · rw [q, jm_ueq, jm_ueq]
          · rw [jm_une_k q, jm_une_k q]
            exact rw6 h j y1 y2
theorem j_rows (fu : Nat) (hfu : 4000 ≤ fu) {M N : jm_M} (iN : bI bx2 N) (s5 : M 2 0 5 = N 0 0 17) (m84 : ∀ o : Int, 0 ≤ o → o < N 0 0 17 → M 8 o 4 = N 17 0 o) (jg : JG M N (N 0 0 17)) : J2 (fX11_result_28 fu fu M 0 0) (jm_s (jm_u N 0 0 82 0) fun N8 => fX12_result_26 fu fu N8 0) (fun v M1 w N1 => v = w ∧ M1 0 0 9 = N1 0 0 82 ∧ (RW6 M N → RW6 M1 N1)) := by
  have b17 : 0 ≤ N 0 0 17 ∧ N 0 0 17 ≤ 6 := iN 0 0 17
  refine J2.rs (fun N8 u8 => ?_)
  have k8 : Kp K82s N N8 := fun f i k y => by rw [u8, jm_une (by unfold K82s at y; omega)]
  have i8 : bI bx2 N8 := by rw [u8]; exact bI_u iN (by first | exact jm_inL (by decide) (by decide) | exact ⟨by decide, by decide⟩)
  obtain ⟨N9, a, b, c, d⟩ := d_26 fu N b17.2 fu N8 0 k8 (by rw [u8]; exact jm_ueq) (by decide) b17.1 (by omega)
  rw [d]
  have n17 : N9 0 0 17 = N 0 0 17 := a 0 0 17 (by unfold K82s; omega)
  have cnt : ∀ n : Nat, inC N9 n = inC N n := inC_eq (fun o => a 67 0 o (by unfold K82s; omega))
  have jg9 : JG M N9 (N9 0 0 17) := fun o y1 y2 => by
    rw [n17] at y2
    rw [a 67 0 o (by unfold K82s; omega), a 68 0 o (by unfold K82s; omega), a 43 0 o (by unfold K82s; omega), a 0 0 1 (by unfold K82s; omega)]
    exact jg o y1 y2
  refine (j_28 fu hfu (c i8) (by rw [n17]; exact s5) (fun o y1 y2 => by rw [n17] at y2; rw [a 17 0 o (by unfold K82s; omega)]; exact m84 o y1 y2) jg9 (by rw [n17, cnt]; exact b) fu fu M N9 0 0 (c i8) Kp.rf Kp.rf rfl (by decide) (by rw [n17]; exact b17.1) (fun h => h) (by rw [n17]; omega) (by rw [n17]; omega)).mono (fun v M1 w N1 q => ⟨q.1, q.2.1, fun h => q.2.2 (fun j y1 y2 => by rw [a 69 0 j (by unfold K82s; omega)]; exact h j y1 y2)⟩)
theorem aw_result (fu : Nat) (hfu : 4000 ≤ fu) (M N : jm_M) (iv : IW M N) (it : IT M N) (ca : CA fu M N) (ir : IR M N) (l1 : Int) (h1 : jm_in l1) : J2 (fX11_result fu M l1) (fX12_result fu N l1) (fun v M1 w N1 => v = w ∧ (M 0 0 9 = N 0 0 82 ∧ RW6 M N → M1 0 0 9 = N1 0 0 82 ∧ RW6 M1 N1)) := by
  have iM := iv.1.1
  have iN := iv.1.2.1
  unfold fX11_result fX12_result
  refine J2.rs (fun N1 u1 => ?_)
  obtain ⟨j1, -, -, d1, d2, d17⟩ := q_pre iN it ca u1
  refine J2.lq (s_fX11_isDay M iM l1 h1) (fun v3 g3 => J2.rq (s_fX12_isDay N1 j1 l1 h1) (fun v4 g4 => ?_))
  refine J2.bi (by omega) (fun _ => J2.ret ⟨rfl, fun h => ⟨by rw [u1, jm_une_k (by decide)]; exact h.1, fun j y1 y2 => by rw [u1, jm_une_f (by decide)]; exact h.2 j y1 y2⟩⟩) (fun z2 => ?_)
  refine j_judged fu hfu iv it ca ir u1 l1 (fun v M9 w N9 ib jg n17 m84 fr => ?_)
  obtain ⟨M6, N7, -, -, g1, g2, t6, t7, -⟩ := fr
  refine (j_rows fu hfu ib.2 n17.1 (fun o y1 y2 => (m84 o y1 y2).1) jg).mono (fun va Ma wa Na p => ⟨p.1, fun h => ⟨p.2.1, p.2.2 (fun j y1 y2 => ?_)⟩⟩)
  rw [g1 13 0 j (by unfold KJ1; decide), t6 13 0 j (by unfold TA; omega), g2 69 0 j (by unfold KJ2; omega), t7 69 0 j (by unfold KR2; omega), u1, jm_une_f (by decide)]
  exact h.2 j y1 y2
theorem a_result (fu : Nat) (hfu : 4000 ≤ fu) (M N : jm_M) (iv : IW M N) (it : IT M N) (ca : CA fu M N) (ir : IR M N) (l1 : Int) (h1 : jm_in l1) : J2 (fX11_result fu M l1) (fX12_result fu N l1) (fun v _ w _ => v = w) := (aw_result fu hfu M N iv it ca ir l1 h1).mono (fun _ _ _ _ q => q.1)
/-- a stop's lap tried and put back -/
theorem a_move (fu : Nat) (hfu : 4000 ≤ fu) (M N : jm_M) (iv : IW M N) (it : IT M N) (ca : CA fu M N) (ir : IR M N) (l1 l2 l3 l4 : Int) (h1 : jm_in l1) (h2 : jm_in l2) (h3 : jm_in l3) (h4 : jm_in l4) : J2 (fX11_move fu M l1 l2 l3 l4) (fX12_move fu N l1 l2 l3 l4) (fun v _ w _ => v = w) := by
  have iM := iv.1.1
  have iN := iv.1.2.1
  obtain ⟨⟨t1, t2, t3, t4, t5⟩, t6, t7, t8⟩ := id it.1
  obtain ⟨⟨s0, s1, s5⟩, -, -, -⟩ := id t6
  have b17 : 0 ≤ N 0 0 17 ∧ N 0 0 17 ≤ 6 := iN 0 0 17
  have bn : 1 ≤ N 0 0 2 ∧ N 0 0 2 ≤ 12 := iN 0 0 2
  have z8 := it.z b17.2
  have n75 : M 10 32 3 = N 0 0 75 := iv.1.2.2.2.1.2.2.2.2.2.1
  have n3 : M 3 0 3 = N 0 0 72 := iv.2.2.2
  unfold fX11_move fX12_move
  refine J2.rs (fun N1 u1 => ?_)
  obtain ⟨j1, -, -, d1, d2, d17⟩ := q_pre iN it ca u1
  refine J2.lq (s_fX2_has M iM l1 h1) (fun v1 g1 => J2.rq (s_fX12_isCar N1 j1 l1 h1) (fun v2 g2 => ?_))
  rw [d17] at g2
  refine J2.bi (by omega) (fun _ => J2.ret rfl) (fun z1 => ?_)
  have hc : 0 ≤ l1 ∧ l1 < N 0 0 17 := ⟨by omega, by omega⟩
  have hc6 : 0 ≤ l1 ∧ l1 < 6 := ⟨by omega, by omega⟩
  have e26 : M 10 (l1 + 12) 3 = N 26 0 l1 := (iv.1.2.2.2.2.1 l1 hc.1 hc.2).2.2.1
  have b26 : 0 ≤ N 26 0 l1 ∧ N 26 0 l1 ≤ 5 := iN 26 0 l1
  have f26 : N1 26 0 l1 = N 26 0 l1 := by rw [u1]; exact jm_une_f (by decide)
  have w26 : jm_w (N1 26 0 l1 - 1) = N 26 0 l1 - 1 := by rw [f26]; exact jm_wid (by omega) (by omega)
  refine J2.lT hc6 (J2.rT hc6 ?_)
  rw [w26]
  refine J2.lq (x_isIndex M l2 (M 10 (l1 + 12) 3)) (fun v7 g7 => J2.rq (s_fX12_in N1 j1 l2 0 (N 26 0 l1 - 1) h2 ⟨by decide, by decide⟩ ⟨by omega, by omega⟩) (fun v8 g8 => ?_))
  refine J2.bi (by omega) (fun _ => J2.ret rfl) (fun z2 => ?_)
  have w2 : jm_w (M 1 0 1 - 2) = N 0 0 2 - 2 := by rw [s1]; exact jm_wid (by omega) (by omega)
  rw [w2]
  refine J2.lq (s_fX11_isWithin M iM l3 0 (N 0 0 2 - 2) h3 (jm_inL (by decide) (by decide)) (jm_inL (by omega) (by omega))) (fun v12 g12 => J2.rq (s_fX12_isStopLap N1 j1 l3 h3) (fun v13 g13 => ?_))
  refine J2.bi (by omega) (fun _ => J2.ret rfl) (fun z3 => ?_)
  refine J2.lq (s_fX11_isDay M iM l4 h4) (fun v16 g16 => J2.rq (s_fX12_isDay N1 j1 l4 h4) (fun v17 g17 => ?_))
  refine J2.bi (by omega) (fun _ => J2.ret rfl) (fun z4 => ?_)
  have hi : 0 ≤ l2 ∧ l2 < N 26 0 l1 := ⟨by omega, by omega⟩
  have hw : wid1 (l1 + 12) = 3 := wid1_6 (by omega) (by omega)
  have ix : jm_w (jm_w (5 * l1) + l2) = 5 * l1 + l2 := by rw [jm_wid (x := 5 * l1) (by omega) (by omega)]; exact jm_wid (by omega) (by omega)
  have hx : 0 ≤ 5 * l1 + l2 ∧ 5 * l1 + l2 < 30 := ⟨by omega, by omega⟩
  refine J2.lT hc6 (J2.lq (cell_in iM (r := l1 + 12) (i := l2) (k := 0) (w := 3) (a := l2 * 3) ⟨by omega, by omega⟩ hw (by rw [e26]; exact hi) ⟨by decide, by decide⟩ (Int.add_zero _)) (fun v21 g21 => ?_))
  have bw : M 10 (l1 + 12) 1 = wid1 (l1 + 12) := iM 10 (l1 + 12) 1
  have bs : 0 ≤ M 10 (l1 + 12) 3 ∧ M 10 (l1 + 12) 3 ≤ lim1 (l1 + 12) := iM 10 (l1 + 12) 3
  have p1 := c_put (v := l3) bw bs ⟨by omega, by omega⟩ hw (by rw [e26]; exact hi) (show 0 ≤ (0 : Int) ∧ (0 : Int) < 3 by decide) (show l2 * 3 + 0 = l2 * 3 from Int.add_zero _)
  rw [p1, jm_bsm, ix]
  refine J2.re (J2.rT hx (J2.re (J2.rT hx (J2.rs (fun N27 u27 => ?_)))))
  obtain ⟨M25, u25⟩ : ∃ M25 : jm_M, M25 = jm_u M 19 (l1 + 12) (l2 * 3) l3 := ⟨_, rfl⟩
  rw [← u25]
  have i25 : bI bx1 M25 := by rw [u25]; exact bI_u iM h3
  have j27 : bI bx2 N27 := by rw [u27]; exact bI_u j1 (by first | exact h3 | exact ⟨by omega, by omega⟩)
  have kM : ∀ (f : Nat) (i k : Int), ¬ (f = 19 ∧ i = l1 + 12) → M25 f i k = M f i k := fun f i k y => by rw [u25]; exact jm_une (by omega)
  have kN : ∀ (f : Nat) (i k : Int), ¬ (f = 27 ∧ i = 0 ∧ k = 5 * l1 + l2) → ¬ (f = 0 ∧ i = 0 ∧ k = 0) → N27 f i k = N f i k := fun f i k y y2 => by rw [u27, jm_une y, u1]; exact jm_une y2
  have new : TDp M25 N27 := by
    intro c y1 y2
    rw [kN 0 0 17 (by omega) (by omega)] at y2
    obtain ⟨a, b⟩ := t4 c y1 y2
    have z := z8 c y1 y2
    have z' : M25 8 c 13 = 0 := (kM 8 c 13 (by omega)).trans z
    have st : stT M c = c + 12 := by unfold stT; exact if_pos z
    have st' : stT M25 c = c + 12 := by unfold stT; exact if_pos z'
    rw [st] at a b
    rw [st']
    rw [kM 10 (c + 12) 3 (by omega), kN 26 0 c (by omega) (by omega)]
    refine ⟨a, fun j y3 y4 => ?_⟩
    have bj := b j y3 y4
    have bc : N 26 0 c ≤ 5 := (iN 26 0 c).2
    rw [kN 28 0 (5 * c + j) (by omega) (by omega), kN 29 0 (5 * c + j) (by omega) (by omega)]
    by_cases e : c = l1
    · rw [e] at bj ⊢
      by_cases e2 : j = l2
      · rw [e2] at bj ⊢
        have a1 : M25 19 (l1 + 12) (3 * l2) = l3 := by rw [u25, show 3 * l2 = l2 * 3 by omega]; exact jm_ueq
        have a2 : N27 27 0 (5 * l1 + l2) = l3 := by rw [u27]; exact jm_ueq
        have a3 : M25 19 (l1 + 12) (3 * l2 + 1) = M 19 (l1 + 12) (3 * l2 + 1) := by rw [u25]; exact jm_une_k (by omega)
        have a4 : M25 19 (l1 + 12) (3 * l2 + 2) = M 19 (l1 + 12) (3 * l2 + 2) := by rw [u25]; exact jm_une_k (by omega)
        rw [a1, a2, a3, a4]
        exact ⟨rfl, bj.2⟩
      · have a1 : M25 19 (l1 + 12) (3 * j) = M 19 (l1 + 12) (3 * j) := by rw [u25]; exact jm_une_k (by omega)
        have a3 : M25 19 (l1 + 12) (3 * j + 1) = M 19 (l1 + 12) (3 * j + 1) := by rw [u25]; exact jm_une_k (by omega)
        have a4 : M25 19 (l1 + 12) (3 * j + 2) = M 19 (l1 + 12) (3 * j + 2) := by rw [u25]; exact jm_une_k (by omega)
        rw [a1, a3, a4, kN 27 0 (5 * l1 + j) (by omega) (by omega)]
        exact bj
    · rw [kM 19 (c + 12) (3 * j) (by omega), kM 19 (c + 12) (3 * j + 1) (by omega), kM 19 (c + 12) (3 * j + 2) (by omega), kN 27 0 (5 * c + j) (by omega) (by omega)]
      exact bj
  have tl : TLD M25 N27 := ⟨⟨t1.kk (fun f i k y => kM f i k (by unfold C1r at y; omega)) (fun f i k y => kN f i k (by unfold C2r at y; omega) (by unfold C2r at y; omega)), t2.kk (fun f i k y => kM f i k (by unfold C1f at y; omega)) (fun f i k y => kN f i k (by unfold C2f at y; omega) (by unfold C2f at y; omega)), t3.kk b17.2 (fun f i k y => kM f i k (by unfold C1s at y; omega)) (fun f i k y => kN f i k (by unfold C2s at y; omega) (by unfold C2s at y; omega)), new, t5.kk b17.2 (fun f i k y => kM f i k (by unfold C1o at y; omega)) (fun f i k y => kN f i k (by unfold C2o at y; omega) (by unfold C2o at y; omega))⟩, t6.kk (fun f i k y => kM f i k (by unfold C1n at y; omega)) (fun f i k y => kN f i k (by unfold C2n at y; omega) (by unfold C2n at y; omega)), t7.kk iN (fun f i k y => kM f i k (by unfold C1c at y; omega)) (fun c f k _ _ _ y => kM f _ k (by unfold CTX at y; omega)) (fun f i k y => kN f i k (by unfold C2c at y; omega) (by unfold C2c at y; omega)), t8.kk (fun f i k y => kN f i k (by unfold C2l at y; omega) (by unfold C2l at y; omega))⟩
  have ir2 : IR M25 N27 := ir.kk iN (fun f i k y => kM f i k (by unfold X1 at y; omega)) (fun i f k _ _ y => kM f _ k (by unfold CTX at y; omega)) (fun f i k y => kN f i k (by unfold X2 at y; omega) (by unfold X2 at y; omega))
  unfold fX12_judges
  rw [jm_ba]
  refine J2.bb (j_run fu hfu M25 N27 i25 j27 tl) (fun va M28 wa N28 q => ?_)
  obtain ⟨⟨i28, j28, tl28, run28, kr1, kr2⟩, -, gw, dn⟩ := q
  have ir3 : IR M28 N28 := ir2.kk j27 (fun f i k y => kr1 f i k (by unfold X1 at y; unfold KR1; omega)) (fun i f k _ _ y => kr1 f _ k (by unfold CTX at y; unfold KR1; omega)) (fun f i k y => kr2 f i k (by unfold X2 at y; unfold KR2; omega))
  have jc : JC M28 N28 := ⟨tl28, run28, ir3, ⟨by rw [kr1 10 32 3 (by unfold KR1; omega), kM 10 32 3 (by omega), kr2 0 0 75 (by unfold KR2; omega), kN 0 0 75 (by omega) (by omega)]; exact n75, by rw [kr1 3 0 3 (by unfold KR1; omega), kM 3 0 3 (by omega), kr2 0 0 72 (by unfold KR2; omega), kN 0 0 72 (by omega) (by omega)]; exact n3⟩, gw, dn⟩
  refine J2.bb (j_judge fu hfu i28 j28 jc l4) (fun vb M29 wb N29 g => ?_)
  obtain ⟨⟨i29, j29⟩, g1, g2, jg⟩ := g
  have e10 : ∀ k : Int, M29 10 (l1 + 12) k = M 10 (l1 + 12) k := fun k => by
    rw [g1 10 (l1 + 12) k (by unfold KJ1; decide), kr1 10 (l1 + 12) k (by unfold KR1; omega)]
    exact kM 10 (l1 + 12) k (by omega)
  have p2 := c_put (M := M29) (v := v21) (by rw [e10]; exact bw) (by rw [e10]; exact bs) ⟨by omega, by omega⟩ hw (by rw [e10, e26]; exact hi) (show 0 ≤ (0 : Int) ∧ (0 : Int) < 3 by decide) (show l2 * 3 + 0 = l2 * 3 from Int.add_zero _)
  rw [p2, jm_bsm]
  refine J2.rT hx (J2.rs (fun N31 u31 => ?_))
  obtain ⟨M31, v31⟩ : ∃ M31 : jm_M, M31 = jm_u M29 19 (l1 + 12) (l2 * 3) v21 := ⟨_, rfl⟩
  rw [← v31]
  have mf : ∀ (f : Nat) (i k : Int), f ≠ 19 → M31 f i k = M29 f i k := fun f i k y => by rw [v31]; exact jm_une_f y
  have nf : ∀ (f : Nat) (i k : Int), f ≠ 27 → N31 f i k = N29 f i k := fun f i k y => by rw [u31]; exact jm_une_f y
  have j31 : bI bx2 N31 := by rw [u31]; exact bI_u j29 (by rw [u1]; first | exact j1 27 0 _ | exact iN 27 0 _ | exact bI_u iN (jm_inL (by decide) (by decide)) 27 0 _)
  have n17 : N29 0 0 17 = N28 0 0 17 := g2 0 0 17 (by unfold KJ2; omega)
  have n17' : N28 0 0 17 = N 0 0 17 := (kr2 0 0 17 (by unfold KR2; omega)).trans (kN 0 0 17 (by omega) (by omega))
  have jg31 : JG M31 N31 (N31 0 0 17) := fun c y1 y2 => by
    rw [nf 0 0 17 (by decide), n17] at y2
    rw [mf 36 0 c (by decide), mf 37 0 c (by decide), mf 38 0 c (by decide), nf 67 0 c (by decide), nf 68 0 c (by decide), nf 43 0 c (by decide), nf 0 0 1 (by decide)]
    exact jg c y1 y2
  have m5 : M31 2 0 5 = N31 0 0 17 := by
    rw [mf 2 0 5 (by decide), nf 0 0 17 (by decide), n17, g1 2 0 5 (by unfold KJ1; decide)]
    exact tl28.2.1.1.2.2
  refine J2.bb (j_place fu hfu j31 m5 (fun o y1 y2 => ?_) jg31 ⟨hc.1, by rw [nf 0 0 17 (by decide), n17, n17']; exact hc.2⟩ (Or.inl ⟨rfl, rfl⟩)) (fun vc Mc wc Nc p => ?_)
  · rw [nf 0 0 17 (by decide), n17] at y2
    rw [mf 8 o 4 (by decide), nf 17 0 o (by decide), g1 8 o 4 (by unfold KJ1; decide), g2 17 0 o (by unfold KJ2; omega)]
    exact (tl28.2.2.1 o y1 y2).1.2.2.2.2.1
  · obtain ⟨⟨pa, pb, pc⟩, ⟨pd, pe⟩, -⟩ := p
    by_cases q : vc = -1
    · exact J2.lT q (J2.rF (by omega) (J2.ret rfl))
    · exact J2.lF q (J2.rT (by omega) (J2.ret pc))
