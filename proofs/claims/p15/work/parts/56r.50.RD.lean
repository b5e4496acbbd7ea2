/-! a car judged -/
theorem j_rule (fu : Nat) (hfu : 4000 ≤ fu) (M N M0 N0 : jm_M) (iM : bI bx1 M) (iN : bI bx2 N) (k1 : Kp K28 M0 M) (k2 : Kp K37 N0 N) (u t a len sec : Int) (ha : 0 ≤ a ∧ a + len ≤ 1700) (rt : RT u M0 N0 t a len sec) (L : LTR u M0 N0) : J2 (fX4_holds fu M t 0) (fX12_gives fu N a (a + len)) (QV M0 N0 (a + len)) := by
  obtain ⟨⟨h6, h21, l0, l60⟩, h5, hc, -⟩ := rt
  have m21 : M 21 t 0 = len := (k1 21 t 0 (by unfold K28; decide)).trans h21
  have w : jm_min len 60 = len := by
    unfold jm_min
    rw [if_neg (by omega)]
  have z := j_ev fu M0 N0 t 0 len (a + len) (a + len) ⟨by omega, by omega⟩ l60 l0 (Or.inl (Int.le_refl _)) len.toNat fu fu M N 0 0 a (by omega) (by omega) iM iN k1 k2 (by omega) (by omega) (by omega) (by omega) (by omega) (fun j y1 y2 => by exfalso; omega) (fun j y1 y2 => by rw [Int.zero_add]; exact (hc j y1 (by omega)).rel L) h5
  unfold fX4_holds fX12_gives gX4_holds_27
  refine J2.lq (x_isIndex M 0 21) (fun v q => J2.lF (by omega) (J2.lT rfl (J2.lT ⟨by decide, by decide⟩ ?_)))
  rw [m21]
  exact J2.le' w z
theorem bc_eq (x : Int) : ∃ v : Int, jm_in v ∧ (∀ M : jm_M, fJ6_bitCount_0f7a4_w1 M x = some (v, M)) ∧ ∀ N : jm_M, fJ6_bitCount_0f7a4_w2 N x = some (v, N) := ⟨_, jm_and_in _ _, fun _ => rfl, fun _ => rfl⟩
/-- the letters of a rule -/
def LRc (M9 : jm_M) (xS xK xP xL xW xC xO xF xT : Int) : Prop := M9 27 0 18 = xS ∧ M9 27 0 10 = xK ∧ M9 27 0 15 = xP ∧ M9 27 0 11 = xL ∧ M9 27 0 22 = xW ∧ M9 27 0 2 = xC ∧ M9 27 0 14 = xO ∧ M9 27 0 5 = xF ∧ M9 27 0 19 = xT
def LRn (N9 : jm_M) (xS xK xP xL xW xC xO xF xT : Int) : Prop := N9 38 0 0 = xS ∧ N9 38 0 1 = xK ∧ N9 38 0 2 = xP ∧ N9 38 0 3 = xL ∧ N9 38 0 4 = xW ∧ N9 38 0 5 = xC ∧ N9 38 0 6 = xO ∧ N9 38 0 7 = xF ∧ N9 38 0 8 = xT
theorem ltr_1 : ltr 1 0 = 18 ∧ ltr 1 1 = 10 ∧ ltr 1 2 = 15 ∧ ltr 1 3 = 11 ∧ ltr 1 4 = 22 ∧ ltr 1 5 = 2 ∧ ltr 1 6 = 14 ∧ ltr 1 7 = 5 ∧ ltr 1 8 = 19 ∧ ltr 1 9 = -1 ∧ ltr 1 10 = -1 ∧ ltr 1 11 = -1 ∧ ltr 1 12 = -1 := by decide
theorem LTR.of1 {M N : jm_M} {xS xK xP xL xW xC xO xF xT : Int} (h1 : LRc M xS xK xP xL xW xC xO xF xT) (h2 : LRn N xS xK xP xL xW xC xO xF xT) : LTR 1 M N := by
  obtain ⟨a0, a1, a2, a3, a4, a5, a6, a7, a8⟩ := h1
  obtain ⟨b0, b1, b2, b3, b4, b5, b6, b7, b8⟩ := h2
  obtain ⟨e0, e1, e2, e3, e4, e5, e6, e7, e8, e9, e10, e11, e12⟩ := ltr_1
  intro p h0 h12 hp
  rcases (by omega : p = 0 ∨ p = 1 ∨ p = 2 ∨ p = 3 ∨ p = 4 ∨ p = 5 ∨ p = 6 ∨ p = 7 ∨ p = 8 ∨ p = 9 ∨ p = 10 ∨ p = 11 ∨ p = 12) with q | q | q | q | q | q | q | q | q | q | q | q | q <;> rw [q] at hp ⊢
  · rw [e0]; exact a0.trans b0.symm
  · rw [e1]; exact a1.trans b1.symm
  · rw [e2]; exact a2.trans b2.symm
  · rw [e3]; exact a3.trans b3.symm
  · rw [e4]; exact a4.trans b4.symm
  · rw [e5]; exact a5.trans b5.symm
  · rw [e6]; exact a6.trans b6.symm
  · rw [e7]; exact a7.trans b7.symm
  · rw [e8]; exact a8.trans b8.symm
  · rw [e9] at hp; exact absurd hp (by decide)
  · rw [e10] at hp; exact absurd hp (by decide)
  · rw [e11] at hp; exact absurd hp (by decide)
  · rw [e12] at hp; exact absurd hp (by decide)
theorem K27.u {M0 M : jm_M} {k v : Int} (h : Kp K27 M0 M) : Kp K27 M0 (jm_u M 27 0 k v) := fun f i k2 y => (jm_une_f y).trans (h f i k2 y)
theorem K38.u {N0 N : jm_M} {k v : Int} (h : Kp K38 N0 N) : Kp K38 N0 (jm_u N 38 0 k v) := fun f i k2 y => (jm_une_f y).trans (h f i k2 y)
/-- the class's letters -/
theorem j_lets (fu : Nat) {M : jm_M} (iM : bI bx1 M) (c lp wt day b : Int) (ilp : jm_in lp) (iw : jm_in wt) (ib : jm_in b) (eb : ∀ M1 : jm_M, fJ6_bitCount_0f7a4_w1 M1 (M 9 c 6) = some (b, M1)) {y : jm_R} {Q : Int → jm_M → Int → jm_M → Prop} (k : ∀ M9 : jm_M, bI bx1 M9 → Kp K27 M M9 → LRc M9 (M 9 c 5) b (M 9 c 7) lp wt (M 8 c 4) (if M 9 c 3 = 2 then 1 else 0) (M 9 c 8) (M 8 c 3) → J2 (fX0_secondsBy_130 fu fu M9 day 0 0) y Q) : J2 (fX0_secondsBy fu M c c lp wt day) y Q := by
  unfold fX0_secondsBy
  have iz : jm_in 0 := jm_inL (by decide) (by decide)
  have io : jm_in 1 := jm_inL (by decide) (by decide)
  refine J2.lb (c_let M 115 18 _ (by decide) (by decide)) (fun _ A1 u1 => ?_)
  have g1 : Kp K27 M A1 := by rw [u1]; exact Kp.rf.tr (fun f i k2 y => jm_une_f y) (fun _ _ _ y => y)
  have j1 : bI bx1 A1 := by rw [u1]; exact bI_u iM (bx1_in (iM 9 c 5))
  rw [g1 9 c 6 (by unfold K27; decide), eb A1, jm_bsm]
  refine J2.lb (c_let A1 107 10 _ (by decide) (by decide)) (fun _ A2 u2 => ?_)
  have g2 : Kp K27 M A2 := by rw [u2]; exact K27.u g1
  have j2 : bI bx1 A2 := by rw [u2]; exact bI_u j1 ib
  rw [g2 9 c 7 (by unfold K27; decide)]
  refine J2.lb (c_let A2 112 15 _ (by decide) (by decide)) (fun _ A3 u3 => ?_)
  have g3 : Kp K27 M A3 := by rw [u3]; exact K27.u g2
  have j3 : bI bx1 A3 := by rw [u3]; exact bI_u j2 (bx1_in (iM 9 c 7))
  refine J2.lb (c_let A3 108 11 _ (by decide) (by decide)) (fun _ A4 u4 => ?_)
  have g4 : Kp K27 M A4 := by rw [u4]; exact K27.u g3
  have j4 : bI bx1 A4 := by rw [u4]; exact bI_u j3 ilp
  refine J2.lb (c_let A4 119 22 _ (by decide) (by decide)) (fun _ A5 u5 => ?_)
  have g5 : Kp K27 M A5 := by rw [u5]; exact K27.u g4
  have j5 : bI bx1 A5 := by rw [u5]; exact bI_u j4 iw
  rw [g5 8 c 4 (by unfold K27; decide)]
  refine J2.lb (c_let A5 99 2 _ (by decide) (by decide)) (fun _ A6 u6 => ?_)
  have g6 : Kp K27 M A6 := by rw [u6]; exact K27.u g5
  have j6 : bI bx1 A6 := by rw [u6]; exact bI_u j5 (bx1_in (iM 8 c 4))
  rw [g6 9 c 3 (by unfold K27; decide)]
  have fin : ∀ s0 : Int, jm_in s0 → s0 = (if M 9 c 3 = 2 then 1 else 0) → J2 (gX0_secondsBy_95 fu A6 c c day s0 111) y Q := fun s0 is hs => by
    unfold gX0_secondsBy_95
    refine J2.lb (c_let A6 111 14 _ (by decide) (by decide)) (fun _ A7 u7 => ?_)
    have g7 : Kp K27 M A7 := by rw [u7]; exact K27.u g6
    have j7 : bI bx1 A7 := by rw [u7]; exact bI_u j6 is
    rw [g7 9 c 8 (by unfold K27; decide)]
    refine J2.lb (c_let A7 102 5 _ (by decide) (by decide)) (fun _ A8 u8 => ?_)
    have g8 : Kp K27 M A8 := by rw [u8]; exact K27.u g7
    have j8 : bI bx1 A8 := by rw [u8]; exact bI_u j7 (bx1_in (iM 9 c 8))
    rw [g8 8 c 3 (by unfold K27; decide)]
    refine J2.lb (c_let A8 116 19 _ (by decide) (by decide)) (fun _ A9 u9 => ?_)
    have g9 : Kp K27 M A9 := by rw [u9]; exact K27.u g8
    have j9 : bI bx1 A9 := by rw [u9]; exact bI_u j8 (bx1_in (iM 8 c 3))
    rw [← hs] at k
    refine k A9 j9 g9 ⟨?_, ?_, ?_, ?_, ?_, ?_, ?_, ?_, ?_⟩
    · rw [u9, jm_une_k (by decide), u8, jm_une_k (by decide), u7, jm_une_k (by decide), u6, jm_une_k (by decide), u5, jm_une_k (by decide), u4, jm_une_k (by decide), u3, jm_une_k (by decide), u2, jm_une_k (by decide), u1]; exact jm_ueq
    · rw [u9, jm_une_k (by decide), u8, jm_une_k (by decide), u7, jm_une_k (by decide), u6, jm_une_k (by decide), u5, jm_une_k (by decide), u4, jm_une_k (by decide), u3, jm_une_k (by decide), u2]; exact jm_ueq
    · rw [u9, jm_une_k (by decide), u8, jm_une_k (by decide), u7, jm_une_k (by decide), u6, jm_une_k (by decide), u5, jm_une_k (by decide), u4, jm_une_k (by decide), u3]; exact jm_ueq
    · rw [u9, jm_une_k (by decide), u8, jm_une_k (by decide), u7, jm_une_k (by decide), u6, jm_une_k (by decide), u5, jm_une_k (by decide), u4]; exact jm_ueq
    · rw [u9, jm_une_k (by decide), u8, jm_une_k (by decide), u7, jm_une_k (by decide), u6, jm_une_k (by decide), u5]; exact jm_ueq
    · rw [u9, jm_une_k (by decide), u8, jm_une_k (by decide), u7, jm_une_k (by decide), u6]; exact jm_ueq
    · rw [u9, jm_une_k (by decide), u8, jm_une_k (by decide), u7]; exact jm_ueq
    · rw [u9, jm_une_k (by decide), u8]; exact jm_ueq
    · rw [u9]; exact jm_ueq
  by_cases z : M 9 c 3 = 2
  · exact J2.lT z (fin 1 io (by rw [if_pos z]))
  · exact J2.lF z (fin 0 iz (by rw [if_neg z]))
/-- the reference's letters -/
theorem d_lets (fu : Nat) {N : jm_M} (iN : bI bx2 N) (c wt day b : Int) (hc : 0 ≤ c ∧ c < 6) (iw : jm_in wt) (ib : jm_in b) (eb : ∀ N1 : jm_M, fJ6_bitCount_0f7a4_w2 N1 (N 50 0 c) = some (b, N1)) (hw : ∀ N1 : jm_M, bI bx2 N1 → Kp K38 N N1 → wp (fX12_weight fu N1 c day) (fun v N2 => N2 = N1 ∧ v = wt)) {x : jm_R} {Q : Int → jm_M → Int → jm_M → Prop} (k : ∀ N9 : jm_M, bI bx2 N9 → Kp K38 N N9 → LRn N9 (N 49 0 c) b (N 51 0 c) (jm_div (N 43 0 c) (N 0 0 1)) wt (N 17 0 c) (if N 39 0 c = 2 then 1 else 0) (N 44 0 c) (N 16 0 c) → J2 x (fX12_secondsOf_136 fu fu N9 day 0 0) Q) : J2 x (fX12_secondsOf fu N c day) Q := by
  have bs : 2 ≤ N 0 0 1 ∧ N 0 0 1 ≤ 5 := iN 0 0 1
  have iz : jm_in 0 := jm_inL (by decide) (by decide)
  have io : jm_in 1 := jm_inL (by decide) (by decide)
  unfold fX12_secondsOf
  refine J2.rT hc (J2.rT ⟨by decide, by decide⟩ (J2.rs (fun B1 u1 => J2.rT hc ?_)))
  have g1 : Kp K38 N B1 := by rw [u1]; exact Kp.rf.tr (fun f i k2 y => jm_une_f y) (fun _ _ _ y => y)
  have j1 : bI bx2 B1 := by rw [u1]; exact bI_u iN (bx2_in (iN 49 0 c))
  rw [g1 50 0 c (by unfold K38; decide), eb B1, jm_bsm]
  refine J2.rT ⟨by decide, by decide⟩ (J2.rs (fun B2 u2 => J2.rT hc (J2.rT ⟨by decide, by decide⟩ ?_)))
  have g2 : Kp K38 N B2 := by rw [u2]; exact K38.u g1
  have j2 : bI bx2 B2 := by rw [u2]; exact bI_u j1 ib
  rw [g2 51 0 c (by unfold K38; decide)]
  refine J2.rs (fun B3 u3 => J2.rT hc ?_)
  have g3 : Kp K38 N B3 := by rw [u3]; exact K38.u g2
  have j3 : bI bx2 B3 := by rw [u3]; exact bI_u j2 (bx2_in (iN 51 0 c))
  rw [g3 0 0 1 (by unfold K38; decide), g3 43 0 c (by unfold K38; decide)]
  refine J2.rT (by omega) (J2.rT ⟨by decide, by decide⟩ (J2.rs (fun B4 u4 => ?_)))
  have g4 : Kp K38 N B4 := by rw [u4]; exact K38.u g3
  have j4 : bI bx2 B4 := by rw [u4]; exact bI_u j3 (jm_w_in _)
  refine J2.rq (hw B4 j4 g4) (fun v22 e22 => J2.rT ⟨by decide, by decide⟩ (J2.rs (fun B5 u5 => J2.rT hc (J2.rT ⟨by decide, by decide⟩ ?_))))
  rw [e22] at u5
  have g5 : Kp K38 N B5 := by rw [u5]; exact K38.u g4
  have j5 : bI bx2 B5 := by rw [u5]; exact bI_u j4 iw
  rw [g5 17 0 c (by unfold K38; decide)]
  refine J2.rs (fun B6 u6 => J2.rT hc ?_)
  have g6 : Kp K38 N B6 := by rw [u6]; exact K38.u g5
  have j6 : bI bx2 B6 := by rw [u6]; exact bI_u j5 (bx2_in (iN 17 0 c))
  rw [g6 39 0 c (by unfold K38; decide)]
  have fin : ∀ s0 : Int, (s0 = 0 ∨ s0 = 1) → s0 = (if N 39 0 c = 2 then 1 else 0) → J2 x (gX12_secondsOf_101 fu B6 c day s0 6) Q := fun s0 h01 hs => by
    have is : jm_in s0 := by rcases h01 with rfl | rfl <;> first | exact iz | exact io
    unfold gX12_secondsOf_101
    refine J2.rq (d_truth B6 s0 h01) (fun v e => J2.rT ⟨by decide, by decide⟩ (J2.rs (fun B7 u7 => J2.rT hc (J2.rT ⟨by decide, by decide⟩ ?_))))
    rw [e] at u7
    have g7 : Kp K38 N B7 := by rw [u7]; exact K38.u g6
    have j7 : bI bx2 B7 := by rw [u7]; exact bI_u j6 is
    rw [g7 44 0 c (by unfold K38; decide)]
    refine J2.rs (fun B8 u8 => J2.rT hc (J2.rT ⟨by decide, by decide⟩ ?_))
    have g8 : Kp K38 N B8 := by rw [u8]; exact K38.u g7
    have j8 : bI bx2 B8 := by rw [u8]; exact bI_u j7 (bx2_in (iN 44 0 c))
    rw [g8 16 0 c (by unfold K38; decide)]
    refine J2.rs (fun B9 u9 => ?_)
    have g9 : Kp K38 N B9 := by rw [u9]; exact K38.u g8
    have j9 : bI bx2 B9 := by rw [u9]; exact bI_u j8 (bx2_in (iN 16 0 c))
    rw [← hs] at k
    refine k B9 j9 g9 ⟨?_, ?_, ?_, ?_, ?_, ?_, ?_, ?_, ?_⟩
    · rw [u9, jm_une_k (by decide), u8, jm_une_k (by decide), u7, jm_une_k (by decide), u6, jm_une_k (by decide), u5, jm_une_k (by decide), u4, jm_une_k (by decide), u3, jm_une_k (by decide), u2, jm_une_k (by decide), u1]; exact jm_ueq
    · rw [u9, jm_une_k (by decide), u8, jm_une_k (by decide), u7, jm_une_k (by decide), u6, jm_une_k (by decide), u5, jm_une_k (by decide), u4, jm_une_k (by decide), u3, jm_une_k (by decide), u2]; exact jm_ueq
    · rw [u9, jm_une_k (by decide), u8, jm_une_k (by decide), u7, jm_une_k (by decide), u6, jm_une_k (by decide), u5, jm_une_k (by decide), u4, jm_une_k (by decide), u3]; exact jm_ueq
    · rw [u9, jm_une_k (by decide), u8, jm_une_k (by decide), u7, jm_une_k (by decide), u6, jm_une_k (by decide), u5, jm_une_k (by decide), u4]; exact jm_ueq
    · rw [u9, jm_une_k (by decide), u8, jm_une_k (by decide), u7, jm_une_k (by decide), u6, jm_une_k (by decide), u5]; exact jm_ueq
    · rw [u9, jm_une_k (by decide), u8, jm_une_k (by decide), u7, jm_une_k (by decide), u6]; exact jm_ueq
    · rw [u9, jm_une_k (by decide), u8, jm_une_k (by decide), u7]; exact jm_ueq
    · rw [u9, jm_une_k (by decide), u8]; exact jm_ueq
    · rw [u9]; exact jm_ueq
  by_cases z : N 39 0 c = 2
  · exact J2.rT z (fin 1 (Or.inr rfl) (by rw [if_pos z]))
  · exact J2.rF z (fin 0 (Or.inl rfl) (by rw [if_neg z]))
/-- the rules, one after the other -/
theorem j_130 (fu : Nat) (hfu : 4000 ≤ fu) (M0 N0 : jm_M) (j0 : bI bx2 N0) (day : Int) (rr : RRX M0 N0) (L : LTR 1 M0 N0) (n3 : M0 3 0 3 = N0 0 0 72) : ∀ (n m : Nat) (M N : jm_M) (s i : Int), bI bx1 M → bI bx2 N → Kp K28 M0 M → Kp K37 N0 N → 0 ≤ i → i ≤ N0 0 0 72 → N0 0 0 72 - i < (n : Int) → N0 0 0 72 - i < (m : Int) → J2 (fX0_secondsBy_130 fu n M day s i) (fX12_secondsOf_136 fu m N day s i) (fun v M1 w N1 => v = w ∧ bI bx1 M1 ∧ bI bx2 N1 ∧ Kp K28 M0 M1 ∧ Kp K37 N0 N1) := by
  have b72 : 0 ≤ N0 0 0 72 ∧ N0 0 0 72 ≤ 10 := j0 0 0 72
  intro n
  induction n with
  | zero => intro m M N s i _ _ _ _ _ h1 hm; exfalso; omega
  | succ n ih =>
    intro m M N s i iM iN k1 k2 h0 h1 hn hm
    cases m with
    | zero => exfalso; omega
    | succ m =>
      show J2 (gX0_secondsBy_130 fu (fX0_secondsBy_130 fu n) M day s i) (gX12_secondsOf_136 fu (fX12_secondsOf_136 fu m) N day s i) _
      unfold gX0_secondsBy_130 gX12_secondsOf_136
      have e3 : M 3 0 3 = N0 0 0 72 := (k1 3 0 3 (by unfold K28; decide)).trans n3
      have e72 : N 0 0 72 = N0 0 0 72 := k2 0 0 72 (by unfold K37; omega)
      have w1 : jm_w (i + 1) = i + 1 := jm_wid (by omega) (by omega)
      have w6 : jm_w (6 + i) = 6 + i := jm_wid (by omega) (by omega)
      have w100 : jm_w (100 * (6 + i)) = 100 * (6 + i) := jm_wid (by omega) (by omega)
      rw [e3, e72, w1, w6, w100]
      refine J2.bi Iff.rfl (fun _ => J2.ret ⟨rfl, iM, iN, k1, k2⟩) (fun z => ?_)
      have hi : 0 ≤ i ∧ i < 10 := ⟨h0, by omega⟩
      obtain ⟨r1, r2⟩ := rr i h0 (by omega)
      have e35 : M 35 0 i = N 61 0 i := by rw [k1 35 0 i (by unfold K28; decide), k2 61 0 i (by unfold K37; omega)]; exact r1
      have e48 : M 48 0 i = M0 48 0 i := k1 48 0 i (by unfold K28; decide)
      have e36 : N 36 0 (6 + i) = N0 36 0 (6 + i) := k2 36 0 _ (by unfold K37; omega)
      have b48 : 0 ≤ M 48 0 i ∧ M 48 0 i ≤ 16 := iM 48 0 i
      have b36 : 0 ≤ N0 36 0 (6 + i) ∧ N0 36 0 (6 + i) ≤ 100 := j0 36 0 _
      have w36 : jm_w (100 * (6 + i) + N0 36 0 (6 + i)) = 100 * (6 + i) + N0 36 0 (6 + i) := jm_wid (by omega) (by omega)
      refine J2.lF (by omega) (J2.lT hi (J2.re (J2.rT hi ?_)))
      rw [e35]
      refine J2.bi Iff.rfl (fun _ => J2.le (J2.re (ih m M N s (i + 1) iM iN k1 k2 (by omega) (by omega) (by omega) (by omega)))) (fun _ => ?_)
      rw [e36, w36, e48]
      rw [e48] at b48
      refine J2.lT hi (J2.lT ⟨by omega, by omega⟩ (J2.rT ⟨by omega, by omega⟩ ?_))
      refine J2.bb (j_rule fu hfu M N M0 N0 iM iN k1 k2 1 (M0 48 0 i) (100 * (6 + i)) (N0 36 0 (6 + i)) (N0 62 0 i) ⟨by omega, by omega⟩ r2 L) (fun v M1 w N1 q => ?_)
      obtain ⟨i1, j1, g1, g2, -, q⟩ := q
      refine J2.bi (by omega) (fun _ => J2.le (J2.re (ih m M1 N1 s (i + 1) i1 j1 g1 g2 (by omega) (by omega) (by omega) (by omega)))) (fun _ => ?_)
      have f48 : M1 48 0 i = M0 48 0 i := g1 48 0 i (by unfold K28; decide)
      have f11 : M1 11 (M0 48 0 i) 7 = M0 11 (M0 48 0 i) 7 := g1 11 _ 7 (by unfold K28; decide)
      have f62 : N1 62 0 i = N0 62 0 i := g2 62 0 i (by unfold K37; omega)
      rw [f48, f11, f62]
      refine J2.lT hi (J2.lT ⟨by omega, by omega⟩ (J2.rT ⟨h0, by omega⟩ ?_))
      rcases r2.2.2.2 with ⟨y1, y2⟩ | ⟨y1, y2, y3⟩
      · exact J2.lT y1 (J2.rF (by omega) (J2.ret ⟨rfl, i1, j1, g1, g2⟩))
      · rw [y1]
        refine J2.lF (by omega) (J2.rT y2 (J2.lT hi (J2.lT ⟨by omega, by omega⟩ (J2.rT ⟨h0, by omega⟩ (J2.le (J2.le (J2.re (J2.re ?_))))))))
        exact ih m M1 N1 _ (i + 1) i1 j1 g1 g2 (by omega) (by omega) (by omega) (by omega)
/-- findings -/
theorem c_fcell {M N : jm_M} (iM : bI bx1 M) (n : M 10 32 3 = N 0 0 75) {i k : Int} (hi : 0 ≤ i ∧ i < N 0 0 75) (hk : 0 ≤ k ∧ k < 4) : wp (fX7_cell M 32 i k) (fun v M1 => M1 = M ∧ v = M 19 32 (4 * i + k)) := cell_in iM ⟨by decide, by decide⟩ (wid1_31 (by decide)) ⟨hi.1, by omega⟩ hk (by omega)
theorem c_isOf {M N : jm_M} (iM : bI bx1 M) (fx : FXR M N) (n : M 10 32 3 = N 0 0 75) {i : Int} (hi : 0 ≤ i ∧ i < N 0 0 75) (c x : Int) : wp (fX0_isOf M i c x) (fun v M1 => M1 = M ∧ ((v = 1 ∧ N 64 0 i = c ∧ N 65 0 i = x) ∨ (v = 0 ∧ ¬ (N 64 0 i = c ∧ N 65 0 i = x)))) := by
  obtain ⟨-, f1, f2, -, -⟩ := fx i hi.1 hi.2
  unfold fX0_isOf
  refine wp_bp (c_fcell iM n hi ⟨by decide, by decide⟩) (fun v1 q1 => ?_)
  rw [f1] at q1
  refine wp_ite (fun z => wp_bp (c_fcell iM n hi ⟨by decide, by decide⟩) (fun v2 q2 => ?_)) (fun z => wp_ret ⟨rfl, Or.inr ⟨rfl, fun y => z (q1.trans y.1)⟩⟩)
  rw [f2] at q2
  exact wp_ite (fun z2 => wp_ret ⟨rfl, Or.inl ⟨rfl, q1.symm.trans z, q2.symm.trans z2⟩⟩) (fun z2 => wp_ret ⟨rfl, Or.inr ⟨rfl, fun y => z2 (q2.trans y.2)⟩⟩)
theorem j_weight8 (fu : Nat) {M N : jm_M} (iM : bI bx1 M) (iN : bI bx2 N) (fx : FXR M N) (n75 : M 10 32 3 = N 0 0 75) (b75 : N 0 0 75 ≤ 20) (c day : Int) : ∀ (n m : Nat) (l3 l4 i r : Int), 0 ≤ i → i ≤ N 0 0 75 → ((r = -1 ∧ l3 = 0 ∧ l4 = 0) ∨ (0 ≤ r ∧ r < i ∧ l3 = N 66 0 r ∧ l4 = N 63 0 r)) → N 0 0 75 - i < (n : Int) → N 0 0 75 - i < (m : Int) → J2 (fX0_weightBy_8 fu n M c day l3 l4 i) (fX12_weight_5 fu m N c day r i) (fun v M1 w N1 => M1 = M ∧ N1 = N ∧ v = w ∧ jm_in v) := by
  intro n
  induction n with
  | zero => intro m l3 l4 i r _ h1 _ hm; exfalso; omega
  | succ n ih =>
    intro m l3 l4 i r h0 h1 hr hn hm
    cases m with
    | zero => exfalso; omega
    | succ m =>
      show J2 (gX0_weightBy_8 fu (fX0_weightBy_8 fu n) M c day l3 l4 i) (gX12_weight_5 fu (fX12_weight_5 fu m) N c day r i) _
      unfold gX0_weightBy_8 gX12_weight_5
      have w1 : jm_w (i + 1) = i + 1 := jm_wid (by omega) (by omega)
      rw [n75, w1]
      refine J2.bi Iff.rfl (fun z => ?_) (fun z => ?_)
      · rcases hr with ⟨r1, r2, r3⟩ | ⟨r1, r2, r3, r4⟩
        · exact J2.rF (by omega) (J2.ret ⟨rfl, rfl, r2, by rw [r2]; exact jm_inL (by decide) (by decide)⟩)
        · exact J2.rT r1 (J2.rT ⟨r1, by omega⟩ (J2.ret ⟨rfl, rfl, r3, by rw [r3]; exact bx2_in (iN 66 0 r)⟩))
      · have hi : 0 ≤ i ∧ i < N 0 0 75 := ⟨h0, by omega⟩
        obtain ⟨f0, f1, f2, f3, f4⟩ := fx i hi.1 hi.2
        refine J2.lq (c_fcell iM n75 hi ⟨by decide, by decide⟩) (fun v3 q3 => ?_)
        rw [Int.add_zero, f0] at q3
        have keep : J2 (fX0_weightBy_8 fu n M c day l3 l4 (i + 1)) (fX12_weight_5 fu m N c day r (i + 1)) (fun v M1 w N1 => M1 = M ∧ N1 = N ∧ v = w ∧ jm_in v) := ih m l3 l4 (i + 1) r (by omega) (by omega) (by omega) (by omega) (by omega)
        refine J2.lq (c_isOf iM fx n75 hi c 0) (fun v6 q6 => J2.rT ⟨h0, by omega⟩ ?_)
        rcases q6 with ⟨q6, g1, g2⟩ | ⟨q6, g⟩
        · refine J2.lF (by omega) (J2.rT g1 (J2.rT ⟨h0, by omega⟩ (J2.rT g2 (J2.rT ⟨h0, by omega⟩ ?_))))
          rw [q3]
          refine J2.bi Iff.rfl (fun _ => J2.le (J2.re keep)) (fun _ => ?_)
          have take : J2 (jm_b (fX7_cell M 32 i 3) fun v18 M19 => jm_e (i + 1) fun v21 => fX0_weightBy_8 fu n M19 c day v18 (N 63 0 i) v21) (fX12_weight_5 fu m N c day i (i + 1)) (fun v M1 w N1 => M1 = M ∧ N1 = N ∧ v = w ∧ jm_in v) := by
            refine J2.lq (c_fcell iM n75 hi ⟨by decide, by decide⟩) (fun v18 q18 => J2.le ?_)
            rw [f3] at q18
            exact ih m v18 (N 63 0 i) (i + 1) i (by omega) (by omega) (Or.inr ⟨h0, by omega, q18, rfl⟩) (by omega) (by omega)
          rcases hr with ⟨r1, r2, r3⟩ | ⟨r1, r2, r3, r4⟩
          · exact J2.lF (by omega) (J2.rT (by omega) (J2.re take))
          · refine J2.rF (by omega) (J2.rT ⟨h0, by omega⟩ (J2.rT ⟨r1, by omega⟩ ?_))
            rw [← r4]
            exact J2.bi Iff.rfl (fun _ => J2.le (J2.re keep)) (fun _ => J2.re take)
        · refine J2.lT q6 (J2.le ?_)
          by_cases g1 : N 64 0 i = c
          · refine J2.rT g1 (J2.rT ⟨h0, by omega⟩ (J2.rF (fun y => g ⟨g1, y⟩) (J2.re keep)))
          · exact J2.rF g1 (J2.re keep)
theorem j_weight (fu : Nat) (hfu : 4000 ≤ fu) {M N : jm_M} (iM : bI bx1 M) (iN : bI bx2 N) (fx : FXR M N) (n75 : M 10 32 3 = N 0 0 75) (c day : Int) : J2 (fX0_weightBy fu M c day) (fX12_weight fu N c day) (fun v M1 w N1 => M1 = M ∧ N1 = N ∧ v = w ∧ jm_in v) := by
  have b75 : 0 ≤ N 0 0 75 ∧ N 0 0 75 ≤ 20 := iN 0 0 75
  exact j_weight8 fu iM iN fx n75 b75.2 c day fu fu 0 0 0 (-1) (by decide) b75.1 (Or.inl ⟨rfl, rfl, rfl⟩) (by omega) (by omega)
theorem j_time5 (fu : Nat) {M N : jm_M} (iM : bI bx1 M) (fx : FXR M N) (n75 : M 10 32 3 = N 0 0 75) (b75 : N 0 0 75 ≤ 20) (c day : Int) : ∀ (n m : Nat) (l3 i : Int), jm_in l3 → 0 ≤ i → i ≤ N 0 0 75 → N 0 0 75 - i < (n : Int) → N 0 0 75 - i < (m : Int) → J2 (fX0_timeBy_5 fu n M c day l3 i) (fX12_timeFound_5 fu m N c day l3 i) (fun v M1 w N1 => M1 = M ∧ N1 = N ∧ v = w) := by
  intro n
  induction n with
  | zero => intro m l3 i _ _ h1 hm; exfalso; omega
  | succ n ih =>
    intro m l3 i h3 h0 h1 hn hm
    cases m with
    | zero => exfalso; omega
    | succ m =>
      show J2 (gX0_timeBy_5 fu (fX0_timeBy_5 fu n) M c day l3 i) (gX12_timeFound_5 fu (fX12_timeFound_5 fu m) N c day l3 i) _
      unfold gX0_timeBy_5 gX12_timeFound_5
      have w1 : jm_w (i + 1) = i + 1 := jm_wid (by omega) (by omega)
      have w0 : jm_w (l3 + 0) = l3 := by rw [Int.add_zero]; exact jm_wid h3.1 h3.2
      rw [n75, w1, w0]
      refine J2.bi Iff.rfl (fun z => J2.ret ⟨rfl, rfl, rfl⟩) (fun z => ?_)
      have hi : 0 ≤ i ∧ i < N 0 0 75 := ⟨h0, by omega⟩
      obtain ⟨f0, f1, f2, f3, f4⟩ := fx i hi.1 hi.2
      have keep : J2 (fX0_timeBy_5 fu n M c day l3 (i + 1)) (fX12_timeFound_5 fu m N c day l3 (i + 1)) (fun v M1 w N1 => M1 = M ∧ N1 = N ∧ v = w) := ih m l3 (i + 1) h3 (by omega) (by omega) (by omega) (by omega)
      refine J2.lq (c_isOf iM fx n75 hi c 1) (fun v6 q6 => J2.rT ⟨h0, by omega⟩ ?_)
      rcases q6 with ⟨q6, g1, g2⟩ | ⟨q6, g⟩
      · refine J2.lF (by omega) (J2.rT g1 (J2.rT ⟨h0, by omega⟩ (J2.rT g2 (J2.rT ⟨h0, by omega⟩ ?_))))
        refine J2.lq (c_fcell iM n75 hi ⟨by decide, by decide⟩) (fun v9 q9 => ?_)
        rw [Int.add_zero, f0] at q9
        rw [q9]
        refine J2.bi Iff.rfl (fun _ => J2.le (J2.re (J2.re keep))) (fun _ => J2.rT ⟨h0, by omega⟩ ?_)
        refine J2.lq (c_fcell iM n75 hi ⟨by decide, by decide⟩) (fun v15 q15 => ?_)
        rw [f3] at q15
        rw [q15]
        exact J2.le (J2.le (J2.re (J2.re (ih m _ (i + 1) (jm_w_in _) (by omega) (by omega) (by omega) (by omega)))))
      · refine J2.lT q6 (J2.le ?_)
        by_cases g1 : N 64 0 i = c
        · exact J2.rT g1 (J2.rT ⟨h0, by omega⟩ (J2.rF (fun y => g ⟨g1, y⟩) (J2.re (J2.re keep))))
        · exact J2.rF g1 (J2.re (J2.re keep))
theorem j_time (fu : Nat) (hfu : 4000 ≤ fu) {M N : jm_M} (iM : bI bx1 M) (iN : bI bx2 N) (fx : FXR M N) (n75 : M 10 32 3 = N 0 0 75) (c day : Int) : J2 (fX0_timeBy fu M c day) (fX12_timeFound fu N c day) (fun v M1 w N1 => M1 = M ∧ N1 = N ∧ v = w) := by
  have b75 : 0 ≤ N 0 0 75 ∧ N 0 0 75 ≤ 20 := iN 0 0 75
  exact j_time5 fu iM fx n75 b75.2 c day fu fu 0 0 (jm_inL (by decide) (by decide)) (by decide) b75.1 (by omega) (by omega)
theorem c_weight (fu : Nat) (hfu : 4000 ≤ fu) {M N : jm_M} (iM : bI bx1 M) (iN : bI bx2 N) (fx : FXR M N) (n75 : M 10 32 3 = N 0 0 75) (c day : Int) : wp (fX0_weightBy fu M c day) (fun v M1 => M1 = M ∧ jm_in v ∧ ∀ N1 : jm_M, bI bx2 N1 → Kp K38 N N1 → wp (fX12_weight fu N1 c day) (fun w N2 => N2 = N1 ∧ w = v)) := by
  obtain ⟨v, M1, w, N1, e1, e2, q1, q2, q3, q4⟩ := j_weight fu hfu iM iN fx n75 c day
  refine ⟨v, M1, e1, q1, q4, fun N9 j9 g9 => ?_⟩
  have f9 : FXR M N9 := fx.kk (fun _ => rfl) (fun f k y1 y2 => g9 f 0 k (by unfold K38; omega)) (g9 0 0 75 (by unfold K38; decide))
  obtain ⟨v', M1', w', N1', e1', e2', p1, p2, p3, p4⟩ := j_weight fu hfu iM j9 f9 (by rw [g9 0 0 75 (by unfold K38; decide)]; exact n75) c day
  rw [e1] at e1'
  obtain ⟨h, -⟩ := Prod.mk.inj (Option.some.inj e1')
  exact ⟨w', N1', e2', p2, by rw [← p3, h]⟩
/-- what holds of both once the race is run -/
def JC (M N : jm_M) : Prop := TLD M N ∧ RUN M N ∧ IR M N ∧ (M 10 32 3 = N 0 0 75 ∧ M 3 0 3 = N 0 0 72) ∧ GRW N ∧ ∀ c : Int, 0 ≤ c → c < N 0 0 17 → N 39 0 c ≠ 0
def KJ1 (f : Nat) (_ _ : Int) : Prop := f ≠ 27 ∧ f ≠ 28 ∧ f ≠ 36 ∧ f ≠ 37 ∧ f ≠ 38
def KJ2 (f : Nat) (_ k : Int) : Prop := f ≠ 37 ∧ f ≠ 38 ∧ f ≠ 67 ∧ f ≠ 68 ∧ ¬ (f = 0 ∧ k = 47)
def KU1 (f : Nat) (_ _ : Int) : Prop := f ≠ 27 ∧ f ≠ 28
def KU2 (f : Nat) (_ k : Int) : Prop := f ≠ 37 ∧ f ≠ 38 ∧ ¬ (f = 0 ∧ k = 47)
theorem j_secs (fu : Nat) (hfu : 4000 ≤ fu) {M0 N0 M N : jm_M} (iM : bI bx1 M) (iN : bI bx2 N) (i0 : bI bx2 N0) (jc : JC M0 N0) (k1 : Kp KJ1 M0 M) (k2 : Kp KJ2 N0 N) (c day : Int) (hc : 0 ≤ c ∧ c < N0 0 0 17) (lp wt : Int) (hlp : lp = jm_div (N0 43 0 c) (N0 0 0 1)) (iw : jm_in wt) (hw : ∀ N1 : jm_M, bI bx2 N1 → Kp K38 N N1 → wp (fX12_weight fu N1 c day) (fun v N2 => N2 = N1 ∧ v = wt)) : J2 (fX0_secondsBy fu M c c lp wt day) (fX12_secondsOf fu N c day) (fun v M1 w N1 => v = w ∧ bI bx1 M1 ∧ bI bx2 N1 ∧ Kp KU1 M M1 ∧ Kp KU2 N N1) := by
  have b17 : 0 ≤ N0 0 0 17 ∧ N0 0 0 17 ≤ 6 := i0 0 0 17
  obtain ⟨tl, run, ir, ⟨n75, n3⟩, -, -⟩ := jc
  obtain ⟨⟨⟨a0, a1, a3, a4⟩, ⟨a5, a6, a7, a8, -⟩, -⟩, -⟩ := run.2.2.2 c hc.1 hc.2
  obtain ⟨⟨-, -, -, u3, u4, -⟩, -⟩ := tl.2.2.1 c hc.1 hc.2
  obtain ⟨b, ib, eb1, eb2⟩ := bc_eq (N0 50 0 c)
  have m9 : ∀ k : Int, M 9 c k = M0 9 c k := fun k => k1 9 c k (by unfold KJ1; decide)
  have m8 : ∀ k : Int, M 8 c k = M0 8 c k := fun k => k1 8 c k (by unfold KJ1; decide)
  have nf : ∀ f : Nat, f ≠ 0 → f ≠ 37 → f ≠ 38 → f ≠ 67 → f ≠ 68 → N f 0 c = N0 f 0 c := fun f y0 y1 y2 y3 y4 => k2 f 0 c ⟨y1, y2, y3, y4, fun z => y0 z.1⟩
  have n01 : N 0 0 1 = N0 0 0 1 := k2 0 0 1 (by unfold KJ2; omega)
  refine j_lets fu iM c lp wt day b (by rw [hlp]; exact jm_w_in _) iw ib (fun M1 => by rw [m9 6, a6]; exact eb1 M1) (fun M9 i9 g9 l9 => ?_)
  refine d_lets fu iN c wt day b ⟨hc.1, by omega⟩ iw ib (fun N1 => by rw [nf 50 (by decide) (by decide) (by decide) (by decide) (by decide)]; exact eb2 N1) hw (fun N9 j9 h9 l9' => ?_)
  rw [m9 5, m9 7, m8 4, m9 3, m9 8, m8 3, a5, a7, u4, a3, a8, u3, hlp] at l9
  rw [nf 49 (by decide) (by decide) (by decide) (by decide) (by decide), nf 51 (by decide) (by decide) (by decide) (by decide) (by decide), nf 43 (by decide) (by decide) (by decide) (by decide) (by decide), n01, nf 17 (by decide) (by decide) (by decide) (by decide) (by decide), nf 39 (by decide) (by decide) (by decide) (by decide) (by decide), nf 44 (by decide) (by decide) (by decide) (by decide) (by decide), nf 16 (by decide) (by decide) (by decide) (by decide) (by decide)] at l9'
  have L : LTR 1 M9 N9 := LTR.of1 l9 l9'
  have mm : ∀ (f : Nat) (i k : Int), KJ1 f i k → M9 f i k = M0 f i k := fun f i k y => (g9 f i k y.1).trans (k1 f i k y)
  have nn9 : ∀ (f : Nat) (i k : Int), KJ2 f i k → N9 f i k = N0 f i k := fun f i k y => (h9 f i k y.2.1).trans (k2 f i k y)
  have rr : RRX M9 N9 := ir.2.2.2.1.kk i0 (nn9 0 0 72 (by unfold KJ2; omega)) (fun i _ _ => ⟨mm 35 0 i (by unfold KJ1; decide), mm 48 0 i (by unfold KJ1; decide)⟩) (fun i f k _ _ q => mm f _ k (by unfold CTX at q; unfold KJ1; omega)) (fun i _ _ => ⟨nn9 61 0 i (by unfold KJ2; omega), nn9 62 0 i (by unfold KJ2; omega), nn9 36 0 (6 + i) (by unfold KJ2; omega)⟩) (fun k _ _ => nn9 35 0 k (by unfold KJ2; omega))
  have b72 : 0 ≤ N9 0 0 72 ∧ N9 0 0 72 ≤ 10 := j9 0 0 72
  refine (j_130 fu hfu M9 N9 j9 day rr L (by rw [mm 3 0 3 (by unfold KJ1; decide), nn9 0 0 72 (by unfold KJ2; omega)]; exact n3) fu fu M9 N9 0 0 i9 j9 Kp.rf Kp.rf (by decide) b72.1 (by omega) (by omega)).mono (fun v M1 w N1 q => ?_)
  obtain ⟨q1, q2, q3, q4, q5⟩ := q
  exact ⟨q1, q2, q3, fun f i k y => (q4 f i k y.2).trans (g9 f i k y.1), fun f i k y => (q5 f i k ⟨y.1, y.2.2⟩).trans (h9 f i k y.2.1)⟩
theorem c_lapsEnded {M N : jm_M} (s5 : M 2 0 5 = N 0 0 17) (s0 : M 1 0 0 = N 0 0 1) (bs : 2 ≤ N 0 0 1) (b17 : N 0 0 17 ≤ 6) {c : Int} (hc : 0 ≤ c ∧ c < N 0 0 17) (e2 : M 9 c 2 = N 43 0 c) : wp (fX2_lapsEnded M c) (fun v M1 => M1 = M ∧ v = jm_div (N 43 0 c) (N 0 0 1)) := by
  unfold fX2_lapsEnded
  refine wp_bp (c_has M c (by omega)) (fun v1 q1 => wp_F (by omega) (wp_T ⟨hc.1, by omega⟩ (wp_bp (c_lapOf M (M 9 c 2) (by omega)) (fun v7 q7 => wp_ret ⟨rfl, ?_⟩))))
  rw [q7, e2, s0]
/-- the judging of one day -/
def JG (M N : jm_M) (n : Int) : Prop := ∀ c : Int, 0 ≤ c → c < n → (M 36 0 c = N 67 0 c ∧ M 37 0 c = jm_div (N 43 0 c) (N 0 0 1) ∧ (M 36 0 c ≠ 0 → M 38 0 c = N 68 0 c)) ∧ (N 67 0 c = 0 ∨ N 67 0 c = 1)
theorem j_103 (fu : Nat) (hfu : 4000 ≤ fu) {M0 N0 M N : jm_M} (iM : bI bx1 M) (iN : bI bx2 N) (i0 : bI bx2 N0) (jc : JC M0 N0) (k1 : Kp KJ1 M0 M) (k2 : Kp KJ2 N0 N) (day l v s0 : Int) (hl : 0 ≤ l ∧ l < N0 0 0 17) (hs : s0 = 0 ∨ (s0 = 1 ∧ N0 39 0 l = 1)) (e37 : M 37 0 l = jm_div (N0 43 0 l) (N0 0 0 1)) (jg : JG M N l) {ka kb : jm_M → Int → Int → jm_R} {Q : Int → jm_M → Int → jm_M → Prop} (k : ∀ M1 N1 : jm_M, bI bx1 M1 → bI bx2 N1 → Kp KJ1 M0 M1 → Kp KJ2 N0 N1 → JG M1 N1 (l + 1) → J2 (ka M1 day (l + 1)) (kb N1 day (l + 1)) Q) : J2 (gX5_reckonFor_103 fu ka M day l l v s0 l) (gX12_judges_47 fu kb N day l v s0 l) Q := by
  have b17 : 0 ≤ N0 0 0 17 ∧ N0 0 0 17 ≤ 6 := i0 0 0 17
  obtain ⟨tl, run, ir, ⟨n75, n3⟩, -, -⟩ := jc
  obtain ⟨⟨⟨a0, a1, a3, a4⟩, -⟩, -⟩ := run.2.2.2 l hl.1 hl.2
  have hl6 : 0 ≤ l ∧ l < 6 := ⟨hl.1, by omega⟩
  have s01 : s0 = 0 ∨ s0 = 1 := by omega
  have is : jm_in s0 := jm_inL (by omega) (by omega)
  unfold gX5_reckonFor_103 gX12_judges_47
  refine J2.lT hl6 (J2.lT s01 (J2.ls (fun M2 u2 => ?_)))
  refine J2.rT hl6 (J2.rT s01 (J2.rs (fun N2 v2 => J2.rT hl6 ?_)))
  have i2 : bI bx1 M2 := by rw [u2]; exact bI_u iM (by rcases s01 with rfl | rfl <;> exact ⟨by decide, by decide⟩)
  have j2 : bI bx2 N2 := by rw [v2]; exact bI_u iN (by first | exact is | (rcases s01 with rfl | rfl <;> exact ⟨by decide, by decide⟩))
  have mm : ∀ (f : Nat) (i k : Int), KJ1 f i k → M2 f i k = M0 f i k := fun f i k y => by rw [u2, jm_une_f y.2.2.1]; exact k1 f i k y
  have nn2 : ∀ (f : Nat) (i k : Int), KJ2 f i k → N2 f i k = N0 f i k := fun f i k y => by rw [v2, jm_une_f y.2.2.1]; exact k2 f i k y
  have fx : FXR M2 N2 := ir.2.1.kk (fun k => mm 19 32 k (by unfold KJ1; decide)) (fun f k y1 y2 => nn2 f 0 k (by unfold KJ2; omega)) (nn2 0 0 75 (by unfold KJ2; omega))
  have m75 : M2 10 32 3 = N2 0 0 75 := by rw [mm 10 32 3 (by unfold KJ1; decide), nn2 0 0 75 (by unfold KJ2; omega)]; exact n75
  refine J2.bb (j_time fu hfu i2 j2 fx m75 l day) (fun va Ma wa Na q => ?_)
  obtain ⟨ea, eb, ec⟩ := q
  rw [ea, eb, ec]
  refine J2.lT hl6 (J2.rT hl6 (J2.ls (fun M9 u9 => J2.rs (fun N9 v9 => ?_))))
  have w1 : jm_w (l + 1) = l + 1 := jm_wid (by omega) (by omega)
  rw [w1]
  have i9 : bI bx1 M9 := by rw [u9]; exact bI_u i2 (jm_w_in _)
  have j9 : bI bx2 N9 := by rw [v9]; exact bI_u j2 (jm_w_in _)
  refine J2.le (J2.re (k M9 N9 i9 j9 (fun f i k y => ?_) (fun f i k y => ?_) (fun c y1 y2 => ?_)))
  · rw [u9, jm_une_f y.2.2.2.2]; exact mm f i k y
  · rw [v9, jm_une_f y.2.2.2.1]; exact nn2 f i k y
  have e43 : N9 43 0 c = N0 43 0 c := by rw [v9, jm_une_f (by decide)]; exact nn2 43 0 c (by unfold KJ2; omega)
  have e01 : N9 0 0 1 = N0 0 0 1 := by rw [v9, jm_une_f (by decide)]; exact nn2 0 0 1 (by unfold KJ2; omega)
  by_cases e : c = l
  · have m36 : M9 36 0 l = s0 := by rw [u9, jm_une_f (by decide), u2]; exact jm_ueq
    have n67 : N9 67 0 l = s0 := by rw [v9, jm_une_f (by decide), v2]; exact jm_ueq
    have m37 : M9 37 0 l = M 37 0 l := by rw [u9, jm_une_f (by decide), u2]; exact jm_une_f (by decide)
    rw [e] at e43 ⊢
    rw [m36, n67, m37, e37, e43, e01]
    refine ⟨⟨rfl, rfl, fun y => ?_⟩, s01⟩
    have h39 : N0 39 0 l = 1 := by omega
    rw [u9, jm_ueq, v9, jm_ueq, mm 9 l 4 (by unfold KJ1; decide), nn2 40 0 l (by unfold KJ2; omega), a4 h39]
  · obtain ⟨⟨g1, g2, g3⟩, g4⟩ := jg c y1 (by omega)
    rw [k2 43 0 c (by unfold KJ2; omega), k2 0 0 1 (by unfold KJ2; omega)] at g2
    have m36 : M9 36 0 c = M 36 0 c := by rw [u9, jm_une_f (by decide), u2]; exact jm_une_k e
    have m37 : M9 37 0 c = M 37 0 c := by rw [u9, jm_une_f (by decide), u2]; exact jm_une_f (by decide)
    have m38 : M9 38 0 c = M 38 0 c := by rw [u9, jm_une_k e, u2]; exact jm_une_f (by decide)
    have n67 : N9 67 0 c = N 67 0 c := by rw [v9, jm_une_f (by decide), v2]; exact jm_une_k e
    have n68 : N9 68 0 c = N 68 0 c := by rw [v9, jm_une_k e, v2]; exact jm_une_f (by decide)
    rw [m36, m37, m38, n67, n68, e43, e01]
    exact ⟨⟨g1, g2, g3⟩, g4⟩
theorem j_judge2 (fu : Nat) (hfu : 4000 ≤ fu) {M0 N0 : jm_M} (i0 : bI bx2 N0) (jc : JC M0 N0) (day : Int) : ∀ (n m : Nat) (M N : jm_M) (l : Int), bI bx1 M → bI bx2 N → Kp KJ1 M0 M → Kp KJ2 N0 N → JG M N l → 0 ≤ l → l ≤ N0 0 0 17 → N0 0 0 17 - l < (n : Int) → N0 0 0 17 - l < (m : Int) → J2 (fX5_reckonFor_2 fu n M day l) (fX12_judges_6 fu m N day l) (fun _ M1 _ N1 => (bI bx1 M1 ∧ bI bx2 N1) ∧ Kp KJ1 M0 M1 ∧ Kp KJ2 N0 N1 ∧ JG M1 N1 (N0 0 0 17)) := by
  have b17 : 0 ≤ N0 0 0 17 ∧ N0 0 0 17 ≤ 6 := i0 0 0 17
  have bs : 2 ≤ N0 0 0 1 ∧ N0 0 0 1 ≤ 5 := i0 0 0 1
  have jc' := jc
  obtain ⟨tl, run, ir, ⟨n75, n3⟩, gw, dn⟩ := jc'
  intro n
  induction n with
  | zero => intro m M N l _ _ _ _ _ _ h1 hm; exfalso; omega
  | succ n ih =>
    intro m M N l iM iN k1 k2 jg h0 h1 hn hm
    cases m with
    | zero => exfalso; omega
    | succ m =>
      show J2 (gX5_reckonFor_2 fu (fX5_reckonFor_2 fu n) M day l) (gX12_judges_6 fu (fX12_judges_6 fu m) N day l) _
      unfold gX5_reckonFor_2 gX12_judges_6
      have s5 : M 2 0 5 = N0 0 0 17 := (k1 2 0 5 (by unfold KJ1; decide)).trans tl.2.1.1.2.2
      have s17 : N 0 0 17 = N0 0 0 17 := k2 0 0 17 (by unfold KJ2; omega)
      have s0 : M 1 0 0 = N0 0 0 1 := (k1 1 0 0 (by unfold KJ1; decide)).trans tl.2.1.1.1
      rw [s5, s17]
      refine J2.bi Iff.rfl (fun z => J2.ret ⟨⟨iM, iN⟩, k1, k2, by rw [show N0 0 0 17 = l by omega]; exact jg⟩) (fun z => ?_)
      have hl : 0 ≤ l ∧ l < N0 0 0 17 := ⟨h0, by omega⟩
      have hl6 : 0 ≤ l ∧ l < 6 := ⟨h0, by omega⟩
      have e2 : M 9 l 2 = N0 43 0 l := (k1 9 l 2 (by unfold KJ1; decide)).trans (run.2.2.1 l hl.1 hl.2).1.1
      refine J2.lF (by omega) (J2.lT hl6 (J2.lq (c_lapsEnded s5 s0 bs.1 b17.2 hl e2) (fun v5 q5 => J2.lT hl6 (J2.ls (fun M9 u9 => J2.lT hl6 (J2.lT hl6 ?_))))))
      have i9 : bI bx1 M9 := by rw [u9]; exact bI_u iM (by rw [q5]; exact jm_w_in _)
      have g9 : Kp KJ1 M0 M9 := fun f i k y => by rw [u9, jm_une_f y.2.2.2.1]; exact k1 f i k y
      have e37 : M9 37 0 l = jm_div (N0 43 0 l) (N0 0 0 1) := by rw [u9, jm_ueq]; exact q5
      have fx : FXR M9 N := ir.2.1.kk (fun k => g9 19 32 k (by unfold KJ1; decide)) (fun f k y1 y2 => k2 f 0 k (by unfold KJ2; omega)) (k2 0 0 75 (by unfold KJ2; omega))
      have m75 : M9 10 32 3 = N 0 0 75 := by rw [g9 10 32 3 (by unfold KJ1; decide), k2 0 0 75 (by unfold KJ2; omega)]; exact n75
      have jg9 : JG M9 N l := fun c y1 y2 => by
        rw [u9, jm_une_f (by decide), jm_une_k (show c ≠ l by omega), jm_une_f (by decide)]
        exact jg c y1 y2
      refine J2.lq (c_weight fu hfu i9 iN fx m75 l day) (fun v13 q13 => ?_)
      refine J2.bb (j_secs fu hfu i9 iN i0 jc g9 k2 l day hl (M9 37 0 l) v13 e37 q13.1 q13.2) (fun v16 M17 w16 N4 q => ?_)
      obtain ⟨ew, i17, j4, h17, h4⟩ := q
      rw [← ew]
      have g17 : Kp KJ1 M0 M17 := fun f i k y => (h17 f i k ⟨y.1, y.2.1⟩).trans (g9 f i k y)
      have g4 : Kp KJ2 N0 N4 := fun f i k y => (h4 f i k ⟨y.1, y.2.1, y.2.2.2.2⟩).trans (k2 f i k y)
      have f37 : M17 37 0 l = jm_div (N0 43 0 l) (N0 0 0 1) := (h17 37 0 l (by unfold KU1; decide)).trans e37
      have jg17 : JG M17 N4 l := fun c y1 y2 => by
        rw [h17 36 0 c (by unfold KU1; decide), h17 37 0 c (by unfold KU1; decide), h17 38 0 c (by unfold KU1; decide), h4 67 0 c (by unfold KU2; omega), h4 68 0 c (by unfold KU2; omega), h4 43 0 c (by unfold KU2; omega), h4 0 0 1 (by unfold KU2; omega)]
        exact jg9 c y1 y2
      have e39 : M17 9 l 3 = N0 39 0 l := (g17 9 l 3 (by unfold KJ1; decide)).trans (run.2.2.2 l hl.1 hl.2).1.1.2.2.1
      have n39 : N4 39 0 l = N0 39 0 l := g4 39 0 l (by unfold KJ2; omega)
      have go : ∀ s : Int, (s = 0 ∨ (s = 1 ∧ N0 39 0 l = 1)) → J2 (gX5_reckonFor_103 fu (fX5_reckonFor_2 fu n) M17 day l l v16 s l) (gX12_judges_47 fu (fX12_judges_6 fu m) N4 day l v16 s l) (fun _ M1 _ N1 => (bI bx1 M1 ∧ bI bx2 N1) ∧ Kp KJ1 M0 M1 ∧ Kp KJ2 N0 N1 ∧ JG M1 N1 (N0 0 0 17)) := fun s hs => j_103 fu hfu i17 j4 i0 jc g17 g4 day l v16 s hl hs f37 jg17 (fun M1 N1 a1 a2 a3 a4 a5 => ih m M1 N1 (l + 1) a1 a2 a3 a4 a5 (by omega) (by omega) (by omega) (by omega))
      rw [e39, n39]
      refine J2.rT hl6 (J2.bi Iff.rfl (fun _ => go 0 (Or.inl rfl)) (fun z1 => J2.bi Iff.rfl (fun _ => go 0 (Or.inl rfl)) (fun _ => go 1 (Or.inr ⟨rfl, ?_⟩))))
      have a := dn l hl.1 hl.2
      have b := (gw l hl.1 hl.2).1.2
      omega
theorem j_judge (fu : Nat) (hfu : 4000 ≤ fu) {M N : jm_M} (iM : bI bx1 M) (iN : bI bx2 N) (jc : JC M N) (day : Int) : J2 (fX5_reckonFor fu M day) (fX12_judges_6 fu fu N day 0) (fun _ M1 _ N1 => (bI bx1 M1 ∧ bI bx2 N1) ∧ Kp KJ1 M M1 ∧ Kp KJ2 N N1 ∧ JG M1 N1 (N 0 0 17)) := by
  have b17 : 0 ≤ N 0 0 17 ∧ N 0 0 17 ≤ 6 := iN 0 0 17
  exact j_judge2 fu hfu iN jc day fu fu M N 0 iM iN Kp.rf Kp.rf (fun c y1 y2 => by exfalso; omega) (by decide) b17.1 (by omega) (by omega)
/-- who is before whom -/
theorem j_better {M N : jm_M} {a b : Int} (ha : 0 ≤ a ∧ a < 6) (hb : 0 ≤ b ∧ b < 6) (bs : N 0 0 1 ≠ 0) (a7 : M 37 0 a = jm_div (N 43 0 a) (N 0 0 1)) (b7 : M 37 0 b = jm_div (N 43 0 b) (N 0 0 1)) (a8 : M 38 0 a = N 68 0 a) (b8 : M 38 0 b = N 68 0 b) : J2 (fX5_isAhead M a b) (fX12_isBetter N a b) (fun v M1 w N1 => M1 = M ∧ N1 = N ∧ v = w) := by
  unfold fX5_isAhead fX12_isBetter
  rw [a7, b7, a8, b8]
  refine J2.lT ha (J2.lT hb (J2.rT ha (J2.rT bs (J2.re (J2.rT hb (J2.rT bs (J2.re ?_)))))))
  refine J2.bi Iff.rfl (fun _ => ?_) (fun _ => ?_)
  · refine J2.lT ha (J2.lT hb (J2.rT ha (J2.rT hb ?_)))
    refine J2.bi Iff.rfl (fun _ => J2.ret ⟨rfl, rfl, rfl⟩) (fun _ => ?_)
    refine J2.lT ha (J2.lT hb (J2.rT ha (J2.rT hb ?_)))
    exact J2.bi Iff.rfl (fun _ => J2.bi Iff.rfl (fun _ => J2.ret ⟨rfl, rfl, rfl⟩) (fun _ => J2.ret ⟨rfl, rfl, rfl⟩)) (fun _ => J2.ret ⟨rfl, rfl, rfl⟩)
  · exact J2.lT ha (J2.lT hb (J2.bi Iff.rfl (fun _ => J2.ret ⟨rfl, rfl, rfl⟩) (fun _ => J2.ret ⟨rfl, rfl, rfl⟩)))
theorem c_self {M : jm_M} {a : Int} (ha : 0 ≤ a ∧ a < 6) : wp (fX5_isAhead M a a) (fun v M1 => M1 = M ∧ v = 0) := by
  unfold fX5_isAhead
  exact wp_T ha (wp_T ha (wp_T rfl (wp_T ha (wp_T ha (wp_F (Int.lt_irrefl _) (wp_T ha (wp_T ha (wp_T rfl (wp_T (Int.le_refl _) (wp_ret ⟨rfl, rfl⟩))))))))))
theorem j_place27 (fu : Nat) {M N : jm_M} (b17 : N 0 0 17 ≤ 6) (bs : N 0 0 1 ≠ 0) (s5 : M 2 0 5 = N 0 0 17) (m84 : ∀ o : Int, 0 ≤ o → o < N 0 0 17 → M 8 o 4 = N 17 0 o) (jg : JG M N (N 0 0 17)) {l1 : Int} (h1 : 0 ≤ l1 ∧ l1 < N 0 0 17) (hin : N 67 0 l1 ≠ 0) {x y : Int} (hxy : (x = -1 ∧ y = 0) ∨ (x = M 8 l1 4 ∧ x ≠ -1 ∧ y = 1)) : ∀ (n m : Nat) (l3 l4 : Int), 0 ≤ l4 → l4 ≤ N 0 0 17 → (0 ≤ l3 ∧ l3 ≤ l4) → N 0 0 17 - l4 < (n : Int) → N 0 0 17 - l4 < (m : Int) → J2 (fX5_placeAmong_27 fu n M l1 x l3 l4) (fX12_placeOf_5 fu m N l1 y l3 l4) (fun v M1 w N1 => M1 = M ∧ N1 = N ∧ v = w) := by
  intro n
  induction n with
  | zero => intro m l3 l4 _ h1 _ hm; exfalso; omega
  | succ n ih =>
    intro m l3 l4 h0 hl h3 hn hm
    cases m with
    | zero => exfalso; omega
    | succ m =>
      show J2 (gX5_placeAmong_27 fu (fX5_placeAmong_27 fu n) M l1 x l3 l4) (gX12_placeOf_5 fu (fX12_placeOf_5 fu m) N l1 y l3 l4) _
      unfold gX5_placeAmong_27 gX12_placeOf_5 gX5_placeAmong_83
      have w1 : jm_w (l4 + 1) = l4 + 1 := jm_wid (by omega) (by omega)
      have w3 : jm_w (l3 + 1) = l3 + 1 := jm_wid (by omega) (by omega)
      have w0 : jm_w (l3 + 0) = l3 := by rw [Int.add_zero]; exact jm_wid (by omega) (by omega)
      rw [s5, w1, w3, w0]
      have h16 : 0 ≤ l1 ∧ l1 < 6 := ⟨h1.1, by omega⟩
      refine J2.bi Iff.rfl (fun z => J2.rT h16 (J2.rF hin (J2.ret ⟨rfl, rfl, rfl⟩))) (fun z => ?_)
      have h4 : 0 ≤ l4 ∧ l4 < N 0 0 17 := ⟨h0, by omega⟩
      have h46 : 0 ≤ l4 ∧ l4 < 6 := ⟨h0, by omega⟩
      have keep : J2 (fX5_placeAmong_27 fu n M l1 x l3 (l4 + 1)) (fX12_placeOf_5 fu m N l1 y l3 (l4 + 1)) (fun v M1 w N1 => M1 = M ∧ N1 = N ∧ v = w) := ih m l3 (l4 + 1) (by omega) (by omega) (by omega) (by omega) (by omega)
      have more : J2 (fX5_placeAmong_27 fu n M l1 x (l3 + 1) (l4 + 1)) (fX12_placeOf_5 fu m N l1 y (l3 + 1) (l4 + 1)) (fun v M1 w N1 => M1 = M ∧ N1 = N ∧ v = w) := ih m (l3 + 1) (l4 + 1) (by omega) (by omega) (by omega) (by omega) (by omega)
      obtain ⟨⟨g1, g2, g3⟩, g4⟩ := jg l4 h4.1 h4.2
      obtain ⟨⟨e1, e2, e3⟩, -⟩ := jg l1 h1.1 h1.2
      have m84l := m84 l1 h1.1 h1.2
      have m844 := m84 l4 h4.1 h4.2
      refine J2.lF (by omega) (J2.lT h46 ?_)
      rw [g1]
      by_cases self : l4 = l1
      · refine J2.rT self (J2.re (J2.re ?_))
        rw [self] at keep ⊢
        refine J2.lF hin ?_
        have sk : ∀ s0 : Int, s0 = 1 → J2 (if s0 = 0 then (jm_e (l1 + 1) fun v2 => fX5_placeAmong_27 fu n M l1 x l3 v2) else (jm_b (fX5_isAhead M l1 l1) fun v4 M5 => if v4 = 0 then (jm_e (l1 + 1) fun v8 => fX5_placeAmong_27 fu n M5 l1 x l3 v8) else (jm_e (l3 + 1) fun v10 => jm_e (l1 + 1) fun v12 => fX5_placeAmong_27 fu n M5 l1 x v10 v12))) (fX12_placeOf_5 fu m N l1 y l3 (l1 + 1)) (fun v M1 w N1 => M1 = M ∧ N1 = N ∧ v = w) := fun s0 hs => J2.lF (by omega) (J2.lq (c_self h16) (fun v4 q4 => J2.lT q4 (J2.le keep)))
        rcases hxy with ⟨x1, x2⟩ | ⟨x1, x2, x3⟩
        · exact J2.lT x1 (sk 1 rfl)
        · exact J2.lF x2 (J2.lT h16 (J2.lT x1.symm (sk 1 rfl)))
      · refine J2.rF self (J2.rT h46 ?_)
        by_cases out : N 67 0 l4 = 0
        · exact J2.lT out (J2.lT rfl (J2.le (J2.rT out (J2.re (J2.re keep)))))
        · refine J2.lF out (J2.rF out ?_)
          obtain ⟨v, Ma, w, Na, ev, ew, ea, eb, ec⟩ := j_better (M := M) (N := N) h46 h16 bs g2 e2 (g3 (by rw [g1]; exact out)) (e3 (by rw [e1]; exact hin))
          rw [ew, jm_bsm, ev, jm_bsm, ea, eb, ← ec]
          rcases hxy with ⟨x1, x2⟩ | ⟨x1, x2, x3⟩
          · refine J2.lT x1 (J2.lF (by decide) ?_)
            refine J2.bi Iff.rfl (fun _ => J2.le (J2.re (J2.re keep))) (fun _ => J2.rT x2 (J2.le (J2.le (J2.re (J2.re more)))))
          · refine J2.lF x2 (J2.lT h46 ?_)
            rw [x1, m844, m84l]
            by_cases same : N 17 0 l4 = N 17 0 l1
            · refine J2.lT same (J2.lF (by decide) ?_)
              rw [x1, m84l] at keep more
              refine J2.bi Iff.rfl (fun _ => J2.le (J2.re (J2.re keep))) (fun _ => J2.rF (by omega) (J2.rT h46 (J2.rT h16 (J2.rT same (J2.le (J2.le (J2.re (J2.re more))))))))
            · rw [x1, m84l] at keep
              refine J2.lF same (J2.lT rfl (J2.le ?_))
              exact J2.ri (fun _ => J2.re (J2.re keep)) (fun _ => J2.rF (by omega) (J2.rT h46 (J2.rT h16 (J2.rF same (J2.re (J2.re keep))))))
theorem pv_bq {g : jm_R} {M : jm_M} {P : Int → Prop} {K : Int → jm_M → jm_R} {Q : Int → Prop} (h : wp g (fun r M1 => M1 = M ∧ P r)) (k : ∀ r : Int, P r → pv (K r M) Q) : pv (jm_b g K) Q := by
  obtain ⟨v, M1, e, rfl, p⟩ := h
  rw [e, jm_bsm]
  exact k v p
/-- no place for a car that is out -/
theorem pv_place (fu : Nat) {N : jm_M} (iN : bI bx2 N) {l1 : Int} (h1 : 0 ≤ l1 ∧ l1 < 6) (y : Int) (out : N 67 0 l1 = 0) : ∀ (n : Nat) (l3 l4 : Int), 0 ≤ l4 → l4 ≤ 6 → pv (fX12_placeOf_5 fu n N l1 y l3 l4) (fun w => w = -1) := by
  have b17 : 0 ≤ N 0 0 17 ∧ N 0 0 17 ≤ 6 := iN 0 0 17
  intro n
  induction n with
  | zero => intro l3 l4 _ _; exact pv_none
  | succ n ih =>
    intro l3 l4 h0 h6
    show pv (gX12_placeOf_5 fu (fX12_placeOf_5 fu n) N l1 y l3 l4) _
    unfold gX12_placeOf_5
    refine pv_i (fun _ => pv_i (fun _ => pv_i (fun _ => pv_ret rfl) (fun z => absurd out z)) (fun _ => pv_none)) (fun z => ?_)
    have w1 : jm_w (l4 + 1) = l4 + 1 := jm_wid (by omega) (by omega)
    rw [w1]
    have nx : ∀ x : Int, pv (jm_e x fun v7 => jm_e (l4 + 1) fun v9 => fX12_placeOf_5 fu n N l1 y v7 v9) (fun w => w = -1) := fun x => pv_e (fun a _ => pv_e (fun b hb => by rw [hb]; exact ih a (l4 + 1) (by omega) (by omega)))
    refine pv_i (fun _ => nx _) (fun _ => pv_i (fun _ => pv_i (fun _ => nx _) (fun _ => ?_)) (fun _ => pv_none))
    refine pv_bq (s_fX12_isBetter N iN l4 l1 ⟨h0, by omega⟩ ⟨h1.1, by omega⟩) (fun v _ => ?_)
    exact pv_i (fun _ => nx _) (fun _ => pv_i (fun _ => nx _) (fun _ => pv_i (fun _ => pv_i (fun _ => pv_i (fun _ => nx _) (fun _ => nx _)) (fun _ => pv_none)) (fun _ => pv_none)))
theorem j_place (fu : Nat) (hfu : 4000 ≤ fu) {M N : jm_M} (iN : bI bx2 N) (s5 : M 2 0 5 = N 0 0 17) (m84 : ∀ o : Int, 0 ≤ o → o < N 0 0 17 → M 8 o 4 = N 17 0 o) (jg : JG M N (N 0 0 17)) {l1 : Int} (h1 : 0 ≤ l1 ∧ l1 < N 0 0 17) {x y : Int} (hxy : (x = -1 ∧ y = 0) ∨ (x = M 8 l1 4 ∧ x ≠ -1 ∧ y = 1)) : J2 (fX5_placeAmong fu M l1 x) (fX12_placeOf fu N l1 y) (fun v M1 w N1 => (M1 = M ∧ N1 = N ∧ v = w) ∧ (-1 ≤ v ∧ v ≤ 5) ∧ (v = -1 ↔ N 67 0 l1 = 0)) := by
  have b17 : 0 ≤ N 0 0 17 ∧ N 0 0 17 ≤ 6 := iN 0 0 17
  have bs : 2 ≤ N 0 0 1 ∧ N 0 0 1 ≤ 5 := iN 0 0 1
  have h16 : 0 ≤ l1 ∧ l1 < 6 := ⟨h1.1, by omega⟩
  have e1 := (jg l1 h1.1 h1.2).1.1
  obtain ⟨w, N1, ew, en, b1, b2, b3⟩ := s_fX12_placeOf fu hfu N iN l1 y ⟨h1.1, by omega⟩ (by omega)
  have core : J2 (fX5_placeAmong fu M l1 x) (fX12_placeOf fu N l1 y) (fun v M1 w N1 => (M1 = M ∧ N1 = N ∧ v = w) ∧ (v = -1 ↔ N 67 0 l1 = 0)) := by
    unfold fX5_placeAmong
    refine J2.lq (c_has M l1 (by omega)) (fun v1 q1 => J2.lF (by omega) (J2.lT h16 ?_))
    rw [e1]
    by_cases out : N 67 0 l1 = 0
    · have em : w = -1 := pv_place fu iN h16 y out fu 0 0 (by decide) (by decide) w N1 ew
      rw [ew, em, en]
      exact J2.lT out (J2.ret ⟨⟨rfl, rfl, rfl⟩, ⟨fun _ => out, fun _ => rfl⟩⟩)
    · refine J2.lF out ?_
      have z := j_place27 fu b17.2 (by omega) s5 m84 jg h1 out hxy fu fu 0 0 (by decide) b17.1 ⟨by decide, by decide⟩ (by omega) (by omega)
      obtain ⟨v', M', w', N', ev', ew', q'⟩ := z
      have eqw : fX12_placeOf fu N l1 y = some (w', N') := ew'
      rw [ew] at eqw
      obtain ⟨ww, -⟩ := Prod.mk.inj (Option.some.inj eqw)
      refine ⟨v', M', w', N', ev', ew', q', ⟨fun h => ?_, fun h => absurd h out⟩⟩
      rcases b3 with b3 | b3
      · exact b3
      · have := q'.2.2
        exfalso; omega
  obtain ⟨v', M', w', N', ev', ew', q'⟩ := core
  have ew2 := ew'
  rw [ew] at ew2
  obtain ⟨ww, -⟩ := Prod.mk.inj (Option.some.inj ew2)
  have := q'.1.2.2
  exact ⟨v', M', w', N', ev', ew', q'.1, ⟨by omega, by omega⟩, q'.2⟩
