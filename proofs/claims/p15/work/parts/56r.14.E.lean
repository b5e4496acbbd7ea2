/-! how many are before -/
def bInd (N : jm_M) (c i b o : Int) : Int := if o ≠ c ∧ o < N 0 0 17 ∧ 0 ≤ N 56 0 (5 * o + i) ∧ N 56 0 (5 * o + i) < b then 1 else 0
def bCnt (N : jm_M) (c i b : Int) : Int := bInd N c i b 0 + bInd N c i b 1 + bInd N c i b 2 + bInd N c i b 3 + bInd N c i b 4 + bInd N c i b 5
theorem bInd_01 (N : jm_M) (c i b o : Int) : 0 ≤ bInd N c i b o ∧ bInd N c i b o ≤ 1 := by
  unfold bInd
  split <;> omega
theorem bInd_c (N : jm_M) (c i b : Int) : bInd N c i b c = 0 := by
  unfold bInd
  rw [if_neg (fun q => q.1 rfl)]
theorem bInd_le (N : jm_M) (c i o : Int) {b d : Int} (h : d ≤ b) : bInd N c i d o ≤ bInd N c i b o := by
  unfold bInd
  by_cases q : o ≠ c ∧ o < N 0 0 17 ∧ 0 ≤ N 56 0 (5 * o + i) ∧ N 56 0 (5 * o + i) < d
  · rw [if_pos q, if_pos ⟨q.1, q.2.1, q.2.2.1, by omega⟩]
    omega
  · rw [if_neg q]
    exact (bInd_01 N c i b o).1
theorem bInd_1 {N : jm_M} {c i b o : Int} (h1 : o ≠ c) (h2 : o < N 0 0 17) (h3 : 0 ≤ N 56 0 (5 * o + i)) (h4 : N 56 0 (5 * o + i) < b) : bInd N c i b o = 1 := by
  unfold bInd
  rw [if_pos ⟨h1, h2, h3, h4⟩]
theorem bInd_0 {N : jm_M} {c i o : Int} : bInd N c i (N 56 0 (5 * o + i)) o = 0 := by
  unfold bInd
  rw [if_neg (fun q => by omega)]
theorem bCnt_5 (N : jm_M) (c i b : Int) (hc : 0 ≤ c ∧ c < 6) : 0 ≤ bCnt N c i b ∧ bCnt N c i b ≤ 5 := by
  have a := bInd_c N c i b
  have h0 := bInd_01 N c i b 0
  have h1 := bInd_01 N c i b 1
  have h2 := bInd_01 N c i b 2
  have h3 := bInd_01 N c i b 3
  have h4 := bInd_01 N c i b 4
  have h5 := bInd_01 N c i b 5
  unfold bCnt
  have : c = 0 ∨ c = 1 ∨ c = 2 ∨ c = 3 ∨ c = 4 ∨ c = 5 := by omega
  rcases this with rfl | rfl | rfl | rfl | rfl | rfl <;> omega
theorem bCnt_dec {N : jm_M} {c i b o : Int} (ho : 0 ≤ o ∧ o < 6) (h1 : o ≠ c) (h2 : o < N 0 0 17) (h3 : 0 ≤ N 56 0 (5 * o + i)) (h4 : N 56 0 (5 * o + i) < b) : bCnt N c i (N 56 0 (5 * o + i)) + 1 ≤ bCnt N c i b := by
  have a1 := bInd_1 h1 h2 h3 h4
  have a0 : bInd N c i (N 56 0 (5 * o + i)) o = 0 := bInd_0
  have hl : N 56 0 (5 * o + i) ≤ b := by omega
  generalize N 56 0 (5 * o + i) = d at *
  have l0 := bInd_le N c i 0 hl
  have l1 := bInd_le N c i 1 hl
  have l2 := bInd_le N c i 2 hl
  have l3 := bInd_le N c i 3 hl
  have l4 := bInd_le N c i 4 hl
  have l5 := bInd_le N c i 5 hl
  unfold bCnt
  have : o = 0 ∨ o = 1 ∨ o = 2 ∨ o = 3 ∨ o = 4 ∨ o = 5 := by omega
  rcases this with rfl | rfl | rfl | rfl | rfl | rfl <;> omega
/-! held -/
def KH1 (c : Int) (f : Nat) (i k : Int) : Prop := ¬ (f = 9 ∧ i = c ∧ (k = 7 ∨ k = 10 ∨ k = 11))
def KH2 (c : Int) (f : Nat) (i k : Int) : Prop := ¬ ((f = 51 ∨ f = 52 ∨ f = 53) ∧ i = 0 ∧ k = c)
theorem TDf.kl {M M1 N : jm_M} (h : TDf M N) (k : Kp (fun f i _ => (f = 10 ∧ i = 31) ∨ (f = 19 ∧ i = 31)) M M1) : TDf M1 N := by
  refine ⟨(k 10 31 3 (Or.inl ⟨rfl, rfl⟩)).trans h.1, fun j y1 y2 => ?_⟩
  rw [k 19 31 _ (Or.inr ⟨rfl, rfl⟩), k 19 31 _ (Or.inr ⟨rfl, rfl⟩), k 19 31 _ (Or.inr ⟨rfl, rfl⟩), k 19 31 _ (Or.inr ⟨rfl, rfl⟩)]
  exact h.2 j y1 y2
theorem c_yellowAt (fu : Nat) (hfu : 4000 ≤ fu) {M N : jm_M} (iM : bI bx1 M) (iN : bI bx2 N) (td : TDf M N) {a b v : Int} (g : fX12_isYellow fu N a b = some (v, N)) : wp (fX9_yellowAt fu M a b) (fun r M1 => M1 = M ∧ r = v) := by
  obtain ⟨r, M1, w, N1, e1, e2, y1, y2, y3, -⟩ := j_yellow fu hfu M N iM iN td a b
  rw [g] at e2
  obtain ⟨z1, -⟩ := Prod.mk.inj (Option.some.inj e2)
  exact ⟨r, M1, e1, y1, y3.trans z1.symm⟩
theorem c_slowAt (fu : Nat) (hfu : 4000 ≤ fu) {M N : jm_M} (iM : bI bx1 M) (iN : bI bx2 N) (td : TDf M N) {b v : Int} (g : fX12_isSlow fu N b = some (v, N)) : wp (fX9_slowAt fu M b) (fun r M1 => M1 = M ∧ r = v) := by
  obtain ⟨r, M1, w, N1, e1, e2, y1, y2, y3, -⟩ := j_slow fu hfu M N iM iN td b
  rw [g] at e2
  obtain ⟨z1, -⟩ := Prod.mk.inj (Option.some.inj e2)
  exact ⟨r, M1, e1, y1, y3.trans z1.symm⟩
def QH (M0 N0 : jm_M) (c Y : Int) (v : Int) (M : jm_M) (w : Int) (N : jm_M) : Prop := v = w ∧ (0 ≤ v ∧ v ≤ Y) ∧ bI bx1 M ∧ bI bx2 N ∧ Kp (KH1 c) M0 M ∧ Kp (KH2 c) N0 N ∧ M 9 c 7 = N 51 0 c ∧ M 9 c 10 = N 52 0 c ∧ M 9 c 11 = N 53 0 c
theorem d_134 (fu : Nat) {M0 N0 M N : jm_M} {c x y Y : Int} (hc : 0 ≤ c ∧ c < 6) (hx : 0 ≤ x ∧ x ≤ Y) (hq : QH M0 N0 c Y 0 M 0 N) (hxy : x = jm_w (y + N 5 0 0)) : J2 (if 0 ≤ c ∧ c < 6 then (jm_s (jm_u M 9 c 11 (jm_w ((M 9 c 11) + 1))) fun M25 => some (x, M25)) else none) (gX12_held_134 fu N c y) (QH M0 N0 c Y) := by
  obtain ⟨-, hv0, i1, i2, k1, k2, e7, e10, e11⟩ := hq
  unfold gX12_held_134
  refine J2.lT hc (J2.ls (fun M1 u1 => J2.rT hc (J2.rT hc (J2.rs (fun N1 u2 => J2.rT (by decide) (J2.ret ?_))))))
  have f5 : N1 5 0 0 = N 5 0 0 := by rw [u2]; exact jm_une_f (by decide)
  refine ⟨by rw [f5]; exact hxy, hx, by rw [u1]; exact bI_u i1 (jm_w_in _), by rw [u2]; exact bI_u i2 (jm_w_in _), fun f i k q => ?_, fun f i k q => ?_, ?_, ?_, ?_⟩
  · rw [u1, jm_une (by unfold KH1 at q; omega)]
    exact k1 f i k q
  · rw [u2, jm_une (by unfold KH2 at q; omega)]
    exact k2 f i k q
  · rw [u1, u2, jm_une_k (by decide), jm_une_f (by decide)]; exact e7
  · rw [u1, u2, jm_une_k (by decide), jm_une_f (by decide)]; exact e10
  · rw [u1, u2, jm_ueq, jm_ueq, e11]
theorem j_held_l (fu : Nat) (hfu : 4000 ≤ fu) (M0 N0 : jm_M) (td : TDf M0 N0) (j0 : bI bx2 N0) (c i t e f Y : Int) (hY : 0 ≤ e ∧ e ≤ Y ∧ Y ≤ 2000000000) (hG : 0 ≤ N0 5 0 0 ∧ N0 5 0 0 ≤ 2000) (hc : 0 ≤ c ∧ c < N0 0 0 17) (hi : 0 ≤ i ∧ i < 5) (e5 : M0 2 0 5 = N0 0 0 17) (eg : M0 18 0 0 = N0 5 0 0) (es : M0 1 0 0 = N0 0 0 1) (ee : M0 15 0 i = N0 2 0 i ∧ -1 ≤ N0 2 0 i) (te : ∀ o : Int, 0 ≤ o → o < N0 0 0 17 → M0 32 o i = N0 56 0 (5 * o + i) + 1 ∧ -1 ≤ N0 56 0 (5 * o + i) ∧ (0 ≤ N0 56 0 (5 * o + i) → M0 33 o i = N0 57 0 (5 * o + i) ∧ 0 ≤ N0 57 0 (5 * o + i) ∧ N0 57 0 (5 * o + i) + N0 5 0 0 ≤ Y)) (eb : ∀ o : Int, 0 ≤ o → o < N0 0 0 17 → M0 9 o 1 = N0 42 0 o) (ebo : M0 9 c 14 = N0 48 0 c) (yw sw : Int) (gy : fX12_isYellow fu N0 i t = some (yw, N0)) (gs : fX12_isSlow fu N0 t = some (sw, N0)) (hyw : yw = 0 ∨ yw = 1) (hsw : sw = 0 ∨ sw = 1) (hf : (f = 0 ∧ yw = 0 ∧ sw = 0) ∨ (f = 1 ∧ (yw = 1 ∨ sw = 1))) : ∀ (n : Nat) (M N : jm_M) (b a : Int), QH M0 N0 c Y 0 M 0 N → 0 ≤ a → a + bCnt N0 c i b ≤ 5 → 6 - a < (n : Int) → J2 (fX2_heldEnd_9 fu n M c i t e (b + 1) a) (jm_b (fX12_latest fu N c i b) fun v N2 => fX12_held_37 fu n N2 c i e f v) (QH M0 N0 c Y) := by
  intro n
  induction n with
  | zero => intro M N b a _ h0 h1 hm; have := bCnt_5 N0 c i b ⟨hc.1, by have : N0 0 0 17 ≤ 6 := (j0 0 0 17).2; omega⟩; exfalso; omega
  | succ n ih =>
    intro M N b a hq h0 h1 hm
    have hq' := hq
    obtain ⟨-, hv0, i1, i2, k1, k2, e7, e10, e11⟩ := hq'
    have b17 : 0 ≤ N0 0 0 17 ∧ N0 0 0 17 ≤ 6 := j0 0 0 17
    have hc6 : 0 ≤ c ∧ c < 6 := ⟨hc.1, by omega⟩
    have b5 := bCnt_5 N0 c i b hc6
    have w1 : jm_w (a + 1) = a + 1 := jm_wid (by omega) (by omega)
    have f5 : M 2 0 5 = N 0 0 17 := by rw [k1 2 0 5 (by unfold KH1; omega), k2 0 0 17 (by unfold KH2; omega)]; exact e5
    have f17 : N 0 0 17 = N0 0 0 17 := k2 0 0 17 (by unfold KH2; omega)
    have n56 : ∀ k : Int, N 56 0 k = N0 56 0 k := fun k => k2 56 0 k (by unfold KH2; omega)
    have td1 : TDf M N0 := td.kl (k1.weak (fun f i k q => by unfold KH1; omega))
    show J2 (gX2_heldEnd_9 fu (fX2_heldEnd_9 fu n) M c i t e (b + 1) a) _ _
    unfold gX2_heldEnd_9
    refine J2.lF (by omega) ?_
    have lt := j_late fu hfu M N i2 f5 c i b hi (fun o y1 y2 => by
      obtain ⟨z1, z2, -⟩ := te o y1 (by omega)
      rw [k1 32 o i (by unfold KH1; omega), n56]
      exact ⟨z1, z2⟩)
    refine J2.bq lt (fun v v' z => ?_)
    obtain ⟨z0, z⟩ := z
    subst z0
    show J2 _ (gX12_held_37 fu (fX12_held_37 fu n) N c i e f v) _
    unfold gX12_held_37
    refine J2.lq (s_fX2_has M i1 v (by rcases z with z | z <;> exact jm_inL (by omega) (by omega))) (fun v5 z5 => ?_)
    rcases z with rfl | ⟨y1, y2, y3, y4, y5⟩
    · exact J2.lT (by omega) (J2.rT (by decide) (J2.ret ⟨rfl, ⟨hY.1, hY.2.1⟩, i1, i2, k1, k2, e7, e10, e11⟩))
    · rw [n56] at y4 y5
      rw [f17] at y2
      have hv6 : 0 ≤ v ∧ v < 6 := ⟨y1, by omega⟩
      obtain ⟨x1, x2, x3⟩ := te v y1 y2
      obtain ⟨x3, x4, x5⟩ := x3 y4
      have wv : jm_w (jm_w (5 * v) + i) = 5 * v + i := by rw [jm_wid (x := 5 * v) (by omega) (by omega)]; exact jm_wid (by omega) (by omega)
      rw [wv]
      have m33 : M 33 v i = N 57 0 (5 * v + i) := by rw [k1 33 v i (by unfold KH1; omega), k2 57 0 _ (by unfold KH2; omega)]; exact x3
      have m18 : M 18 0 0 = N 5 0 0 := by rw [k1 18 0 0 (by unfold KH1; omega), k2 5 0 0 (by unfold KH2; omega)]; exact eg
      refine J2.lF (by omega) (J2.lT hv6 (J2.lT hi (J2.lT (by decide) (J2.le ?_))))
      refine J2.rF (by omega) (J2.rT ⟨by omega, by omega⟩ (J2.re (J2.rT (by decide) ?_)))
      rw [m33, m18]
      by_cases cg' : ¬ e < jm_w (N 57 0 (5 * v + i) + N 5 0 0)
      · exact J2.lF cg' (J2.rF cg' (J2.ret ⟨rfl, ⟨hY.1, hY.2.1⟩, i1, i2, k1, k2, e7, e10, e11⟩))
      have cg := Classical.not_not.1 cg'
      refine J2.lT cg (J2.rT cg (J2.lT hc6 (J2.lT hv6 (J2.rT hc6 (J2.rT hv6 ?_)))))
      have m9 : M 9 c 1 = N 42 0 c := by rw [k1 9 c 1 (by unfold KH1; omega), k2 42 0 c (by unfold KH2; omega)]; exact eb c hc.1 hc.2
      have m9v : M 9 v 1 = N 42 0 v := by rw [k1 9 v 1 (by unfold KH1; omega), k2 42 0 v (by unfold KH2; omega)]; exact eb v y1 y2
      have m1 : M 1 0 0 = N 0 0 1 := by rw [k1 1 0 0 (by unfold KH1; omega), k2 0 0 1 (by unfold KH2; omega)]; exact es
      have m15 : M 15 0 i = N 2 0 i := by rw [k1 15 0 i (by unfold KH1; omega), k2 2 0 i (by unfold KH2; omega)]; exact ee.1
      have m14 : M 9 c 14 = N 48 0 c := by rw [k1 9 c 14 (by unfold KH1; omega), k2 48 0 c (by unfold KH2; omega)]; exact ebo
      have m32 : M 32 v i = N0 56 0 (5 * v + i) + 1 := by rw [k1 32 v i (by unfold KH1; omega)]; exact x1
      have n2 : N 2 0 i = N0 2 0 i := k2 2 0 i (by unfold KH2; omega)
      have n57 : N 57 0 (5 * v + i) = N0 57 0 (5 * v + i) := k2 57 0 _ (by unfold KH2; omega)
      have n500 : N 5 0 0 = N0 5 0 0 := k2 5 0 0 (by unfold KH2; omega)
      have hgb : 0 ≤ jm_w (N 57 0 (5 * v + i) + N 5 0 0) ∧ jm_w (N 57 0 (5 * v + i) + N 5 0 0) ≤ Y := by
        rw [n57, n500, jm_wid (by omega) (by omega)]
        exact ⟨by omega, x5⟩
      -- no pass: held
      have no : ∀ g : jm_R, g = some (0, M) → J2 (jm_b g fun v19 M20 => if v19 = 0 then (if 0 ≤ c ∧ c < 6 then (jm_s (jm_u M20 9 c 11 (jm_w ((M20 9 c 11) + 1))) fun M25 => some (jm_w (N 57 0 (5 * v + i) + N 5 0 0), M25)) else none) else (if 0 ≤ v ∧ v < 6 then (if 0 ≤ i ∧ i < 5 then (jm_e (M20 32 v i) fun v29 => jm_e (jm_w (a + 1)) fun v31 => fX2_heldEnd_9 fu n M20 c i t e v29 v31) else none) else none)) (gX12_held_134 fu N c (N 57 0 (5 * v + i))) (QH M0 N0 c Y) := fun g hg => by
        refine J2.lq (P := fun r => r = 0) ⟨0, M, hg, rfl, rfl⟩ (fun v19 z19 => ?_)
        exact J2.lT z19 (d_134 fu hc6 hgb hq rfl)
      -- a pass: on to the one before
      have ok : ∀ (g : jm_R) (M2 : jm_M), g = some (1, M2) → M2 = (if f = 0 then jm_u M 9 c 10 (jm_w (M 9 c 10 + 1)) else jm_u (jm_u M 9 c 7 (jm_w (M 9 c 7 + 1))) 9 c 10 (jm_w (M 9 c 10 + 1))) → J2 (jm_b g fun v19 M20 => if v19 = 0 then (if 0 ≤ c ∧ c < 6 then (jm_s (jm_u M20 9 c 11 (jm_w ((M20 9 c 11) + 1))) fun M25 => some (jm_w (N 57 0 (5 * v + i) + N 5 0 0), M25)) else none) else (if 0 ≤ v ∧ v < 6 then (if 0 ≤ i ∧ i < 5 then (jm_e (M20 32 v i) fun v29 => jm_e (jm_w (a + 1)) fun v31 => fX2_heldEnd_9 fu n M20 c i t e v29 v31) else none) else none)) (gX12_held_154 fu (fX12_held_37 fu n) N c i e f v) (QH M0 N0 c Y) := fun g M2 hg h2 => by
        refine J2.lb (P := fun r M1 => r = 1 ∧ M1 = M2) ⟨1, M2, hg, rfl, rfl⟩ (fun v19 M20 z19 => ?_)
        rw [z19.2]
        unfold gX12_held_154
        refine J2.lF (by omega) (J2.lT hv6 (J2.lT hi (J2.le (J2.le' w1 ?_))))
        refine J2.rT hc6 (J2.rT hc6 (J2.rs (fun N4 u4 => J2.rT hc6 ?_)))
        have i4 : bI bx2 N4 := by rw [u4]; exact bI_u i2 (jm_w_in _)
        have g32 : M2 32 v i = N0 56 0 (5 * v + i) + 1 := by
          rw [h2]
          split
          · rw [jm_une_f (by decide)]; exact m32
          · rw [jm_une_f (by decide), jm_une_f (by decide)]; exact m32
        have tail : ∀ x : Int, x = f → J2 (fX2_heldEnd_9 fu n M2 c i t e (M2 32 v i) (a + 1)) (gX12_held_181 fu (fX12_held_37 fu n) N4 c i e f v x (N4 51 0 c) c) (QH M0 N0 c Y) := fun x hx => by
          unfold gX12_held_181
          refine J2.rT hc6 (J2.rs (fun N5 u5 => ?_))
          rw [wv]
          refine J2.rT ⟨by omega, by omega⟩ ?_
          have g56 : N5 56 0 (5 * v + i) = N0 56 0 (5 * v + i) := by rw [u5, jm_une_f (by decide), u4, jm_une_f (by decide)]; exact n56 _
          rw [g56, g32]
          refine ih M2 N5 (N0 56 0 (5 * v + i)) (a + 1) ?_ (by omega) ?_ (by omega)
          · refine ⟨rfl, hv0, ?_, by rw [u5]; exact bI_u i4 (jm_w_in _), fun f i k q => ?_, fun f i k q => ?_, ?_, ?_, ?_⟩
            · rw [h2]
              split
              · exact bI_u i1 (jm_w_in _)
              · exact bI_u (bI_u i1 (jm_w_in _)) (jm_w_in _)
            · rw [h2]
              split
              · rw [jm_une (by unfold KH1 at q; omega)]; exact k1 f i k q
              · rw [jm_une (by unfold KH1 at q; omega), jm_une (by unfold KH1 at q; omega)]; exact k1 f i k q
            · rw [u5, jm_une (by unfold KH2 at q; omega), u4, jm_une (by unfold KH2 at q; omega)]; exact k2 f i k q
            · rw [u5, jm_ueq, u4, jm_une_f (by decide), h2, hx]
              rcases hf with ⟨rfl, -⟩ | ⟨rfl, -⟩
              · rw [if_pos rfl, jm_une_k (by decide), e7, Int.add_zero, jm_wid (i2 51 0 c).1 (i2 51 0 c).2]
              · rw [if_neg (by decide), jm_une_k (by decide), jm_ueq, e7]
            · rw [u5, jm_une_f (by decide), u4, jm_ueq, h2]
              split
              · rw [jm_ueq, e10]
              · rw [jm_ueq, e10]
            · rw [u5, jm_une_f (by decide), u4, jm_une_f (by decide), h2]
              split
              · rw [jm_une_k (by decide)]; exact e11
              · rw [jm_une_k (by decide), jm_une_k (by decide)]; exact e11
          · have := bCnt_dec (b := b) hv6 y3 y2 y4 y5
            omega
        rcases hf with ⟨rfl, -⟩ | ⟨rfl, -⟩
        · exact J2.rT rfl (tail 0 rfl)
        · exact J2.rF (by decide) (tail 1 rfl)
      -- what the class says of the pass
      have ps : ∀ s : Int, -1 ≤ s → J2 (jm_b (gX2_passes_44 fu M c v i t e s) fun v19 M20 => if v19 = 0 then (if 0 ≤ c ∧ c < 6 then (jm_s (jm_u M20 9 c 11 (jm_w ((M20 9 c 11) + 1))) fun M25 => some (jm_w (N 57 0 (5 * v + i) + N 5 0 0), M25)) else none) else (if 0 ≤ v ∧ v < 6 then (if 0 ≤ i ∧ i < 5 then (jm_e (M20 32 v i) fun v29 => jm_e (jm_w (a + 1)) fun v31 => fX2_heldEnd_9 fu n M20 c i t e v29 v31) else none) else none)) (gX12_held_103 fu (fX12_held_37 fu n) N c i e f v (N 57 0 (5 * v + i)) s) (QH M0 N0 c Y) := fun s hs => by
        unfold gX12_held_103
        by_cases s1 : s = -1
        · refine J2.rT (by omega) (no _ ?_)
          unfold gX2_passes_44
          rw [if_pos s1]
        · refine J2.rF (by omega) ?_
          by_cases s2 : N 57 0 (5 * v + i) < jm_w (e + s)
          · refine J2.rT s2 (no _ ?_)
            unfold gX2_passes_44
            rw [if_neg s1, if_pos hi, m33, if_neg (by omega)]
          · refine J2.rF s2 ?_
            obtain ⟨ry, My, ey, y6, y7⟩ := c_yellowAt fu hfu i1 j0 td1 gy
            obtain ⟨rs, Ms, es', y8, y9⟩ := c_slowAt fu hfu i1 j0 td1 gs
            rw [y6, y7] at ey
            rw [y8, y9] at es'
            have e44 : gX2_passes_44 fu M c v i t e s = if f = 0 then some (1, jm_u M 9 c 10 (jm_w (M 9 c 10 + 1))) else gX2_passes_93 fu M c := by
              unfold gX2_passes_44
              rw [if_neg s1, if_pos hi, m33, if_pos (by omega), ey]
              show (if yw = 0 then jm_b (fX9_slowAt fu M t) _ else gX2_passes_93 fu M c) = _
              rw [es']
              rcases hf with ⟨q1, q2, q3⟩ | ⟨q1, q2⟩
              · rw [if_pos q2, if_pos q1]
                show (if sw = 0 then _ else _) = _
                rw [if_pos q3]
                rfl
              · rw [if_neg (show ¬ f = 0 by omega)]
                by_cases q3 : yw = 0
                · rw [if_pos q3]
                  show (if sw = 0 then _ else _) = _
                  rw [if_neg (by omega)]
                · rw [if_neg q3]
            rw [e44]
            rcases hf with ⟨q1, q2, q3⟩ | ⟨q1, q2⟩
            · refine J2.rT q1 (ok _ _ (if_pos q1) ?_)
              rw [if_pos q1]
            · refine J2.rF (by omega) (J2.rT hc6 ?_)
              rw [if_neg (show ¬ f = 0 by omega)]
              unfold gX2_passes_93
              rw [m14]
              by_cases s3 : N 48 0 c = 0
              · refine J2.rT s3 (no _ ?_)
                rw [if_pos s3]
              · refine J2.rF s3 (ok _ (jm_u (jm_u M 9 c 7 (jm_w (M 9 c 7 + 1))) 9 c 10 (jm_w (M 9 c 10 + 1))) ?_ ?_)
                · rw [if_neg s3]
                  show some (1, jm_u (jm_u M 9 c 7 (jm_w (M 9 c 7 + 1))) 9 c 10 (jm_w ((jm_u M 9 c 7 (jm_w (M 9 c 7 + 1))) 9 c 10 + 1))) = _
                  rw [jm_une_k (by decide)]
                · rw [if_neg (show ¬ f = 0 by omega)]
      unfold fX2_passes
      rw [m9, m9v, m1]
      by_cases s4 : jm_w (N 42 0 c - N 42 0 v) < N 0 0 1
      · refine J2.rT s4 (J2.rT hi ?_)
        rw [if_pos s4]
        unfold gX2_passes_24
        rw [if_pos rfl, if_pos hi, m15]
        exact ps _ (by rw [n2]; exact ee.2)
      · refine J2.rF s4 ?_
        rw [if_neg s4]
        unfold gX2_passes_24
        rw [if_neg (by decide)]
        exact ps 0 (by decide)
theorem j_held (fu : Nat) (hfu : 4000 ≤ fu) (M0 N0 : jm_M) (td : TDf M0 N0) (i0 : bI bx1 M0) (j0 : bI bx2 N0) (c i t e sw Y : Int) (hY : 0 ≤ e ∧ e ≤ Y ∧ Y ≤ 2000000000) (hG : 0 ≤ N0 5 0 0 ∧ N0 5 0 0 ≤ 2000) (hc : 0 ≤ c ∧ c < N0 0 0 17) (hi : 0 ≤ i ∧ i < 5) (e5 : M0 2 0 5 = N0 0 0 17) (e6 : M0 2 0 6 = N0 0 0 70 + 1) (eg : M0 18 0 0 = N0 5 0 0) (es : M0 1 0 0 = N0 0 0 1) (ee : M0 15 0 i = N0 2 0 i ∧ -1 ≤ N0 2 0 i) (te : ∀ o : Int, 0 ≤ o → o < N0 0 0 17 → M0 32 o i = N0 56 0 (5 * o + i) + 1 ∧ -1 ≤ N0 56 0 (5 * o + i) ∧ (0 ≤ N0 56 0 (5 * o + i) → M0 33 o i = N0 57 0 (5 * o + i) ∧ 0 ≤ N0 57 0 (5 * o + i) ∧ N0 57 0 (5 * o + i) + N0 5 0 0 ≤ Y)) (eb : ∀ o : Int, 0 ≤ o → o < N0 0 0 17 → M0 9 o 1 = N0 42 0 o) (ebo : M0 9 c 14 = N0 48 0 c) (e7 : M0 9 c 7 = N0 51 0 c) (e10 : M0 9 c 10 = N0 52 0 c) (e11 : M0 9 c 11 = N0 53 0 c) (gs : fX12_isSlow fu N0 t = some (sw, N0)) (hsw : sw = 0 ∨ sw = 1) : J2 (fX2_heldEnd fu M0 c i t e) (fX12_held fu N0 c i t e sw) (QH M0 N0 c Y) := by
  have b17 : 0 ≤ N0 0 0 17 ∧ N0 0 0 17 ≤ 6 := j0 0 0 17
  have b5 := bCnt_5 N0 c i (N0 0 0 70) ⟨hc.1, by omega⟩
  obtain ⟨yv, My, yw, Ny, -, gy, -, y2, y3, y4⟩ := j_yellow fu hfu M0 N0 i0 j0 td i t
  rw [y2] at gy
  rw [y3] at y4
  have go : ∀ f : Int, ((f = 0 ∧ yw = 0 ∧ sw = 0) ∨ (f = 1 ∧ (yw = 1 ∨ sw = 1))) → J2 (fX2_heldEnd fu M0 c i t e) (gX12_held_23 fu N0 c i e f) (QH M0 N0 c Y) := fun f hf => by
    unfold fX2_heldEnd gX12_held_23
    refine J2.le' e6 ?_
    exact j_held_l fu hfu M0 N0 td j0 c i t e f Y hY hG hc hi e5 eg es ee te eb ebo yw sw gy gs y4 hsw hf fu M0 N0 (N0 0 0 70) 0 ⟨rfl, ⟨by omega, by omega⟩, i0, j0, Kp.rf, Kp.rf, e7, e10, e11⟩ (by omega) (by omega) (by omega)
  unfold fX12_held
  rcases hsw with rfl | rfl
  · refine J2.rT rfl (J2.rq (P := fun r => r = yw) ⟨yw, N0, gy, rfl, rfl⟩ (fun r hr => ?_))
    rcases y4 with q | q
    · exact J2.rT (hr.trans q) (go 0 (Or.inl ⟨rfl, q, rfl⟩))
    · exact J2.rF (by omega) (go 1 (Or.inr ⟨rfl, Or.inl q⟩))
  · exact J2.rF (by decide) (go 1 (Or.inr ⟨rfl, Or.inr rfl⟩))
