/-! what a plan hears -/
def LPl (M N : jm_M) : Prop := M 27 0 11 = N 38 0 0 ∧ M 27 0 17 = N 38 0 1 ∧ M 27 0 15 = N 38 0 2 ∧ M 27 0 0 = N 38 0 3 ∧ M 27 0 5 = N 38 0 4 ∧ M 27 0 13 = N 38 0 5 ∧ M 27 0 14 = N 38 0 6 ∧ M 27 0 10 = N 38 0 7 ∧ M 27 0 22 = N 38 0 8 ∧ M 27 0 21 = N 38 0 9 ∧ M 27 0 24 = N 38 0 10 ∧ M 27 0 19 = N 38 0 11 ∧ M 27 0 7 = N 38 0 12
theorem c_let (M : jm_M) (a k v : Int) (hk : a - 97 = k) (h : 0 ≤ k ∧ k < 26) : wp (fX4_let M a v) (fun _ M1 => M1 = jm_u M 27 0 k v) := by
  have w : jm_w (a - 97) = k := by rw [hk]; exact jm_wid (by omega) (by omega)
  unfold fX4_let
  rw [w]
  refine wp_bp (x_isIndex M k 26) (fun z q => wp_F (by omega) (wp_T h ?_))
  exact ⟨_, _, rfl, rfl⟩
theorem c_wetAt (fu : Nat) (hfu : 4000 ≤ fu) {M N : jm_M} (iM : bI bx1 M) (iN : bI bx2 N) (td : TDr M N) {a b v : Int} (g : fX12_wet fu N a b = some (v, N)) : wp (fX9_wetAt fu M a b) (fun r M1 => M1 = M ∧ r = v) := by
  obtain ⟨r, M1, w, N1, e1, e2, y1, y2, y3⟩ := j_wet fu hfu M N iM iN td a b
  rw [g] at e2
  obtain ⟨z1, -⟩ := Prod.mk.inj (Option.some.inj e2)
  exact ⟨r, M1, e1, y1, y3.trans z1.symm⟩
theorem TDr.kl {M M1 N : jm_M} (h : TDr M N) (k : Kp (fun f i _ => (f = 10 ∧ i = 30) ∨ (f = 19 ∧ i = 30)) M M1) : TDr M1 N := by
  refine ⟨(k 10 30 3 (Or.inl ⟨rfl, rfl⟩)).trans h.1, fun j y1 y2 => ?_⟩
  rw [k 19 30 _ (Or.inr ⟨rfl, rfl⟩), k 19 30 _ (Or.inr ⟨rfl, rfl⟩), k 19 30 _ (Or.inr ⟨rfl, rfl⟩)]
  exact h.2 j y1 y2
def K27 (f : Nat) (_ _ : Int) : Prop := f ≠ 27
def K38 (f : Nat) (_ _ : Int) : Prop := f ≠ 38
/-- the class's letters -/
def LC (M : jm_M) (xL xR xP xA xF xN xO xK xW xV xY xT xH : Int) : Prop := M 27 0 11 = xL ∧ M 27 0 17 = xR ∧ M 27 0 15 = xP ∧ M 27 0 0 = xA ∧ M 27 0 5 = xF ∧ M 27 0 13 = xN ∧ M 27 0 14 = xO ∧ M 27 0 10 = xK ∧ M 27 0 22 = xW ∧ M 27 0 21 = xV ∧ M 27 0 24 = xY ∧ M 27 0 19 = xT ∧ M 27 0 7 = xH
def LN (N : jm_M) (xL xR xP xA xF xN xO xK xW xV xY xT xH : Int) : Prop := N 38 0 0 = xL ∧ N 38 0 1 = xR ∧ N 38 0 2 = xP ∧ N 38 0 3 = xA ∧ N 38 0 4 = xF ∧ N 38 0 5 = xN ∧ N 38 0 6 = xO ∧ N 38 0 7 = xK ∧ N 38 0 8 = xW ∧ N 38 0 9 = xV ∧ N 38 0 10 = xY ∧ N 38 0 11 = xT ∧ N 38 0 12 = xH
theorem c_letEnd (fu : Nat) (M : jm_M) (iM : bI bx1 M) (c lap now bf lt xW xV xY : Int) (h9 : 0 ≤ M 9 c 9 ∧ M 9 c 9 < M 10 c 3) (hc : 0 ≤ c ∧ c < 6) (ht : 0 ≤ M 8 c 3 ∧ M 8 c 3 < 4) (gw : ∀ M1 : jm_M, bI bx1 M1 → Kp K27 M M1 → wp (fX9_wetAt fu M1 0 now) (fun r M2 => M2 = M1 ∧ r = xW)) (gs : ∀ M1 : jm_M, bI bx1 M1 → Kp K27 M M1 → wp (fX9_slowAt fu M1 now) (fun r M2 => M2 = M1 ∧ r = xV)) (gy : ∀ M1 : jm_M, bI bx1 M1 → Kp K27 M M1 → wp (fX9_yellowAt fu M1 (-1) now) (fun r M2 => M2 = M1 ∧ r = xY)) (iw : jm_in xW) (hV : xV = 0 ∨ xV = 1) (hY : xY = 0 ∨ xY = 1) : wp (gX2_setLetters_96 fu M c c lap now bf lt) (fun _ M1 => bI bx1 M1 ∧ Kp K27 M M1 ∧ LC M1 (jm_w (lap + 1)) (jm_w (jm_w (M 1 0 1 - lap) - 1)) (jm_w (bf + 1)) (if bf = 0 then 999 else jm_div (jm_w (now - lt)) 100) (M 9 c 8) (jm_w (M 8 c 2 * jm_w (jm_w (M 1 0 1 * M 1 0 0) - M 9 c 2))) (M 29 c (M 9 c 9)) (M 19 c (2 * M 9 c 9)) xW xV xY (M 9 c 5) (if jm_w (now + M 18 0 3) < M 34 0 (M 8 c 3) then 0 else 1)) := by
  have b10 : 0 ≤ M 10 c 3 ∧ M 10 c 3 ≤ lim1 c := iM 10 c 3
  have bl : lim1 c = 4 := lim1_0 hc.1 hc.2
  have n999 : jm_in 999 := jm_inL (by decide) (by decide)
  have u27 : ∀ {A : jm_M} {k v : Int}, Kp K27 M A → Kp K27 M (jm_u A 27 0 k v) := fun h f i k q => (jm_une_f q).trans (h f i k q)
  have b27 : ∀ {A : jm_M} {k v : Int}, bI bx1 A → jm_in v → bI bx1 (jm_u A 27 0 k v) := fun h q => bI_u h q
  -- the end of it: h
  have s321 : ∀ (A : jm_M) (y : Int), bI bx1 A → Kp K27 M A → jm_in y → wp (gX2_setLetters_321 fu A c c now y 121) (fun _ M1 => bI bx1 M1 ∧ Kp K27 M M1 ∧ M1 27 0 24 = y ∧ M1 27 0 19 = M 9 c 5 ∧ M1 27 0 7 = (if jm_w (now + M 18 0 3) < M 34 0 (M 8 c 3) then 0 else 1) ∧ ∀ k : Int, k ≠ 24 → k ≠ 19 → k ≠ 7 → M1 27 0 k = A 27 0 k) := by
    intro A y iA kA iy
    unfold gX2_setLetters_321
    refine wp_b (c_let A 121 24 y (by decide) (by decide)) (fun _ A1 u1 => ?_)
    have k1 : Kp K27 M A1 := by rw [u1]; exact u27 kA
    have i1 : bI bx1 A1 := by rw [u1]; exact b27 iA iy
    rw [k1 9 c 5 (by unfold K27; decide)]
    refine wp_b (c_let A1 116 19 (M 9 c 5) (by decide) (by decide)) (fun _ A2 u2 => ?_)
    have k2 : Kp K27 M A2 := by rw [u2]; exact u27 k1
    have i2 : bI bx1 A2 := by rw [u2]; exact b27 i1 (bx1_in (iM 9 c 5))
    rw [k2 8 c 3 (by unfold K27; decide)]
    refine wp_bp (c_free A2 (M 8 c 3) ht) (fun v7 z7 => ?_)
    rw [k2 34 0 _ (by unfold K27; decide)] at z7
    rw [k2 18 0 3 (by unfold K27; decide), z7]
    refine wp_T (by decide) ?_
    have fin : ∀ x : Int, jm_in x → x = (if jm_w (now + M 18 0 3) < M 34 0 (M 8 c 3) then 0 else 1) → wp (jm_b (fX4_let A2 104 x) fun _ M14 => some ((0 : Int), M14)) (fun _ M1 => bI bx1 M1 ∧ Kp K27 M M1 ∧ M1 27 0 24 = y ∧ M1 27 0 19 = M 9 c 5 ∧ M1 27 0 7 = (if jm_w (now + M 18 0 3) < M 34 0 (M 8 c 3) then 0 else 1) ∧ ∀ k : Int, k ≠ 24 → k ≠ 19 → k ≠ 7 → M1 27 0 k = A 27 0 k) := fun x ix hx => by
      refine wp_b (c_let A2 104 7 x (by decide) (by decide)) (fun _ A3 u3 => wp_ret ?_)
      refine ⟨by rw [u3]; exact b27 i2 ix, by rw [u3]; exact u27 k2, ?_, ?_, ?_, fun k q1 q2 q3 => ?_⟩
      · rw [u3, jm_une_k (by decide), u2, jm_une_k (by decide), u1]; exact jm_ueq
      · rw [u3, jm_une_k (by decide), u2]; exact jm_ueq
      · rw [u3, jm_ueq]; exact hx
      · rw [u3, jm_une_k q3, u2, jm_une_k q2, u1, jm_une_k q1]
    refine wp_ite (fun q => fin 0 (jm_inL (by decide) (by decide)) (by rw [if_pos q])) (fun q => fin 1 (jm_inL (by decide) (by decide)) (by rw [if_neg q]))
  -- behind: v and y
  have s294 : ∀ (A : jm_M) (x : Int), bI bx1 A → Kp K27 M A → jm_in x → wp (gX2_setLetters_294 fu A c c now x 118) (fun _ M1 => bI bx1 M1 ∧ Kp K27 M M1 ∧ M1 27 0 21 = x ∧ M1 27 0 24 = xY ∧ M1 27 0 19 = M 9 c 5 ∧ M1 27 0 7 = (if jm_w (now + M 18 0 3) < M 34 0 (M 8 c 3) then 0 else 1) ∧ ∀ k : Int, k ≠ 21 → k ≠ 24 → k ≠ 19 → k ≠ 7 → M1 27 0 k = A 27 0 k) := by
    intro A x iA kA ix
    unfold gX2_setLetters_294
    refine wp_b (c_let A 118 21 x (by decide) (by decide)) (fun _ A1 u1 => ?_)
    have k1 : Kp K27 M A1 := by rw [u1]; exact u27 kA
    have i1 : bI bx1 A1 := by rw [u1]; exact b27 iA ix
    refine wp_bp (gy A1 i1 k1) (fun v3 z3 => ?_)
    have go : ∀ y : Int, y = xY → jm_in y → wp (gX2_setLetters_321 fu A1 c c now y 121) (fun _ M1 => bI bx1 M1 ∧ Kp K27 M M1 ∧ M1 27 0 21 = x ∧ M1 27 0 24 = xY ∧ M1 27 0 19 = M 9 c 5 ∧ M1 27 0 7 = (if jm_w (now + M 18 0 3) < M 34 0 (M 8 c 3) then 0 else 1) ∧ ∀ k : Int, k ≠ 21 → k ≠ 24 → k ≠ 19 → k ≠ 7 → M1 27 0 k = A 27 0 k) := fun y hy iy => by
      refine wp_mono (s321 A1 y i1 k1 iy) (fun _ M1 q => ?_)
      obtain ⟨q1, q2, q3, q4, q5, q6⟩ := q
      refine ⟨q1, q2, ?_, q3.trans hy, q4, q5, fun k y1 y2 y3 y4 => ?_⟩
      · rw [q6 21 (by decide) (by decide) (by decide), u1]; exact jm_ueq
      · rw [q6 k y2 y3 y4, u1]; exact jm_une_k y1
    rcases hY with q | q
    · exact wp_T (by omega) (go 0 (by omega) (jm_inL (by decide) (by decide)))
    · exact wp_F (by omega) (go 1 (by omega) (jm_inL (by decide) (by decide)))
  -- before: a, f, n, o, k, w
  have s168 : ∀ (A : jm_M) (x : Int), bI bx1 A → Kp K27 M A → jm_in x → wp (gX2_setLetters_168 fu A c c now x 97) (fun _ M1 => bI bx1 M1 ∧ Kp K27 M M1 ∧ (M1 27 0 0 = x ∧ M1 27 0 5 = M 9 c 8 ∧ M1 27 0 13 = jm_w (M 8 c 2 * jm_w (jm_w (M 1 0 1 * M 1 0 0) - M 9 c 2)) ∧ M1 27 0 14 = M 29 c (M 9 c 9) ∧ M1 27 0 10 = M 19 c (2 * M 9 c 9) ∧ M1 27 0 22 = xW) ∧ (M1 27 0 21 = xV ∧ M1 27 0 24 = xY ∧ M1 27 0 19 = M 9 c 5 ∧ M1 27 0 7 = (if jm_w (now + M 18 0 3) < M 34 0 (M 8 c 3) then 0 else 1)) ∧ (M1 27 0 11 = A 27 0 11 ∧ M1 27 0 17 = A 27 0 17 ∧ M1 27 0 15 = A 27 0 15)) := by
    intro A x iA kA ix
    unfold gX2_setLetters_168
    refine wp_b (c_let A 97 0 x (by decide) (by decide)) (fun _ A1 u1 => ?_)
    have k1 : Kp K27 M A1 := by rw [u1]; exact u27 kA
    have i1 : bI bx1 A1 := by rw [u1]; exact b27 iA ix
    rw [k1 9 c 8 (by unfold K27; decide)]
    refine wp_b (c_let A1 102 5 (M 9 c 8) (by decide) (by decide)) (fun _ A2 u2 => ?_)
    have k2 : Kp K27 M A2 := by rw [u2]; exact u27 k1
    have i2 : bI bx1 A2 := by rw [u2]; exact b27 i1 (bx1_in (iM 9 c 8))
    rw [k2 8 c 2 (by unfold K27; decide), k2 1 0 1 (by unfold K27; decide), k2 1 0 0 (by unfold K27; decide), k2 9 c 2 (by unfold K27; decide)]
    refine wp_b (c_let A2 110 13 _ (by decide) (by decide)) (fun _ A3 u3 => ?_)
    have k3 : Kp K27 M A3 := by rw [u3]; exact u27 k2
    have i3 : bI bx1 A3 := by rw [u3]; exact b27 i2 (jm_w_in _)
    have ag := c_age A3 c (by rw [k3 9 c 9 (by unfold K27; decide)]; omega)
    rw [k3 9 c 9 (by unfold K27; decide), k3 29 c _ (by unfold K27; decide)] at ag
    refine wp_bp ag (fun v12 z12 => ?_)
    rw [z12]
    refine wp_b (c_let A3 111 14 _ (by decide) (by decide)) (fun _ A4 u4 => ?_)
    have k4 : Kp K27 M A4 := by rw [u4]; exact u27 k3
    have i4 : bI bx1 A4 := by rw [u4]; exact b27 i3 (bx1_in (iM 29 c _))
    rw [k4 9 c 9 (by unfold K27; decide)]
    have cl := cell_in i4 (r := c) (i := M 9 c 9) (k := 0) (w := 2) (a := 2 * M 9 c 9) ⟨by omega, by omega⟩ (wid1_0 (by omega)) (by rw [k4 10 c 3 (by unfold K27; decide)]; exact h9) ⟨by omega, by omega⟩ (by omega)
    rw [k4 19 c _ (by unfold K27; decide)] at cl
    refine wp_bp cl (fun v18 z18 => ?_)
    rw [z18]
    refine wp_b (c_let A4 107 10 _ (by decide) (by decide)) (fun _ A5 u5 => ?_)
    have k5 : Kp K27 M A5 := by rw [u5]; exact u27 k4
    have i5 : bI bx1 A5 := by rw [u5]; exact b27 i4 (bx1_in (iM 19 c _))
    refine wp_bp (gw A5 i5 k5) (fun v23 z23 => ?_)
    rw [z23]
    refine wp_b (c_let A5 119 22 _ (by decide) (by decide)) (fun _ A6 u6 => ?_)
    have k6 : Kp K27 M A6 := by rw [u6]; exact u27 k5
    have i6 : bI bx1 A6 := by rw [u6]; exact b27 i5 iw
    refine wp_bp (gs A6 i6 k6) (fun v28 z28 => ?_)
    have go : ∀ y : Int, y = xV → jm_in y → wp (gX2_setLetters_294 fu A6 c c now y 118) (fun _ M1 => bI bx1 M1 ∧ Kp K27 M M1 ∧ (M1 27 0 0 = x ∧ M1 27 0 5 = M 9 c 8 ∧ M1 27 0 13 = jm_w (M 8 c 2 * jm_w (jm_w (M 1 0 1 * M 1 0 0) - M 9 c 2)) ∧ M1 27 0 14 = M 29 c (M 9 c 9) ∧ M1 27 0 10 = M 19 c (2 * M 9 c 9) ∧ M1 27 0 22 = xW) ∧ (M1 27 0 21 = xV ∧ M1 27 0 24 = xY ∧ M1 27 0 19 = M 9 c 5 ∧ M1 27 0 7 = (if jm_w (now + M 18 0 3) < M 34 0 (M 8 c 3) then 0 else 1)) ∧ (M1 27 0 11 = A 27 0 11 ∧ M1 27 0 17 = A 27 0 17 ∧ M1 27 0 15 = A 27 0 15)) := fun y hy iy => by
      refine wp_mono (s294 A6 y i6 k6 iy) (fun _ M1 q => ?_)
      obtain ⟨q1, q2, q3, q4, q5, q6, q7⟩ := q
      have r : ∀ k : Int, k ≠ 21 → k ≠ 24 → k ≠ 19 → k ≠ 7 → k ≠ 22 → k ≠ 10 → k ≠ 14 → k ≠ 13 → k ≠ 5 → k ≠ 0 → M1 27 0 k = A 27 0 k := fun k a1 a2 a3 a4 a5 a6 a7 a8 a9 a10 => by
        rw [q7 k a1 a2 a3 a4, u6, jm_une_k a5, u5, jm_une_k a6, u4, jm_une_k a7, u3, jm_une_k a8, u2, jm_une_k a9, u1, jm_une_k a10]
      refine ⟨q1, q2, ⟨?_, ?_, ?_, ?_, ?_, ?_⟩, ⟨q3.trans hy, q4, q5, q6⟩, ⟨r 11 (by decide) (by decide) (by decide) (by decide) (by decide) (by decide) (by decide) (by decide) (by decide) (by decide), r 17 (by decide) (by decide) (by decide) (by decide) (by decide) (by decide) (by decide) (by decide) (by decide) (by decide), r 15 (by decide) (by decide) (by decide) (by decide) (by decide) (by decide) (by decide) (by decide) (by decide) (by decide)⟩⟩
      · rw [q7 0 (by decide) (by decide) (by decide) (by decide), u6, jm_une_k (by decide), u5, jm_une_k (by decide), u4, jm_une_k (by decide), u3, jm_une_k (by decide), u2, jm_une_k (by decide), u1]; exact jm_ueq
      · rw [q7 5 (by decide) (by decide) (by decide) (by decide), u6, jm_une_k (by decide), u5, jm_une_k (by decide), u4, jm_une_k (by decide), u3, jm_une_k (by decide), u2]; exact jm_ueq
      · rw [q7 13 (by decide) (by decide) (by decide) (by decide), u6, jm_une_k (by decide), u5, jm_une_k (by decide), u4, jm_une_k (by decide), u3]; exact jm_ueq
      · rw [q7 14 (by decide) (by decide) (by decide) (by decide), u6, jm_une_k (by decide), u5, jm_une_k (by decide), u4]; exact jm_ueq
      · rw [q7 10 (by decide) (by decide) (by decide) (by decide), u6, jm_une_k (by decide), u5]; exact jm_ueq
      · rw [q7 22 (by decide) (by decide) (by decide) (by decide), u6]; exact jm_ueq
    rcases hV with q | q
    · exact wp_T (by omega) (go 0 (by omega) (jm_inL (by decide) (by decide)))
    · exact wp_F (by omega) (go 1 (by omega) (jm_inL (by decide) (by decide)))
  unfold gX2_setLetters_96
  refine wp_b (c_let M 108 11 _ (by decide) (by decide)) (fun _ A1 u1 => ?_)
  have k1 : Kp K27 M A1 := by rw [u1]; exact u27 Kp.rf
  have i1 : bI bx1 A1 := by rw [u1]; exact b27 iM (jm_w_in _)
  rw [k1 1 0 1 (by unfold K27; decide)]
  refine wp_b (c_let A1 114 17 _ (by decide) (by decide)) (fun _ A2 u2 => ?_)
  have k2 : Kp K27 M A2 := by rw [u2]; exact u27 k1
  have i2 : bI bx1 A2 := by rw [u2]; exact b27 i1 (jm_w_in _)
  refine wp_b (c_let A2 112 15 _ (by decide) (by decide)) (fun _ A3 u3 => ?_)
  have k3 : Kp K27 M A3 := by rw [u3]; exact u27 k2
  have i3 : bI bx1 A3 := by rw [u3]; exact b27 i2 (jm_w_in _)
  have go : ∀ x : Int, x = (if bf = 0 then 999 else jm_div (jm_w (now - lt)) 100) → jm_in x → wp (gX2_setLetters_168 fu A3 c c now x 97) (fun _ M1 => bI bx1 M1 ∧ Kp K27 M M1 ∧ LC M1 (jm_w (lap + 1)) (jm_w (jm_w (M 1 0 1 - lap) - 1)) (jm_w (bf + 1)) (if bf = 0 then 999 else jm_div (jm_w (now - lt)) 100) (M 9 c 8) (jm_w (M 8 c 2 * jm_w (jm_w (M 1 0 1 * M 1 0 0) - M 9 c 2))) (M 29 c (M 9 c 9)) (M 19 c (2 * M 9 c 9)) xW xV xY (M 9 c 5) (if jm_w (now + M 18 0 3) < M 34 0 (M 8 c 3) then 0 else 1)) := fun x hx ix => by
    refine wp_mono (s168 A3 x i3 k3 ix) (fun _ M1 q => ?_)
    obtain ⟨q1, q2, ⟨q3, q4, q5, q6, q7, q8⟩, ⟨q9, q10, q11, q12⟩, q13, q14, q15⟩ := q
    refine ⟨q1, q2, ?_, ?_, ?_, q3.trans hx, q4, q5, q6, q7, q8, q9, q10, q11, q12⟩
    · rw [q13, u3, jm_une_k (by decide), u2, jm_une_k (by decide), u1]; exact jm_ueq
    · rw [q14, u3, jm_une_k (by decide), u2]; exact jm_ueq
    · rw [q15, u3]; exact jm_ueq
  refine wp_ite (fun q => go 999 (by rw [if_pos q]) n999) (fun q => go _ (by rw [if_neg q]) (jm_w_in _))
