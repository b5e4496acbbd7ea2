/-! the reference speaks -/
theorem d_truth (N : jm_M) (v : Int) (h : v = 0 ∨ v = 1) : wp (fX12_truth N v) (fun r N1 => N1 = N ∧ r = v) := by
  unfold fX12_truth
  rcases h with rfl | rfl
  · exact wp_T rfl (wp_ret ⟨rfl, rfl⟩)
  · exact wp_F (by decide) (wp_ret ⟨rfl, rfl⟩)
theorem d_wetAt (fu : Nat) (hfu : 4000 ≤ fu) {M N : jm_M} (iM : bI bx1 M) (iN : bI bx2 N) (td : TDr M N) {a b v : Int} (g : fX9_wetAt fu M a b = some (v, M)) : wp (fX12_wet fu N a b) (fun r N1 => N1 = N ∧ r = v) := by
  obtain ⟨r, M1, w, N1, e1, e2, y1, y2, y3⟩ := j_wet fu hfu M N iM iN td a b
  rw [g] at e1
  obtain ⟨z1, -⟩ := Prod.mk.inj (Option.some.inj e1)
  exact ⟨w, N1, e2, y2, y3.symm.trans z1.symm⟩
theorem d_slowAt (fu : Nat) (hfu : 4000 ≤ fu) {M N : jm_M} (iM : bI bx1 M) (iN : bI bx2 N) (td : TDf M N) {b v : Int} (g : fX9_slowAt fu M b = some (v, M)) : wp (fX12_isSlow fu N b) (fun r N1 => N1 = N ∧ r = v) := by
  obtain ⟨r, M1, w, N1, e1, e2, y1, y2, y3, -⟩ := j_slow fu hfu M N iM iN td b
  rw [g] at e1
  obtain ⟨z1, -⟩ := Prod.mk.inj (Option.some.inj e1)
  exact ⟨w, N1, e2, y2, y3.symm.trans z1.symm⟩
theorem d_yellowAt (fu : Nat) (hfu : 4000 ≤ fu) {M N : jm_M} (iM : bI bx1 M) (iN : bI bx2 N) (td : TDf M N) {a b v : Int} (g : fX9_yellowAt fu M a b = some (v, M)) : wp (fX12_isYellow fu N a b) (fun r N1 => N1 = N ∧ r = v) := by
  obtain ⟨r, M1, w, N1, e1, e2, y1, y2, y3, -⟩ := j_yellow fu hfu M N iM iN td a b
  rw [g] at e1
  obtain ⟨z1, -⟩ := Prod.mk.inj (Option.some.inj e1)
  exact ⟨w, N1, e2, y2, y3.symm.trans z1.symm⟩
theorem TDr.kr {M N N1 : jm_M} (h : TDr M N) (k : Kp (fun f i k => (f = 0 ∧ i = 0 ∧ k = 8) ∨ f = 6 ∨ f = 7 ∨ f = 8) N N1) : TDr M N1 := by
  have e8 : N1 0 0 8 = N 0 0 8 := k 0 0 8 (Or.inl ⟨rfl, rfl, rfl⟩)
  refine ⟨h.1.trans e8.symm, fun j y1 y2 => ?_⟩
  rw [k 6 0 j (Or.inr (Or.inl rfl)), k 7 0 j (Or.inr (Or.inr (Or.inl rfl))), k 8 0 j (Or.inr (Or.inr (Or.inr rfl)))]
  exact h.2 j y1 (by omega)
theorem TDf.kr {M N N1 : jm_M} (h : TDf M N) (k : Kp (fun f i k => (f = 0 ∧ i = 0 ∧ k = 12) ∨ f = 9 ∨ f = 10 ∨ f = 11 ∨ f = 12) N N1) : TDf M N1 := by
  have e8 : N1 0 0 12 = N 0 0 12 := k 0 0 12 (Or.inl ⟨rfl, rfl, rfl⟩)
  refine ⟨h.1.trans e8.symm, fun j y1 y2 => ?_⟩
  rw [k 9 0 j (by omega), k 10 0 j (by omega), k 11 0 j (by omega), k 12 0 j (by omega)]
  exact h.2 j y1 (by omega)
theorem d_speakEnd (fu : Nat) (N : jm_M) (iN : bI bx2 N) (c e g s x xW xV xY : Int) (hc : 0 ≤ c ∧ c < 6) (hs : 0 ≤ s ∧ s < 24) (ix : jm_in x) (iw : jm_in xW) (gw : ∀ N1 : jm_M, bI bx2 N1 → Kp K38 N N1 → wp (fX12_wet fu N1 0 e) (fun r N2 => N2 = N1 ∧ r = xW)) (gs : ∀ N1 : jm_M, bI bx2 N1 → Kp K38 N N1 → wp (fX12_isSlow fu N1 e) (fun r N2 => N2 = N1 ∧ r = xV)) (gy : ∀ N1 : jm_M, bI bx2 N1 → Kp K38 N N1 → wp (fX12_isYellow fu N1 (-1) e) (fun r N2 => N2 = N1 ∧ r = xY)) (hV : xV = 0 ∨ xV = 1) (hY : xY = 0 ∨ xY = 1) : wp (gX12_speaks_146 fu N c e g s x 3) (fun _ N1 => bI bx2 N1 ∧ Kp K38 N N1 ∧ (N1 38 0 0 = N 38 0 0 ∧ N1 38 0 1 = N 38 0 1 ∧ N1 38 0 2 = N 38 0 2) ∧ (N1 38 0 3 = x ∧ N1 38 0 4 = N 44 0 c ∧ N1 38 0 5 = jm_w (N 15 0 c * jm_w (jm_w (jm_w (N 0 0 1 * N 0 0 2) - g) - 1)) ∧ N1 38 0 6 = N 46 0 s ∧ N1 38 0 7 = N 20 0 s ∧ N1 38 0 8 = xW ∧ N1 38 0 9 = xV ∧ N1 38 0 10 = xY ∧ N1 38 0 11 = N 49 0 c ∧ N1 38 0 12 = (if jm_w (e + N 5 0 3) < N 58 0 (N 16 0 c) then 0 else 1))) := by
  have u38 : ∀ {A : jm_M} {k v : Int}, Kp K38 N A → Kp K38 N (jm_u A 38 0 k v) := fun h f i k q => (jm_une_f q).trans (h f i k q)
  have b38 : ∀ {A : jm_M} {k v : Int}, bI bx2 A → jm_in v → bI bx2 (jm_u A 38 0 k v) := fun h q => bI_u h q
  have b16 : 0 ≤ N 16 0 c ∧ N 16 0 c ≤ 3 := iN 16 0 c
  unfold gX12_speaks_146
  refine wp_T (by decide) (wp_si iN ix (fun A1 u1 i1 => wp_T hc (wp_T (by decide) ?_)))
  have k1 : Kp K38 N A1 := by rw [u1]; exact u38 Kp.rf
  rw [k1 44 0 c (by unfold K38; decide)]
  refine wp_si i1 (bx2_in (iN 44 0 c)) (fun A2 u2 i2 => wp_T hc (wp_T (by decide) ?_))
  have k2 : Kp K38 N A2 := by rw [u2]; exact u38 k1
  rw [k2 15 0 c (by unfold K38; decide), k2 0 0 1 (by unfold K38; decide), k2 0 0 2 (by unfold K38; decide)]
  refine wp_si i2 (jm_w_in _) (fun A3 u3 i3 => wp_T hs (wp_T (by decide) ?_))
  have k3 : Kp K38 N A3 := by rw [u3]; exact u38 k2
  rw [k3 46 0 s (by unfold K38; decide)]
  refine wp_si i3 (bx2_in (iN 46 0 s)) (fun A4 u4 i4 => wp_T hs (wp_T (by decide) ?_))
  have k4 : Kp K38 N A4 := by rw [u4]; exact u38 k3
  rw [k4 20 0 s (by unfold K38; decide)]
  refine wp_si i4 (bx2_in (iN 20 0 s)) (fun A5 u5 i5 => ?_)
  have k5 : Kp K38 N A5 := by rw [u5]; exact u38 k4
  refine wp_bp (gw A5 i5 k5) (fun v z => wp_T (by decide) ?_)
  rw [z]
  refine wp_si i5 iw (fun A6 u6 i6 => ?_)
  have k6 : Kp K38 N A6 := by rw [u6]; exact u38 k5
  refine wp_bp (gs A6 i6 k6) (fun v z => ?_)
  rw [z]
  refine wp_bp (d_truth A6 xV hV) (fun v z => wp_T (by decide) ?_)
  rw [z]
  have iV : jm_in xV := jm_inL (by omega) (by omega)
  have iY : jm_in xY := jm_inL (by omega) (by omega)
  refine wp_si i6 iV (fun A7 u7 i7 => ?_)
  have k7 : Kp K38 N A7 := by rw [u7]; exact u38 k6
  refine wp_bp (gy A7 i7 k7) (fun v z => ?_)
  rw [z]
  refine wp_bp (d_truth A7 xY hY) (fun v z => wp_T (by decide) ?_)
  rw [z]
  refine wp_si i7 iY (fun A8 u8 i8 => wp_T hc (wp_T (by decide) ?_))
  have k8 : Kp K38 N A8 := by rw [u8]; exact u38 k7
  rw [k8 49 0 c (by unfold K38; decide)]
  refine wp_si i8 (bx2_in (iN 49 0 c)) (fun A9 u9 i9 => wp_T hc ?_)
  have k9 : Kp K38 N A9 := by rw [u9]; exact u38 k8
  rw [k9 16 0 c (by unfold K38; decide), k9 5 0 3 (by unfold K38; decide), k9 58 0 _ (by unfold K38; decide)]
  refine wp_T ⟨b16.1, by omega⟩ (wp_T (by decide) ?_)
  have fin : ∀ h : Int, (h = 0 ∨ h = 1) → h = (if jm_w (e + N 5 0 3) < N 58 0 (N 16 0 c) then 0 else 1) → wp (jm_b (fX12_truth A9 h) fun v53 M54 => if (0 : Int) ≤ 12 ∧ (12 : Int) < 13 then (jm_s (jm_u M54 38 0 12 v53) fun M57 => some ((0 : Int), M57)) else none) (fun _ N1 => bI bx2 N1 ∧ Kp K38 N N1 ∧ (N1 38 0 0 = N 38 0 0 ∧ N1 38 0 1 = N 38 0 1 ∧ N1 38 0 2 = N 38 0 2) ∧ (N1 38 0 3 = x ∧ N1 38 0 4 = N 44 0 c ∧ N1 38 0 5 = jm_w (N 15 0 c * jm_w (jm_w (jm_w (N 0 0 1 * N 0 0 2) - g) - 1)) ∧ N1 38 0 6 = N 46 0 s ∧ N1 38 0 7 = N 20 0 s ∧ N1 38 0 8 = xW ∧ N1 38 0 9 = xV ∧ N1 38 0 10 = xY ∧ N1 38 0 11 = N 49 0 c ∧ N1 38 0 12 = (if jm_w (e + N 5 0 3) < N 58 0 (N 16 0 c) then 0 else 1))) := fun h hh he => by
    refine wp_bp (d_truth A9 h hh) (fun v z => wp_T (by decide) ?_)
    rw [z]
    refine wp_si i9 (jm_inL (by omega) (by omega)) (fun Az uz iz => wp_ret ?_)
    have o : ∀ k : Int, k ≠ 3 → k ≠ 4 → k ≠ 5 → k ≠ 6 → k ≠ 7 → k ≠ 8 → k ≠ 9 → k ≠ 10 → k ≠ 11 → k ≠ 12 → Az 38 0 k = N 38 0 k := fun k a1 a2 a3 a4 a5 a6 a7 a8 a9 a10 => by
      rw [uz, jm_une_k a10, u9, jm_une_k a9, u8, jm_une_k a8, u7, jm_une_k a7, u6, jm_une_k a6, u5, jm_une_k a5, u4, jm_une_k a4, u3, jm_une_k a3, u2, jm_une_k a2, u1, jm_une_k a1]
    refine ⟨iz, by rw [uz]; exact u38 k9, ⟨o 0 (by decide) (by decide) (by decide) (by decide) (by decide) (by decide) (by decide) (by decide) (by decide) (by decide), o 1 (by decide) (by decide) (by decide) (by decide) (by decide) (by decide) (by decide) (by decide) (by decide) (by decide), o 2 (by decide) (by decide) (by decide) (by decide) (by decide) (by decide) (by decide) (by decide) (by decide) (by decide)⟩, ?_, ?_, ?_, ?_, ?_, ?_, ?_, ?_, ?_, ?_⟩
    · rw [uz, jm_une_k (by decide), u9, jm_une_k (by decide), u8, jm_une_k (by decide), u7, jm_une_k (by decide), u6, jm_une_k (by decide), u5, jm_une_k (by decide), u4, jm_une_k (by decide), u3, jm_une_k (by decide), u2, jm_une_k (by decide), u1]; exact jm_ueq
    · rw [uz, jm_une_k (by decide), u9, jm_une_k (by decide), u8, jm_une_k (by decide), u7, jm_une_k (by decide), u6, jm_une_k (by decide), u5, jm_une_k (by decide), u4, jm_une_k (by decide), u3, jm_une_k (by decide), u2]; exact jm_ueq
    · rw [uz, jm_une_k (by decide), u9, jm_une_k (by decide), u8, jm_une_k (by decide), u7, jm_une_k (by decide), u6, jm_une_k (by decide), u5, jm_une_k (by decide), u4, jm_une_k (by decide), u3]; exact jm_ueq
    · rw [uz, jm_une_k (by decide), u9, jm_une_k (by decide), u8, jm_une_k (by decide), u7, jm_une_k (by decide), u6, jm_une_k (by decide), u5, jm_une_k (by decide), u4]; exact jm_ueq
    · rw [uz, jm_une_k (by decide), u9, jm_une_k (by decide), u8, jm_une_k (by decide), u7, jm_une_k (by decide), u6, jm_une_k (by decide), u5]; exact jm_ueq
    · rw [uz, jm_une_k (by decide), u9, jm_une_k (by decide), u8, jm_une_k (by decide), u7, jm_une_k (by decide), u6]; exact jm_ueq
    · rw [uz, jm_une_k (by decide), u9, jm_une_k (by decide), u8, jm_une_k (by decide), u7]; exact jm_ueq
    · rw [uz, jm_une_k (by decide), u9, jm_une_k (by decide), u8]; exact jm_ueq
    · rw [uz, jm_une_k (by decide), u9]; exact jm_ueq
    · rw [uz, jm_ueq]; exact he
  exact wp_ite (fun q => fin 0 (Or.inl rfl) (by rw [if_pos q])) (fun q => fin 1 (Or.inr rfl) (by rw [if_neg q]))
/-! both -/
theorem ww_g1 (x g : Int) : jm_w (jm_w x - (g + 1)) = jm_w (jm_w (jm_w x - g) - 1) := by unfold jm_w; omega
theorem line_of {s n lap : Int} (hs : 2 ≤ s ∧ s ≤ 5) (hn : 1 ≤ n ∧ n ≤ 12) (hl : 0 ≤ lap ∧ lap < n) : jm_w (jm_w (lap * s) + jm_w (s - 1)) = s * lap + (s - 1) ∧ jm_w (jm_w (s * jm_w (lap + 1)) - 1) = s * lap + (s - 1) ∧ 0 ≤ s * lap ∧ s * lap + (s - 1) < 60 := by
  have e1 : jm_w (lap + 1) = lap + 1 := jm_wid (by omega) (by omega)
  have e2 : jm_w (s - 1) = s - 1 := jm_wid (by omega) (by omega)
  have e3 : s * (lap + 1) = s * lap + s := by rw [Int.mul_add, Int.mul_one]
  have e4 : lap * s = s * lap := Int.mul_comm _ _
  have b1 : 0 ≤ s * lap := Int.mul_nonneg (by omega) hl.1
  have b2 : s * (lap + 1) ≤ 5 * 12 := Int.mul_le_mul hs.2 (by omega) (by omega) (by omega)
  rw [e1, e2, e3, e4, jm_wid (x := s * lap) (by omega) (by omega), jm_wid (x := s * lap + s) (by omega) (by omega)]
  exact ⟨jm_wid (by omega) (by omega), by rw [jm_wid (by omega) (by omega)]; omega, b1, by omega⟩
def QL (M N : jm_M) (_ : Int) (M1 : jm_M) (_ : Int) (N1 : jm_M) : Prop := bI bx1 M1 ∧ bI bx2 N1 ∧ Kp K27 M M1 ∧ Kp K38 N N1 ∧ LPl M1 N1
theorem j_letters (fu : Nat) (hfu : 4000 ≤ fu) (M N : jm_M) (iM : bI bx1 M) (iN : bI bx2 N) (tr : TDr M N) (tf : TDf M N) (rt : RTm M N) (n8 : ∀ k : Int, 0 ≤ k → k < 8 → M 18 0 k = N 5 0 k) (c lap e : Int) (ie : jm_in e) (hc : 0 ≤ c ∧ c < N 0 0 17) (e0 : M 1 0 0 = N 0 0 1) (e1 : M 1 0 1 = N 0 0 2) (e5 : M 2 0 5 = N 0 0 17) (hl : 0 ≤ lap ∧ lap < N 0 0 2) (hend : N 43 0 c = N 0 0 1 * lap + (N 0 0 1 - 1) + 1) (eb : M 8 c 2 = N 15 0 c) (et : M 8 c 3 = N 16 0 c) (ez : M 10 c 3 = N 19 0 c) (e9 : M 9 c 9 = N 45 0 c) (hon : 0 ≤ N 45 0 c ∧ N 45 0 c < N 19 0 c) (e8 : M 9 c 8 = N 44 0 c) (es : M 9 c 5 = N 49 0 c) (ea : M 29 c (N 45 0 c) = N 46 0 (4 * c + N 45 0 c)) (ek : M 19 c (2 * N 45 0 c) = N 20 0 (4 * c + N 45 0 c)) (ebf : ∀ t : Int, 0 ≤ t → t < 4 → M 34 0 t = N 58 0 t) : J2 (fX2_setLetters fu M c c c lap e) (fX12_speaks fu N c lap e) (QL M N) := by
  have b17 : 0 ≤ N 0 0 17 ∧ N 0 0 17 ≤ 6 := iN 0 0 17
  have b16 : 0 ≤ N 16 0 c ∧ N 16 0 c ≤ 3 := iN 16 0 c
  have b19 : 0 ≤ N 19 0 c ∧ N 19 0 c ≤ 4 := iN 19 0 c
  have hc6 : 0 ≤ c ∧ c < 6 := ⟨hc.1, by omega⟩
  have bs : 2 ≤ N 0 0 1 ∧ N 0 0 1 ≤ 5 := iN 0 0 1
  have bn : 1 ≤ N 0 0 2 ∧ N 0 0 2 ≤ 12 := iN 0 0 2
  obtain ⟨w1, w2, w3, w4⟩ := line_of bs bn hl
  obtain ⟨xW, Ma, xW', Na, gW1, gW2, y1, y2, y3⟩ := j_wet fu hfu M N iM iN tr 0 e
  rw [y1] at gW1
  rw [y2, ← y3] at gW2
  obtain ⟨xV, Mb, xV', Nb, gV1, gV2, y4, y5, y6, hV⟩ := j_slow fu hfu M N iM iN tf e
  rw [y4] at gV1
  rw [y5, ← y6] at gV2
  obtain ⟨xY, Mc, xY', Nc, gY1, gY2, y7, y8, y9, hY⟩ := j_yellow fu hfu M N iM iN tf (-1) e
  rw [y7] at gY1
  rw [y8, ← y9] at gY2
  have iw : jm_in xW := by
    obtain ⟨r, N2, q1, q2⟩ := s_fX12_wet fu hfu N iN 0 e ⟨by decide, by decide⟩ ie
    rw [gW2] at q1
    obtain ⟨z1, -⟩ := Prod.mk.inj (Option.some.inj q1)
    rw [z1]
    exact q2.2
  have lc := fun bf lt : Int => c_letEnd fu M iM c lap e bf lt xW xV xY (by omega) hc6 (by omega) (fun M1 i1 k1 => c_wetAt fu hfu i1 iN (tr.kl (k1.weak (fun f i k q => by unfold K27; omega))) gW2) (fun M1 i1 k1 => c_slowAt fu hfu i1 iN (tf.kl (k1.weak (fun f i k q => by unfold K27; omega))) gV2) (fun M1 i1 k1 => c_yellowAt fu hfu i1 iN (tf.kl (k1.weak (fun f i k q => by unfold K27; omega))) gY2) iw hV hY
  have ws : jm_w (jm_w (4 * c) + N 45 0 c) = 4 * c + N 45 0 c := by rw [jm_wid (x := 4 * c) (by omega) (by omega)]; exact jm_wid (by omega) (by omega)
  -- the loop over the others
  have lp : ∀ (n : Nat) (bf lt l9 : Int), 0 ≤ l9 → l9 ≤ N 0 0 17 → 0 ≤ bf → bf ≤ l9 → ((bf = 0 ∧ lt = -1) ∨ (1 ≤ bf ∧ 0 ≤ lt)) → N 0 0 17 - l9 < (n : Int) → J2 (fX2_setLetters_29 fu n M c c c lap e (N 0 0 1 * lap + (N 0 0 1 - 1)) bf lt l9) (fX12_speaks_21 fu n N c lap e (N 0 0 1 * lap + (N 0 0 1 - 1)) (bf + 1) lt l9) (QL M N) := by
    intro n
    induction n with
    | zero => intro bf lt l9 _ _ _ _ _ hm; exfalso; omega
    | succ n ih =>
      intro bf lt l9 h0 h1 hb0 hb1 hb hm
      show J2 (gX2_setLetters_29 fu (fX2_setLetters_29 fu n) M c c c lap e (N 0 0 1 * lap + (N 0 0 1 - 1)) bf lt l9) (gX12_speaks_21 fu (fX12_speaks_21 fu n) N c lap e (N 0 0 1 * lap + (N 0 0 1 - 1)) (bf + 1) lt l9) _
      unfold gX2_setLetters_29 gX12_speaks_21
      have v1 : jm_w (l9 + 1) = l9 + 1 := jm_wid (by omega) (by omega)
      by_cases cc : N 0 0 17 ≤ l9
      · refine J2.lT (by omega) (J2.rT cc (J2.rT hc6 (J2.re' ws (J2.rT (by decide) ?_))))
        obtain ⟨r, M1, g1, i1, k1, L⟩ := lc bf lt
        rw [g1]
        refine J2.of (wp_ret ?_)
        have u38 : ∀ {A : jm_M} {k v : Int}, Kp K38 N A → Kp K38 N (jm_u A 38 0 k v) := fun h f i k q => (jm_une_f q).trans (h f i k q)
        refine wp_si iN (jm_w_in _) (fun A1 u1 j1 => wp_T (by decide) ?_)
        have m1 : Kp K38 N A1 := by rw [u1]; exact u38 Kp.rf
        rw [m1 0 0 2 (by unfold K38; decide)]
        refine wp_si j1 (jm_w_in _) (fun A2 u2 j2 => wp_T (by decide) ?_)
        have m2 : Kp K38 N A2 := by rw [u2]; exact u38 m1
        refine wp_si j2 (jm_inL (by omega) (by omega)) (fun A3 u3 j3 => ?_)
        have m3 : Kp K38 N A3 := by rw [u3]; exact u38 m2
        have ag : (if bf = 0 then (999 : Int) else jm_div (jm_w (e - lt)) 100) = (if 0 ≤ lt then jm_div (jm_w (e - lt)) 100 else 999) := by
          rcases hb with ⟨q1, q2⟩ | ⟨q1, q2⟩
          · rw [if_pos q1, if_neg (by omega)]
          · rw [if_neg (by omega), if_pos q2]
        have fin : ∀ x : Int, jm_in x → x = (if bf = 0 then (999 : Int) else jm_div (jm_w (e - lt)) 100) → wp (gX12_speaks_146 fu A3 c e (N 0 0 1 * lap + (N 0 0 1 - 1)) (4 * c + N 45 0 c) x 3) (fun w N1 => QL M N r M1 w N1) := fun x ix hx => by
          have tr3 : TDr M A3 := tr.kr (m3.weak (fun f i k q => by unfold K38; omega))
          have tf3 : TDf M A3 := tf.kr (m3.weak (fun f i k q => by unfold K38; omega))
          refine wp_mono (d_speakEnd fu A3 j3 c e _ (4 * c + N 45 0 c) x xW xV xY hc6 ⟨by omega, by omega⟩ ix iw (fun N1 i1 k1 => d_wetAt fu hfu iM i1 (tr3.kr (k1.weak (fun f i k q => by unfold K38; omega))) gW1) (fun N1 i1 k1 => d_slowAt fu hfu iM i1 (tf3.kr (k1.weak (fun f i k q => by unfold K38; omega))) gV1) (fun N1 i1 k1 => d_yellowAt fu hfu iM i1 (tf3.kr (k1.weak (fun f i k q => by unfold K38; omega))) gY1) hV hY) (fun w N1 q => ?_)
          obtain ⟨q1, q2, ⟨p0, p1, p2⟩, p3, p4, p5, p6, p7, p8, p9, p10, p11, p12⟩ := q
          obtain ⟨L0, L1, L2, L3, L4, L5, L6, L7, L8, L9, L10, L11, L12⟩ := L
          refine ⟨i1, q1, k1, fun f i k q => (q2 f i k q).trans (m3 f i k q), ?_, ?_, ?_, ?_, ?_, ?_, ?_, ?_, ?_, ?_, ?_, ?_, ?_⟩
          · rw [L0, p0, u3, jm_une_k (by decide), u2, jm_une_k (by decide), u1, jm_ueq]
          · rw [L1, p1, u3, jm_une_k (by decide), u2, jm_ueq, e1]
          · rw [L2, p2, u3, jm_ueq]
            exact jm_wid (by omega) (by omega)
          · rw [L3, p3, hx]
          · rw [L4, p4, m3 44 0 c (by unfold K38; decide), e8]
          · rw [L5, p5, m3 15 0 c (by unfold K38; decide), m3 0 0 1 (by unfold K38; decide), m3 0 0 2 (by unfold K38; decide), eb, e0, e1, (rt c hc.1 hc.2).1.1, hend, Int.mul_comm (N 0 0 2) (N 0 0 1), ww_g1]
          · rw [L6, p6, m3 46 0 _ (by unfold K38; decide), e9, ea]
          · rw [L7, p7, m3 20 0 _ (by unfold K38; decide), e9, ek]
          · rw [L8, p8]
          · rw [L9, p9]
          · rw [L10, p10]
          · rw [L11, p11, m3 49 0 c (by unfold K38; decide), es]
          · rw [L12, p12, m3 5 0 3 (by unfold K38; decide), m3 16 0 c (by unfold K38; decide), m3 58 0 _ (by unfold K38; decide), n8 3 (by decide) (by decide), et, ebf _ b16.1 (by omega)]
        refine wp_ite (fun q => fin _ (jm_w_in _) (by rw [ag, if_pos q])) (fun q => fin _ (jm_inL (by decide) (by decide)) (by rw [ag, if_neg q]))
      · have v2 : jm_w (jm_w (60 * l9) + (N 0 0 1 * lap + (N 0 0 1 - 1))) = 60 * l9 + (N 0 0 1 * lap + (N 0 0 1 - 1)) := by rw [jm_wid (x := 60 * l9) (by omega) (by omega)]; exact jm_wid (by omega) (by omega)
        rw [v2]
        have nx := ih bf lt (l9 + 1) (by omega) (by omega) hb0 (by omega) hb (by omega)
        refine J2.lF (by omega) (J2.lF (by omega) (J2.lT ⟨h0, by omega⟩ (J2.rF cc (J2.rT ⟨by omega, by omega⟩ (J2.re ?_)))))
        refine J2.lq (c_timeAt rt ⟨h0, by omega⟩ ⟨by omega, by omega⟩) (fun v5 z5 => ?_)
        obtain ⟨z5, z6⟩ := z5
        rw [← z5]
        by_cases s1 : l9 = c
        · exact J2.lT s1 (J2.rT s1 (J2.le' v1 (J2.re' v1 nx)))
        · refine J2.lF s1 (J2.rF s1 ?_)
          by_cases s2 : v5 = -1
          · exact J2.lT s2 (J2.rT (by omega) (J2.le' v1 (J2.re' v1 nx)))
          · refine J2.lF s2 (J2.rF (by omega) ?_)
            by_cases s3 : e < v5
            · exact J2.lT s3 (J2.rT s3 (J2.le' v1 (J2.re' v1 nx)))
            · have v3 : jm_w (bf + 1) = bf + 1 := jm_wid (by omega) (by omega)
              have v4 : jm_w (bf + 1 + 1) = bf + 1 + 1 := jm_wid (by omega) (by omega)
              have mx := jm_max_f lt v5
              refine J2.lF s3 (J2.rF s3 (J2.le' v3 (J2.le (J2.le' v1 (J2.re' v4 (J2.re (J2.re' v1 ?_)))))))
              exact ih (bf + 1) (jm_max lt v5) (l9 + 1) (by omega) (by omega) (by omega) (by omega) (Or.inr ⟨by omega, by omega⟩) (by omega)
  unfold fX2_setLetters fX12_speaks
  have lo : wp (fX9_lineOf M lap (jm_w (M 1 0 0 - 1))) (fun v M1 => M1 = M ∧ v = N 0 0 1 * lap + (N 0 0 1 - 1)) := by
    unfold fX9_lineOf
    exact wp_ret ⟨rfl, by rw [e0]; exact w1⟩
  refine J2.lq lo (fun v2 z2 => ?_)
  rw [z2]
  refine J2.re' w2 ?_
  have := lp fu 0 (-1) 0 (by omega) (by omega) (by omega) (by omega) (Or.inl ⟨rfl, rfl⟩) (by omega)
  exact this
