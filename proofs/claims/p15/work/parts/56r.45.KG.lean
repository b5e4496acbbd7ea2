/-! the race tried: what is told stands as before -/
/-- closed under what the race's run writes, and under what a result, a try writes -/
def CL1 (G : jm_M → Prop) : Prop := ∀ (M : jm_M) (f : Nat) (i k v : Int), (f = 9 ∨ (27 ≤ f ∧ f ≤ 34) ∨ (f = 2 ∧ k = 6)) → G M → G (jm_u M f i k v)
def CL2 (G : jm_M → Prop) : Prop := ∀ (M : jm_M) (f : Nat) (i k v : Int), (f = 5 ∨ f = 27 ∨ f = 28 ∨ (36 ≤ f ∧ f ≤ 45) ∨ f = 10 ∨ f = 13 ∨ f = 19 ∨ (f = 0 ∧ k = 9)) → G M → G (jm_u M f i k v)
def SM (M0 M : jm_M) : Prop := M = M0
theorem ra_fX2_goesAhead {G : jm_M → Prop} (hu : CL1 G) {M : jm_M} (r0 r1 : Int) (h : G M) : pw (fX2_goesAhead M r0 r1) (G) := by
  unfold fX2_goesAhead
  exact pw_ite (pw_ret h) (pw_ite (pw_ite (pw_ret h) (pw_ret h)) (pw_ret h))
theorem ra_gX2_nextToGo_4 {G : jm_M → Prop} (hu : CL1 G) (fu : Nat) (k4 : jm_M → Int → Int → jm_R) (hk4 : ∀ (M : jm_M) (b0 b1 : Int), G M → pw (k4 M b0 b1) (G)) {M : jm_M} (l1 l2 : Int) (h : G M) : pw (gX2_nextToGo_4 fu k4 M l1 l2) (G) := by
  unfold gX2_nextToGo_4
  exact pw_ite (pw_ret h) (pw_ite (pw_ret h) (pw_ite (pw_ite (pw_ite (pw_e (fun v8 => hk4 M l2 v8 h)) (pw_ite (pw_ite (pw_b (ra_fX2_goesAhead hu  l2 l1 h) (fun v12 M13 h13 => pw_ite (pw_e (fun v16 => hk4 M13 l1 v16 h13)) (pw_e (fun v18 => hk4 M13 l2 v18 h13)))) (pw_none)) (pw_none))) (pw_e (fun v20 => hk4 M l1 v20 h))) (pw_none)))
theorem ra_fX2_nextToGo_4 {G : jm_M → Prop} (hu : CL1 G) (fu : Nat) : ∀ (n : Nat) {M : jm_M} (a0 a1 : Int), G M → pw (fX2_nextToGo_4 fu n M a0 a1) (G) := by
  intro n
  induction n with
  | zero => intro M a0 a1 h; exact pw_none
  | succ n ih =>
    intro M a0 a1 h
    exact ra_gX2_nextToGo_4 hu fu (fX2_nextToGo_4 fu n) (fun M a0 a1 h => ih a0 a1 h) a0 a1 h
theorem ra_fX2_nextToGo {G : jm_M → Prop} (hu : CL1 G) (fu : Nat) {M : jm_M} (h : G M) : pw (fX2_nextToGo fu M ) (G) := by
  unfold fX2_nextToGo
  exact ra_fX2_nextToGo_4 hu fu fu (-1) 0 h
theorem ra_fX11_isIndex {G : jm_M → Prop} (hu : CL1 G) {M : jm_M} (l0 l1 : Int) (h : G M) : pw (fX11_isIndex M l0 l1) (G) := by
  unfold fX11_isIndex
  exact pw_ite (pw_ret h) (pw_ite (pw_ret h) (pw_ret h))
theorem ra_fX2_has {G : jm_M → Prop} (hu : CL1 G) {M : jm_M} (l1 : Int) (h : G M) : pw (fX2_has M l1) (G) := by
  unfold fX2_has
  exact pw_b (ra_fX11_isIndex hu  l1 (M 2 0 5) h) (fun v2 M3 h3 => pw_ite (pw_ret h3) (pw_ite (pw_ret h3) (pw_ret h3)))
theorem ra_fX9_sectorOf {G : jm_M → Prop} (hu : CL1 G) {M : jm_M} (l1 : Int) (h : G M) : pw (fX9_sectorOf M l1) (G) := by
  unfold fX9_sectorOf
  exact pw_ite (pw_ret h) (pw_ite (pw_ret h) (pw_none))
theorem ra_fX7_cell {G : jm_M → Prop} (hu : CL1 G) {M : jm_M} (r0 l1 l2 : Int) (h : G M) : pw (fX7_cell M r0 l1 l2) (G) := by
  unfold fX7_cell
  exact pw_ite (pw_ret h) (pw_ite (pw_ret h) (pw_ite (pw_ret h) (pw_ite (pw_ite (pw_ret h) (pw_none)) (pw_ret h))))
theorem ra_gX2_hear_3 {G : jm_M → Prop} (hu : CL1 G) (fu : Nat) (k3 : jm_M → Int → Int → Int → Int → jm_R) (hk3 : ∀ (M : jm_M) (b0 b1 b2 b3 : Int), G M → pw (k3 M b0 b1 b2 b3) (G)) {M : jm_M} (r1 r2 l3 l4 : Int) (h : G M) : pw (gX2_hear_3 fu k3 M r1 r2 l3 l4) (G) := by
  unfold gX2_hear_3
  exact pw_ite (pw_ret h) (pw_b (ra_fX7_cell hu  (r1 + 6) l4 0 h) (fun v3 M4 h4 => pw_ite (pw_ite (pw_b (ra_fX7_cell hu  (r1 + 6) l4 1 h4) (fun v10 M11 h11 => pw_ite (pw_b (ra_fX7_cell hu  (r1 + 6) l4 2 h11) (fun v14 M15 h15 => pw_s (P := G) (hu _ _ _ _ _ (Or.inl rfl) h15) (fun M17 h17 => pw_e (fun v18 => hk3 M17 r1 r2 l3 v18 h17)))) (pw_b (ra_fX7_cell hu  (r1 + 6) l4 2 h11) (fun v20 M21 h21 => pw_s (P := G) (hu _ _ _ _ _ (Or.inl rfl) h21) (fun M23 h23 => pw_e (fun v24 => hk3 M23 r1 r2 l3 v24 h23)))))) (pw_e (fun v26 => hk3 M4 r1 r2 l3 v26 h4))) (pw_none)))
theorem ra_fX2_hear_3 {G : jm_M → Prop} (hu : CL1 G) (fu : Nat) : ∀ (n : Nat) {M : jm_M} (a0 a1 a2 a3 : Int), G M → pw (fX2_hear_3 fu n M a0 a1 a2 a3) (G) := by
  intro n
  induction n with
  | zero => intro M a0 a1 a2 a3 h; exact pw_none
  | succ n ih =>
    intro M a0 a1 a2 a3 h
    exact ra_gX2_hear_3 hu fu (fX2_hear_3 fu n) (fun M a0 a1 a2 a3 h => ih a0 a1 a2 a3 h) a0 a1 a2 a3 h
theorem ra_fX2_hear {G : jm_M → Prop} (hu : CL1 G) (fu : Nat) {M : jm_M} (r1 r2 l3 : Int) (h : G M) : pw (fX2_hear fu M r1 r2 l3) (G) := by
  unfold fX2_hear
  exact ra_fX2_hear_3 hu fu fu r1 r2 l3 0 h
theorem ra_gX9_slowAt_2 {G : jm_M → Prop} (hu : CL1 G) (fu : Nat) (k2 : jm_M → Int → Int → jm_R) (hk2 : ∀ (M : jm_M) (b0 b1 : Int), G M → pw (k2 M b0 b1) (G)) {M : jm_M} (l1 l2 : Int) (h : G M) : pw (gX9_slowAt_2 fu k2 M l1 l2) (G) := by
  unfold gX9_slowAt_2
  exact pw_ite (pw_ret h) (pw_b (ra_fX7_cell hu  31 l2 3 h) (fun v3 M4 h4 => pw_ite (pw_b (ra_fX7_cell hu  31 l2 1 h4) (fun v7 M8 h8 => pw_ite (pw_e (fun v11 => hk2 M8 l1 v11 h8)) (pw_b (ra_fX7_cell hu  31 l2 2 h8) (fun v13 M14 h14 => pw_ite (pw_e (fun v17 => hk2 M14 l1 v17 h14)) (pw_ret h14))))) (pw_e (fun v19 => hk2 M4 l1 v19 h4))))
theorem ra_fX9_slowAt_2 {G : jm_M → Prop} (hu : CL1 G) (fu : Nat) : ∀ (n : Nat) {M : jm_M} (a0 a1 : Int), G M → pw (fX9_slowAt_2 fu n M a0 a1) (G) := by
  intro n
  induction n with
  | zero => intro M a0 a1 h; exact pw_none
  | succ n ih =>
    intro M a0 a1 h
    exact ra_gX9_slowAt_2 hu fu (fX9_slowAt_2 fu n) (fun M a0 a1 h => ih a0 a1 h) a0 a1 h
theorem ra_fX9_slowAt {G : jm_M → Prop} (hu : CL1 G) (fu : Nat) {M : jm_M} (l1 : Int) (h : G M) : pw (fX9_slowAt fu M l1) (G) := by
  unfold fX9_slowAt
  exact ra_fX9_slowAt_2 hu fu fu l1 0 h
theorem ra_fX6_age {G : jm_M → Prop} (hu : CL1 G) {M : jm_M} (r0 : Int) (h : G M) : pw (fX6_age M r0) (G) := by
  unfold fX6_age
  exact pw_b (ra_fX11_isIndex hu  (M 9 r0 9) 4 h) (fun v2 M3 h3 => pw_ite (pw_ret h3) (pw_ite (pw_ret h3) (pw_none)))
theorem ra_gX9_wetAt_8 {G : jm_M → Prop} (hu : CL1 G) (fu : Nat) (k8 : jm_M → Int → Int → Int → Int → Int → jm_R) (hk8 : ∀ (M : jm_M) (b0 b1 b2 b3 b4 : Int), G M → pw (k8 M b0 b1 b2 b3 b4) (G)) {M : jm_M} (l1 l2 l3 l4 l5 : Int) (h : G M) : pw (gX9_wetAt_8 fu k8 M l1 l2 l3 l4 l5) (G) := by
  unfold gX9_wetAt_8
  exact pw_ite (pw_ret h) (pw_b (ra_fX7_cell hu  30 l5 1 h) (fun v3 M4 h4 => pw_b (ra_fX7_cell hu  30 l5 0 h4) (fun v6 M7 h7 => pw_ite (pw_ite (pw_e (fun v11 => hk8 M7 l1 l2 l3 l4 v11 h7)) (pw_ite (pw_e (fun v14 => hk8 M7 l1 l2 l3 l4 v14 h7)) (pw_b (ra_fX7_cell hu  30 l5 2 h7) (fun v16 M17 h17 => pw_e (fun v19 => hk8 M17 l1 l2 v16 v3 v19 h17))))) (pw_e (fun v21 => hk8 M7 l1 l2 l3 l4 v21 h7)))))
theorem ra_fX9_wetAt_8 {G : jm_M → Prop} (hu : CL1 G) (fu : Nat) : ∀ (n : Nat) {M : jm_M} (a0 a1 a2 a3 a4 : Int), G M → pw (fX9_wetAt_8 fu n M a0 a1 a2 a3 a4) (G) := by
  intro n
  induction n with
  | zero => intro M a0 a1 a2 a3 a4 h; exact pw_none
  | succ n ih =>
    intro M a0 a1 a2 a3 a4 h
    exact ra_gX9_wetAt_8 hu fu (fX9_wetAt_8 fu n) (fun M a0 a1 a2 a3 a4 h => ih a0 a1 a2 a3 a4 h) a0 a1 a2 a3 a4 h
theorem ra_fX9_wetAt {G : jm_M → Prop} (hu : CL1 G) (fu : Nat) {M : jm_M} (l1 l2 : Int) (h : G M) : pw (fX9_wetAt fu M l1 l2) (G) := by
  unfold fX9_wetAt
  exact ra_fX9_wetAt_8 hu fu fu l1 l2 0 0 0 h
theorem ra_fX9_tyreNumber {G : jm_M → Prop} (hu : CL1 G) {M : jm_M} (l1 l2 : Int) (h : G M) : pw (fX9_tyreNumber M l1 l2) (G) := by
  unfold fX9_tyreNumber
  exact pw_b (ra_fX11_isIndex hu  l1 4 h) (fun v1 M2 h2 => pw_ite (pw_ret h2) (pw_b (ra_fX11_isIndex hu  l2 6 h2) (fun v5 M6 h6 => pw_ite (pw_ret h6) (pw_ite (pw_ret h6) (pw_none)))))
theorem ra_gX2_freeTime_136 {G : jm_M → Prop} (hu : CL1 G) (fu : Nat) {M : jm_M} (r2 l5 l7 l8 : Int) (h : G M) : pw (gX2_freeTime_136 fu M r2 l5 l7 l8) (G) := by
  unfold gX2_freeTime_136
  exact pw_b (ra_fX9_tyreNumber hu  l5 5 h) (fun v1 M2 h2 => pw_ite (pw_e (fun v7 => pw_ret h2)) (pw_none))
theorem ra_fX2_freeTime {G : jm_M → Prop} (hu : CL1 G) (fu : Nat) {M : jm_M} (r1 r2 l3 l4 : Int) (h : G M) : pw (fX2_freeTime fu M r1 r2 l3 l4) (G) := by
  unfold fX2_freeTime
  exact pw_b (ra_fX7_cell hu  r1 (M 9 r2 9) 0 h) (fun v2 M3 h3 => pw_b (ra_fX6_age hu  r2 h3) (fun v5 M6 h6 => pw_b (ra_fX9_wetAt hu fu l3 l4 h6) (fun v8 M9 h9 => pw_b (ra_fX9_tyreNumber hu  v2 4 h9) (fun v11 M12 h12 => pw_e (fun v14 => pw_ite (pw_ite (pw_e (fun v22 => pw_b (ra_fX9_tyreNumber hu  v2 0 h12) (fun v24 M25 h25 => pw_b (ra_fX9_tyreNumber hu  v2 1 h25) (fun v27 M28 h28 => pw_e (fun v30 => pw_b (ra_fX9_tyreNumber hu  v2 2 h28) (fun v32 M33 h33 => pw_ite (ra_gX2_freeTime_136 hu fu r2 v2 v14 v30 h33) (pw_b (ra_fX9_tyreNumber hu  v2 3 h33) (fun v36 M37 h37 => pw_e (fun v39 => ra_gX2_freeTime_136 hu fu r2 v2 v14 v39 h37))))))))) (pw_none)) (pw_none))))))
theorem ra_fX6_wear {G : jm_M → Prop} (hu : CL1 G) {M : jm_M} (r0 : Int) (h : G M) : pw (fX6_wear M r0) (G) := by
  unfold fX6_wear
  exact pw_b (ra_fX11_isIndex hu  (M 9 r0 9) 4 h) (fun v2 M3 h3 => pw_ite (pw_ret h3) (pw_ite (pw_ite (pw_ite (pw_s (P := G) (hu _ _ _ _ _ (Or.inr (Or.inl ⟨by decide, by decide⟩)) h3) (fun M12 h12 => pw_ret h12)) (pw_none)) (pw_ite (pw_s (P := G) (hu _ _ _ _ _ (Or.inr (Or.inl ⟨by decide, by decide⟩)) h3) (fun M14 h14 => pw_ret h14)) (pw_none))) (pw_none)))
theorem ra_gX2_latestBefore_9 {G : jm_M → Prop} (hu : CL1 G) (fu : Nat) (k9 : jm_M → Int → Int → Int → Int → Int → Int → jm_R) (hk9 : ∀ (M : jm_M) (b0 b1 b2 b3 b4 b5 : Int), G M → pw (k9 M b0 b1 b2 b3 b4 b5) (G)) {M : jm_M} (l1 l2 l3 l4 l5 l6 : Int) (h : G M) : pw (gX2_latestBefore_9 fu k9 M l1 l2 l3 l4 l5 l6) (G) := by
  unfold gX2_latestBefore_9
  exact pw_ite (pw_ret h) (pw_ite (pw_ret h) (pw_ite (pw_ite (pw_e (fun v7 => pw_ite (pw_e (fun v10 => hk9 M l1 l2 l3 l4 l5 v10 h)) (pw_ite (pw_e (fun v13 => hk9 M l1 l2 l3 l4 l5 v13 h)) (pw_ite (pw_e (fun v16 => hk9 M l1 l2 l3 l4 l5 v16 h)) (pw_e (fun v18 => hk9 M l1 l2 l3 l6 v7 v18 h)))))) (pw_none)) (pw_none)))
theorem ra_fX2_latestBefore_9 {G : jm_M → Prop} (hu : CL1 G) (fu : Nat) : ∀ (n : Nat) {M : jm_M} (a0 a1 a2 a3 a4 a5 : Int), G M → pw (fX2_latestBefore_9 fu n M a0 a1 a2 a3 a4 a5) (G) := by
  intro n
  induction n with
  | zero => intro M a0 a1 a2 a3 a4 a5 h; exact pw_none
  | succ n ih =>
    intro M a0 a1 a2 a3 a4 a5 h
    exact ra_gX2_latestBefore_9 hu fu (fX2_latestBefore_9 fu n) (fun M a0 a1 a2 a3 a4 a5 h => ih a0 a1 a2 a3 a4 a5 h) a0 a1 a2 a3 a4 a5 h
theorem ra_fX2_latestBefore {G : jm_M → Prop} (hu : CL1 G) (fu : Nat) {M : jm_M} (l1 l2 l3 : Int) (h : G M) : pw (fX2_latestBefore fu M l1 l2 l3) (G) := by
  unfold fX2_latestBefore
  exact ra_fX2_latestBefore_9 hu fu fu l1 l2 l3 (-1) 0 0 h
theorem ra_gX9_yellowAt_46 {G : jm_M → Prop} (hu : CL1 G) (fu : Nat) (k2 : jm_M → Int → Int → Int → jm_R) (hk2 : ∀ (M : jm_M) (b0 b1 b2 : Int), G M → pw (k2 M b0 b1 b2) (G)) {M : jm_M} (l1 l2 l3 s0 : Int) (h : G M) : pw (gX9_yellowAt_46 fu k2 M l1 l2 l3 s0) (G) := by
  unfold gX9_yellowAt_46
  exact pw_ite (pw_e (fun v2 => hk2 M l1 l2 v2 h)) (pw_b (ra_fX7_cell hu  31 l3 3 h) (fun v4 M5 h5 => pw_ite (pw_b (ra_fX7_cell hu  31 l3 1 h5) (fun v8 M9 h9 => pw_ite (pw_e (fun v12 => hk2 M9 l1 l2 v12 h9)) (pw_b (ra_fX7_cell hu  31 l3 2 h9) (fun v14 M15 h15 => pw_ite (pw_e (fun v18 => hk2 M15 l1 l2 v18 h15)) (pw_ret h15))))) (pw_e (fun v20 => hk2 M5 l1 l2 v20 h5))))
theorem ra_gX9_yellowAt_2 {G : jm_M → Prop} (hu : CL1 G) (fu : Nat) (k2 : jm_M → Int → Int → Int → jm_R) (hk2 : ∀ (M : jm_M) (b0 b1 b2 : Int), G M → pw (k2 M b0 b1 b2) (G)) {M : jm_M} (l1 l2 l3 : Int) (h : G M) : pw (gX9_yellowAt_2 fu k2 M l1 l2 l3) (G) := by
  unfold gX9_yellowAt_2
  exact pw_ite (pw_ret h) (pw_b (ra_fX7_cell hu  31 l3 0 h) (fun v3 M4 h4 => pw_ite (ra_gX9_yellowAt_46 hu fu k2 hk2 l1 l2 l3 1 h4) (pw_ite (ra_gX9_yellowAt_46 hu fu k2 hk2 l1 l2 l3 1 h4) (pw_ite (ra_gX9_yellowAt_46 hu fu k2 hk2 l1 l2 l3 1 h4) (ra_gX9_yellowAt_46 hu fu k2 hk2 l1 l2 l3 0 h4)))))
theorem ra_fX9_yellowAt_2 {G : jm_M → Prop} (hu : CL1 G) (fu : Nat) : ∀ (n : Nat) {M : jm_M} (a0 a1 a2 : Int), G M → pw (fX9_yellowAt_2 fu n M a0 a1 a2) (G) := by
  intro n
  induction n with
  | zero => intro M a0 a1 a2 h; exact pw_none
  | succ n ih =>
    intro M a0 a1 a2 h
    exact ra_gX9_yellowAt_2 hu fu (fX9_yellowAt_2 fu n) (fun M a0 a1 a2 h => ih a0 a1 a2 h) a0 a1 a2 h
theorem ra_fX9_yellowAt {G : jm_M → Prop} (hu : CL1 G) (fu : Nat) {M : jm_M} (l1 l2 : Int) (h : G M) : pw (fX9_yellowAt fu M l1 l2) (G) := by
  unfold fX9_yellowAt
  exact ra_fX9_yellowAt_2 hu fu fu l1 l2 0 h
theorem ra_gX2_passes_93 {G : jm_M → Prop} (hu : CL1 G) (fu : Nat) {M : jm_M} (r1 : Int) (h : G M) : pw (gX2_passes_93 fu M r1) (G) := by
  unfold gX2_passes_93
  exact pw_ite (pw_ret h) (pw_s (P := G) (hu _ _ _ _ _ (Or.inl rfl) h) (fun M4 h4 => pw_s (P := G) (hu _ _ _ _ _ (Or.inl rfl) h4) (fun M6 h6 => pw_ret h6)))
theorem ra_gX2_passes_44 {G : jm_M → Prop} (hu : CL1 G) (fu : Nat) {M : jm_M} (r1 r2 l3 l4 l5 s0 : Int) (h : G M) : pw (gX2_passes_44 fu M r1 r2 l3 l4 l5 s0) (G) := by
  unfold gX2_passes_44
  exact pw_ite (pw_ret h) (pw_ite (pw_ite (pw_b (ra_fX9_yellowAt hu fu l3 l4 h) (fun v5 M6 h6 => pw_ite (pw_b (ra_fX9_slowAt hu fu l4 h6) (fun v9 M10 h10 => pw_ite (pw_s (P := G) (hu _ _ _ _ _ (Or.inl rfl) h10) (fun M14 h14 => pw_ret h14)) (ra_gX2_passes_93 hu fu r1 h10))) (ra_gX2_passes_93 hu fu r1 h6))) (pw_ret h)) (pw_none))
theorem ra_gX2_passes_24 {G : jm_M → Prop} (hu : CL1 G) (fu : Nat) {M : jm_M} (r1 r2 l3 l4 l5 s0 : Int) (h : G M) : pw (gX2_passes_24 fu M r1 r2 l3 l4 l5 s0) (G) := by
  unfold gX2_passes_24
  exact pw_ite (pw_ite (ra_gX2_passes_44 hu fu r1 r2 l3 l4 l5 (M 15 0 l3) h) (pw_none)) (ra_gX2_passes_44 hu fu r1 r2 l3 l4 l5 0 h)
theorem ra_fX2_passes {G : jm_M → Prop} (hu : CL1 G) (fu : Nat) {M : jm_M} (r1 r2 l3 l4 l5 : Int) (h : G M) : pw (fX2_passes fu M r1 r2 l3 l4 l5) (G) := by
  unfold fX2_passes
  exact pw_ite (ra_gX2_passes_24 hu fu r1 r2 l3 l4 l5 0 h) (ra_gX2_passes_24 hu fu r1 r2 l3 l4 l5 1 h)
theorem ra_gX2_heldEnd_9 {G : jm_M → Prop} (hu : CL1 G) (fu : Nat) (k9 : jm_M → Int → Int → Int → Int → Int → Int → jm_R) (hk9 : ∀ (M : jm_M) (b0 b1 b2 b3 b4 b5 : Int), G M → pw (k9 M b0 b1 b2 b3 b4 b5) (G)) {M : jm_M} (l1 l2 l3 l4 l5 l6 : Int) (h : G M) : pw (gX2_heldEnd_9 fu k9 M l1 l2 l3 l4 l5 l6) (G) := by
  unfold gX2_heldEnd_9
  exact pw_ite (pw_ret h) (pw_b (ra_fX2_latestBefore hu fu l1 l2 l5 h) (fun v2 M3 h3 => pw_b (ra_fX2_has hu  v2 h3) (fun v5 M6 h6 => pw_ite (pw_ret h6) (pw_ite (pw_ite (pw_ite (pw_e (fun v14 => pw_ite (pw_ite (pw_ite (pw_b (ra_fX2_passes hu fu l1 v2 l2 l3 l4 h6) (fun v19 M20 h20 => pw_ite (pw_ite (pw_s (P := G) (hu _ _ _ _ _ (Or.inl rfl) h20) (fun M25 h25 => pw_ret h25)) (pw_none)) (pw_ite (pw_ite (pw_e (fun v29 => pw_e (fun v31 => hk9 M20 l1 l2 l3 l4 v29 v31 h20))) (pw_none)) (pw_none)))) (pw_none)) (pw_none)) (pw_ret h6))) (pw_none)) (pw_none)) (pw_none)))))
theorem ra_fX2_heldEnd_9 {G : jm_M → Prop} (hu : CL1 G) (fu : Nat) : ∀ (n : Nat) {M : jm_M} (a0 a1 a2 a3 a4 a5 : Int), G M → pw (fX2_heldEnd_9 fu n M a0 a1 a2 a3 a4 a5) (G) := by
  intro n
  induction n with
  | zero => intro M a0 a1 a2 a3 a4 a5 h; exact pw_none
  | succ n ih =>
    intro M a0 a1 a2 a3 a4 a5 h
    exact ra_gX2_heldEnd_9 hu fu (fX2_heldEnd_9 fu n) (fun M a0 a1 a2 a3 a4 a5 h => ih a0 a1 a2 a3 a4 a5 h) a0 a1 a2 a3 a4 a5 h
theorem ra_fX2_heldEnd {G : jm_M → Prop} (hu : CL1 G) (fu : Nat) {M : jm_M} (l1 l2 l3 l4 : Int) (h : G M) : pw (fX2_heldEnd fu M l1 l2 l3 l4) (G) := by
  unfold fX2_heldEnd
  exact pw_e (fun v2 => ra_fX2_heldEnd_9 hu fu fu l1 l2 l3 l4 v2 0 h)
theorem ra_fX6_endLine {G : jm_M → Prop} (hu : CL1 G) {M : jm_M} (r0 l1 l2 l3 l4 : Int) (h : G M) : pw (fX6_endLine M r0 l1 l2 l3 l4) (G) := by
  unfold fX6_endLine
  exact pw_b (ra_fX11_isIndex hu  l1 60 h) (fun v1 M2 h2 => pw_ite (pw_ret h2) (pw_b (ra_fX11_isIndex hu  l2 5 h2) (fun v5 M6 h6 => pw_ite (pw_ret h6) (pw_ite (pw_s (P := G) (hu _ _ _ _ _ (Or.inr (Or.inl ⟨by decide, by decide⟩)) h6) (fun M10 h10 => pw_s (P := G) (hu _ _ _ _ _ (Or.inl rfl) h10) (fun M11 h11 => pw_ite (pw_s (P := G) (hu _ _ _ _ _ (Or.inr (Or.inl ⟨by decide, by decide⟩)) h11) (fun M13 h13 => pw_ite (pw_s (P := G) (hu _ _ _ _ _ (Or.inr (Or.inl ⟨by decide, by decide⟩)) h13) (fun M15 h15 => pw_s (P := G) (hu _ _ _ _ _ (Or.inl rfl) h15) (fun M16 h16 => pw_ret h16))) (pw_none))) (pw_none)))) (pw_none)))))
theorem ra_fX9_lapOf {G : jm_M → Prop} (hu : CL1 G) {M : jm_M} (l1 : Int) (h : G M) : pw (fX9_lapOf M l1) (G) := by
  unfold fX9_lapOf
  exact pw_ite (pw_ret h) (pw_ite (pw_ret h) (pw_none))
theorem ra_fX6_rest {G : jm_M → Prop} (hu : CL1 G) {M : jm_M} (r0 l1 l2 : Int) (h : G M) : pw (fX6_rest M r0 l1 l2) (G) := by
  unfold fX6_rest
  exact pw_s (P := G) (hu _ _ _ _ _ (Or.inl rfl) h) (fun M1 h1 => pw_s (P := G) (hu _ _ _ _ _ (Or.inl rfl) h1) (fun M2 h2 => pw_ret h2))
theorem ra_fX9_lineOf {G : jm_M → Prop} (hu : CL1 G) {M : jm_M} (l1 l2 : Int) (h : G M) : pw (fX9_lineOf M l1 l2) (G) := by
  unfold fX9_lineOf
  exact pw_ret h
theorem ra_fX6_timeAt {G : jm_M → Prop} (hu : CL1 G) {M : jm_M} (r0 l1 : Int) (h : G M) : pw (fX6_timeAt M r0 l1) (G) := by
  unfold fX6_timeAt
  exact pw_b (ra_fX11_isIndex hu  l1 (M 9 r0 2) h) (fun v2 M3 h3 => pw_ite (pw_ret h3) (pw_ite (pw_ret h3) (pw_none)))
theorem ra_gX2_isRaceWon_29 {G : jm_M → Prop} (hu : CL1 G) (fu : Nat) (k29 : jm_M → Int → Int → Int → Int → jm_R) (hk29 : ∀ (M : jm_M) (b0 b1 b2 b3 : Int), G M → pw (k29 M b0 b1 b2 b3) (G)) {M : jm_M} (l1 l2 l3 l4 : Int) (h : G M) : pw (gX2_isRaceWon_29 fu k29 M l1 l2 l3 l4) (G) := by
  unfold gX2_isRaceWon_29
  exact pw_ite (pw_ret h) (pw_ite (pw_ret h) (pw_ite (pw_b (ra_fX6_timeAt hu  l4 l3 h) (fun v5 M6 h6 => pw_ite (pw_e (fun v9 => hk29 M6 l1 l2 l3 v9 h6)) (pw_ite (pw_e (fun v12 => hk29 M6 l1 l2 l3 v12 h6)) (pw_ite (pw_e (fun v15 => hk29 M6 l1 l2 l3 v15 h6)) (pw_ret h6))))) (pw_none)))
theorem ra_fX2_isRaceWon_29 {G : jm_M → Prop} (hu : CL1 G) (fu : Nat) : ∀ (n : Nat) {M : jm_M} (a0 a1 a2 a3 : Int), G M → pw (fX2_isRaceWon_29 fu n M a0 a1 a2 a3) (G) := by
  intro n
  induction n with
  | zero => intro M a0 a1 a2 a3 h; exact pw_none
  | succ n ih =>
    intro M a0 a1 a2 a3 h
    exact ra_gX2_isRaceWon_29 hu fu (fX2_isRaceWon_29 fu n) (fun M a0 a1 a2 a3 h => ih a0 a1 a2 a3 h) a0 a1 a2 a3 h
theorem ra_fX2_isRaceWon {G : jm_M → Prop} (hu : CL1 G) (fu : Nat) {M : jm_M} (l1 l2 : Int) (h : G M) : pw (fX2_isRaceWon fu M l1 l2) (G) := by
  unfold fX2_isRaceWon
  exact pw_b (ra_fX9_lineOf hu  (jm_w ((M 1 0 1) - 1)) (jm_w ((M 1 0 0) - 1)) h) (fun v3 M4 h4 => ra_fX2_isRaceWon_29 hu fu fu l1 l2 v3 0 h4)
theorem ra_fX1_isAsked {G : jm_M → Prop} (hu : CL1 G) {M : jm_M} (r0 : Int) (h : G M) : pw (fX1_isAsked M r0) (G) := by
  unfold fX1_isAsked
  exact pw_ite (pw_ret h) (pw_ite (pw_ret h) (pw_ret h))
theorem ra_fX1_stopsInForce {G : jm_M → Prop} (hu : CL1 G) {M : jm_M} (r0 : Int) (h : G M) : pw (fX1_stopsInForce M r0) (G) := by
  unfold fX1_stopsInForce
  exact pw_ite (pw_ret h) (pw_ret h)
theorem ra_gX1_stopBehind_12 {G : jm_M → Prop} (hu : CL1 G) (fu : Nat) (k12 : jm_M → Int → Int → Int → jm_R) (hk12 : ∀ (M : jm_M) (b0 b1 b2 : Int), G M → pw (k12 M b0 b1 b2) (G)) {M : jm_M} (l1 r2 l3 : Int) (h : G M) : pw (gX1_stopBehind_12 fu k12 M l1 r2 l3) (G) := by
  unfold gX1_stopBehind_12
  exact pw_ite (pw_ret h) (pw_b (ra_fX7_cell hu  r2 l3 0 h) (fun v2 M3 h3 => pw_ite (pw_ret h3) (pw_e (fun v6 => hk12 M3 l1 r2 v6 h3))))
theorem ra_fX1_stopBehind_12 {G : jm_M → Prop} (hu : CL1 G) (fu : Nat) : ∀ (n : Nat) {M : jm_M} (a0 a1 a2 : Int), G M → pw (fX1_stopBehind_12 fu n M a0 a1 a2) (G) := by
  intro n
  induction n with
  | zero => intro M a0 a1 a2 h; exact pw_none
  | succ n ih =>
    intro M a0 a1 a2 h
    exact ra_gX1_stopBehind_12 hu fu (fX1_stopBehind_12 fu n) (fun M a0 a1 a2 h => ih a0 a1 a2 h) a0 a1 a2 h
theorem ra_fX1_stopBehind {G : jm_M → Prop} (hu : CL1 G) (fu : Nat) {M : jm_M} (r0 l1 : Int) (h : G M) : pw (fX1_stopBehind fu M r0 l1) (G) := by
  unfold fX1_stopBehind
  exact pw_b (ra_fX1_stopsInForce hu  r0 h) (fun v1 M2 h2 => pw_e (fun v5 => ra_fX1_stopBehind_12 hu fu fu l1 v1 v5 h2))
theorem ra_fX2_freeFrom {G : jm_M → Prop} (hu : CL1 G) {M : jm_M} (l1 : Int) (h : G M) : pw (fX2_freeFrom M l1) (G) := by
  unfold fX2_freeFrom
  exact pw_b (ra_fX11_isIndex hu  l1 4 h) (fun v1 M2 h2 => pw_ite (pw_ret h2) (pw_ite (pw_ret h2) (pw_none)))
theorem ra_gX2_atBox_75 {G : jm_M → Prop} (hu : CL1 G) (fu : Nat) {M : jm_M} (r1 r2 l5 l6 l7 l8 : Int) (h : G M) : pw (gX2_atBox_75 fu M r1 r2 l5 l6 l7 l8) (G) := by
  unfold gX2_atBox_75
  exact pw_e (fun v3 => pw_ite (pw_e (fun v7 => pw_s (P := G) (hu _ _ _ _ _ (Or.inl rfl) h) (fun M10 h10 => pw_s (P := G) (hu _ _ _ _ _ (Or.inl rfl) h10) (fun M12 h12 => pw_s (P := G) (hu _ _ _ _ _ (Or.inl rfl) h12) (fun M14 h14 => pw_s (P := G) (hu _ _ _ _ _ (Or.inl rfl) h14) (fun M15 h15 => pw_b (ra_fX11_isIndex hu  (M15 8 r1 3) 4 h15) (fun v17 M18 h18 => pw_ite (pw_ret h18) (pw_ite (pw_s (P := G) (hu _ _ _ _ _ (Or.inr (Or.inl ⟨by decide, by decide⟩)) h18) (fun M23 h23 => pw_ret h23)) (pw_none))))))))) (pw_none))
theorem ra_fX2_atBox {G : jm_M → Prop} (hu : CL1 G) (fu : Nat) {M : jm_M} (r1 r2 l3 l4 l5 : Int) (h : G M) : pw (fX2_atBox fu M r1 r2 l3 l4 l5) (G) := by
  unfold fX2_atBox
  exact pw_ite (pw_e (fun v3 => pw_b (ra_fX2_freeFrom hu  (M 8 r1 3) h) (fun v6 M7 h7 => pw_e (fun v9 => pw_b (ra_fX11_isIndex hu  l4 (M7 10 r1 3) h7) (fun v12 M13 h13 => pw_ite (ra_gX2_atBox_75 hu fu r1 r2 l5 v3 v9 0 h13) (pw_ite (ra_gX2_atBox_75 hu fu r1 r2 l5 v3 v9 0 h13) (pw_ite (pw_e (fun v20 => pw_s (P := G) (hu _ _ _ _ _ (Or.inl rfl) h13) (fun M22 h22 => ra_gX2_atBox_75 hu fu r1 r2 l5 v3 v9 v20 h22))) (pw_none)))))))) (pw_none)
theorem ra_gX2_endLap_76 {G : jm_M → Prop} (hu : CL1 G) (fu : Nat) {M : jm_M} (r2 r3 l4 l5 l6 : Int) (h : G M) : pw (gX2_endLap_76 fu M r2 r3 l4 l5 l6) (G) := by
  unfold gX2_endLap_76
  exact pw_b (ra_fX1_stopBehind hu fu r2 l4 h) (fun v1 M2 h2 => pw_ite (pw_ite (pw_ret h2) (pw_b (ra_fX2_atBox hu fu r2 r3 l5 l6 200 h2) (fun v6 M7 h7 => pw_ret h7))) (pw_b (ra_fX1_stopsInForce hu  r2 h2) (fun v8 M9 h9 => pw_b (ra_fX7_cell hu  v8 v1 1 h9) (fun v11 M12 h12 => pw_b (ra_fX7_cell hu  v8 v1 2 h12) (fun v14 M15 h15 => pw_b (ra_fX2_atBox hu fu r2 r3 l5 v11 v14 h15) (fun v17 M18 h18 => pw_ret h18))))))
theorem ra_fX4_let {G : jm_M → Prop} (hu : CL1 G) {M : jm_M} (l1 l2 : Int) (h : G M) : pw (fX4_let M l1 l2) (G) := by
  unfold fX4_let
  exact pw_b (ra_fX11_isIndex hu  (jm_w (l1 - 97)) 26 h) (fun v1 M2 h2 => pw_ite (pw_ret h2) (pw_ite (pw_s (P := G) (hu _ _ _ _ _ (Or.inr (Or.inl ⟨by decide, by decide⟩)) h2) (fun M6 h6 => pw_ret h6)) (pw_none)))
theorem ra_gX2_setLetters_321 {G : jm_M → Prop} (hu : CL1 G) (fu : Nat) {M : jm_M} (r2 r3 l5 s0 s1 : Int) (h : G M) : pw (gX2_setLetters_321 fu M r2 r3 l5 s0 s1) (G) := by
  unfold gX2_setLetters_321
  exact pw_b (ra_fX4_let hu  s1 s0 h) (fun v1 M2 h2 => pw_b (ra_fX4_let hu  116 (M2 9 r3 5) h2) (fun v4 M5 h5 => pw_b (ra_fX2_freeFrom hu  (M5 8 r2 3) h5) (fun v7 M8 h8 => pw_ite (pw_ite (pw_b (ra_fX4_let hu  104 0 h8) (fun v13 M14 h14 => pw_ret h14)) (pw_b (ra_fX4_let hu  104 1 h8) (fun v15 M16 h16 => pw_ret h16))) (pw_none))))
theorem ra_gX2_setLetters_294 {G : jm_M → Prop} (hu : CL1 G) (fu : Nat) {M : jm_M} (r2 r3 l5 s0 s1 : Int) (h : G M) : pw (gX2_setLetters_294 fu M r2 r3 l5 s0 s1) (G) := by
  unfold gX2_setLetters_294
  exact pw_b (ra_fX4_let hu  s1 s0 h) (fun v1 M2 h2 => pw_b (ra_fX9_yellowAt hu fu (-1) l5 h2) (fun v3 M4 h4 => pw_ite (ra_gX2_setLetters_321 hu fu r2 r3 l5 0 121 h4) (ra_gX2_setLetters_321 hu fu r2 r3 l5 1 121 h4)))
theorem ra_gX2_setLetters_168 {G : jm_M → Prop} (hu : CL1 G) (fu : Nat) {M : jm_M} (r2 r3 l5 s0 s1 : Int) (h : G M) : pw (gX2_setLetters_168 fu M r2 r3 l5 s0 s1) (G) := by
  unfold gX2_setLetters_168
  exact pw_b (ra_fX4_let hu  s1 s0 h) (fun v1 M2 h2 => pw_b (ra_fX4_let hu  102 (M2 9 r3 8) h2) (fun v4 M5 h5 => pw_b (ra_fX4_let hu  110 (jm_w ((M5 8 r2 2) * (jm_w ((jm_w ((M5 1 0 1) * (M5 1 0 0))) - (M5 9 r3 2))))) h5) (fun v10 M11 h11 => pw_b (ra_fX6_age hu  r3 h11) (fun v12 M13 h13 => pw_b (ra_fX4_let hu  111 v12 h13) (fun v15 M16 h16 => pw_b (ra_fX7_cell hu  r2 (M16 9 r3 9) 0 h16) (fun v18 M19 h19 => pw_b (ra_fX4_let hu  107 v18 h19) (fun v21 M22 h22 => pw_b (ra_fX9_wetAt hu fu 0 l5 h22) (fun v23 M24 h24 => pw_b (ra_fX4_let hu  119 v23 h24) (fun v26 M27 h27 => pw_b (ra_fX9_slowAt hu fu l5 h27) (fun v28 M29 h29 => pw_ite (ra_gX2_setLetters_294 hu fu r2 r3 l5 0 118 h29) (ra_gX2_setLetters_294 hu fu r2 r3 l5 1 118 h29)))))))))))
theorem ra_gX2_setLetters_96 {G : jm_M → Prop} (hu : CL1 G) (fu : Nat) {M : jm_M} (r2 r3 l4 l5 l7 l8 : Int) (h : G M) : pw (gX2_setLetters_96 fu M r2 r3 l4 l5 l7 l8) (G) := by
  unfold gX2_setLetters_96
  exact pw_b (ra_fX4_let hu  108 (jm_w (l4 + 1)) h) (fun v1 M2 h2 => pw_b (ra_fX4_let hu  114 (jm_w ((jm_w ((M2 1 0 1) - l4)) - 1)) h2) (fun v4 M5 h5 => pw_b (ra_fX4_let hu  112 (jm_w (l7 + 1)) h5) (fun v6 M7 h7 => pw_ite (ra_gX2_setLetters_168 hu fu r2 r3 l5 999 97 h7) (ra_gX2_setLetters_168 hu fu r2 r3 l5 (jm_div (jm_w (l5 - l8)) 100) 97 h7))))
theorem ra_gX2_setLetters_29 {G : jm_M → Prop} (hu : CL1 G) (fu : Nat) (k29 : jm_M → Int → Int → Int → Int → Int → Int → Int → Int → Int → jm_R) (hk29 : ∀ (M : jm_M) (b0 b1 b2 b3 b4 b5 b6 b7 b8 : Int), G M → pw (k29 M b0 b1 b2 b3 b4 b5 b6 b7 b8) (G)) {M : jm_M} (l1 r2 r3 l4 l5 l6 l7 l8 l9 : Int) (h : G M) : pw (gX2_setLetters_29 fu k29 M l1 r2 r3 l4 l5 l6 l7 l8 l9) (G) := by
  unfold gX2_setLetters_29
  exact pw_ite (ra_gX2_setLetters_96 hu fu r2 r3 l4 l5 l7 l8 h) (pw_ite (ra_gX2_setLetters_96 hu fu r2 r3 l4 l5 l7 l8 h) (pw_ite (pw_b (ra_fX6_timeAt hu  l9 l6 h) (fun v5 M6 h6 => pw_ite (pw_e (fun v9 => hk29 M6 l1 r2 r3 l4 l5 l6 l7 l8 v9 h6)) (pw_ite (pw_e (fun v12 => hk29 M6 l1 r2 r3 l4 l5 l6 l7 l8 v12 h6)) (pw_ite (pw_e (fun v15 => hk29 M6 l1 r2 r3 l4 l5 l6 l7 l8 v15 h6)) (pw_e (fun v17 => pw_e (fun v19 => pw_e (fun v21 => hk29 M6 l1 r2 r3 l4 l5 l6 v17 v19 v21 h6)))))))) (pw_none)))
theorem ra_fX2_setLetters_29 {G : jm_M → Prop} (hu : CL1 G) (fu : Nat) : ∀ (n : Nat) {M : jm_M} (a0 a1 a2 a3 a4 a5 a6 a7 a8 : Int), G M → pw (fX2_setLetters_29 fu n M a0 a1 a2 a3 a4 a5 a6 a7 a8) (G) := by
  intro n
  induction n with
  | zero => intro M a0 a1 a2 a3 a4 a5 a6 a7 a8 h; exact pw_none
  | succ n ih =>
    intro M a0 a1 a2 a3 a4 a5 a6 a7 a8 h
    exact ra_gX2_setLetters_29 hu fu (fX2_setLetters_29 fu n) (fun M a0 a1 a2 a3 a4 a5 a6 a7 a8 h => ih a0 a1 a2 a3 a4 a5 a6 a7 a8 h) a0 a1 a2 a3 a4 a5 a6 a7 a8 h
theorem ra_fX2_setLetters {G : jm_M → Prop} (hu : CL1 G) (fu : Nat) {M : jm_M} (l1 r2 r3 l4 l5 : Int) (h : G M) : pw (fX2_setLetters fu M l1 r2 r3 l4 l5) (G) := by
  unfold fX2_setLetters
  exact pw_b (ra_fX9_lineOf hu  l4 (jm_w ((M 1 0 0) - 1)) h) (fun v2 M3 h3 => ra_fX2_setLetters_29 hu fu fu l1 r2 r3 l4 l5 v2 0 (-1) 0 h3)
theorem ra_fX4_join {G : jm_M → Prop} (hu : CL1 G) {M : jm_M} (l0 l1 l2 : Int) (h : G M) : pw (fX4_join M l0 l1 l2) (G) := by
  unfold fX4_join
  exact pw_ite (pw_ite (pw_ret h) (pw_ite (pw_ret h) (pw_ret h))) (pw_ite (pw_ret h) (pw_ite (pw_ret h) (pw_ite (pw_ite (pw_ret h) (pw_ret h)) (pw_ite (pw_ite (pw_ret h) (pw_ret h)) (pw_ite (pw_ite (pw_ret h) (pw_ret h)) (pw_ite (pw_ite (pw_ite (pw_ret h) (pw_ret h)) (pw_ret h)) (pw_ret h)))))))
theorem ra_gX4_holds_163 {G : jm_M → Prop} (hu : CL1 G) (fu : Nat) (k47 : jm_M → Int → Int → Int → Int → Int → jm_R) (hk47 : ∀ (M : jm_M) (b0 b1 b2 b3 b4 : Int), G M → pw (k47 M b0 b1 b2 b3 b4) (G)) {M : jm_M} (r1 l3 l4 l5 l6 l7 : Int) (h : G M) : pw (gX4_holds_163 fu k47 M r1 l3 l4 l5 l6 l7) (G) := by
  unfold gX4_holds_163
  exact pw_ite (pw_e (fun v2 => hk47 M r1 l3 l4 l5 v2 h)) (pw_e (fun v4 => pw_ite (pw_ite (pw_b (ra_fX4_join hu  (jm_w (l7 - 2000)) (M 28 0 v4) (M 28 0 (jm_w (v4 + 1))) h) (fun v10 M11 h11 => pw_ite (pw_s (P := G) (hu _ _ _ _ _ (Or.inr (Or.inl ⟨by decide, by decide⟩)) h11) (fun M14 h14 => pw_e (fun v15 => hk47 M14 r1 l3 l4 v4 v15 h14))) (pw_none))) (pw_none)) (pw_none)))
theorem ra_gX4_holds_119 {G : jm_M → Prop} (hu : CL1 G) (fu : Nat) (k47 : jm_M → Int → Int → Int → Int → Int → jm_R) (hk47 : ∀ (M : jm_M) (b0 b1 b2 b3 b4 : Int), G M → pw (k47 M b0 b1 b2 b3 b4) (G)) {M : jm_M} (r1 l3 l4 l5 l6 l7 : Int) (h : G M) : pw (gX4_holds_119 fu k47 M r1 l3 l4 l5 l6 l7) (G) := by
  unfold gX4_holds_119
  exact pw_ite (pw_ite (pw_ite (pw_s (P := G) (hu _ _ _ _ _ (Or.inr (Or.inl ⟨by decide, by decide⟩)) h) (fun M5 h5 => pw_e (fun v6 => hk47 M5 r1 l3 l4 l5 v6 h5))) (pw_none)) (pw_none)) (pw_ite (pw_ite (pw_ite (pw_s (P := G) (hu _ _ _ _ _ (Or.inr (Or.inl ⟨by decide, by decide⟩)) h) (fun M12 h12 => pw_e (fun v13 => hk47 M12 r1 l3 l4 l5 v13 h12))) (pw_none)) (pw_ite (pw_s (P := G) (hu _ _ _ _ _ (Or.inr (Or.inl ⟨by decide, by decide⟩)) h) (fun M16 h16 => pw_e (fun v17 => hk47 M16 r1 l3 l4 l5 v17 h16))) (pw_none))) (pw_none))
theorem ra_fX4_valueOf {G : jm_M → Prop} (hu : CL1 G) {M : jm_M} (l1 : Int) (h : G M) : pw (fX4_valueOf M l1) (G) := by
  unfold fX4_valueOf
  exact pw_ite (pw_e (fun v2 => pw_ite (pw_ret h) (pw_ite (pw_ret h) (pw_none)))) (pw_ret h)
theorem ra_gX4_holds_47 {G : jm_M → Prop} (hu : CL1 G) (fu : Nat) (k47 : jm_M → Int → Int → Int → Int → Int → jm_R) (hk47 : ∀ (M : jm_M) (b0 b1 b2 b3 b4 : Int), G M → pw (k47 M b0 b1 b2 b3 b4) (G)) {M : jm_M} (r1 l3 l4 l5 l6 : Int) (h : G M) : pw (gX4_holds_47 fu k47 M r1 l3 l4 l5 l6) (G) := by
  unfold gX4_holds_47
  exact pw_ite (pw_ite (pw_ret h) (pw_ite (pw_ite (pw_ret h) (pw_ret h)) (pw_none))) (pw_ite (pw_e (fun v8 => pw_ite (pw_ite (ra_gX4_holds_163 hu fu k47 hk47 r1 l3 l4 l5 l6 v8 h) (pw_ite (ra_gX4_holds_119 hu fu k47 hk47 r1 l3 l4 l5 l6 v8 h) (pw_ite (ra_gX4_holds_119 hu fu k47 hk47 r1 l3 l4 l5 l6 v8 h) (ra_gX4_holds_163 hu fu k47 hk47 r1 l3 l4 l5 l6 v8 h)))) (pw_e (fun v14 => pw_b (ra_fX4_valueOf hu  v8 h) (fun v16 M17 h17 => pw_ite (pw_s (P := G) (hu _ _ _ _ _ (Or.inr (Or.inl ⟨by decide, by decide⟩)) h17) (fun M20 h20 => pw_e (fun v21 => hk47 M20 r1 l3 l4 v14 v21 h20))) (pw_none)))))) (pw_none))
theorem ra_fX4_holds_47 {G : jm_M → Prop} (hu : CL1 G) (fu : Nat) : ∀ (n : Nat) {M : jm_M} (a0 a1 a2 a3 a4 : Int), G M → pw (fX4_holds_47 fu n M a0 a1 a2 a3 a4) (G) := by
  intro n
  induction n with
  | zero => intro M a0 a1 a2 a3 a4 h; exact pw_none
  | succ n ih =>
    intro M a0 a1 a2 a3 a4 h
    exact ra_gX4_holds_47 hu fu (fX4_holds_47 fu n) (fun M a0 a1 a2 a3 a4 h => ih a0 a1 a2 a3 a4 h) a0 a1 a2 a3 a4 h
theorem ra_gX4_holds_27 {G : jm_M → Prop} (hu : CL1 G) (fu : Nat) {M : jm_M} (r1 l2 s0 : Int) (h : G M) : pw (gX4_holds_27 fu M r1 l2 s0) (G) := by
  unfold gX4_holds_27
  exact pw_ite (pw_e (fun v3 => ra_fX4_holds_47 hu fu fu r1 s0 v3 (-1) s0 h)) (pw_none)
theorem ra_fX4_holds {G : jm_M → Prop} (hu : CL1 G) (fu : Nat) {M : jm_M} (r1 l2 : Int) (h : G M) : pw (fX4_holds fu M r1 l2) (G) := by
  unfold fX4_holds
  exact pw_b (ra_fX11_isIndex hu  l2 21 h) (fun v1 M2 h2 => pw_ite (pw_ret h2) (pw_ite (ra_gX4_holds_27 hu fu r1 l2 0 h2) (pw_ite (ra_gX4_holds_27 hu fu r1 l2 (M2 21 r1 (jm_w (l2 - 1))) h2) (pw_none))))
theorem ra_gX4_firstTrue_2 {G : jm_M → Prop} (hu : CL1 G) (fu : Nat) (k2 : jm_M → Int → Int → jm_R) (hk2 : ∀ (M : jm_M) (b0 b1 : Int), G M → pw (k2 M b0 b1) (G)) {M : jm_M} (r1 l2 : Int) (h : G M) : pw (gX4_firstTrue_2 fu k2 M r1 l2) (G) := by
  unfold gX4_firstTrue_2
  exact pw_ite (pw_ret h) (pw_b (ra_fX4_holds hu fu r1 l2 h) (fun v3 M4 h4 => pw_ite (pw_e (fun v7 => hk2 M4 r1 v7 h4)) (pw_ret h4)))
theorem ra_fX4_firstTrue_2 {G : jm_M → Prop} (hu : CL1 G) (fu : Nat) : ∀ (n : Nat) {M : jm_M} (a0 a1 : Int), G M → pw (fX4_firstTrue_2 fu n M a0 a1) (G) := by
  intro n
  induction n with
  | zero => intro M a0 a1 h; exact pw_none
  | succ n ih =>
    intro M a0 a1 h
    exact ra_gX4_firstTrue_2 hu fu (fX4_firstTrue_2 fu n) (fun M a0 a1 h => ih a0 a1 h) a0 a1 h
theorem ra_fX4_firstTrue {G : jm_M → Prop} (hu : CL1 G) (fu : Nat) {M : jm_M} (r1 : Int) (h : G M) : pw (fX4_firstTrue fu M r1) (G) := by
  unfold fX4_firstTrue
  exact ra_fX4_firstTrue_2 hu fu fu r1 0 h
theorem ra_gX2_follow_48 {G : jm_M → Prop} (hu : CL1 G) (fu : Nat) {M : jm_M} (r0 l1 r2 : Int) (h : G M) : pw (gX2_follow_48 fu M r0 l1 r2) (G) := by
  unfold gX2_follow_48
  exact pw_ite (pw_ite (pw_ite (pw_ret h) (pw_none)) (pw_ite (pw_s (P := G) (hu _ _ _ _ _ (Or.inl rfl) h) (fun M8 h8 => pw_ite (pw_ret h8) (pw_none))) (pw_none))) (pw_none)
theorem ra_fX2_follow {G : jm_M → Prop} (hu : CL1 G) (fu : Nat) {M : jm_M} (r0 l1 r2 l3 : Int) (h : G M) : pw (fX2_follow fu M r0 l1 r2 l3) (G) := by
  unfold fX2_follow
  exact pw_b (ra_fX11_isIndex hu  l1 21 h) (fun v1 M2 h2 => pw_ite (pw_ret h2) (pw_b (ra_fX11_isIndex hu  l3 12 h2) (fun v5 M6 h6 => pw_ite (pw_ret h6) (pw_ite (pw_s (P := G) (hu _ _ _ _ _ (Or.inr (Or.inl ⟨by decide, by decide⟩)) h6) (fun M10 h10 => pw_ite (pw_ite (ra_gX2_follow_48 hu fu r0 l1 r2 h10) (pw_ite (pw_s (P := G) (hu _ _ _ _ _ (Or.inl rfl) h10) (fun M16 h16 => ra_gX2_follow_48 hu fu r0 l1 r2 h16)) (pw_none))) (pw_none))) (pw_none)))))
theorem ra_fX2_endLap {G : jm_M → Prop} (hu : CL1 G) (fu : Nat) {M : jm_M} (l1 r2 r3 l4 l5 : Int) (h : G M) : pw (fX2_endLap fu M l1 r2 r3 l4 l5) (G) := by
  unfold fX2_endLap
  exact pw_ite (pw_b (ra_fX6_rest hu  r3 1 l5 h) (fun v3 M4 h4 => pw_ret h4)) (pw_b (ra_fX2_isRaceWon hu fu l1 l5 h) (fun v5 M6 h6 => pw_ite (pw_b (ra_fX1_isAsked hu  r2 h6) (fun v9 M10 h10 => pw_ite (ra_gX2_endLap_76 hu fu r2 r3 l4 l5 (-1) h10) (pw_b (ra_fX2_setLetters hu fu l1 r2 r3 l4 l5 h10) (fun v13 M14 h14 => pw_ite (pw_ite (pw_b (ra_fX4_firstTrue hu fu (M14 8 r2 11) h14) (fun v17 M18 h18 => pw_b (ra_fX2_follow hu fu (M14 8 r2 11) v17 r3 l4 h18) (fun v20 M21 h21 => ra_gX2_endLap_76 hu fu r2 r3 l4 l5 v20 h21))) (pw_none)) (pw_none))))) (pw_b (ra_fX6_rest hu  r3 1 l5 h6) (fun v23 M24 h24 => pw_ret h24))))
theorem ra_gX2_goOn_150 {G : jm_M → Prop} (hu : CL1 G) (fu : Nat) {M : jm_M} (l1 r2 r3 l4 l5 l6 l9 : Int) (h : G M) : pw (gX2_goOn_150 fu M l1 r2 r3 l4 l5 l6 l9) (G) := by
  unfold gX2_goOn_150
  exact pw_s (P := G) (hu _ _ _ _ _ (Or.inr (Or.inr (⟨rfl, rfl⟩))) h) (fun M2 h2 => pw_b (ra_fX2_heldEnd hu fu l1 l5 l6 (jm_w (l6 + l9)) h2) (fun v3 M4 h4 => pw_b (ra_fX6_endLine hu  r3 l4 l5 v3 (M4 2 0 6) h4) (fun v7 M8 h8 => pw_ite (pw_b (ra_fX9_lapOf hu  l4 h8) (fun v11 M12 h12 => pw_b (ra_fX2_endLap hu fu l1 r2 r3 v11 v3 h12) (fun v14 M15 h15 => pw_ret h15))) (pw_ret h8))))
theorem ra_gX2_slowTime_70 {G : jm_M → Prop} (hu : CL1 G) (fu : Nat) {M : jm_M} (l2 l3 : Int) (h : G M) : pw (gX2_slowTime_70 fu M l2 l3) (G) := by
  unfold gX2_slowTime_70
  exact pw_ite (pw_ite (pw_ret h) (pw_ret h)) (pw_none)
theorem ra_gX2_slowTime_5 {G : jm_M → Prop} (hu : CL1 G) (fu : Nat) (k5 : jm_M → Int → Int → Int → Int → jm_R) (hk5 : ∀ (M : jm_M) (b0 b1 b2 b3 : Int), G M → pw (k5 M b0 b1 b2 b3) (G)) {M : jm_M} (l1 l2 l3 l4 : Int) (h : G M) : pw (gX2_slowTime_5 fu k5 M l1 l2 l3 l4) (G) := by
  unfold gX2_slowTime_5
  exact pw_ite (ra_gX2_slowTime_70 hu fu l2 l3 h) (pw_ite (ra_gX2_slowTime_70 hu fu l2 l3 h) (pw_ite (pw_e (fun v5 => hk5 M l1 l2 l3 v5 h)) (pw_ite (pw_ite (pw_ite (pw_ite (pw_ite (pw_e (fun v15 => hk5 M l1 l2 l3 v15 h)) (pw_e (fun v17 => hk5 M l1 l2 0 v17 h))) (pw_none)) (pw_none)) (pw_e (fun v19 => hk5 M l1 l2 l3 v19 h))) (pw_none))))
theorem ra_fX2_slowTime_5 {G : jm_M → Prop} (hu : CL1 G) (fu : Nat) : ∀ (n : Nat) {M : jm_M} (a0 a1 a2 a3 : Int), G M → pw (fX2_slowTime_5 fu n M a0 a1 a2 a3) (G) := by
  intro n
  induction n with
  | zero => intro M a0 a1 a2 a3 h; exact pw_none
  | succ n ih =>
    intro M a0 a1 a2 a3 h
    exact ra_gX2_slowTime_5 hu fu (fX2_slowTime_5 fu n) (fun M a0 a1 a2 a3 h => ih a0 a1 a2 a3 h) a0 a1 a2 a3 h
theorem ra_fX2_slowTime {G : jm_M → Prop} (hu : CL1 G) (fu : Nat) {M : jm_M} (l1 l2 : Int) (h : G M) : pw (fX2_slowTime fu M l1 l2) (G) := by
  unfold fX2_slowTime
  exact ra_fX2_slowTime_5 hu fu fu l1 l2 1 0 h
theorem ra_fX2_goOn {G : jm_M → Prop} (hu : CL1 G) (fu : Nat) {M : jm_M} (l1 r2 r3 : Int) (h : G M) : pw (fX2_goOn fu M l1 r2 r3) (G) := by
  unfold fX2_goOn
  exact pw_e (fun v2 => pw_b (ra_fX9_sectorOf hu  v2 h) (fun v4 M5 h5 => pw_e (fun v8 => pw_b (ra_fX2_hear hu fu r2 r3 v2 h5) (fun v10 M11 h11 => pw_s (P := G) (hu _ _ _ _ _ (Or.inl rfl) h11) (fun M13 h13 => pw_b (ra_fX7_cell hu  r2 (M13 9 r3 9) 0 h13) (fun v16 M17 h17 => pw_s (P := G) (hu _ _ _ _ _ (Or.inl rfl) h17) (fun M19 h19 => pw_e (fun v22 => pw_ite (pw_s (P := G) (hu _ _ _ _ _ (Or.inl rfl) h19) (fun M27 h27 => pw_b (ra_fX9_slowAt hu fu v8 h27) (fun v28 M29 h29 => pw_ite (pw_b (ra_fX2_freeTime hu fu r2 r3 v4 v8 h29) (fun v32 M33 h33 => pw_ite (pw_b (ra_fX6_wear hu  r3 h33) (fun v36 M37 h37 => ra_gX2_goOn_150 hu fu l1 r2 r3 v2 v4 v8 v32 h37)) (ra_gX2_goOn_150 hu fu l1 r2 r3 v2 v4 v8 v32 h33))) (pw_b (ra_fX2_slowTime hu fu l1 v4 h29) (fun v38 M39 h39 => pw_ite (pw_b (ra_fX6_wear hu  r3 h39) (fun v42 M43 h43 => ra_gX2_goOn_150 hu fu l1 r2 r3 v2 v4 v8 v38 h43)) (ra_gX2_goOn_150 hu fu l1 r2 r3 v2 v4 v8 v38 h39)))))) (pw_b (ra_fX6_rest hu  r3 2 v8 h19) (fun v44 M45 h45 => pw_ret h45))))))))))
theorem ra_gX2_run_69 {G : jm_M → Prop} (hu : CL1 G) (fu : Nat) (k69 : jm_M → Int → jm_R) (hk69 : ∀ (M : jm_M) (b0 : Int), G M → pw (k69 M b0) (G)) {M : jm_M} (l1 : Int) (h : G M) : pw (gX2_run_69 fu k69 M l1) (G) := by
  unfold gX2_run_69
  exact pw_ite (pw_ret h) (pw_b (ra_fX2_nextToGo hu fu  h) (fun v2 M3 h3 => pw_b (ra_fX2_has hu  v2 h3) (fun v5 M6 h6 => pw_ite (pw_ret h6) (pw_ite (pw_ite (pw_b (ra_fX2_goOn hu fu v2 v2 v2 h6) (fun v11 M12 h12 => pw_e (fun v13 => hk69 M12 v13 h12))) (pw_none)) (pw_none)))))
theorem ra_fX2_run_69 {G : jm_M → Prop} (hu : CL1 G) (fu : Nat) : ∀ (n : Nat) {M : jm_M} (a0 : Int), G M → pw (fX2_run_69 fu n M a0) (G) := by
  intro n
  induction n with
  | zero => intro M a0 h; exact pw_none
  | succ n ih =>
    intro M a0 h
    exact ra_gX2_run_69 hu fu (fX2_run_69 fu n) (fun M a0 h => ih a0 h) a0 h
theorem ra_gJ7_fill_53178_a31_w1_5 {G : jm_M → Prop} (hu : CL1 G) (fu : Nat) (k5 : jm_M → Int → Int → Int → Int → jm_R) (hk5 : ∀ (M : jm_M) (b0 b1 b2 b3 : Int), G M → pw (k5 M b0 b1 b2 b3) (G)) {M : jm_M} (r0 l1 l2 l3 : Int) (h : G M) : pw (gJ7_fill_53178_a31_w1_5 fu k5 M r0 l1 l2 l3) (G) := by
  unfold gJ7_fill_53178_a31_w1_5
  exact pw_ite (pw_ret h) (pw_ite (pw_s (P := G) (hu _ _ _ _ _ (Or.inr (Or.inl ⟨by decide, by decide⟩)) h) (fun M3 h3 => pw_e (fun v4 => hk5 M3 r0 l1 v4 l3 h3))) (pw_none))
theorem ra_fJ7_fill_53178_a31_w1_5 {G : jm_M → Prop} (hu : CL1 G) (fu : Nat) : ∀ (n : Nat) {M : jm_M} (a0 a1 a2 a3 : Int), G M → pw (fJ7_fill_53178_a31_w1_5 fu n M a0 a1 a2 a3) (G) := by
  intro n
  induction n with
  | zero => intro M a0 a1 a2 a3 h; exact pw_none
  | succ n ih =>
    intro M a0 a1 a2 a3 h
    exact ra_gJ7_fill_53178_a31_w1_5 hu fu (fJ7_fill_53178_a31_w1_5 fu n) (fun M a0 a1 a2 a3 h => ih a0 a1 a2 a3 h) a0 a1 a2 a3 h
theorem ra_fJ7_fill_53178_a31_w1 {G : jm_M → Prop} (hu : CL1 G) (fu : Nat) {M : jm_M} (r0 l1 : Int) (h : G M) : pw (fJ7_fill_53178_a31_w1 fu M r0 l1) (G) := by
  unfold fJ7_fill_53178_a31_w1
  exact ra_fJ7_fill_53178_a31_w1_5 hu fu fu r0 l1 0 12 h
theorem ra_gJ7_fill_53178_a32_w1_5 {G : jm_M → Prop} (hu : CL1 G) (fu : Nat) (k5 : jm_M → Int → Int → Int → Int → jm_R) (hk5 : ∀ (M : jm_M) (b0 b1 b2 b3 : Int), G M → pw (k5 M b0 b1 b2 b3) (G)) {M : jm_M} (r0 l1 l2 l3 : Int) (h : G M) : pw (gJ7_fill_53178_a32_w1_5 fu k5 M r0 l1 l2 l3) (G) := by
  unfold gJ7_fill_53178_a32_w1_5
  exact pw_ite (pw_ret h) (pw_ite (pw_s (P := G) (hu _ _ _ _ _ (Or.inr (Or.inl ⟨by decide, by decide⟩)) h) (fun M3 h3 => pw_e (fun v4 => hk5 M3 r0 l1 v4 l3 h3))) (pw_none))
theorem ra_fJ7_fill_53178_a32_w1_5 {G : jm_M → Prop} (hu : CL1 G) (fu : Nat) : ∀ (n : Nat) {M : jm_M} (a0 a1 a2 a3 : Int), G M → pw (fJ7_fill_53178_a32_w1_5 fu n M a0 a1 a2 a3) (G) := by
  intro n
  induction n with
  | zero => intro M a0 a1 a2 a3 h; exact pw_none
  | succ n ih =>
    intro M a0 a1 a2 a3 h
    exact ra_gJ7_fill_53178_a32_w1_5 hu fu (fJ7_fill_53178_a32_w1_5 fu n) (fun M a0 a1 a2 a3 h => ih a0 a1 a2 a3 h) a0 a1 a2 a3 h
theorem ra_fJ7_fill_53178_a32_w1 {G : jm_M → Prop} (hu : CL1 G) (fu : Nat) {M : jm_M} (r0 l1 : Int) (h : G M) : pw (fJ7_fill_53178_a32_w1 fu M r0 l1) (G) := by
  unfold fJ7_fill_53178_a32_w1
  exact ra_fJ7_fill_53178_a32_w1_5 hu fu fu r0 l1 0 5 h
theorem ra_gX6_start_113 {G : jm_M → Prop} (hu : CL1 G) (fu : Nat) (k113 : jm_M → Int → Int → Int → jm_R) (hk113 : ∀ (M : jm_M) (b0 b1 b2 : Int), G M → pw (k113 M b0 b1 b2) (G)) {M : jm_M} (r0 r1 l4 : Int) (h : G M) : pw (gX6_start_113 fu k113 M r0 r1 l4) (G) := by
  unfold gX6_start_113
  exact pw_ite (pw_b (ra_fJ7_fill_53178_a31_w1 hu fu r0 (-1) h) (fun v2 M3 h3 => pw_b (ra_fJ7_fill_53178_a32_w1 hu fu r0 0 h3) (fun v4 M5 h5 => pw_ret h5))) (pw_b (ra_fX7_cell hu  r1 l4 1 h) (fun v6 M7 h7 => pw_ite (pw_s (P := G) (hu _ _ _ _ _ (Or.inr (Or.inl ⟨by decide, by decide⟩)) h7) (fun M10 h10 => pw_e (fun v11 => hk113 M10 r0 r1 v11 h10))) (pw_none)))
theorem ra_fX6_start_113 {G : jm_M → Prop} (hu : CL1 G) (fu : Nat) : ∀ (n : Nat) {M : jm_M} (a0 a1 a2 : Int), G M → pw (fX6_start_113 fu n M a0 a1 a2) (G) := by
  intro n
  induction n with
  | zero => intro M a0 a1 a2 h; exact pw_none
  | succ n ih =>
    intro M a0 a1 a2 h
    exact ra_gX6_start_113 hu fu (fX6_start_113 fu n) (fun M a0 a1 a2 h => ih a0 a1 a2 h) a0 a1 a2 h
theorem ra_gX6_start_82 {G : jm_M → Prop} (hu : CL1 G) (fu : Nat) {M : jm_M} (r0 r1 s0 t1 : Int) (h : G M) : pw (gX6_start_82 fu M r0 r1 s0 t1) (G) := by
  unfold gX6_start_82
  exact pw_s (P := G) (hu _ _ _ _ _ (Or.inl rfl) h) (fun M1 h1 => pw_s (P := G) (hu _ _ _ _ _ (Or.inl rfl) h1) (fun M2 h2 => pw_s (P := G) (hu _ _ _ _ _ (Or.inl rfl) h2) (fun M3 h3 => pw_s (P := G) (hu _ _ _ _ _ (Or.inl rfl) h3) (fun M4 h4 => pw_s (P := G) (hu _ _ _ _ _ (Or.inl rfl) h4) (fun M5 h5 => pw_s (P := G) (hu _ _ _ _ _ (Or.inl rfl) h5) (fun M6 h6 => ra_fX6_start_113 hu fu fu r0 r1 0 h6))))))
theorem ra_gX6_start_41 {G : jm_M → Prop} (hu : CL1 G) (fu : Nat) {M : jm_M} (r0 r1 l3 s0 t1 : Int) (h : G M) : pw (gX6_start_41 fu M r0 r1 l3 s0 t1) (G) := by
  unfold gX6_start_41
  exact pw_s (P := G) (hu _ _ _ _ _ (Or.inl rfl) h) (fun M1 h1 => pw_s (P := G) (hu _ _ _ _ _ (Or.inl rfl) h1) (fun M2 h2 => pw_s (P := G) (hu _ _ _ _ _ (Or.inl rfl) h2) (fun M3 h3 => pw_s (P := G) (hu _ _ _ _ _ (Or.inl rfl) h3) (fun M4 h4 => pw_s (P := G) (hu _ _ _ _ _ (Or.inl rfl) h4) (fun M5 h5 => pw_s (P := G) (hu _ _ _ _ _ (Or.inl rfl) h5) (fun M7 h7 => pw_ite (ra_gX6_start_82 hu fu r0 r1 (-1) r0 h7) (ra_gX6_start_82 hu fu r0 r1 0 r0 h7)))))))
theorem ra_gX6_start_30 {G : jm_M → Prop} (hu : CL1 G) (fu : Nat) {M : jm_M} (r0 r1 s0 : Int) (h : G M) : pw (gX6_start_30 fu M r0 r1 s0) (G) := by
  unfold gX6_start_30
  exact pw_ite (ra_gX6_start_41 hu fu r0 r1 s0 2 r0 h) (ra_gX6_start_41 hu fu r0 r1 s0 0 r0 h)
theorem ra_fX6_start {G : jm_M → Prop} (hu : CL1 G) (fu : Nat) {M : jm_M} (r0 r1 l2 : Int) (h : G M) : pw (fX6_start fu M r0 r1 l2) (G) := by
  unfold fX6_start
  exact pw_s (P := G) (hu _ _ _ _ _ (Or.inl rfl) h) (fun M1 h1 => pw_s (P := G) (hu _ _ _ _ _ (Or.inl rfl) h1) (fun M2 h2 => pw_s (P := G) (hu _ _ _ _ _ (Or.inl rfl) h2) (fun M3 h3 => pw_ite (ra_gX6_start_30 hu fu r0 r1 0 h3) (ra_gX6_start_30 hu fu r0 r1 1 h3))))
theorem ra_gX2_run_20 {G : jm_M → Prop} (hu : CL1 G) (fu : Nat) (k20 : jm_M → Int → jm_R) (hk20 : ∀ (M : jm_M) (b0 : Int), G M → pw (k20 M b0) (G)) {M : jm_M} (l1 : Int) (h : G M) : pw (gX2_run_20 fu k20 M l1) (G) := by
  unfold gX2_run_20
  exact pw_ite (ra_fX2_run_69 hu fu fu 0 h) (pw_ite (ra_fX2_run_69 hu fu fu 0 h) (pw_ite (pw_ite (pw_ite (pw_b (ra_fX6_start hu fu l1 l1 (jm_w ((M 18 0 6) * l1)) h) (fun v8 M9 h9 => pw_e (fun v10 => hk20 M9 v10 h9))) (pw_none)) (pw_none)) (pw_none)))
theorem ra_fX2_run_20 {G : jm_M → Prop} (hu : CL1 G) (fu : Nat) : ∀ (n : Nat) {M : jm_M} (a0 : Int), G M → pw (fX2_run_20 fu n M a0) (G) := by
  intro n
  induction n with
  | zero => intro M a0 h; exact pw_none
  | succ n ih =>
    intro M a0 h
    exact ra_gX2_run_20 hu fu (fX2_run_20 fu n) (fun M a0 h => ih a0 h) a0 h
theorem ra_gJ7_fill_53178_a34_w1_5 {G : jm_M → Prop} (hu : CL1 G) (fu : Nat) (k5 : jm_M → Int → Int → Int → jm_R) (hk5 : ∀ (M : jm_M) (b0 b1 b2 : Int), G M → pw (k5 M b0 b1 b2) (G)) {M : jm_M} (l1 l2 l3 : Int) (h : G M) : pw (gJ7_fill_53178_a34_w1_5 fu k5 M l1 l2 l3) (G) := by
  unfold gJ7_fill_53178_a34_w1_5
  exact pw_ite (pw_ret h) (pw_ite (pw_s (P := G) (hu _ _ _ _ _ (Or.inr (Or.inl ⟨by decide, by decide⟩)) h) (fun M3 h3 => pw_e (fun v4 => hk5 M3 l1 v4 l3 h3))) (pw_none))
theorem ra_fJ7_fill_53178_a34_w1_5 {G : jm_M → Prop} (hu : CL1 G) (fu : Nat) : ∀ (n : Nat) {M : jm_M} (a0 a1 a2 : Int), G M → pw (fJ7_fill_53178_a34_w1_5 fu n M a0 a1 a2) (G) := by
  intro n
  induction n with
  | zero => intro M a0 a1 a2 h; exact pw_none
  | succ n ih =>
    intro M a0 a1 a2 h
    exact ra_gJ7_fill_53178_a34_w1_5 hu fu (fJ7_fill_53178_a34_w1_5 fu n) (fun M a0 a1 a2 h => ih a0 a1 a2 h) a0 a1 a2 h
theorem ra_fJ7_fill_53178_a34_w1 {G : jm_M → Prop} (hu : CL1 G) (fu : Nat) {M : jm_M} (l1 : Int) (h : G M) : pw (fJ7_fill_53178_a34_w1 fu M l1) (G) := by
  unfold fJ7_fill_53178_a34_w1
  exact ra_fJ7_fill_53178_a34_w1_5 hu fu fu l1 0 4 h
theorem rb_fX7_isFull {G : jm_M → Prop} (hu : CL2 G) {M : jm_M} (r0 : Int) (h : G M) : pw (fX7_isFull M r0) (G) := by
  unfold fX7_isFull
  exact pw_ite (pw_ret h) (pw_ret h)
theorem rb_fX7_put {G : jm_M → Prop} (hu : CL2 G) {M : jm_M} (r0 l1 l2 l3 : Int) (h : G M) : pw (fX7_put M r0 l1 l2 l3) (G) := by
  unfold fX7_put
  exact pw_ite (pw_ret h) (pw_ite (pw_ret h) (pw_ite (pw_ret h) (pw_ite (pw_ret h) (pw_ite (pw_s (P := G) (hu _ _ _ _ _ (Or.inr (Or.inr (Or.inr (Or.inr (Or.inr (Or.inr (Or.inl rfl))))))) h) (fun M9 h9 => pw_ret h9)) (pw_none)))))
theorem rb_fX7_push {G : jm_M → Prop} (hu : CL2 G) {M : jm_M} (r0 l1 l2 l3 l4 : Int) (h : G M) : pw (fX7_push M r0 l1 l2 l3 l4) (G) := by
  unfold fX7_push
  exact pw_b (rb_fX7_isFull hu  r0 h) (fun v1 M2 h2 => pw_ite (pw_s (P := G) (hu _ _ _ _ _ (Or.inr (Or.inr (Or.inr (Or.inr (Or.inl rfl))))) h2) (fun M6 h6 => pw_b (rb_fX7_put hu  r0 (jm_w ((M6 10 r0 3) - 1)) 0 l1 h6) (fun v8 M9 h9 => pw_b (rb_fX7_put hu  r0 (jm_w ((M9 10 r0 3) - 1)) 1 l2 h9) (fun v11 M12 h12 => pw_b (rb_fX7_put hu  r0 (jm_w ((M12 10 r0 3) - 1)) 2 l3 h12) (fun v14 M15 h15 => pw_b (rb_fX7_put hu  r0 (jm_w ((M15 10 r0 3) - 1)) 3 l4 h15) (fun v17 M18 h18 => pw_ret h18)))))) (pw_ret h2))
theorem rb_gX10_takeWay_10 {G : jm_M → Prop} (hu : CL2 G) (fu : Nat) (k10 : jm_M → Int → Int → Int → jm_R) (hk10 : ∀ (M : jm_M) (b0 b1 b2 : Int), G M → pw (k10 M b0 b1 b2) (G)) {M : jm_M} (r1 l2 l3 : Int) (h : G M) : pw (gX10_takeWay_10 fu k10 M r1 l2 l3) (G) := by
  unfold gX10_takeWay_10
  exact pw_ite (pw_ret h) (pw_ite (pw_ret h) (pw_ite (pw_ite (pw_b (rb_fX7_push hu  (r1 + 24) (M 39 0 l3) (M 40 0 l3) 200 0 h) (fun v7 M8 h8 => pw_e (fun v10 => hk10 M8 r1 l2 v10 h8))) (pw_none)) (pw_none)))
theorem rb_fX10_takeWay_10 {G : jm_M → Prop} (hu : CL2 G) (fu : Nat) : ∀ (n : Nat) {M : jm_M} (a0 a1 a2 : Int), G M → pw (fX10_takeWay_10 fu n M a0 a1 a2) (G) := by
  intro n
  induction n with
  | zero => intro M a0 a1 a2 h; exact pw_none
  | succ n ih =>
    intro M a0 a1 a2 h
    exact rb_gX10_takeWay_10 hu fu (fX10_takeWay_10 fu n) (fun M a0 a1 a2 h => ih a0 a1 a2 h) a0 a1 a2 h
theorem rb_fX10_takeWay {G : jm_M → Prop} (hu : CL2 G) (fu : Nat) {M : jm_M} (r1 l2 : Int) (h : G M) : pw (fX10_takeWay fu M r1 l2) (G) := by
  unfold fX10_takeWay
  exact pw_s (P := G) (hu _ _ _ _ _ (Or.inr (Or.inr (Or.inr (Or.inr (Or.inl rfl))))) h) (fun M1 h1 => rb_fX10_takeWay_10 hu fu fu r1 l2 0 h1)
theorem rb_fX11_isIndex {G : jm_M → Prop} (hu : CL2 G) {M : jm_M} (l0 l1 : Int) (h : G M) : pw (fX11_isIndex M l0 l1) (G) := by
  unfold fX11_isIndex
  exact pw_ite (pw_ret h) (pw_ite (pw_ret h) (pw_ret h))
theorem rb_fX2_has {G : jm_M → Prop} (hu : CL2 G) {M : jm_M} (l1 : Int) (h : G M) : pw (fX2_has M l1) (G) := by
  unfold fX2_has
  exact pw_b (rb_fX11_isIndex hu  l1 (M 2 0 5) h) (fun v2 M3 h3 => pw_ite (pw_ret h3) (pw_ite (pw_ret h3) (pw_ret h3)))
theorem rb_fX9_lapOf {G : jm_M → Prop} (hu : CL2 G) {M : jm_M} (l1 : Int) (h : G M) : pw (fX9_lapOf M l1) (G) := by
  unfold fX9_lapOf
  exact pw_ite (pw_ret h) (pw_ite (pw_ret h) (pw_none))
theorem rb_fX2_lapsEnded {G : jm_M → Prop} (hu : CL2 G) {M : jm_M} (l1 : Int) (h : G M) : pw (fX2_lapsEnded M l1) (G) := by
  unfold fX2_lapsEnded
  exact pw_b (rb_fX2_has hu  l1 h) (fun v1 M2 h2 => pw_ite (pw_ret h2) (pw_ite (pw_b (rb_fX9_lapOf hu  (M2 9 l1 2) h2) (fun v7 M8 h8 => pw_ret h8)) (pw_none)))
theorem rb_fX7_cell {G : jm_M → Prop} (hu : CL2 G) {M : jm_M} (r0 l1 l2 : Int) (h : G M) : pw (fX7_cell M r0 l1 l2) (G) := by
  unfold fX7_cell
  exact pw_ite (pw_ret h) (pw_ite (pw_ret h) (pw_ite (pw_ret h) (pw_ite (pw_ite (pw_ret h) (pw_none)) (pw_ret h))))
theorem rb_fX0_isOf {G : jm_M → Prop} (hu : CL2 G) {M : jm_M} (l1 l2 l3 : Int) (h : G M) : pw (fX0_isOf M l1 l2 l3) (G) := by
  unfold fX0_isOf
  exact pw_b (rb_fX7_cell hu  32 l1 1 h) (fun v1 M2 h2 => pw_ite (pw_b (rb_fX7_cell hu  32 l1 2 h2) (fun v5 M6 h6 => pw_ite (pw_ret h6) (pw_ret h6))) (pw_ret h2))
theorem rb_gX0_weightBy_8 {G : jm_M → Prop} (hu : CL2 G) (fu : Nat) (k8 : jm_M → Int → Int → Int → Int → Int → jm_R) (hk8 : ∀ (M : jm_M) (b0 b1 b2 b3 b4 : Int), G M → pw (k8 M b0 b1 b2 b3 b4) (G)) {M : jm_M} (l1 l2 l3 l4 l5 : Int) (h : G M) : pw (gX0_weightBy_8 fu k8 M l1 l2 l3 l4 l5) (G) := by
  unfold gX0_weightBy_8
  exact pw_ite (pw_ret h) (pw_b (rb_fX7_cell hu  32 l5 0 h) (fun v3 M4 h4 => pw_b (rb_fX0_isOf hu  l5 l1 0 h4) (fun v6 M7 h7 => pw_ite (pw_e (fun v10 => hk8 M7 l1 l2 l3 l4 v10 h7)) (pw_ite (pw_e (fun v13 => hk8 M7 l1 l2 l3 l4 v13 h7)) (pw_ite (pw_e (fun v16 => hk8 M7 l1 l2 l3 l4 v16 h7)) (pw_b (rb_fX7_cell hu  32 l5 3 h7) (fun v18 M19 h19 => pw_e (fun v21 => hk8 M19 l1 l2 v18 v3 v21 h19))))))))
theorem rb_fX0_weightBy_8 {G : jm_M → Prop} (hu : CL2 G) (fu : Nat) : ∀ (n : Nat) {M : jm_M} (a0 a1 a2 a3 a4 : Int), G M → pw (fX0_weightBy_8 fu n M a0 a1 a2 a3 a4) (G) := by
  intro n
  induction n with
  | zero => intro M a0 a1 a2 a3 a4 h; exact pw_none
  | succ n ih =>
    intro M a0 a1 a2 a3 a4 h
    exact rb_gX0_weightBy_8 hu fu (fX0_weightBy_8 fu n) (fun M a0 a1 a2 a3 a4 h => ih a0 a1 a2 a3 a4 h) a0 a1 a2 a3 a4 h
theorem rb_fX0_weightBy {G : jm_M → Prop} (hu : CL2 G) (fu : Nat) {M : jm_M} (l1 l2 : Int) (h : G M) : pw (fX0_weightBy fu M l1 l2) (G) := by
  unfold fX0_weightBy
  exact rb_fX0_weightBy_8 hu fu fu l1 l2 0 0 0 h
theorem rb_fX4_let {G : jm_M → Prop} (hu : CL2 G) {M : jm_M} (l1 l2 : Int) (h : G M) : pw (fX4_let M l1 l2) (G) := by
  unfold fX4_let
  exact pw_b (rb_fX11_isIndex hu  (jm_w (l1 - 97)) 26 h) (fun v1 M2 h2 => pw_ite (pw_ret h2) (pw_ite (pw_s (P := G) (hu _ _ _ _ _ (Or.inr (Or.inl rfl)) h2) (fun M6 h6 => pw_ret h6)) (pw_none)))
theorem rb_fJ6_bitCount_0f7a4_w1 {G : jm_M → Prop} (hu : CL2 G) {M : jm_M} (l0 : Int) (h : G M) : pw (fJ6_bitCount_0f7a4_w1 M l0) (G) := by
  unfold fJ6_bitCount_0f7a4_w1
  exact pw_e (fun v1 => pw_e (fun v3 => pw_e (fun v5 => pw_e (fun v7 => pw_e (fun v9 => pw_ret h)))))
theorem rb_fX4_join {G : jm_M → Prop} (hu : CL2 G) {M : jm_M} (l0 l1 l2 : Int) (h : G M) : pw (fX4_join M l0 l1 l2) (G) := by
  unfold fX4_join
  exact pw_ite (pw_ite (pw_ret h) (pw_ite (pw_ret h) (pw_ret h))) (pw_ite (pw_ret h) (pw_ite (pw_ret h) (pw_ite (pw_ite (pw_ret h) (pw_ret h)) (pw_ite (pw_ite (pw_ret h) (pw_ret h)) (pw_ite (pw_ite (pw_ret h) (pw_ret h)) (pw_ite (pw_ite (pw_ite (pw_ret h) (pw_ret h)) (pw_ret h)) (pw_ret h)))))))
theorem rb_gX4_holds_163 {G : jm_M → Prop} (hu : CL2 G) (fu : Nat) (k47 : jm_M → Int → Int → Int → Int → Int → jm_R) (hk47 : ∀ (M : jm_M) (b0 b1 b2 b3 b4 : Int), G M → pw (k47 M b0 b1 b2 b3 b4) (G)) {M : jm_M} (r1 l3 l4 l5 l6 l7 : Int) (h : G M) : pw (gX4_holds_163 fu k47 M r1 l3 l4 l5 l6 l7) (G) := by
  unfold gX4_holds_163
  exact pw_ite (pw_e (fun v2 => hk47 M r1 l3 l4 l5 v2 h)) (pw_e (fun v4 => pw_ite (pw_ite (pw_b (rb_fX4_join hu  (jm_w (l7 - 2000)) (M 28 0 v4) (M 28 0 (jm_w (v4 + 1))) h) (fun v10 M11 h11 => pw_ite (pw_s (P := G) (hu _ _ _ _ _ (Or.inr (Or.inr (Or.inl rfl))) h11) (fun M14 h14 => pw_e (fun v15 => hk47 M14 r1 l3 l4 v4 v15 h14))) (pw_none))) (pw_none)) (pw_none)))
theorem rb_gX4_holds_119 {G : jm_M → Prop} (hu : CL2 G) (fu : Nat) (k47 : jm_M → Int → Int → Int → Int → Int → jm_R) (hk47 : ∀ (M : jm_M) (b0 b1 b2 b3 b4 : Int), G M → pw (k47 M b0 b1 b2 b3 b4) (G)) {M : jm_M} (r1 l3 l4 l5 l6 l7 : Int) (h : G M) : pw (gX4_holds_119 fu k47 M r1 l3 l4 l5 l6 l7) (G) := by
  unfold gX4_holds_119
  exact pw_ite (pw_ite (pw_ite (pw_s (P := G) (hu _ _ _ _ _ (Or.inr (Or.inr (Or.inl rfl))) h) (fun M5 h5 => pw_e (fun v6 => hk47 M5 r1 l3 l4 l5 v6 h5))) (pw_none)) (pw_none)) (pw_ite (pw_ite (pw_ite (pw_s (P := G) (hu _ _ _ _ _ (Or.inr (Or.inr (Or.inl rfl))) h) (fun M12 h12 => pw_e (fun v13 => hk47 M12 r1 l3 l4 l5 v13 h12))) (pw_none)) (pw_ite (pw_s (P := G) (hu _ _ _ _ _ (Or.inr (Or.inr (Or.inl rfl))) h) (fun M16 h16 => pw_e (fun v17 => hk47 M16 r1 l3 l4 l5 v17 h16))) (pw_none))) (pw_none))
theorem rb_fX4_valueOf {G : jm_M → Prop} (hu : CL2 G) {M : jm_M} (l1 : Int) (h : G M) : pw (fX4_valueOf M l1) (G) := by
  unfold fX4_valueOf
  exact pw_ite (pw_e (fun v2 => pw_ite (pw_ret h) (pw_ite (pw_ret h) (pw_none)))) (pw_ret h)
theorem rb_gX4_holds_47 {G : jm_M → Prop} (hu : CL2 G) (fu : Nat) (k47 : jm_M → Int → Int → Int → Int → Int → jm_R) (hk47 : ∀ (M : jm_M) (b0 b1 b2 b3 b4 : Int), G M → pw (k47 M b0 b1 b2 b3 b4) (G)) {M : jm_M} (r1 l3 l4 l5 l6 : Int) (h : G M) : pw (gX4_holds_47 fu k47 M r1 l3 l4 l5 l6) (G) := by
  unfold gX4_holds_47
  exact pw_ite (pw_ite (pw_ret h) (pw_ite (pw_ite (pw_ret h) (pw_ret h)) (pw_none))) (pw_ite (pw_e (fun v8 => pw_ite (pw_ite (rb_gX4_holds_163 hu fu k47 hk47 r1 l3 l4 l5 l6 v8 h) (pw_ite (rb_gX4_holds_119 hu fu k47 hk47 r1 l3 l4 l5 l6 v8 h) (pw_ite (rb_gX4_holds_119 hu fu k47 hk47 r1 l3 l4 l5 l6 v8 h) (rb_gX4_holds_163 hu fu k47 hk47 r1 l3 l4 l5 l6 v8 h)))) (pw_e (fun v14 => pw_b (rb_fX4_valueOf hu  v8 h) (fun v16 M17 h17 => pw_ite (pw_s (P := G) (hu _ _ _ _ _ (Or.inr (Or.inr (Or.inl rfl))) h17) (fun M20 h20 => pw_e (fun v21 => hk47 M20 r1 l3 l4 v14 v21 h20))) (pw_none)))))) (pw_none))
theorem rb_fX4_holds_47 {G : jm_M → Prop} (hu : CL2 G) (fu : Nat) : ∀ (n : Nat) {M : jm_M} (a0 a1 a2 a3 a4 : Int), G M → pw (fX4_holds_47 fu n M a0 a1 a2 a3 a4) (G) := by
  intro n
  induction n with
  | zero => intro M a0 a1 a2 a3 a4 h; exact pw_none
  | succ n ih =>
    intro M a0 a1 a2 a3 a4 h
    exact rb_gX4_holds_47 hu fu (fX4_holds_47 fu n) (fun M a0 a1 a2 a3 a4 h => ih a0 a1 a2 a3 a4 h) a0 a1 a2 a3 a4 h
theorem rb_gX4_holds_27 {G : jm_M → Prop} (hu : CL2 G) (fu : Nat) {M : jm_M} (r1 l2 s0 : Int) (h : G M) : pw (gX4_holds_27 fu M r1 l2 s0) (G) := by
  unfold gX4_holds_27
  exact pw_ite (pw_e (fun v3 => rb_fX4_holds_47 hu fu fu r1 s0 v3 (-1) s0 h)) (pw_none)
theorem rb_fX4_holds {G : jm_M → Prop} (hu : CL2 G) (fu : Nat) {M : jm_M} (r1 l2 : Int) (h : G M) : pw (fX4_holds fu M r1 l2) (G) := by
  unfold fX4_holds
  exact pw_b (rb_fX11_isIndex hu  l2 21 h) (fun v1 M2 h2 => pw_ite (pw_ret h2) (pw_ite (rb_gX4_holds_27 hu fu r1 l2 0 h2) (pw_ite (rb_gX4_holds_27 hu fu r1 l2 (M2 21 r1 (jm_w (l2 - 1))) h2) (pw_none))))
theorem rb_gX0_secondsBy_130 {G : jm_M → Prop} (hu : CL2 G) (fu : Nat) (k130 : jm_M → Int → Int → Int → jm_R) (hk130 : ∀ (M : jm_M) (b0 b1 b2 : Int), G M → pw (k130 M b0 b1 b2) (G)) {M : jm_M} (l5 l6 l7 : Int) (h : G M) : pw (gX0_secondsBy_130 fu k130 M l5 l6 l7) (G) := by
  unfold gX0_secondsBy_130
  exact pw_ite (pw_ret h) (pw_ite (pw_ret h) (pw_ite (pw_ite (pw_e (fun v7 => hk130 M l5 l6 v7 h)) (pw_ite (pw_ite (pw_b (rb_fX4_holds hu fu (M 48 0 l7) 0 h) (fun v11 M12 h12 => pw_ite (pw_e (fun v15 => hk130 M12 l5 l6 v15 h12)) (pw_ite (pw_ite (pw_ite (pw_ret h12) (pw_ite (pw_ite (pw_e (fun v24 => pw_e (fun v26 => hk130 M12 l5 v24 v26 h12))) (pw_none)) (pw_none))) (pw_none)) (pw_none)))) (pw_none)) (pw_none))) (pw_none)))
theorem rb_fX0_secondsBy_130 {G : jm_M → Prop} (hu : CL2 G) (fu : Nat) : ∀ (n : Nat) {M : jm_M} (a0 a1 a2 : Int), G M → pw (fX0_secondsBy_130 fu n M a0 a1 a2) (G) := by
  intro n
  induction n with
  | zero => intro M a0 a1 a2 h; exact pw_none
  | succ n ih =>
    intro M a0 a1 a2 h
    exact rb_gX0_secondsBy_130 hu fu (fX0_secondsBy_130 fu n) (fun M a0 a1 a2 h => ih a0 a1 a2 h) a0 a1 a2 h
theorem rb_gX0_secondsBy_95 {G : jm_M → Prop} (hu : CL2 G) (fu : Nat) {M : jm_M} (r1 r2 l5 s0 s1 : Int) (h : G M) : pw (gX0_secondsBy_95 fu M r1 r2 l5 s0 s1) (G) := by
  unfold gX0_secondsBy_95
  exact pw_b (rb_fX4_let hu  s1 s0 h) (fun v1 M2 h2 => pw_b (rb_fX4_let hu  102 (M2 9 r2 8) h2) (fun v4 M5 h5 => pw_b (rb_fX4_let hu  116 (M5 8 r1 3) h5) (fun v7 M8 h8 => rb_fX0_secondsBy_130 hu fu fu l5 0 0 h8)))
theorem rb_fX0_secondsBy {G : jm_M → Prop} (hu : CL2 G) (fu : Nat) {M : jm_M} (r1 r2 l3 l4 l5 : Int) (h : G M) : pw (fX0_secondsBy fu M r1 r2 l3 l4 l5) (G) := by
  unfold fX0_secondsBy
  exact pw_b (rb_fX4_let hu  115 (M 9 r2 5) h) (fun v2 M3 h3 => pw_b (rb_fJ6_bitCount_0f7a4_w1 hu  (M3 9 r2 6) h3) (fun v5 M6 h6 => pw_b (rb_fX4_let hu  107 v5 h6) (fun v8 M9 h9 => pw_b (rb_fX4_let hu  112 (M9 9 r2 7) h9) (fun v11 M12 h12 => pw_b (rb_fX4_let hu  108 l3 h12) (fun v13 M14 h14 => pw_b (rb_fX4_let hu  119 l4 h14) (fun v15 M16 h16 => pw_b (rb_fX4_let hu  99 (M16 8 r1 4) h16) (fun v18 M19 h19 => pw_ite (rb_gX0_secondsBy_95 hu fu r1 r2 l5 1 111 h19) (rb_gX0_secondsBy_95 hu fu r1 r2 l5 0 111 h19))))))))
theorem rb_gX0_timeBy_5 {G : jm_M → Prop} (hu : CL2 G) (fu : Nat) (k5 : jm_M → Int → Int → Int → Int → jm_R) (hk5 : ∀ (M : jm_M) (b0 b1 b2 b3 : Int), G M → pw (k5 M b0 b1 b2 b3) (G)) {M : jm_M} (l1 l2 l3 l4 : Int) (h : G M) : pw (gX0_timeBy_5 fu k5 M l1 l2 l3 l4) (G) := by
  unfold gX0_timeBy_5
  exact pw_ite (pw_ret h) (pw_b (rb_fX0_isOf hu  l4 l1 1 h) (fun v3 M4 h4 => pw_ite (pw_e (fun v7 => hk5 M4 l1 l2 l3 v7 h4)) (pw_b (rb_fX7_cell hu  32 l4 0 h4) (fun v9 M10 h10 => pw_ite (pw_e (fun v13 => hk5 M10 l1 l2 l3 v13 h10)) (pw_b (rb_fX7_cell hu  32 l4 3 h10) (fun v15 M16 h16 => pw_e (fun v18 => pw_e (fun v20 => hk5 M16 l1 l2 v18 v20 h16))))))))
theorem rb_fX0_timeBy_5 {G : jm_M → Prop} (hu : CL2 G) (fu : Nat) : ∀ (n : Nat) {M : jm_M} (a0 a1 a2 a3 : Int), G M → pw (fX0_timeBy_5 fu n M a0 a1 a2 a3) (G) := by
  intro n
  induction n with
  | zero => intro M a0 a1 a2 a3 h; exact pw_none
  | succ n ih =>
    intro M a0 a1 a2 a3 h
    exact rb_gX0_timeBy_5 hu fu (fX0_timeBy_5 fu n) (fun M a0 a1 a2 a3 h => ih a0 a1 a2 a3 h) a0 a1 a2 a3 h
theorem rb_fX0_timeBy {G : jm_M → Prop} (hu : CL2 G) (fu : Nat) {M : jm_M} (l1 l2 : Int) (h : G M) : pw (fX0_timeBy fu M l1 l2) (G) := by
  unfold fX0_timeBy
  exact rb_fX0_timeBy_5 hu fu fu l1 l2 0 0 h
theorem rb_gX5_reckonFor_103 {G : jm_M → Prop} (hu : CL2 G) (fu : Nat) (k2 : jm_M → Int → Int → jm_R) (hk2 : ∀ (M : jm_M) (b0 b1 : Int), G M → pw (k2 M b0 b1) (G)) {M : jm_M} (l1 l2 r3 l4 s0 s1 : Int) (h : G M) : pw (gX5_reckonFor_103 fu k2 M l1 l2 r3 l4 s0 s1) (G) := by
  unfold gX5_reckonFor_103
  exact pw_ite (pw_ite (pw_s (P := G) (hu _ _ _ _ _ (Or.inr (Or.inr (Or.inr (Or.inl ⟨by decide, by decide⟩)))) h) (fun M2 h2 => pw_b (rb_fX0_timeBy hu fu l2 l1 h2) (fun v5 M6 h6 => pw_ite (pw_s (P := G) (hu _ _ _ _ _ (Or.inr (Or.inr (Or.inr (Or.inl ⟨by decide, by decide⟩)))) h6) (fun M9 h9 => pw_e (fun v10 => hk2 M9 l1 v10 h9))) (pw_none)))) (pw_none)) (pw_none)
theorem rb_gX5_reckonFor_2 {G : jm_M → Prop} (hu : CL2 G) (fu : Nat) (k2 : jm_M → Int → Int → jm_R) (hk2 : ∀ (M : jm_M) (b0 b1 : Int), G M → pw (k2 M b0 b1) (G)) {M : jm_M} (l1 l2 : Int) (h : G M) : pw (gX5_reckonFor_2 fu k2 M l1 l2) (G) := by
  unfold gX5_reckonFor_2
  exact pw_ite (pw_ret h) (pw_ite (pw_ret h) (pw_ite (pw_b (rb_fX2_lapsEnded hu  l2 h) (fun v5 M6 h6 => pw_ite (pw_s (P := G) (hu _ _ _ _ _ (Or.inr (Or.inr (Or.inr (Or.inl ⟨by decide, by decide⟩)))) h6) (fun M9 h9 => pw_ite (pw_ite (pw_b (rb_fX0_weightBy hu fu l2 l1 h9) (fun v13 M14 h14 => pw_b (rb_fX0_secondsBy hu fu l2 l2 (M9 37 0 l2) v13 l1 h14) (fun v16 M17 h17 => pw_ite (rb_gX5_reckonFor_103 hu fu k2 hk2 l1 l2 l2 v16 0 l2 h17) (pw_ite (rb_gX5_reckonFor_103 hu fu k2 hk2 l1 l2 l2 v16 0 l2 h17) (rb_gX5_reckonFor_103 hu fu k2 hk2 l1 l2 l2 v16 1 l2 h17))))) (pw_none)) (pw_none))) (pw_none))) (pw_none)))
theorem rb_fX5_reckonFor_2 {G : jm_M → Prop} (hu : CL2 G) (fu : Nat) : ∀ (n : Nat) {M : jm_M} (a0 a1 : Int), G M → pw (fX5_reckonFor_2 fu n M a0 a1) (G) := by
  intro n
  induction n with
  | zero => intro M a0 a1 h; exact pw_none
  | succ n ih =>
    intro M a0 a1 h
    exact rb_gX5_reckonFor_2 hu fu (fX5_reckonFor_2 fu n) (fun M a0 a1 h => ih a0 a1 h) a0 a1 h
theorem rb_fX5_reckonFor {G : jm_M → Prop} (hu : CL2 G) (fu : Nat) {M : jm_M} (l1 : Int) (h : G M) : pw (fX5_reckonFor fu M l1) (G) := by
  unfold fX5_reckonFor
  exact rb_fX5_reckonFor_2 hu fu fu l1 0 h
theorem rb_fX5_isAhead {G : jm_M → Prop} (hu : CL2 G) {M : jm_M} (l1 l2 : Int) (h : G M) : pw (fX5_isAhead M l1 l2) (G) := by
  unfold fX5_isAhead
  exact pw_ite (pw_ite (pw_ite (pw_ite (pw_ite (pw_ite (pw_ret h) (pw_ite (pw_ite (pw_ite (pw_ite (pw_ret h) (pw_ret h)) (pw_ret h)) (pw_none)) (pw_none))) (pw_none)) (pw_none)) (pw_ite (pw_ite (pw_ite (pw_ret h) (pw_ret h)) (pw_none)) (pw_none))) (pw_none)) (pw_none)
theorem rb_gX5_placeAmong_83 {G : jm_M → Prop} (hu : CL2 G) (fu : Nat) (k27 : jm_M → Int → Int → Int → Int → jm_R) (hk27 : ∀ (M : jm_M) (b0 b1 b2 b3 : Int), G M → pw (k27 M b0 b1 b2 b3) (G)) {M : jm_M} (l1 l2 l3 l4 s0 : Int) (h : G M) : pw (gX5_placeAmong_83 fu k27 M l1 l2 l3 l4 s0) (G) := by
  unfold gX5_placeAmong_83
  exact pw_ite (pw_e (fun v2 => hk27 M l1 l2 l3 v2 h)) (pw_b (rb_fX5_isAhead hu  l4 l1 h) (fun v4 M5 h5 => pw_ite (pw_e (fun v8 => hk27 M5 l1 l2 l3 v8 h5)) (pw_e (fun v10 => pw_e (fun v12 => hk27 M5 l1 l2 v10 v12 h5)))))
theorem rb_gX5_placeAmong_27 {G : jm_M → Prop} (hu : CL2 G) (fu : Nat) (k27 : jm_M → Int → Int → Int → Int → jm_R) (hk27 : ∀ (M : jm_M) (b0 b1 b2 b3 : Int), G M → pw (k27 M b0 b1 b2 b3) (G)) {M : jm_M} (l1 l2 l3 l4 : Int) (h : G M) : pw (gX5_placeAmong_27 fu k27 M l1 l2 l3 l4) (G) := by
  unfold gX5_placeAmong_27
  exact pw_ite (pw_ret h) (pw_ite (pw_ret h) (pw_ite (pw_ite (rb_gX5_placeAmong_83 hu fu k27 hk27 l1 l2 l3 l4 0 h) (pw_ite (rb_gX5_placeAmong_83 hu fu k27 hk27 l1 l2 l3 l4 1 h) (pw_ite (pw_ite (rb_gX5_placeAmong_83 hu fu k27 hk27 l1 l2 l3 l4 1 h) (rb_gX5_placeAmong_83 hu fu k27 hk27 l1 l2 l3 l4 0 h)) (pw_none)))) (pw_none)))
theorem rb_fX5_placeAmong_27 {G : jm_M → Prop} (hu : CL2 G) (fu : Nat) : ∀ (n : Nat) {M : jm_M} (a0 a1 a2 a3 : Int), G M → pw (fX5_placeAmong_27 fu n M a0 a1 a2 a3) (G) := by
  intro n
  induction n with
  | zero => intro M a0 a1 a2 a3 h; exact pw_none
  | succ n ih =>
    intro M a0 a1 a2 a3 h
    exact rb_gX5_placeAmong_27 hu fu (fX5_placeAmong_27 fu n) (fun M a0 a1 a2 a3 h => ih a0 a1 a2 a3 h) a0 a1 a2 a3 h
theorem rb_fX5_placeAmong {G : jm_M → Prop} (hu : CL2 G) (fu : Nat) {M : jm_M} (l1 l2 : Int) (h : G M) : pw (fX5_placeAmong fu M l1 l2) (G) := by
  unfold fX5_placeAmong
  exact pw_b (rb_fX2_has hu  l1 h) (fun v1 M2 h2 => pw_ite (pw_ret h2) (pw_ite (pw_ite (pw_ret h2) (rb_fX5_placeAmong_27 hu fu fu l1 l2 0 0 h2)) (pw_none)))
theorem rb_fX5_triedPlace {G : jm_M → Prop} (hu : CL2 G) (fu : Nat) {M : jm_M} (l1 : Int) (h : G M) : pw (fX5_triedPlace fu M l1) (G) := by
  unfold fX5_triedPlace
  exact pw_b (rb_fX5_placeAmong hu fu l1 (-1) h) (fun v1 M2 h2 => pw_ite (pw_ret h2) (pw_ret h2))
theorem rb_fX5_triedSum {G : jm_M → Prop} (hu : CL2 G) {M : jm_M} (l1 : Int) (h : G M) : pw (fX5_triedSum M l1) (G) := by
  unfold fX5_triedSum
  exact pw_b (rb_fX11_isIndex hu  l1 6 h) (fun v1 M2 h2 => pw_ite (pw_ret h2) (pw_ite (pw_ite (pw_ret h2) (pw_ite (pw_ret h2) (pw_none))) (pw_none)))
theorem rb_gX10_keepWay_26 {G : jm_M → Prop} (hu : CL2 G) (fu : Nat) (k26 : jm_M → Int → Int → jm_R) (hk26 : ∀ (M : jm_M) (b0 b1 : Int), G M → pw (k26 M b0 b1) (G)) {M : jm_M} (l2 l3 : Int) (h : G M) : pw (gX10_keepWay_26 fu k26 M l2 l3) (G) := by
  unfold gX10_keepWay_26
  exact pw_ite (pw_ret h) (pw_ite (pw_ret h) (pw_ite (pw_ite (pw_s (P := G) (hu _ _ _ _ _ (Or.inr (Or.inr (Or.inr (Or.inl ⟨by decide, by decide⟩)))) h) (fun M6 h6 => pw_ite (pw_ite (pw_s (P := G) (hu _ _ _ _ _ (Or.inr (Or.inr (Or.inr (Or.inl ⟨by decide, by decide⟩)))) h6) (fun M10 h10 => pw_e (fun v11 => hk26 M10 l2 v11 h10))) (pw_none)) (pw_none))) (pw_none)) (pw_none)))
theorem rb_fX10_keepWay_26 {G : jm_M → Prop} (hu : CL2 G) (fu : Nat) : ∀ (n : Nat) {M : jm_M} (a0 a1 : Int), G M → pw (fX10_keepWay_26 fu n M a0 a1) (G) := by
  intro n
  induction n with
  | zero => intro M a0 a1 h; exact pw_none
  | succ n ih =>
    intro M a0 a1 h
    exact rb_gX10_keepWay_26 hu fu (fX10_keepWay_26 fu n) (fun M a0 a1 h => ih a0 a1 h) a0 a1 h
theorem rb_fX10_keepWay {G : jm_M → Prop} (hu : CL2 G) (fu : Nat) {M : jm_M} (l1 l2 : Int) (h : G M) : pw (fX10_keepWay fu M l1 l2) (G) := by
  unfold fX10_keepWay
  exact pw_b (rb_fX5_triedPlace hu fu l1 h) (fun v1 M2 h2 => pw_s (P := G) (hu _ _ _ _ _ (Or.inl rfl) h2) (fun M4 h4 => pw_b (rb_fX5_triedSum hu  l1 h4) (fun v5 M6 h6 => pw_s (P := G) (hu _ _ _ _ _ (Or.inl rfl) h6) (fun M8 h8 => rb_fX10_keepWay_26 hu fu fu l2 0 h8))))
theorem rb_fX10_isBetter {G : jm_M → Prop} (hu : CL2 G) {M : jm_M} (l0 l1 l2 l3 : Int) (h : G M) : pw (fX10_isBetter M l0 l1 l2 l3) (G) := by
  unfold fX10_isBetter
  exact pw_ite (pw_ret h) (pw_ite (pw_ite (pw_ret h) (pw_ret h)) (pw_ret h))
theorem rb_gX10_nextSets_4 {G : jm_M → Prop} (hu : CL2 G) (fu : Nat) (k4 : jm_M → Int → Int → jm_R) (hk4 : ∀ (M : jm_M) (b0 b1 : Int), G M → pw (k4 M b0 b1) (G)) {M : jm_M} (l2 l3 : Int) (h : G M) : pw (gX10_nextSets_4 fu k4 M l2 l3) (G) := by
  unfold gX10_nextSets_4
  exact pw_ite (pw_ret h) (pw_ite (pw_ret h) (pw_ite (pw_ite (pw_s (P := G) (hu _ _ _ _ _ (Or.inr (Or.inr (Or.inr (Or.inl ⟨by decide, by decide⟩)))) h) (fun M6 h6 => pw_ite (pw_ite (pw_ite (pw_s (P := G) (hu _ _ _ _ _ (Or.inr (Or.inr (Or.inr (Or.inl ⟨by decide, by decide⟩)))) h6) (fun M11 h11 => pw_e (fun v12 => hk4 M11 l2 v12 h11))) (pw_none)) (pw_ret h6)) (pw_none))) (pw_none)) (pw_none)))
theorem rb_fX10_nextSets_4 {G : jm_M → Prop} (hu : CL2 G) (fu : Nat) : ∀ (n : Nat) {M : jm_M} (a0 a1 : Int), G M → pw (fX10_nextSets_4 fu n M a0 a1) (G) := by
  intro n
  induction n with
  | zero => intro M a0 a1 h; exact pw_none
  | succ n ih =>
    intro M a0 a1 h
    exact rb_gX10_nextSets_4 hu fu (fX10_nextSets_4 fu n) (fun M a0 a1 h => ih a0 a1 h) a0 a1 h
theorem rb_fX10_nextSets {G : jm_M → Prop} (hu : CL2 G) (fu : Nat) {M : jm_M} (l1 l2 : Int) (h : G M) : pw (fX10_nextSets fu M l1 l2) (G) := by
  unfold fX10_nextSets
  exact pw_e (fun v1 => rb_fX10_nextSets_4 hu fu fu l2 v1 h)
theorem rb_gX10_nextLaps_38 {G : jm_M → Prop} (hu : CL2 G) (fu : Nat) (k38 : jm_M → Int → Int → Int → Int → jm_R) (hk38 : ∀ (M : jm_M) (b0 b1 b2 b3 : Int), G M → pw (k38 M b0 b1 b2 b3) (G)) {M : jm_M} (l1 l3 l4 l5 : Int) (h : G M) : pw (gX10_nextLaps_38 fu k38 M l1 l3 l4 l5) (G) := by
  unfold gX10_nextLaps_38
  exact pw_ite (pw_ret h) (pw_ite (pw_ret h) (pw_ite (pw_s (P := G) (hu _ _ _ _ _ (Or.inr (Or.inr (Or.inr (Or.inl ⟨by decide, by decide⟩)))) h) (fun M4 h4 => pw_e (fun v5 => hk38 M4 l1 l3 l4 v5 h4))) (pw_none)))
theorem rb_fX10_nextLaps_38 {G : jm_M → Prop} (hu : CL2 G) (fu : Nat) : ∀ (n : Nat) {M : jm_M} (a0 a1 a2 a3 : Int), G M → pw (fX10_nextLaps_38 fu n M a0 a1 a2 a3) (G) := by
  intro n
  induction n with
  | zero => intro M a0 a1 a2 a3 h; exact pw_none
  | succ n ih =>
    intro M a0 a1 a2 a3 h
    exact rb_gX10_nextLaps_38 hu fu (fX10_nextLaps_38 fu n) (fun M a0 a1 a2 a3 h => ih a0 a1 a2 a3 h) a0 a1 a2 a3 h
theorem rb_gX10_nextLaps_4 {G : jm_M → Prop} (hu : CL2 G) (fu : Nat) (k4 : jm_M → Int → Int → Int → jm_R) (hk4 : ∀ (M : jm_M) (b0 b1 b2 : Int), G M → pw (k4 M b0 b1 b2) (G)) {M : jm_M} (l1 l2 l3 : Int) (h : G M) : pw (gX10_nextLaps_4 fu k4 M l1 l2 l3) (G) := by
  unfold gX10_nextLaps_4
  exact pw_ite (pw_ret h) (pw_ite (pw_ret h) (pw_ite (pw_e (fun v5 => pw_ite (pw_e (fun v8 => hk4 M l1 l2 v8 h)) (rb_fX10_nextLaps_38 hu fu fu l1 l3 v5 l3 h))) (pw_none)))
theorem rb_fX10_nextLaps_4 {G : jm_M → Prop} (hu : CL2 G) (fu : Nat) : ∀ (n : Nat) {M : jm_M} (a0 a1 a2 : Int), G M → pw (fX10_nextLaps_4 fu n M a0 a1 a2) (G) := by
  intro n
  induction n with
  | zero => intro M a0 a1 a2 h; exact pw_none
  | succ n ih =>
    intro M a0 a1 a2 h
    exact rb_gX10_nextLaps_4 hu fu (fX10_nextLaps_4 fu n) (fun M a0 a1 a2 h => ih a0 a1 a2 h) a0 a1 a2 h
theorem rb_fX10_nextLaps {G : jm_M → Prop} (hu : CL2 G) (fu : Nat) {M : jm_M} (l1 l2 : Int) (h : G M) : pw (fX10_nextLaps fu M l1 l2) (G) := by
  unfold fX10_nextLaps
  exact pw_e (fun v1 => rb_fX10_nextLaps_4 hu fu fu l1 l2 v1 h)
theorem rb_fX10_keepPair {G : jm_M → Prop} (hu : CL2 G) (fu : Nat) {M : jm_M} (l1 l2 l3 : Int) (h : G M) : pw (fX10_keepPair fu M l1 l2 l3) (G) := by
  unfold fX10_keepPair
  exact pw_b (rb_fX11_isIndex hu  l3 16 h) (fun v1 M2 h2 => pw_ite (pw_ret h2) (pw_b (rb_fX5_triedPlace hu fu l1 h2) (fun v5 M6 h6 => pw_ite (pw_s (P := G) (hu _ _ _ _ _ (Or.inr (Or.inr (Or.inr (Or.inl ⟨by decide, by decide⟩)))) h6) (fun M9 h9 => pw_b (rb_fX5_triedSum hu  l1 h9) (fun v10 M11 h11 => pw_ite (pw_s (P := G) (hu _ _ _ _ _ (Or.inr (Or.inr (Or.inr (Or.inl ⟨by decide, by decide⟩)))) h11) (fun M14 h14 => pw_b (rb_fX5_triedPlace hu fu l2 h14) (fun v15 M16 h16 => pw_ite (pw_s (P := G) (hu _ _ _ _ _ (Or.inr (Or.inr (Or.inr (Or.inl ⟨by decide, by decide⟩)))) h16) (fun M19 h19 => pw_b (rb_fX5_triedSum hu  l2 h19) (fun v20 M21 h21 => pw_ite (pw_s (P := G) (hu _ _ _ _ _ (Or.inr (Or.inr (Or.inr (Or.inl ⟨by decide, by decide⟩)))) h21) (fun M24 h24 => pw_ret h24)) (pw_none)))) (pw_none)))) (pw_none)))) (pw_none))))
theorem rb_fX11_isWithin {G : jm_M → Prop} (hu : CL2 G) {M : jm_M} (l0 l1 l2 : Int) (h : G M) : pw (fX11_isWithin M l0 l1 l2) (G) := by
  unfold fX11_isWithin
  exact pw_ite (pw_ret h) (pw_ite (pw_ret h) (pw_ret h))
theorem rb_fX11_isDay {G : jm_M → Prop} (hu : CL2 G) {M : jm_M} (l0 : Int) (h : G M) : pw (fX11_isDay M l0) (G) := by
  unfold fX11_isDay
  exact pw_b (rb_fX11_isWithin hu  l0 0 99 h) (fun v1 M2 h2 => pw_ite (pw_ret h2) (pw_none))
theorem rb_gX11_gain_88 {G : jm_M → Prop} (hu : CL2 G) (fu : Nat) {M : jm_M} (s0 : Int) (h : G M) : pw (gX11_gain_88 fu M s0) (G) := by
  unfold gX11_gain_88
  exact pw_e (fun v3 => pw_ret h)
theorem rb_gX11_best_85 {G : jm_M → Prop} (hu : CL2 G) (fu : Nat) {M : jm_M} (l2 : Int) (h : G M) : pw (gX11_best_85 fu M l2) (G) := by
  unfold gX11_best_85
  exact pw_s (P := G) (hu _ _ _ _ _ (Or.inr (Or.inr (Or.inr (Or.inr (Or.inr (Or.inr (Or.inr (⟨rfl, rfl⟩)))))))) h) (fun M1 h1 => pw_ite (pw_ret h1) (pw_ret h1))
theorem rb_gX11_best_47 {G : jm_M → Prop} (hu : CL2 G) (fu : Nat) (k47 : jm_M → Int → Int → jm_R) (hk47 : ∀ (M : jm_M) (b0 b1 : Int), G M → pw (k47 M b0 b1) (G)) {M : jm_M} (l2 l4 : Int) (h : G M) : pw (gX11_best_47 fu k47 M l2 l4) (G) := by
  unfold gX11_best_47
  exact pw_ite (rb_gX11_best_85 hu fu l2 h) (pw_ite (rb_gX11_best_85 hu fu l2 h) (pw_ite (pw_ite (pw_s (P := G) (hu _ _ _ _ _ (Or.inr (Or.inr (Or.inr (Or.inr (Or.inr (Or.inl rfl)))))) h) (fun M6 h6 => pw_e (fun v7 => hk47 M6 l2 v7 h6))) (pw_none)) (pw_none)))
theorem rb_fX11_best_47 {G : jm_M → Prop} (hu : CL2 G) (fu : Nat) : ∀ (n : Nat) {M : jm_M} (a0 a1 : Int), G M → pw (fX11_best_47 fu n M a0 a1) (G) := by
  intro n
  induction n with
  | zero => intro M a0 a1 h; exact pw_none
  | succ n ih =>
    intro M a0 a1 h
    exact rb_gX11_best_47 hu fu (fX11_best_47 fu n) (fun M a0 a1 h => ih a0 a1 h) a0 a1 h
theorem sm_fX10_isBetter {M0 : jm_M} {M : jm_M} (l0 l1 l2 l3 : Int) (h : SM M0 M) : pw (fX10_isBetter M l0 l1 l2 l3) (SM M0) := by
  unfold fX10_isBetter
  exact pw_ite (pw_ret h) (pw_ite (pw_ite (pw_ret h) (pw_ret h)) (pw_ret h))
theorem sm_gX10_isSettled_69 {M0 : jm_M} (fu : Nat) (k69 : jm_M → Int → Int → Int → Int → jm_R) (hk69 : ∀ (M : jm_M) (b0 b1 b2 b3 : Int), SM M0 M → pw (k69 M b0 b1 b2 b3) (SM M0)) {M : jm_M} (l1 l4 l5 l6 : Int) (h : SM M0 M) : pw (gX10_isSettled_69 fu k69 M l1 l4 l5 l6) (SM M0) := by
  unfold gX10_isSettled_69
  exact pw_ite (pw_ret h) (pw_e (fun v2 => pw_ite (pw_ite (pw_ite (pw_ite (pw_b (sm_fX10_isBetter  (M 44 0 v2) (M 45 0 v2) (M 44 0 l5) (M 45 0 l5) h) (fun v12 M13 h13 => pw_ite (pw_e (fun v16 => hk69 M13 l1 l4 l5 v16 h13)) (pw_ret h13))) (pw_none)) (pw_none)) (pw_none)) (pw_none)))
theorem sm_fX10_isSettled_69 {M0 : jm_M} (fu : Nat) : ∀ (n : Nat) {M : jm_M} (a0 a1 a2 a3 : Int), SM M0 M → pw (fX10_isSettled_69 fu n M a0 a1 a2 a3) (SM M0) := by
  intro n
  induction n with
  | zero => intro M a0 a1 a2 a3 h; exact pw_none
  | succ n ih =>
    intro M a0 a1 a2 a3 h
    exact sm_gX10_isSettled_69 fu (fX10_isSettled_69 fu n) (fun M a0 a1 a2 a3 h => ih a0 a1 a2 a3 h) a0 a1 a2 a3 h
theorem sm_gX10_isSettled_10 {M0 : jm_M} (fu : Nat) (k10 : jm_M → Int → Int → Int → Int → Int → Int → jm_R) (hk10 : ∀ (M : jm_M) (b0 b1 b2 b3 b4 b5 : Int), SM M0 M → pw (k10 M b0 b1 b2 b3 b4 b5) (SM M0)) {M : jm_M} (l1 l2 l3 l4 l5 l6 : Int) (h : SM M0 M) : pw (gX10_isSettled_10 fu k10 M l1 l2 l3 l4 l5 l6) (SM M0) := by
  unfold gX10_isSettled_10
  exact pw_ite (sm_fX10_isSettled_69 fu fu l1 l4 l5 0 h) (pw_e (fun v2 => pw_ite (pw_ite (pw_ite (pw_ite (pw_b (sm_fX10_isBetter  (M 42 0 v2) (M 43 0 v2) (M 42 0 l5) (M 43 0 l5) h) (fun v12 M13 h13 => pw_ite (pw_e (fun v16 => hk10 M13 l1 l2 l3 l4 l5 v16 h13)) (pw_ret h13))) (pw_none)) (pw_none)) (pw_none)) (pw_none)))
theorem sm_fX10_isSettled_10 {M0 : jm_M} (fu : Nat) : ∀ (n : Nat) {M : jm_M} (a0 a1 a2 a3 a4 a5 : Int), SM M0 M → pw (fX10_isSettled_10 fu n M a0 a1 a2 a3 a4 a5) (SM M0) := by
  intro n
  induction n with
  | zero => intro M a0 a1 a2 a3 a4 a5 h; exact pw_none
  | succ n ih =>
    intro M a0 a1 a2 a3 a4 a5 h
    exact sm_gX10_isSettled_10 fu (fX10_isSettled_10 fu n) (fun M a0 a1 a2 a3 a4 a5 h => ih a0 a1 a2 a3 a4 a5 h) a0 a1 a2 a3 a4 a5 h
theorem sm_fX10_isSettled {M0 : jm_M} (fu : Nat) {M : jm_M} (l1 l2 l3 l4 : Int) (h : SM M0 M) : pw (fX10_isSettled fu M l1 l2 l3 l4) (SM M0) := by
  unfold fX10_isSettled
  exact pw_e (fun v1 => sm_fX10_isSettled_10 fu fu l1 l2 l3 l4 v1 0 h)
theorem sm_gX10_firstSettled_193 {M0 : jm_M} (fu : Nat) (k183 : jm_M → Int → Int → Int → jm_R) (hk183 : ∀ (M : jm_M) (b0 b1 b2 : Int), SM M0 M → pw (k183 M b0 b1 b2) (SM M0)) (k193 : jm_M → Int → Int → Int → Int → jm_R) (hk193 : ∀ (M : jm_M) (b0 b1 b2 b3 : Int), SM M0 M → pw (k193 M b0 b1 b2 b3) (SM M0)) {M : jm_M} (l4 l5 l6 l7 : Int) (h : SM M0 M) : pw (gX10_firstSettled_193 fu k183 k193 M l4 l5 l6 l7) (SM M0) := by
  unfold gX10_firstSettled_193
  exact pw_ite (pw_e (fun v2 => hk183 M l4 l5 v2 h)) (pw_b (sm_fX10_isSettled fu l6 l7 l4 l5 h) (fun v4 M5 h5 => pw_ite (pw_e (fun v8 => hk193 M5 l4 l5 l6 v8 h5)) (pw_ret h5)))
theorem sm_fX10_firstSettled_193 {M0 : jm_M} (fu : Nat) (k183 : jm_M → Int → Int → Int → jm_R) (hk183 : ∀ (M : jm_M) (b0 b1 b2 : Int), SM M0 M → pw (k183 M b0 b1 b2) (SM M0)) : ∀ (n : Nat) {M : jm_M} (a0 a1 a2 a3 : Int), SM M0 M → pw (fX10_firstSettled_193 fu k183 n M a0 a1 a2 a3) (SM M0) := by
  intro n
  induction n with
  | zero => intro M a0 a1 a2 a3 h; exact pw_none
  | succ n ih =>
    intro M a0 a1 a2 a3 h
    exact sm_gX10_firstSettled_193 fu k183 hk183 (fX10_firstSettled_193 fu k183 n) (fun M a0 a1 a2 a3 h => ih a0 a1 a2 a3 h) a0 a1 a2 a3 h
theorem sm_gX10_firstSettled_183 {M0 : jm_M} (fu : Nat) (k183 : jm_M → Int → Int → Int → jm_R) (hk183 : ∀ (M : jm_M) (b0 b1 b2 : Int), SM M0 M → pw (k183 M b0 b1 b2) (SM M0)) {M : jm_M} (l4 l5 l6 : Int) (h : SM M0 M) : pw (gX10_firstSettled_183 fu k183 M l4 l5 l6) (SM M0) := by
  unfold gX10_firstSettled_183
  exact pw_ite (pw_ret h) (sm_fX10_firstSettled_193 fu k183 hk183 fu l4 l5 l6 0 h)
theorem sm_fX10_firstSettled_183 {M0 : jm_M} (fu : Nat) : ∀ (n : Nat) {M : jm_M} (a0 a1 a2 : Int), SM M0 M → pw (fX10_firstSettled_183 fu n M a0 a1 a2) (SM M0) := by
  intro n
  induction n with
  | zero => intro M a0 a1 a2 h; exact pw_none
  | succ n ih =>
    intro M a0 a1 a2 h
    exact sm_gX10_firstSettled_183 fu (fX10_firstSettled_183 fu n) (fun M a0 a1 a2 h => ih a0 a1 a2 h) a0 a1 a2 h
theorem sm_fX11_isIndex {M0 : jm_M} {M : jm_M} (l0 l1 : Int) (h : SM M0 M) : pw (fX11_isIndex M l0 l1) (SM M0) := by
  unfold fX11_isIndex
  exact pw_ite (pw_ret h) (pw_ite (pw_ret h) (pw_ret h))
theorem sm_fX2_has {M0 : jm_M} {M : jm_M} (l1 : Int) (h : SM M0 M) : pw (fX2_has M l1) (SM M0) := by
  unfold fX2_has
  exact pw_b (sm_fX11_isIndex  l1 (M 2 0 5) h) (fun v2 M3 h3 => pw_ite (pw_ret h3) (pw_ite (pw_ret h3) (pw_ret h3)))
theorem sm_fX11_isWithin {M0 : jm_M} {M : jm_M} (l0 l1 l2 : Int) (h : SM M0 M) : pw (fX11_isWithin M l0 l1 l2) (SM M0) := by
  unfold fX11_isWithin
  exact pw_ite (pw_ret h) (pw_ite (pw_ret h) (pw_ret h))
theorem sm_fX11_isDay {M0 : jm_M} {M : jm_M} (l0 : Int) (h : SM M0 M) : pw (fX11_isDay M l0) (SM M0) := by
  unfold fX11_isDay
  exact pw_b (sm_fX11_isWithin  l0 0 99 h) (fun v1 M2 h2 => pw_ite (pw_ret h2) (pw_none))
theorem sm_fX7_cell {M0 : jm_M} {M : jm_M} (r0 l1 l2 : Int) (h : SM M0 M) : pw (fX7_cell M r0 l1 l2) (SM M0) := by
  unfold fX7_cell
  exact pw_ite (pw_ret h) (pw_ite (pw_ret h) (pw_ite (pw_ret h) (pw_ite (pw_ite (pw_ret h) (pw_none)) (pw_ret h))))
theorem sm_fX5_isAhead {M0 : jm_M} {M : jm_M} (l1 l2 : Int) (h : SM M0 M) : pw (fX5_isAhead M l1 l2) (SM M0) := by
  unfold fX5_isAhead
  exact pw_ite (pw_ite (pw_ite (pw_ite (pw_ite (pw_ite (pw_ret h) (pw_ite (pw_ite (pw_ite (pw_ite (pw_ret h) (pw_ret h)) (pw_ret h)) (pw_none)) (pw_none))) (pw_none)) (pw_none)) (pw_ite (pw_ite (pw_ite (pw_ret h) (pw_ret h)) (pw_none)) (pw_none))) (pw_none)) (pw_none)
theorem sm_gX5_placeAmong_83 {M0 : jm_M} (fu : Nat) (k27 : jm_M → Int → Int → Int → Int → jm_R) (hk27 : ∀ (M : jm_M) (b0 b1 b2 b3 : Int), SM M0 M → pw (k27 M b0 b1 b2 b3) (SM M0)) {M : jm_M} (l1 l2 l3 l4 s0 : Int) (h : SM M0 M) : pw (gX5_placeAmong_83 fu k27 M l1 l2 l3 l4 s0) (SM M0) := by
  unfold gX5_placeAmong_83
  exact pw_ite (pw_e (fun v2 => hk27 M l1 l2 l3 v2 h)) (pw_b (sm_fX5_isAhead  l4 l1 h) (fun v4 M5 h5 => pw_ite (pw_e (fun v8 => hk27 M5 l1 l2 l3 v8 h5)) (pw_e (fun v10 => pw_e (fun v12 => hk27 M5 l1 l2 v10 v12 h5)))))
theorem sm_gX5_placeAmong_27 {M0 : jm_M} (fu : Nat) (k27 : jm_M → Int → Int → Int → Int → jm_R) (hk27 : ∀ (M : jm_M) (b0 b1 b2 b3 : Int), SM M0 M → pw (k27 M b0 b1 b2 b3) (SM M0)) {M : jm_M} (l1 l2 l3 l4 : Int) (h : SM M0 M) : pw (gX5_placeAmong_27 fu k27 M l1 l2 l3 l4) (SM M0) := by
  unfold gX5_placeAmong_27
  exact pw_ite (pw_ret h) (pw_ite (pw_ret h) (pw_ite (pw_ite (sm_gX5_placeAmong_83 fu k27 hk27 l1 l2 l3 l4 0 h) (pw_ite (sm_gX5_placeAmong_83 fu k27 hk27 l1 l2 l3 l4 1 h) (pw_ite (pw_ite (sm_gX5_placeAmong_83 fu k27 hk27 l1 l2 l3 l4 1 h) (sm_gX5_placeAmong_83 fu k27 hk27 l1 l2 l3 l4 0 h)) (pw_none)))) (pw_none)))
theorem sm_fX5_placeAmong_27 {M0 : jm_M} (fu : Nat) : ∀ (n : Nat) {M : jm_M} (a0 a1 a2 a3 : Int), SM M0 M → pw (fX5_placeAmong_27 fu n M a0 a1 a2 a3) (SM M0) := by
  intro n
  induction n with
  | zero => intro M a0 a1 a2 a3 h; exact pw_none
  | succ n ih =>
    intro M a0 a1 a2 a3 h
    exact sm_gX5_placeAmong_27 fu (fX5_placeAmong_27 fu n) (fun M a0 a1 a2 a3 h => ih a0 a1 a2 a3 h) a0 a1 a2 a3 h
theorem sm_fX5_placeAmong {M0 : jm_M} (fu : Nat) {M : jm_M} (l1 l2 : Int) (h : SM M0 M) : pw (fX5_placeAmong fu M l1 l2) (SM M0) := by
  unfold fX5_placeAmong
  exact pw_b (sm_fX2_has  l1 h) (fun v1 M2 h2 => pw_ite (pw_ret h2) (pw_ite (pw_ite (pw_ret h2) (sm_fX5_placeAmong_27 fu fu l1 l2 0 0 h2)) (pw_none)))
/-- the mark of a car that is tried -/
def K8 (a b : Int) (f : Nat) (i k : Int) : Prop := f = 8 ∧ ¬ ((i = a ∨ i = b) ∧ k = 13)
theorem K8.u {a b : Int} {M0 M : jm_M} {f : Nat} {i k v : Int} (h : Kp (K8 a b) M0 M) (hn : ¬ K8 a b f i k) : Kp (K8 a b) M0 (jm_u M f i k v) := fun f2 i2 k2 c => (jm_une (by rintro ⟨rfl, rfl, rfl⟩; exact hn c)).trans (h f2 i2 k2 c)
theorem K8.c1 {a b : Int} {M0 : jm_M} : CL1 (Kp (K8 a b) M0) := fun M f i k v hf h => K8.u h (by unfold K8; omega)
theorem K8.c2 {a b : Int} {M0 : jm_M} : CL2 (Kp (K8 a b) M0) := fun M f i k v hf h => K8.u h (by unfold K8; omega)
theorem k8_run {a b : Int} {M0 M : jm_M} (fu : Nat) (h : Kp (K8 a b) M0 M) : pw (fX2_run fu M) (Kp (K8 a b) M0) := by
  unfold fX2_run
  exact pw_s (P := Kp (K8 a b) M0) (K8.u h (by unfold K8; omega)) (fun M1 h1 => pw_s (P := Kp (K8 a b) M0) (K8.u h1 (by unfold K8; omega)) (fun M2 h2 => pw_b (ra_fJ7_fill_53178_a34_w1 K8.c1 fu 0 h2) (fun v3 M4 h4 => ra_fX2_run_20 K8.c1 fu fu 0 h4)))
/-- a way tried after another: only car c is marked, and unmarked at the end -/
def Z8 (c : Int) (M0 M : jm_M) : Prop := Kp (K8 c c) M0 M ∧ M 8 c 13 = 0
theorem Z8.of {c : Int} {M0 M : jm_M} (h : Kp (K8 c c) M0 M) : Z8 c M0 (jm_u M 8 c 13 0) := ⟨K8.u h (by unfold K8; omega), jm_ueq⟩
theorem z8_192 {M0 : jm_M} (fu : Nat) (l1 l2 l3 c l5 : Int) (k116 : jm_M → Int → Int → Int → Int → Int → Int → Int → jm_R) (hk : ∀ (M : jm_M) (b6 b7 : Int), Kp (K8 c c) M0 M → pw (k116 M l1 l2 l3 c l5 b6 b7) (Z8 c M0)) {M : jm_M} (l7 : Int) (h : Kp (K8 c c) M0 M) : pw (gX10_search_192 fu k116 M l1 l2 l3 c l5 l7) (Z8 c M0) := by
  unfold gX10_search_192
  exact pw_b (rb_fX10_nextSets K8.c2 fu l2 (M 10 c 3) h) (fun v2 M3 h3 => pw_ite (pw_b (rb_fX10_nextLaps K8.c2 fu l2 l5 h3) (fun v6 M7 h7 => pw_ite (pw_e (fun v10 => hk M7 0 v10 h7)) (pw_e (fun v12 => hk M7 1 v12 h7)))) (pw_e (fun v14 => hk M3 1 v14 h3)))
theorem z8_116 {M0 : jm_M} (fu : Nat) (l1 l2 l3 c l5 : Int) : ∀ (n : Nat) {M : jm_M} (l6 l7 : Int), Kp (K8 c c) M0 M → pw (fX10_search_116 fu n M l1 l2 l3 c l5 l6 l7) (Z8 c M0) := by
  intro n
  induction n with
  | zero => intro M l6 l7 h; exact pw_none
  | succ n ih =>
    intro M l6 l7 h
    show pw (gX10_search_116 fu (fX10_search_116 fu n) M l1 l2 l3 c l5 l6 l7) _
    unfold gX10_search_116
    have g : ∀ {M : jm_M} (x : Int), Kp (K8 c c) M0 M → pw (gX10_search_192 fu (fX10_search_116 fu n) M l1 l2 l3 c l5 x) (Z8 c M0) := fun {M} x q => z8_192 fu l1 l2 l3 c l5 (fX10_search_116 fu n) (fun M b6 b7 h => ih b6 b7 h) x q
    exact pw_ite (pw_s (P := Z8 c M0) (Z8.of h) (fun M2 h2 => pw_ret h2)) (pw_ite (pw_s (P := Z8 c M0) (Z8.of h) (fun M4 h4 => pw_ret h4)) (pw_b (rb_fX10_takeWay K8.c2 fu c l2 h) (fun v5 M6 h6 => pw_b (k8_run fu h6) (fun v7 M8 h8 => pw_b (rb_fX5_reckonFor K8.c2 fu l3 h8) (fun v9 M10 h10 => pw_ite (pw_b (rb_fX10_keepWay K8.c2 fu l1 l2 h10) (fun v12 M13 h13 => g l7 h13)) (pw_b (rb_fX5_triedPlace K8.c2 fu l1 h10) (fun v14 M15 h15 => pw_b (rb_fX5_triedSum K8.c2 l1 h15) (fun v17 M18 h18 => pw_b (rb_fX10_isBetter K8.c2 v14 v17 (M18 5 0 5) (M18 5 0 6) h18) (fun v22 M23 h23 => pw_ite (g l7 h23) (pw_b (rb_fX10_keepWay K8.c2 fu l1 l2 h23) (fun v26 M27 h27 => g l7 h27)))))))))))
theorem z8_75 {M0 : jm_M} (fu : Nat) (l1 l2 l3 c l5 : Int) : ∀ (n : Nat) {M : jm_M} (l6 : Int), Kp (K8 c c) M0 M → pw (fX10_search_75 fu n M l1 l2 l3 c l5 l6) (Z8 c M0) := by
  intro n
  induction n with
  | zero => intro M l6 h; exact pw_none
  | succ n ih =>
    intro M l6 h
    show pw (gX10_search_75 fu (fX10_search_75 fu n) M l1 l2 l3 c l5 l6) _
    unfold gX10_search_75
    exact pw_ite (pw_s (P := Kp (K8 c c) M0) (K8.u h (by unfold K8; omega)) (fun M2 h2 => z8_116 fu l1 l2 l3 c l5 fu 1 0 h2)) (pw_ite (pw_s (P := Kp (K8 c c) M0) (K8.u h (by unfold K8; omega)) (fun M4 h4 => pw_ite (pw_s (P := Kp (K8 c c) M0) (K8.u h4 (by unfold K8; omega)) (fun M6 h6 => pw_e (fun v7 => ih v7 h6))) pw_none)) pw_none)
/-- however the search ends, the car's mark is as it was, or gone -/
def ZS (a b : Int) (M M1 : jm_M) : Prop := Kp (K8 a b) M M1 ∧ (M1 8 a 13 = M 8 a 13 ∨ M1 8 a 13 = 0) ∧ (M1 8 b 13 = M 8 b 13 ∨ M1 8 b 13 = 0)
theorem ZS.rf {a b : Int} {M M1 : jm_M} (e : M1 = M) : ZS a b M M1 := by
  rw [e]
  exact ⟨Kp.rf, Or.inl rfl, Or.inl rfl⟩
theorem sm_has {M : jm_M} (l : Int) : pw (fX2_has M l) (fun M1 => M1 = M) := sm_fX2_has l (show SM M M from rfl)
theorem sm_within {M : jm_M} (a b c : Int) : pw (fX11_isWithin M a b c) (fun M1 => M1 = M) := sm_fX11_isWithin a b c (show SM M M from rfl)
theorem sm_day {M : jm_M} (l : Int) : pw (fX11_isDay M l) (fun M1 => M1 = M) := sm_fX11_isDay l (show SM M M from rfl)
theorem z8_search (fu : Nat) (l1 l2 l3 : Int) {M : jm_M} : pw (fX10_search fu M l1 l2 l3) (ZS l1 l1 M) := by
  unfold fX10_search
  refine pw_b (sm_has l1) (fun v1 M2 e2 => ?_)
  rw [e2]
  refine pw_ite (pw_ret (ZS.rf rfl)) (pw_b (sm_within l2 0 2) (fun v5 M6 e6 => ?_))
  rw [e6]
  have g : ∀ v11 : Int, pw (fX10_search_75 fu fu M l1 l2 l3 l1 v11 0) (ZS l1 l1 M) := fun v11 v M1 e => by
    obtain ⟨z1, z2⟩ := z8_75 fu l1 l2 l3 l1 v11 fu 0 (Kp.rf (T := K8 l1 l1) (M := M)) v M1 e
    exact ⟨z1, Or.inr z2, Or.inr z2⟩
  exact pw_ite (pw_ret (ZS.rf rfl)) (pw_ite (pw_e (fun v11 => pw_ite (g v11) (pw_ite (pw_ret (ZS.rf rfl)) (pw_ite (g v11) (pw_ret (ZS.rf rfl)))))) pw_none)
def Z9 (a b : Int) (M0 M : jm_M) : Prop := Kp (K8 a b) M0 M ∧ M 8 a 13 = 0 ∧ M 8 b 13 = 0
theorem k8_try {a b : Int} {M0 M : jm_M} (r0 l1 : Int) (hr : r0 = a ∨ r0 = b) (h : Kp (K8 a b) M0 M) : pw (fX1_tryOption M r0 l1) (Kp (K8 a b) M0) := by
  unfold fX1_tryOption
  exact pw_s (P := Kp (K8 a b) M0) (K8.u h (by unfold K8; omega)) (fun M1 h1 => pw_s (P := Kp (K8 a b) M0) (K8.u h1 (by unfold K8; omega)) (fun M2 h2 => pw_b (rb_fX7_cell K8.c2 (r0 + 18) l1 0 h2) (fun v3 M4 h4 => pw_ite (pw_ret h4) (pw_b (rb_fX7_cell K8.c2 (r0 + 18) l1 0 h4) (fun v7 M8 h8 => pw_b (rb_fX7_cell K8.c2 (r0 + 18) l1 1 h8) (fun v10 M11 h11 => pw_b (rb_fX7_push K8.c2 (r0 + 24) v7 v10 200 0 h11) (fun v13 M14 h14 => pw_ret h14)))))))
theorem z9_79 {M0 : jm_M} (fu : Nat) (l1 l2 l3 l4 l5 : Int) (k69 : jm_M → Int → Int → Int → Int → Int → Int → jm_R) (hk : ∀ (M : jm_M) (b6 : Int), Kp (K8 l1 l2) M0 M → pw (k69 M l1 l2 l3 l4 l5 b6) (Z9 l1 l2 M0)) : ∀ (n : Nat) {M : jm_M} (l6 l7 : Int), Kp (K8 l1 l2) M0 M → pw (fX10_firstSettled_79 fu k69 n M l1 l2 l3 l4 l5 l6 l7) (Z9 l1 l2 M0) := by
  intro n
  induction n with
  | zero => intro M l6 l7 h; exact pw_none
  | succ n ih =>
    intro M l6 l7 h
    show pw (gX10_firstSettled_79 fu k69 (fX10_firstSettled_79 fu k69 n) M l1 l2 l3 l4 l5 l6 l7) _
    unfold gX10_firstSettled_79
    exact pw_ite (pw_e (fun v2 => hk M v2 h)) (pw_ite (pw_b (k8_try l1 l6 (Or.inl rfl) h) (fun v5 M6 h6 => pw_ite (pw_b (k8_try l2 l7 (Or.inr rfl) h6) (fun v8 M9 h9 => pw_b (k8_run fu h9) (fun v10 M11 h11 => pw_b (rb_fX5_reckonFor K8.c2 fu l3 h11) (fun v12 M13 h13 => pw_b (rb_fX10_keepPair K8.c2 fu l1 l2 (jm_w ((jm_w (l6 * 4)) + l7)) h13) (fun v14 M15 h15 => pw_e (fun v16 => ih l6 v16 h15)))))) pw_none)) pw_none)
theorem z9_69 {M0 : jm_M} (fu : Nat) (l1 l2 l3 l4 l5 : Int) : ∀ (n : Nat) {M : jm_M} (l6 : Int), Kp (K8 l1 l2) M0 M → pw (fX10_firstSettled_69 fu n M l1 l2 l3 l4 l5 l6) (Z9 l1 l2 M0) := by
  intro n
  induction n with
  | zero => intro M l6 h; exact pw_none
  | succ n ih =>
    intro M l6 h
    show pw (gX10_firstSettled_69 fu (fX10_firstSettled_69 fu n) M l1 l2 l3 l4 l5 l6) _
    unfold gX10_firstSettled_69
    refine pw_ite (pw_ite (pw_s (P := fun M1 => Kp (K8 l1 l2) M0 M1 ∧ M1 8 l1 13 = 0) ⟨K8.u h (by unfold K8; omega), jm_ueq⟩ (fun M3 h3 => pw_ite (pw_s (P := Z9 l1 l2 M0) ⟨K8.u h3.1 (by unfold K8; omega), ?_, jm_ueq⟩ (fun M5 h5 => ?_)) pw_none)) pw_none) (z9_79 fu l1 l2 l3 l4 l5 (fX10_firstSettled_69 fu n) (fun M b6 q => ih b6 q) fu l6 0 h)
    · by_cases q : l1 = l2
      · rw [q]; exact jm_ueq
      · rw [jm_une_i q]; exact h3.2
    · intro v M1 e
      have z : M1 = M5 := sm_fX10_firstSettled_183 fu fu l4 l5 0 (show SM M5 M5 from rfl) v M1 e
      rw [z]; exact h5
theorem z9_first (fu : Nat) (l1 l2 l3 : Int) {M : jm_M} : pw (fX10_firstSettled fu M l1 l2 l3) (ZS l1 l2 M) := by
  unfold fX10_firstSettled
  refine pw_b (sm_has l1) (fun v1 M2 e2 => ?_)
  rw [e2]
  refine pw_ite (pw_ret (ZS.rf rfl)) (pw_b (sm_has l2) (fun v5 M6 e6 => ?_))
  rw [e6]
  exact pw_ite (pw_ret (ZS.rf rfl)) (pw_ite (pw_e (fun v11 => pw_ite (pw_e (fun v15 v M1 e => by
    obtain ⟨z1, z2, z3⟩ := z9_69 fu l1 l2 l3 v11 v15 fu 0 (Kp.rf (T := K8 l1 l2) (M := M)) v M1 e
    exact ⟨z1, Or.inr z2, Or.inr z3⟩)) pw_none)) pw_none)
theorem zs_best (fu : Nat) (l1 l2 l3 : Int) {M : jm_M} : pw (fX11_best fu M l1 l2 l3) (ZS l1 l1 M) := by
  unfold fX11_best
  refine pw_b (sm_has l1) (fun v1 M2 e2 => ?_)
  rw [e2]
  refine pw_ite (pw_ret (ZS.rf rfl)) (pw_b (sm_within l2 0 2) (fun v5 M6 e6 => ?_))
  rw [e6]
  refine pw_ite (pw_ret (ZS.rf rfl)) (pw_b (sm_day l3) (fun v9 M10 e10 => ?_))
  rw [e10]
  refine pw_ite (pw_ret (ZS.rf rfl)) (pw_b (z8_search fu l1 l2 l3) (fun v13 M14 h => pw_ite (pw_ret h) ?_))
  have cl : CL2 (ZS l1 l1 M) := fun M' f i k v hf q => ⟨K8.u q.1 (by unfold K8; omega), by rw [jm_une_f (by omega)]; exact q.2.1, by rw [jm_une_f (by omega)]; exact q.2.2⟩
  exact rb_fX11_best_47 cl fu fu l2 0 h
theorem zs_settle (fu : Nat) (l1 l2 l3 : Int) {M : jm_M} : pw (fX11_settle fu M l1 l2 l3) (ZS l1 l2 M) := by
  unfold fX11_settle
  refine pw_b (sm_has l1) (fun v1 M2 e2 => ?_)
  rw [e2]
  refine pw_ite (pw_ret (ZS.rf rfl)) (pw_b (sm_has l2) (fun v5 M6 e6 => ?_))
  rw [e6]
  refine pw_ite (pw_ret (ZS.rf rfl)) (pw_ite (pw_ret (ZS.rf rfl)) (pw_b (sm_day l3) (fun v10 M11 e11 => ?_)))
  rw [e11]
  exact pw_ite (pw_ret (ZS.rf rfl)) (pw_ite (pw_ite (pw_ret (ZS.rf rfl)) (pw_ite (pw_ite (pw_ret (ZS.rf rfl)) (pw_b (z9_first fu l1 l2 l3) (fun v20 M21 h => pw_ret h))) pw_none)) pw_none)
/-- the race is told anew, or stands as it was -/
def G7 (M0 M : jm_M) : Prop := M 2 0 7 = 0 ∨ Kp CR7 M0 M
theorem G7.c2 {M0 : jm_M} : CL2 (G7 M0) := fun M f i k v hf h => by
  rcases h with h | h
  · exact Or.inl ((jm_une (by omega)).trans h)
  · exact Or.inr (fun f2 i2 k2 y => (jm_une (by unfold CR7 at y; omega)).trans (h f2 i2 k2 y))
theorem G7.u8 {M0 M : jm_M} {i k v : Int} (h : G7 M0 M) : G7 M0 (jm_u M 8 i k v) := by
  rcases h with h | h
  · exact Or.inl ((jm_une_f (by decide)).trans h)
  · exact Or.inr (fun f2 i2 k2 y => (jm_une_f (by unfold CR7 at y; omega)).trans (h f2 i2 k2 y))
theorem R7.c1 : CL1 (fun M => M 2 0 7 = 0) := fun M f i k v hf h => by
  show (jm_u M f i k v) 2 0 7 = 0
  rw [jm_une (by omega)]
  exact h
theorem r7_run {M : jm_M} (fu : Nat) : pw (fX2_run fu M) (fun M1 => M1 2 0 7 = 0) := by
  unfold fX2_run
  refine pw_s (P := fun M1 => M1 2 0 7 = 0) jm_ueq (fun M1 h1 => pw_s (P := fun M1 => M1 2 0 7 = 0) ((jm_une_k (by decide)).trans h1) (fun M2 h2 => pw_b (ra_fJ7_fill_53178_a34_w1 R7.c1 fu 0 h2) (fun v3 M4 h4 => ?_)))
  exact ra_fX2_run_20 R7.c1 fu fu 0 h4
theorem g7_run {M0 M : jm_M} (fu : Nat) : pw (fX2_run fu M) (G7 M0) := fun v M5 e => Or.inl (r7_run fu v M5 e)
theorem g7_192 {M0 : jm_M} (fu : Nat) (k116 : jm_M → Int → Int → Int → Int → Int → Int → Int → jm_R) (hk : ∀ (M : jm_M) (b1 b2 b3 b4 b5 b6 b7 : Int), G7 M0 M → pw (k116 M b1 b2 b3 b4 b5 b6 b7) (G7 M0)) {M : jm_M} (l1 l2 l3 c l5 l7 : Int) (h : G7 M0 M) : pw (gX10_search_192 fu k116 M l1 l2 l3 c l5 l7) (G7 M0) := by
  unfold gX10_search_192
  exact pw_b (rb_fX10_nextSets G7.c2 fu l2 (M 10 c 3) h) (fun v2 M3 h3 => pw_ite (pw_b (rb_fX10_nextLaps G7.c2 fu l2 l5 h3) (fun v6 M7 h7 => pw_ite (pw_e (fun v10 => hk M7 l1 l2 l3 c l5 0 v10 h7)) (pw_e (fun v12 => hk M7 l1 l2 l3 c l5 1 v12 h7)))) (pw_e (fun v14 => hk M3 l1 l2 l3 c l5 1 v14 h3)))
theorem g7_116 {M0 : jm_M} (fu : Nat) : ∀ (n : Nat) {M : jm_M} (l1 l2 l3 c l5 l6 l7 : Int), G7 M0 M → pw (fX10_search_116 fu n M l1 l2 l3 c l5 l6 l7) (G7 M0) := by
  intro n
  induction n with
  | zero => intro M l1 l2 l3 c l5 l6 l7 h; exact pw_none
  | succ n ih =>
    intro M l1 l2 l3 c l5 l6 l7 h
    show pw (gX10_search_116 fu (fX10_search_116 fu n) M l1 l2 l3 c l5 l6 l7) _
    unfold gX10_search_116
    have g : ∀ {M : jm_M} (x : Int), G7 M0 M → pw (gX10_search_192 fu (fX10_search_116 fu n) M l1 l2 l3 c l5 x) (G7 M0) := fun {M} x q => g7_192 fu (fX10_search_116 fu n) (fun M b1 b2 b3 b4 b5 b6 b7 h => ih b1 b2 b3 b4 b5 b6 b7 h) l1 l2 l3 c l5 x q
    exact pw_ite (pw_s (P := G7 M0) h.u8 (fun M2 h2 => pw_ret h2)) (pw_ite (pw_s (P := G7 M0) h.u8 (fun M4 h4 => pw_ret h4)) (pw_b (rb_fX10_takeWay G7.c2 fu c l2 h) (fun v5 M6 h6 => pw_b (g7_run (M0 := M0) fu) (fun v7 M8 h8 => pw_b (rb_fX5_reckonFor G7.c2 fu l3 h8) (fun v9 M10 h10 => pw_ite (pw_b (rb_fX10_keepWay G7.c2 fu l1 l2 h10) (fun v12 M13 h13 => g l7 h13)) (pw_b (rb_fX5_triedPlace G7.c2 fu l1 h10) (fun v14 M15 h15 => pw_b (rb_fX5_triedSum G7.c2 l1 h15) (fun v17 M18 h18 => pw_b (rb_fX10_isBetter G7.c2 v14 v17 (M18 5 0 5) (M18 5 0 6) h18) (fun v22 M23 h23 => pw_ite (g l7 h23) (pw_b (rb_fX10_keepWay G7.c2 fu l1 l2 h23) (fun v26 M27 h27 => g l7 h27)))))))))))
theorem g7_75 {M0 : jm_M} (fu : Nat) : ∀ (n : Nat) {M : jm_M} (l1 l2 l3 c l5 l6 : Int), G7 M0 M → pw (fX10_search_75 fu n M l1 l2 l3 c l5 l6) (G7 M0) := by
  intro n
  induction n with
  | zero => intro M l1 l2 l3 c l5 l6 h; exact pw_none
  | succ n ih =>
    intro M l1 l2 l3 c l5 l6 h
    show pw (gX10_search_75 fu (fX10_search_75 fu n) M l1 l2 l3 c l5 l6) _
    unfold gX10_search_75
    have u : ∀ {M : jm_M} {f : Nat} {k v : Int}, (36 ≤ f ∧ f ≤ 45) → G7 M0 M → G7 M0 (jm_u M f 0 k v) := fun hf q => G7.c2 _ _ _ _ _ (Or.inr (Or.inr (Or.inr (Or.inl hf)))) q
    exact pw_ite (pw_s (P := G7 M0) h.u8 (fun M2 h2 => g7_116 fu fu l1 l2 l3 c l5 1 0 h2)) (pw_ite (pw_s (P := G7 M0) (u ⟨by decide, by decide⟩ h) (fun M4 h4 => pw_ite (pw_s (P := G7 M0) (u ⟨by decide, by decide⟩ h4) (fun M6 h6 => pw_e (fun v7 => ih l1 l2 l3 c l5 v7 h6))) pw_none)) pw_none)
theorem g7_search {M0 : jm_M} (fu : Nat) (l1 l2 l3 : Int) {M : jm_M} (h : G7 M0 M) : pw (fX10_search fu M l1 l2 l3) (G7 M0) := by
  unfold fX10_search
  exact pw_b (rb_fX2_has G7.c2 l1 h) (fun v1 M2 h2 => pw_ite (pw_ret h2) (pw_b (rb_fX11_isWithin G7.c2 l2 0 2 h2) (fun v5 M6 h6 => pw_ite (pw_ret h6) (pw_ite (pw_e (fun v11 => pw_ite (g7_75 fu fu l1 l2 l3 l1 v11 0 h6) (pw_ite (pw_ret h6) (pw_ite (g7_75 fu fu l1 l2 l3 l1 v11 0 h6) (pw_ret h6))))) pw_none))))
theorem g7_best (fu : Nat) (l1 l2 l3 : Int) {M : jm_M} : pw (fX11_best fu M l1 l2 l3) (G7 M) := by
  unfold fX11_best
  have h : G7 M M := Or.inr Kp.rf
  exact pw_b (rb_fX2_has G7.c2 l1 h) (fun v1 M2 h2 => pw_ite (pw_ret h2) (pw_b (rb_fX11_isWithin G7.c2 l2 0 2 h2) (fun v5 M6 h6 => pw_ite (pw_ret h6) (pw_b (rb_fX11_isDay G7.c2 l3 h6) (fun v9 M10 h10 => pw_ite (pw_ret h10) (pw_b (g7_search fu l1 l2 l3 h10) (fun v13 M14 h14 => pw_ite (pw_ret h14) (rb_fX11_best_47 G7.c2 fu fu l2 0 h14))))))))
theorem g7_try {M0 M : jm_M} (r0 l1 : Int) (h : G7 M0 M) : pw (fX1_tryOption M r0 l1) (G7 M0) := by
  unfold fX1_tryOption
  exact pw_s (P := G7 M0) h.u8 (fun M1 h1 => pw_s (P := G7 M0) (G7.c2 _ _ _ _ _ (Or.inr (Or.inr (Or.inr (Or.inr (Or.inl rfl))))) h1) (fun M2 h2 => pw_b (rb_fX7_cell G7.c2 (r0 + 18) l1 0 h2) (fun v3 M4 h4 => pw_ite (pw_ret h4) (pw_b (rb_fX7_cell G7.c2 (r0 + 18) l1 0 h4) (fun v7 M8 h8 => pw_b (rb_fX7_cell G7.c2 (r0 + 18) l1 1 h8) (fun v10 M11 h11 => pw_b (rb_fX7_push G7.c2 (r0 + 24) v7 v10 200 0 h11) (fun v13 M14 h14 => pw_ret h14)))))))
theorem g7_79 {M0 : jm_M} (fu : Nat) (k69 : jm_M → Int → Int → Int → Int → Int → Int → jm_R) (hk : ∀ (M : jm_M) (b1 b2 b3 b4 b5 b6 : Int), G7 M0 M → pw (k69 M b1 b2 b3 b4 b5 b6) (G7 M0)) : ∀ (n : Nat) {M : jm_M} (l1 l2 l3 l4 l5 l6 l7 : Int), G7 M0 M → pw (fX10_firstSettled_79 fu k69 n M l1 l2 l3 l4 l5 l6 l7) (G7 M0) := by
  intro n
  induction n with
  | zero => intro M l1 l2 l3 l4 l5 l6 l7 h; exact pw_none
  | succ n ih =>
    intro M l1 l2 l3 l4 l5 l6 l7 h
    show pw (gX10_firstSettled_79 fu k69 (fX10_firstSettled_79 fu k69 n) M l1 l2 l3 l4 l5 l6 l7) _
    unfold gX10_firstSettled_79
    exact pw_ite (pw_e (fun v2 => hk M l1 l2 l3 l4 l5 v2 h)) (pw_ite (pw_b (g7_try l1 l6 h) (fun v5 M6 h6 => pw_ite (pw_b (g7_try l2 l7 h6) (fun v8 M9 h9 => pw_b (g7_run (M0 := M0) fu) (fun v10 M11 h11 => pw_b (rb_fX5_reckonFor G7.c2 fu l3 h11) (fun v12 M13 h13 => pw_b (rb_fX10_keepPair G7.c2 fu l1 l2 (jm_w ((jm_w (l6 * 4)) + l7)) h13) (fun v14 M15 h15 => pw_e (fun v16 => ih l1 l2 l3 l4 l5 l6 v16 h15)))))) pw_none)) pw_none)
theorem g7_69 {M0 : jm_M} (fu : Nat) : ∀ (n : Nat) {M : jm_M} (l1 l2 l3 l4 l5 l6 : Int), G7 M0 M → pw (fX10_firstSettled_69 fu n M l1 l2 l3 l4 l5 l6) (G7 M0) := by
  intro n
  induction n with
  | zero => intro M l1 l2 l3 l4 l5 l6 h; exact pw_none
  | succ n ih =>
    intro M l1 l2 l3 l4 l5 l6 h
    show pw (gX10_firstSettled_69 fu (fX10_firstSettled_69 fu n) M l1 l2 l3 l4 l5 l6) _
    unfold gX10_firstSettled_69
    refine pw_ite (pw_ite (pw_s (P := G7 M0) h.u8 (fun M3 h3 => pw_ite (pw_s (P := G7 M0) h3.u8 (fun M5 h5 => ?_)) pw_none)) pw_none) (g7_79 fu (fX10_firstSettled_69 fu n) (fun M b1 b2 b3 b4 b5 b6 q => ih b1 b2 b3 b4 b5 b6 q) fu l1 l2 l3 l4 l5 l6 0 h)
    intro v M1 e
    have z : M1 = M5 := sm_fX10_firstSettled_183 fu fu l4 l5 0 (show SM M5 M5 from rfl) v M1 e
    rw [z]; exact h5
theorem g7_first {M0 : jm_M} (fu : Nat) (l1 l2 l3 : Int) {M : jm_M} (h : G7 M0 M) : pw (fX10_firstSettled fu M l1 l2 l3) (G7 M0) := by
  unfold fX10_firstSettled
  refine pw_b (rb_fX2_has G7.c2 l1 h) (fun v1 M2 h2 => pw_ite (pw_ret h2) ?_)
  refine pw_b (rb_fX2_has G7.c2 l2 h2) (fun v5 M6 h6 => pw_ite (pw_ret h6) ?_)
  exact pw_ite (pw_e (fun v11 => pw_ite (pw_e (fun v15 => g7_69 fu fu l1 l2 l3 v11 v15 0 h6)) pw_none)) pw_none
theorem g7_settle (fu : Nat) (l1 l2 l3 : Int) {M : jm_M} : pw (fX11_settle fu M l1 l2 l3) (G7 M) := by
  unfold fX11_settle
  have h : G7 M M := Or.inr Kp.rf
  refine pw_b (rb_fX2_has G7.c2 l1 h) (fun v1 M2 h2 => pw_ite (pw_ret h2) ?_)
  refine pw_b (rb_fX2_has G7.c2 l2 h2) (fun v5 M6 h6 => pw_ite (pw_ret h6) (pw_ite (pw_ret h6) ?_))
  refine pw_b (rb_fX11_isDay G7.c2 l3 h6) (fun v10 M11 h11 => pw_ite (pw_ret h11) (pw_ite (pw_ite (pw_ret h11) (pw_ite (pw_ite (pw_ret h11) ?_) pw_none)) pw_none))
  exact pw_b (g7_first fu l1 l2 l3 h11) (fun v20 M21 h21 => pw_ret h21)
