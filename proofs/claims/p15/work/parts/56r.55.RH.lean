/-! rows: what all calls but two leave alone -/
def RWA (f : Nat) (_ k : Int) : Prop := (f = 0 ∧ k = 9) ∨ f = 13
def RWB (f : Nat) (_ k : Int) : Prop := (f = 0 ∧ k = 82) ∨ f = 69
theorem rwa_f {M0 M : jm_M} {f : Nat} {i k v : Int} (h : Kp RWA M0 M) (h0 : f ≠ 0) (h1 : f ≠ 13) : Kp RWA M0 (jm_u M f i k v) := fun f2 i2 k2 y => (jm_une_f (by unfold RWA at y; omega)).trans (h f2 i2 k2 y)
theorem rwa_k {M0 M : jm_M} {i k v : Int} (h : Kp RWA M0 M) (h0 : k ≠ 9) : Kp RWA M0 (jm_u M 0 i k v) := fun f2 i2 k2 y => (jm_une (by unfold RWA at y; omega)).trans (h f2 i2 k2 y)
theorem rwb_f {M0 M : jm_M} {f : Nat} {i k v : Int} (h : Kp RWB M0 M) (h0 : f ≠ 0) (h1 : f ≠ 69) : Kp RWB M0 (jm_u M f i k v) := fun f2 i2 k2 y => (jm_une_f (by unfold RWB at y; omega)).trans (h f2 i2 k2 y)
theorem rwb_k {M0 M : jm_M} {i k v : Int} (h : Kp RWB M0 M) (h0 : k ≠ 82) : Kp RWB M0 (jm_u M 0 i k v) := fun f2 i2 k2 y => (jm_une (by unfold RWB at y; omega)).trans (h f2 i2 k2 y)
theorem rwa_cl {M0 : jm_M} : CL1 (Kp RWA M0) := fun M f i k v hf h f2 i2 k2 y => (jm_une (by unfold RWA at y; omega)).trans (h f2 i2 k2 y)
theorem rwc_fX2_run_20 {M0 : jm_M} (fu : Nat) : ∀ (n : Nat) {M : jm_M} (a0 : Int), Kp RWA M0 M → pw (fX2_run_20 fu n M a0) (Kp RWA M0) := ra_fX2_run_20 rwa_cl fu
theorem rwc_fX3_isLetter {M0 : jm_M} (fu : Nat) {M : jm_M} (l1 : Int) (h : Kp RWA M0 M) : pw (fX3_isLetter fu M l1) (Kp RWA M0) := pw_wp (y_isLetter fu M l1) (fun v M1 q => by rw [q.1]; exact h)
theorem rwc_fX11_isIndex {M0 : jm_M} {M : jm_M} (l0 l1 : Int) (h : Kp RWA M0 M) : pw (fX11_isIndex M l0 l1) (Kp RWA M0) := by
  unfold fX11_isIndex
  exact pw_ite (pw_ret h) (pw_ite (pw_ret h) (pw_ret h))
theorem rwc_fX9_hasSector {M0 : jm_M} {M : jm_M} (l1 : Int) (h : Kp RWA M0 M) : pw (fX9_hasSector M l1) (Kp RWA M0) := by
  unfold fX9_hasSector
  exact pw_b (rwc_fX11_isIndex  l1 (M 1 0 0) h) (fun v2 M3 h3 => pw_ite (pw_ret h3) (pw_none))
theorem rwc_fX11_isWithin {M0 : jm_M} {M : jm_M} (l0 l1 l2 : Int) (h : Kp RWA M0 M) : pw (fX11_isWithin M l0 l1 l2) (Kp RWA M0) := by
  unfold fX11_isWithin
  exact pw_ite (pw_ret h) (pw_ite (pw_ret h) (pw_ret h))
theorem rwc_fX11_sector {M0 : jm_M} {M : jm_M} (l1 l2 l3 : Int) (h : Kp RWA M0 M) : pw (fX11_sector M l1 l2 l3) (Kp RWA M0) := by
  unfold fX11_sector
  exact pw_b (rwc_fX9_hasSector  l1 h) (fun v1 M2 h2 => pw_ite (pw_ret h2) (pw_b (rwc_fX11_isWithin  l2 5000 60000 h2) (fun v5 M6 h6 => pw_ite (pw_ret h6) (pw_b (rwc_fX11_isWithin  l3 (-1) 5000 h6) (fun v9 M10 h10 => pw_ite (pw_ret h10) (pw_ite (pw_s (P := Kp RWA M0) (rwa_f h10 (by decide) (by decide)) (fun M14 h14 => pw_ite (pw_s (P := Kp RWA M0) (rwa_f h14 (by decide) (by decide)) (fun M16 h16 => pw_s (P := Kp RWA M0) (rwa_f h16 (by decide) (by decide)) (fun M17 h17 => pw_ret h17))) (pw_none))) (pw_none)))))))
theorem rwc_fX7_isFull {M0 : jm_M} {M : jm_M} (r0 : Int) (h : Kp RWA M0 M) : pw (fX7_isFull M r0) (Kp RWA M0) := by
  unfold fX7_isFull
  exact pw_ite (pw_ret h) (pw_ret h)
theorem rwc_fX7_put {M0 : jm_M} {M : jm_M} (r0 l1 l2 l3 : Int) (h : Kp RWA M0 M) : pw (fX7_put M r0 l1 l2 l3) (Kp RWA M0) := by
  unfold fX7_put
  exact pw_ite (pw_ret h) (pw_ite (pw_ret h) (pw_ite (pw_ret h) (pw_ite (pw_ret h) (pw_ite (pw_s (P := Kp RWA M0) (rwa_f h (by decide) (by decide)) (fun M9 h9 => pw_ret h9)) (pw_none)))))
theorem rwc_fX7_push {M0 : jm_M} {M : jm_M} (r0 l1 l2 l3 l4 : Int) (h : Kp RWA M0 M) : pw (fX7_push M r0 l1 l2 l3 l4) (Kp RWA M0) := by
  unfold fX7_push
  exact pw_b (rwc_fX7_isFull  r0 h) (fun v1 M2 h2 => pw_ite (pw_s (P := Kp RWA M0) (rwa_f h2 (by decide) (by decide)) (fun M6 h6 => pw_b (rwc_fX7_put  r0 (jm_w ((M6 10 r0 3) - 1)) 0 l1 h6) (fun v8 M9 h9 => pw_b (rwc_fX7_put  r0 (jm_w ((M9 10 r0 3) - 1)) 1 l2 h9) (fun v11 M12 h12 => pw_b (rwc_fX7_put  r0 (jm_w ((M12 10 r0 3) - 1)) 2 l3 h12) (fun v14 M15 h15 => pw_b (rwc_fX7_put  r0 (jm_w ((M15 10 r0 3) - 1)) 3 l4 h15) (fun v17 M18 h18 => pw_ret h18)))))) (pw_ret h2))
theorem rwc_fX11_rain {M0 : jm_M} {M : jm_M} (l1 l2 l3 : Int) (h : Kp RWA M0 M) : pw (fX11_rain M l1 l2 l3) (Kp RWA M0) := by
  unfold fX11_rain
  exact pw_b (rwc_fX9_hasSector  l1 h) (fun v1 M2 h2 => pw_ite (pw_ret h2) (pw_ite (pw_ret h2) (pw_b (rwc_fX11_isWithin  l3 0 100 h2) (fun v6 M7 h7 => pw_ite (pw_ret h7) (pw_s (P := Kp RWA M0) (rwa_f h7 (by decide) (by decide)) (fun M10 h10 => pw_b (rwc_fX7_push  30 l1 l2 l3 0 h10) (fun v11 M12 h12 => pw_ret h12)))))))
theorem rwc_gX11_flag_18 {M0 : jm_M} (fu : Nat) {M : jm_M} (l1 l2 l3 l4 : Int) (h : Kp RWA M0 M) : pw (gX11_flag_18 fu M l1 l2 l3 l4) (Kp RWA M0) := by
  unfold gX11_flag_18
  exact pw_ite (pw_ret h) (pw_ite (pw_ret h) (pw_b (rwc_fX11_isWithin  l4 0 1 h) (fun v3 M4 h4 => pw_ite (pw_ret h4) (pw_s (P := Kp RWA M0) (rwa_f h4 (by decide) (by decide)) (fun M7 h7 => pw_b (rwc_fX7_push  31 l1 l2 l3 l4 h7) (fun v8 M9 h9 => pw_ret h9))))))
theorem rwc_fX11_flag {M0 : jm_M} (fu : Nat) {M : jm_M} (l1 l2 l3 l4 : Int) (h : Kp RWA M0 M) : pw (fX11_flag fu M l1 l2 l3 l4) (Kp RWA M0) := by
  unfold fX11_flag
  exact pw_ite (rwc_gX11_flag_18 fu l1 l2 l3 l4 h) (pw_b (rwc_fX9_hasSector  l1 h) (fun v2 M3 h3 => pw_ite (pw_ret h3) (rwc_gX11_flag_18 fu l1 l2 l3 l4 h3)))
theorem rwc_fX11_isDay {M0 : jm_M} {M : jm_M} (l0 : Int) (h : Kp RWA M0 M) : pw (fX11_isDay M l0) (Kp RWA M0) := by
  unfold fX11_isDay
  exact pw_b (rwc_fX11_isWithin  l0 0 99 h) (fun v1 M2 h2 => pw_ite (pw_ret h2) (pw_none))
theorem rwc_fX2_has {M0 : jm_M} {M : jm_M} (l1 : Int) (h : Kp RWA M0 M) : pw (fX2_has M l1) (Kp RWA M0) := by
  unfold fX2_has
  exact pw_b (rwc_fX11_isIndex  l1 (M 2 0 5) h) (fun v2 M3 h3 => pw_ite (pw_ret h3) (pw_ite (pw_ret h3) (pw_ret h3)))
theorem rwc_gX11_finding_55 {M0 : jm_M} (fu : Nat) {M : jm_M} (l1 l2 l3 l4 s0 : Int) (h : Kp RWA M0 M) : pw (gX11_finding_55 fu M l1 l2 l3 l4 s0) (Kp RWA M0) := by
  unfold gX11_finding_55
  exact pw_ite (pw_ret h) (pw_b (rwc_fX7_push  32 l1 l2 l3 l4 h) (fun v2 M3 h3 => pw_ret h3))
theorem rwc_fX11_finding {M0 : jm_M} (fu : Nat) {M : jm_M} (l1 l2 l3 l4 : Int) (h : Kp RWA M0 M) : pw (fX11_finding fu M l1 l2 l3 l4) (Kp RWA M0) := by
  unfold fX11_finding
  exact pw_b (rwc_fX11_isDay  l1 h) (fun v1 M2 h2 => pw_ite (pw_ret h2) (pw_b (rwc_fX2_has  l2 h2) (fun v5 M6 h6 => pw_ite (pw_ret h6) (pw_b (rwc_fX11_isWithin  l3 0 1 h6) (fun v9 M10 h10 => pw_ite (pw_ret h10) (pw_ite (pw_b (rwc_fX11_isWithin  l4 0 999 h10) (fun v14 M15 h15 => rwc_gX11_finding_55 fu l1 l2 l3 l4 v14 h15)) (pw_b (rwc_fX11_isWithin  l4 (-60000) 60000 h10) (fun v17 M18 h18 => rwc_gX11_finding_55 fu l1 l2 l3 l4 v17 h18))))))))
theorem rwc_fX11_tyre {M0 : jm_M} {M : jm_M} (l1 l2 l3 : Int) (h : Kp RWA M0 M) : pw (fX11_tyre M l1 l2 l3) (Kp RWA M0) := by
  unfold fX11_tyre
  exact pw_b (rwc_fX2_has  l1 h) (fun v1 M2 h2 => pw_ite (pw_ret h2) (pw_b (rwc_fX11_isIndex  l2 4 h2) (fun v5 M6 h6 => pw_ite (pw_ret h6) (pw_b (rwc_fX11_isWithin  l3 0 100 h6) (fun v9 M10 h10 => pw_ite (pw_ret h10) (pw_ite (pw_b (rwc_fX7_isFull  l1 h10) (fun v14 M15 h15 => pw_ite (pw_s (P := Kp RWA M0) (rwa_f h15 (by decide) (by decide)) (fun M18 h18 => pw_b (rwc_fX7_push  l1 l2 l3 0 0 h18) (fun v19 M20 h20 => pw_ret h20))) (pw_ret h15))) (pw_none)))))))
theorem rwc_gX11_order_47 {M0 : jm_M} (fu : Nat) {M : jm_M} (l1 l2 l3 l4 s0 s1 : Int) (h : Kp RWA M0 M) : pw (gX11_order_47 fu M l1 l2 l3 l4 s0 s1) (Kp RWA M0) := by
  unfold gX11_order_47
  exact pw_b (rwc_fX11_isWithin  s1 s0 1 h) (fun v1 M2 h2 => pw_ite (pw_ret h2) (pw_s (P := Kp RWA M0) (rwa_f h2 (by decide) (by decide)) (fun M5 h5 => pw_ite (pw_b (rwc_fX7_push  (l1 + 6) l2 l3 l4 0 h5) (fun v7 M8 h8 => pw_ret h8)) (pw_none))))
theorem rwc_fX11_order {M0 : jm_M} (fu : Nat) {M : jm_M} (l1 l2 l3 l4 : Int) (h : Kp RWA M0 M) : pw (fX11_order fu M l1 l2 l3 l4) (Kp RWA M0) := by
  unfold fX11_order
  exact pw_b (rwc_fX2_has  l1 h) (fun v1 M2 h2 => pw_ite (pw_ret h2) (pw_b (rwc_fX11_isIndex  l2 (M2 1 0 1) h2) (fun v6 M7 h7 => pw_ite (pw_ret h7) (pw_b (rwc_fX11_isWithin  l3 0 1 h7) (fun v10 M11 h11 => pw_ite (pw_ret h11) (pw_ite (rwc_gX11_order_47 fu l1 l2 l3 l4 (-1) l4 h11) (rwc_gX11_order_47 fu l1 l2 l3 l4 0 l4 h11)))))))
theorem rwc_fX11_stop {M0 : jm_M} {M : jm_M} (l1 l2 l3 l4 : Int) (h : Kp RWA M0 M) : pw (fX11_stop M l1 l2 l3 l4) (Kp RWA M0) := by
  unfold fX11_stop
  exact pw_b (rwc_fX2_has  l1 h) (fun v1 M2 h2 => pw_ite (pw_ret h2) (pw_b (rwc_fX11_isWithin  l2 0 (jm_w ((M2 1 0 1) - 2)) h2) (fun v6 M7 h7 => pw_ite (pw_ret h7) (pw_b (rwc_fX11_isWithin  l3 (-1) 3 h7) (fun v10 M11 h11 => pw_ite (pw_ret h11) (pw_b (rwc_fX11_isWithin  l4 0 200 h11) (fun v14 M15 h15 => pw_ite (pw_ret h15) (pw_s (P := Kp RWA M0) (rwa_f h15 (by decide) (by decide)) (fun M18 h18 => pw_ite (pw_b (rwc_fX7_push  (l1 + 12) l2 l3 l4 0 h18) (fun v20 M21 h21 => pw_ret h21)) (pw_none))))))))))
theorem rwc_fX7_cell {M0 : jm_M} {M : jm_M} (r0 l1 l2 : Int) (h : Kp RWA M0 M) : pw (fX7_cell M r0 l1 l2) (Kp RWA M0) := by
  unfold fX7_cell
  exact pw_ite (pw_ret h) (pw_ite (pw_ret h) (pw_ite (pw_ret h) (pw_ite (pw_ite (pw_ret h) (pw_none)) (pw_ret h))))
theorem rwc_gX7_removeAt_14 {M0 : jm_M} (fu : Nat) (k2 : jm_M → Int → Int → jm_R) (hk2 : ∀ (M : jm_M) (b0 b1 : Int), Kp RWA M0 M → pw (k2 M b0 b1) (Kp RWA M0)) (k14 : jm_M → Int → Int → Int → jm_R) (hk14 : ∀ (M : jm_M) (b0 b1 b2 : Int), Kp RWA M0 M → pw (k14 M b0 b1 b2) (Kp RWA M0)) {M : jm_M} (r0 l2 l3 : Int) (h : Kp RWA M0 M) : pw (gX7_removeAt_14 fu k2 k14 M r0 l2 l3) (Kp RWA M0) := by
  unfold gX7_removeAt_14
  exact pw_ite (pw_e (fun v3 => hk2 M r0 v3 h)) (pw_b (rwc_fX7_cell  r0 (jm_w (l2 + 1)) l3 h) (fun v5 M6 h6 => pw_b (rwc_fX7_put  r0 l2 l3 v5 h6) (fun v8 M9 h9 => pw_e (fun v10 => hk14 M9 r0 l2 v10 h9))))
theorem rwc_fX7_removeAt_14 {M0 : jm_M} (fu : Nat) (k2 : jm_M → Int → Int → jm_R) (hk2 : ∀ (M : jm_M) (b0 b1 : Int), Kp RWA M0 M → pw (k2 M b0 b1) (Kp RWA M0)) : ∀ (n : Nat) {M : jm_M} (a0 a1 a2 : Int), Kp RWA M0 M → pw (fX7_removeAt_14 fu k2 n M a0 a1 a2) (Kp RWA M0) := by
  intro n
  induction n with
  | zero => intro M a0 a1 a2 h; exact pw_none
  | succ n ih =>
    intro M a0 a1 a2 h
    exact rwc_gX7_removeAt_14 fu k2 hk2 (fX7_removeAt_14 fu k2 n) (fun M a0 a1 a2 h => ih a0 a1 a2 h) a0 a1 a2 h
theorem rwc_gX7_removeAt_2 {M0 : jm_M} (fu : Nat) (k2 : jm_M → Int → Int → jm_R) (hk2 : ∀ (M : jm_M) (b0 b1 : Int), Kp RWA M0 M → pw (k2 M b0 b1) (Kp RWA M0)) {M : jm_M} (r0 l2 : Int) (h : Kp RWA M0 M) : pw (gX7_removeAt_2 fu k2 M r0 l2) (Kp RWA M0) := by
  unfold gX7_removeAt_2
  exact pw_ite (pw_s (P := Kp RWA M0) (rwa_f h (by decide) (by decide)) (fun M4 h4 => pw_ret h4)) (rwc_fX7_removeAt_14 fu k2 hk2 fu r0 l2 0 h)
theorem rwc_fX7_removeAt_2 {M0 : jm_M} (fu : Nat) : ∀ (n : Nat) {M : jm_M} (a0 a1 : Int), Kp RWA M0 M → pw (fX7_removeAt_2 fu n M a0 a1) (Kp RWA M0) := by
  intro n
  induction n with
  | zero => intro M a0 a1 h; exact pw_none
  | succ n ih =>
    intro M a0 a1 h
    exact rwc_gX7_removeAt_2 fu (fX7_removeAt_2 fu n) (fun M a0 a1 h => ih a0 a1 h) a0 a1 h
theorem rwc_fX7_removeAt {M0 : jm_M} (fu : Nat) {M : jm_M} (r0 l1 : Int) (h : Kp RWA M0 M) : pw (fX7_removeAt fu M r0 l1) (Kp RWA M0) := by
  unfold fX7_removeAt
  exact rwc_fX7_removeAt_2 fu fu r0 l1 h
theorem rwc_fX11_drop {M0 : jm_M} (fu : Nat) {M : jm_M} (l1 l2 : Int) (h : Kp RWA M0 M) : pw (fX11_drop fu M l1 l2) (Kp RWA M0) := by
  unfold fX11_drop
  exact pw_b (rwc_fX2_has  l1 h) (fun v1 M2 h2 => pw_ite (pw_ret h2) (pw_ite (pw_b (rwc_fX11_isIndex  l2 (M2 10 (l1 + 12) 3) h2) (fun v7 M8 h8 => pw_ite (pw_ret h8) (pw_s (P := Kp RWA M0) (rwa_f h8 (by decide) (by decide)) (fun M11 h11 => pw_ite (pw_b (rwc_fX7_removeAt fu (l1 + 12) l2 h11) (fun v13 M14 h14 => pw_ret h14)) (pw_none))))) (pw_none)))
theorem rwc_fX11_option {M0 : jm_M} {M : jm_M} (l1 l2 l3 : Int) (h : Kp RWA M0 M) : pw (fX11_option M l1 l2 l3) (Kp RWA M0) := by
  unfold fX11_option
  exact pw_b (rwc_fX2_has  l1 h) (fun v1 M2 h2 => pw_ite (pw_ret h2) (pw_b (rwc_fX11_isWithin  l2 (-1) (jm_w ((M2 1 0 1) - 2)) h2) (fun v6 M7 h7 => pw_ite (pw_ret h7) (pw_b (rwc_fX11_isWithin  l3 (-1) 3 h7) (fun v10 M11 h11 => pw_ite (pw_ret h11) (pw_ite (pw_b (rwc_fX7_push  (l1 + 18) l2 l3 0 0 h11) (fun v15 M16 h16 => pw_ret h16)) (pw_none)))))))
theorem rwc_fX11_set {M0 : jm_M} {M : jm_M} (l1 l2 : Int) (h : Kp RWA M0 M) : pw (fX11_set M l1 l2) (Kp RWA M0) := by
  unfold fX11_set
  exact pw_b (rwc_fX11_isIndex  l1 8 h) (fun v1 M2 h2 => pw_ite (pw_ret h2) (pw_ite (pw_ite (pw_b (rwc_fX11_isWithin  l2 (jm_z 1 l1) (jm_z 2 l1) h2) (fun v7 M8 h8 => pw_ite (pw_ret h8) (pw_ite (pw_e (fun v13 => pw_ite (pw_s (P := Kp RWA M0) (rwa_f h8 (by decide) (by decide)) (fun M16 h16 => pw_s (P := Kp RWA M0) (rwa_f h16 (by decide) (by decide)) (fun M17 h17 => pw_ret h17))) (pw_none))) (pw_none)))) (pw_none)) (pw_none)))
theorem rwc_fX9_tyreNumber {M0 : jm_M} {M : jm_M} (l1 l2 : Int) (h : Kp RWA M0 M) : pw (fX9_tyreNumber M l1 l2) (Kp RWA M0) := by
  unfold fX9_tyreNumber
  exact pw_b (rwc_fX11_isIndex  l1 4 h) (fun v1 M2 h2 => pw_ite (pw_ret h2) (pw_b (rwc_fX11_isIndex  l2 6 h2) (fun v5 M6 h6 => pw_ite (pw_ret h6) (pw_ite (pw_ret h6) (pw_none)))))
theorem rwc_fX11_tyres {M0 : jm_M} {M : jm_M} (l1 l2 l3 : Int) (h : Kp RWA M0 M) : pw (fX11_tyres M l1 l2 l3) (Kp RWA M0) := by
  unfold fX11_tyres
  exact pw_b (rwc_fX11_isIndex  l1 4 h) (fun v1 M2 h2 => pw_ite (pw_ret h2) (pw_b (rwc_fX11_isIndex  l2 6 h2) (fun v5 M6 h6 => pw_ite (pw_ret h6) (pw_ite (pw_b (rwc_fX11_isWithin  l3 0 (jm_z 4 l2) h6) (fun v10 M11 h11 => pw_ite (pw_ret h11) (pw_b (rwc_fX9_tyreNumber  l1 l2 h11) (fun v14 M15 h15 => pw_ite (pw_s (P := Kp RWA M0) (rwa_f h15 (by decide) (by decide)) (fun M18 h18 => pw_s (P := Kp RWA M0) (rwa_f h18 (by decide) (by decide)) (fun M19 h19 => pw_ret h19))) (pw_none))))) (pw_none)))))
theorem rwc_gJ7_fill_53178_a34_w1_5 {M0 : jm_M} (fu : Nat) (k5 : jm_M → Int → Int → Int → jm_R) (hk5 : ∀ (M : jm_M) (b0 b1 b2 : Int), Kp RWA M0 M → pw (k5 M b0 b1 b2) (Kp RWA M0)) {M : jm_M} (l1 l2 l3 : Int) (h : Kp RWA M0 M) : pw (gJ7_fill_53178_a34_w1_5 fu k5 M l1 l2 l3) (Kp RWA M0) := by
  unfold gJ7_fill_53178_a34_w1_5
  exact pw_ite (pw_ret h) (pw_ite (pw_s (P := Kp RWA M0) (rwa_f h (by decide) (by decide)) (fun M3 h3 => pw_e (fun v4 => hk5 M3 l1 v4 l3 h3))) (pw_none))
theorem rwc_fJ7_fill_53178_a34_w1_5 {M0 : jm_M} (fu : Nat) : ∀ (n : Nat) {M : jm_M} (a0 a1 a2 : Int), Kp RWA M0 M → pw (fJ7_fill_53178_a34_w1_5 fu n M a0 a1 a2) (Kp RWA M0) := by
  intro n
  induction n with
  | zero => intro M a0 a1 a2 h; exact pw_none
  | succ n ih =>
    intro M a0 a1 a2 h
    exact rwc_gJ7_fill_53178_a34_w1_5 fu (fJ7_fill_53178_a34_w1_5 fu n) (fun M a0 a1 a2 h => ih a0 a1 a2 h) a0 a1 a2 h
theorem rwc_fJ7_fill_53178_a34_w1 {M0 : jm_M} (fu : Nat) {M : jm_M} (l1 : Int) (h : Kp RWA M0 M) : pw (fJ7_fill_53178_a34_w1 fu M l1) (Kp RWA M0) := by
  unfold fJ7_fill_53178_a34_w1
  exact rwc_fJ7_fill_53178_a34_w1_5 fu fu l1 0 4 h
theorem rwc_fX2_run {M0 : jm_M} (fu : Nat) {M : jm_M} (h : Kp RWA M0 M) : pw (fX2_run fu M ) (Kp RWA M0) := by
  unfold fX2_run
  exact pw_s (P := Kp RWA M0) (rwa_f h (by decide) (by decide)) (fun M1 h1 => pw_s (P := Kp RWA M0) (rwa_f h1 (by decide) (by decide)) (fun M2 h2 => pw_b (rwc_fJ7_fill_53178_a34_w1 fu 0 h2) (fun v3 M4 h4 => rwc_fX2_run_20 fu fu 0 h4)))
theorem rwc_fX9_lapOf {M0 : jm_M} {M : jm_M} (l1 : Int) (h : Kp RWA M0 M) : pw (fX9_lapOf M l1) (Kp RWA M0) := by
  unfold fX9_lapOf
  exact pw_ite (pw_ret h) (pw_ite (pw_ret h) (pw_none))
theorem rwc_fX2_lapsEnded {M0 : jm_M} {M : jm_M} (l1 : Int) (h : Kp RWA M0 M) : pw (fX2_lapsEnded M l1) (Kp RWA M0) := by
  unfold fX2_lapsEnded
  exact pw_b (rwc_fX2_has  l1 h) (fun v1 M2 h2 => pw_ite (pw_ret h2) (pw_ite (pw_b (rwc_fX9_lapOf  (M2 9 l1 2) h2) (fun v7 M8 h8 => pw_ret h8)) (pw_none)))
theorem rwc_fX0_isOf {M0 : jm_M} {M : jm_M} (l1 l2 l3 : Int) (h : Kp RWA M0 M) : pw (fX0_isOf M l1 l2 l3) (Kp RWA M0) := by
  unfold fX0_isOf
  exact pw_b (rwc_fX7_cell  32 l1 1 h) (fun v1 M2 h2 => pw_ite (pw_b (rwc_fX7_cell  32 l1 2 h2) (fun v5 M6 h6 => pw_ite (pw_ret h6) (pw_ret h6))) (pw_ret h2))
theorem rwc_gX0_weightBy_8 {M0 : jm_M} (fu : Nat) (k8 : jm_M → Int → Int → Int → Int → Int → jm_R) (hk8 : ∀ (M : jm_M) (b0 b1 b2 b3 b4 : Int), Kp RWA M0 M → pw (k8 M b0 b1 b2 b3 b4) (Kp RWA M0)) {M : jm_M} (l1 l2 l3 l4 l5 : Int) (h : Kp RWA M0 M) : pw (gX0_weightBy_8 fu k8 M l1 l2 l3 l4 l5) (Kp RWA M0) := by
  unfold gX0_weightBy_8
  exact pw_ite (pw_ret h) (pw_b (rwc_fX7_cell  32 l5 0 h) (fun v3 M4 h4 => pw_b (rwc_fX0_isOf  l5 l1 0 h4) (fun v6 M7 h7 => pw_ite (pw_e (fun v10 => hk8 M7 l1 l2 l3 l4 v10 h7)) (pw_ite (pw_e (fun v13 => hk8 M7 l1 l2 l3 l4 v13 h7)) (pw_ite (pw_e (fun v16 => hk8 M7 l1 l2 l3 l4 v16 h7)) (pw_b (rwc_fX7_cell  32 l5 3 h7) (fun v18 M19 h19 => pw_e (fun v21 => hk8 M19 l1 l2 v18 v3 v21 h19))))))))
theorem rwc_fX0_weightBy_8 {M0 : jm_M} (fu : Nat) : ∀ (n : Nat) {M : jm_M} (a0 a1 a2 a3 a4 : Int), Kp RWA M0 M → pw (fX0_weightBy_8 fu n M a0 a1 a2 a3 a4) (Kp RWA M0) := by
  intro n
  induction n with
  | zero => intro M a0 a1 a2 a3 a4 h; exact pw_none
  | succ n ih =>
    intro M a0 a1 a2 a3 a4 h
    exact rwc_gX0_weightBy_8 fu (fX0_weightBy_8 fu n) (fun M a0 a1 a2 a3 a4 h => ih a0 a1 a2 a3 a4 h) a0 a1 a2 a3 a4 h
theorem rwc_fX0_weightBy {M0 : jm_M} (fu : Nat) {M : jm_M} (l1 l2 : Int) (h : Kp RWA M0 M) : pw (fX0_weightBy fu M l1 l2) (Kp RWA M0) := by
  unfold fX0_weightBy
  exact rwc_fX0_weightBy_8 fu fu l1 l2 0 0 0 h
theorem rwc_fX4_let {M0 : jm_M} {M : jm_M} (l1 l2 : Int) (h : Kp RWA M0 M) : pw (fX4_let M l1 l2) (Kp RWA M0) := by
  unfold fX4_let
  exact pw_b (rwc_fX11_isIndex  (jm_w (l1 - 97)) 26 h) (fun v1 M2 h2 => pw_ite (pw_ret h2) (pw_ite (pw_s (P := Kp RWA M0) (rwa_f h2 (by decide) (by decide)) (fun M6 h6 => pw_ret h6)) (pw_none)))
theorem rwc_fJ6_bitCount_0f7a4_w1 {M0 : jm_M} {M : jm_M} (l0 : Int) (h : Kp RWA M0 M) : pw (fJ6_bitCount_0f7a4_w1 M l0) (Kp RWA M0) := by
  unfold fJ6_bitCount_0f7a4_w1
  exact pw_e (fun v1 => pw_e (fun v3 => pw_e (fun v5 => pw_e (fun v7 => pw_e (fun v9 => pw_ret h)))))
theorem rwc_fX4_join {M0 : jm_M} {M : jm_M} (l0 l1 l2 : Int) (h : Kp RWA M0 M) : pw (fX4_join M l0 l1 l2) (Kp RWA M0) := by
  unfold fX4_join
  exact pw_ite (pw_ite (pw_ret h) (pw_ite (pw_ret h) (pw_ret h))) (pw_ite (pw_ret h) (pw_ite (pw_ret h) (pw_ite (pw_ite (pw_ret h) (pw_ret h)) (pw_ite (pw_ite (pw_ret h) (pw_ret h)) (pw_ite (pw_ite (pw_ret h) (pw_ret h)) (pw_ite (pw_ite (pw_ite (pw_ret h) (pw_ret h)) (pw_ret h)) (pw_ret h)))))))
theorem rwc_gX4_holds_163 {M0 : jm_M} (fu : Nat) (k47 : jm_M → Int → Int → Int → Int → Int → jm_R) (hk47 : ∀ (M : jm_M) (b0 b1 b2 b3 b4 : Int), Kp RWA M0 M → pw (k47 M b0 b1 b2 b3 b4) (Kp RWA M0)) {M : jm_M} (r1 l3 l4 l5 l6 l7 : Int) (h : Kp RWA M0 M) : pw (gX4_holds_163 fu k47 M r1 l3 l4 l5 l6 l7) (Kp RWA M0) := by
  unfold gX4_holds_163
  exact pw_ite (pw_e (fun v2 => hk47 M r1 l3 l4 l5 v2 h)) (pw_e (fun v4 => pw_ite (pw_ite (pw_b (rwc_fX4_join  (jm_w (l7 - 2000)) (M 28 0 v4) (M 28 0 (jm_w (v4 + 1))) h) (fun v10 M11 h11 => pw_ite (pw_s (P := Kp RWA M0) (rwa_f h11 (by decide) (by decide)) (fun M14 h14 => pw_e (fun v15 => hk47 M14 r1 l3 l4 v4 v15 h14))) (pw_none))) (pw_none)) (pw_none)))
theorem rwc_gX4_holds_119 {M0 : jm_M} (fu : Nat) (k47 : jm_M → Int → Int → Int → Int → Int → jm_R) (hk47 : ∀ (M : jm_M) (b0 b1 b2 b3 b4 : Int), Kp RWA M0 M → pw (k47 M b0 b1 b2 b3 b4) (Kp RWA M0)) {M : jm_M} (r1 l3 l4 l5 l6 l7 : Int) (h : Kp RWA M0 M) : pw (gX4_holds_119 fu k47 M r1 l3 l4 l5 l6 l7) (Kp RWA M0) := by
  unfold gX4_holds_119
  exact pw_ite (pw_ite (pw_ite (pw_s (P := Kp RWA M0) (rwa_f h (by decide) (by decide)) (fun M5 h5 => pw_e (fun v6 => hk47 M5 r1 l3 l4 l5 v6 h5))) (pw_none)) (pw_none)) (pw_ite (pw_ite (pw_ite (pw_s (P := Kp RWA M0) (rwa_f h (by decide) (by decide)) (fun M12 h12 => pw_e (fun v13 => hk47 M12 r1 l3 l4 l5 v13 h12))) (pw_none)) (pw_ite (pw_s (P := Kp RWA M0) (rwa_f h (by decide) (by decide)) (fun M16 h16 => pw_e (fun v17 => hk47 M16 r1 l3 l4 l5 v17 h16))) (pw_none))) (pw_none))
theorem rwc_fX4_valueOf {M0 : jm_M} {M : jm_M} (l1 : Int) (h : Kp RWA M0 M) : pw (fX4_valueOf M l1) (Kp RWA M0) := by
  unfold fX4_valueOf
  exact pw_ite (pw_e (fun v2 => pw_ite (pw_ret h) (pw_ite (pw_ret h) (pw_none)))) (pw_ret h)
theorem rwc_gX4_holds_47 {M0 : jm_M} (fu : Nat) (k47 : jm_M → Int → Int → Int → Int → Int → jm_R) (hk47 : ∀ (M : jm_M) (b0 b1 b2 b3 b4 : Int), Kp RWA M0 M → pw (k47 M b0 b1 b2 b3 b4) (Kp RWA M0)) {M : jm_M} (r1 l3 l4 l5 l6 : Int) (h : Kp RWA M0 M) : pw (gX4_holds_47 fu k47 M r1 l3 l4 l5 l6) (Kp RWA M0) := by
  unfold gX4_holds_47
  exact pw_ite (pw_ite (pw_ret h) (pw_ite (pw_ite (pw_ret h) (pw_ret h)) (pw_none))) (pw_ite (pw_e (fun v8 => pw_ite (pw_ite (rwc_gX4_holds_163 fu k47 hk47 r1 l3 l4 l5 l6 v8 h) (pw_ite (rwc_gX4_holds_119 fu k47 hk47 r1 l3 l4 l5 l6 v8 h) (pw_ite (rwc_gX4_holds_119 fu k47 hk47 r1 l3 l4 l5 l6 v8 h) (rwc_gX4_holds_163 fu k47 hk47 r1 l3 l4 l5 l6 v8 h)))) (pw_e (fun v14 => pw_b (rwc_fX4_valueOf  v8 h) (fun v16 M17 h17 => pw_ite (pw_s (P := Kp RWA M0) (rwa_f h17 (by decide) (by decide)) (fun M20 h20 => pw_e (fun v21 => hk47 M20 r1 l3 l4 v14 v21 h20))) (pw_none)))))) (pw_none))
theorem rwc_fX4_holds_47 {M0 : jm_M} (fu : Nat) : ∀ (n : Nat) {M : jm_M} (a0 a1 a2 a3 a4 : Int), Kp RWA M0 M → pw (fX4_holds_47 fu n M a0 a1 a2 a3 a4) (Kp RWA M0) := by
  intro n
  induction n with
  | zero => intro M a0 a1 a2 a3 a4 h; exact pw_none
  | succ n ih =>
    intro M a0 a1 a2 a3 a4 h
    exact rwc_gX4_holds_47 fu (fX4_holds_47 fu n) (fun M a0 a1 a2 a3 a4 h => ih a0 a1 a2 a3 a4 h) a0 a1 a2 a3 a4 h
theorem rwc_gX4_holds_27 {M0 : jm_M} (fu : Nat) {M : jm_M} (r1 l2 s0 : Int) (h : Kp RWA M0 M) : pw (gX4_holds_27 fu M r1 l2 s0) (Kp RWA M0) := by
  unfold gX4_holds_27
  exact pw_ite (pw_e (fun v3 => rwc_fX4_holds_47 fu fu r1 s0 v3 (-1) s0 h)) (pw_none)
theorem rwc_fX4_holds {M0 : jm_M} (fu : Nat) {M : jm_M} (r1 l2 : Int) (h : Kp RWA M0 M) : pw (fX4_holds fu M r1 l2) (Kp RWA M0) := by
  unfold fX4_holds
  exact pw_b (rwc_fX11_isIndex  l2 21 h) (fun v1 M2 h2 => pw_ite (pw_ret h2) (pw_ite (rwc_gX4_holds_27 fu r1 l2 0 h2) (pw_ite (rwc_gX4_holds_27 fu r1 l2 (M2 21 r1 (jm_w (l2 - 1))) h2) (pw_none))))
theorem rwc_gX0_secondsBy_130 {M0 : jm_M} (fu : Nat) (k130 : jm_M → Int → Int → Int → jm_R) (hk130 : ∀ (M : jm_M) (b0 b1 b2 : Int), Kp RWA M0 M → pw (k130 M b0 b1 b2) (Kp RWA M0)) {M : jm_M} (l5 l6 l7 : Int) (h : Kp RWA M0 M) : pw (gX0_secondsBy_130 fu k130 M l5 l6 l7) (Kp RWA M0) := by
  unfold gX0_secondsBy_130
  exact pw_ite (pw_ret h) (pw_ite (pw_ret h) (pw_ite (pw_ite (pw_e (fun v7 => hk130 M l5 l6 v7 h)) (pw_ite (pw_ite (pw_b (rwc_fX4_holds fu (M 48 0 l7) 0 h) (fun v11 M12 h12 => pw_ite (pw_e (fun v15 => hk130 M12 l5 l6 v15 h12)) (pw_ite (pw_ite (pw_ite (pw_ret h12) (pw_ite (pw_ite (pw_e (fun v24 => pw_e (fun v26 => hk130 M12 l5 v24 v26 h12))) (pw_none)) (pw_none))) (pw_none)) (pw_none)))) (pw_none)) (pw_none))) (pw_none)))
theorem rwc_fX0_secondsBy_130 {M0 : jm_M} (fu : Nat) : ∀ (n : Nat) {M : jm_M} (a0 a1 a2 : Int), Kp RWA M0 M → pw (fX0_secondsBy_130 fu n M a0 a1 a2) (Kp RWA M0) := by
  intro n
  induction n with
  | zero => intro M a0 a1 a2 h; exact pw_none
  | succ n ih =>
    intro M a0 a1 a2 h
    exact rwc_gX0_secondsBy_130 fu (fX0_secondsBy_130 fu n) (fun M a0 a1 a2 h => ih a0 a1 a2 h) a0 a1 a2 h
theorem rwc_gX0_secondsBy_95 {M0 : jm_M} (fu : Nat) {M : jm_M} (r1 r2 l5 s0 s1 : Int) (h : Kp RWA M0 M) : pw (gX0_secondsBy_95 fu M r1 r2 l5 s0 s1) (Kp RWA M0) := by
  unfold gX0_secondsBy_95
  exact pw_b (rwc_fX4_let  s1 s0 h) (fun v1 M2 h2 => pw_b (rwc_fX4_let  102 (M2 9 r2 8) h2) (fun v4 M5 h5 => pw_b (rwc_fX4_let  116 (M5 8 r1 3) h5) (fun v7 M8 h8 => rwc_fX0_secondsBy_130 fu fu l5 0 0 h8)))
theorem rwc_fX0_secondsBy {M0 : jm_M} (fu : Nat) {M : jm_M} (r1 r2 l3 l4 l5 : Int) (h : Kp RWA M0 M) : pw (fX0_secondsBy fu M r1 r2 l3 l4 l5) (Kp RWA M0) := by
  unfold fX0_secondsBy
  exact pw_b (rwc_fX4_let  115 (M 9 r2 5) h) (fun v2 M3 h3 => pw_b (rwc_fJ6_bitCount_0f7a4_w1  (M3 9 r2 6) h3) (fun v5 M6 h6 => pw_b (rwc_fX4_let  107 v5 h6) (fun v8 M9 h9 => pw_b (rwc_fX4_let  112 (M9 9 r2 7) h9) (fun v11 M12 h12 => pw_b (rwc_fX4_let  108 l3 h12) (fun v13 M14 h14 => pw_b (rwc_fX4_let  119 l4 h14) (fun v15 M16 h16 => pw_b (rwc_fX4_let  99 (M16 8 r1 4) h16) (fun v18 M19 h19 => pw_ite (rwc_gX0_secondsBy_95 fu r1 r2 l5 1 111 h19) (rwc_gX0_secondsBy_95 fu r1 r2 l5 0 111 h19))))))))
theorem rwc_gX0_timeBy_5 {M0 : jm_M} (fu : Nat) (k5 : jm_M → Int → Int → Int → Int → jm_R) (hk5 : ∀ (M : jm_M) (b0 b1 b2 b3 : Int), Kp RWA M0 M → pw (k5 M b0 b1 b2 b3) (Kp RWA M0)) {M : jm_M} (l1 l2 l3 l4 : Int) (h : Kp RWA M0 M) : pw (gX0_timeBy_5 fu k5 M l1 l2 l3 l4) (Kp RWA M0) := by
  unfold gX0_timeBy_5
  exact pw_ite (pw_ret h) (pw_b (rwc_fX0_isOf  l4 l1 1 h) (fun v3 M4 h4 => pw_ite (pw_e (fun v7 => hk5 M4 l1 l2 l3 v7 h4)) (pw_b (rwc_fX7_cell  32 l4 0 h4) (fun v9 M10 h10 => pw_ite (pw_e (fun v13 => hk5 M10 l1 l2 l3 v13 h10)) (pw_b (rwc_fX7_cell  32 l4 3 h10) (fun v15 M16 h16 => pw_e (fun v18 => pw_e (fun v20 => hk5 M16 l1 l2 v18 v20 h16))))))))
theorem rwc_fX0_timeBy_5 {M0 : jm_M} (fu : Nat) : ∀ (n : Nat) {M : jm_M} (a0 a1 a2 a3 : Int), Kp RWA M0 M → pw (fX0_timeBy_5 fu n M a0 a1 a2 a3) (Kp RWA M0) := by
  intro n
  induction n with
  | zero => intro M a0 a1 a2 a3 h; exact pw_none
  | succ n ih =>
    intro M a0 a1 a2 a3 h
    exact rwc_gX0_timeBy_5 fu (fX0_timeBy_5 fu n) (fun M a0 a1 a2 a3 h => ih a0 a1 a2 a3 h) a0 a1 a2 a3 h
theorem rwc_fX0_timeBy {M0 : jm_M} (fu : Nat) {M : jm_M} (l1 l2 : Int) (h : Kp RWA M0 M) : pw (fX0_timeBy fu M l1 l2) (Kp RWA M0) := by
  unfold fX0_timeBy
  exact rwc_fX0_timeBy_5 fu fu l1 l2 0 0 h
theorem rwc_gX5_reckonFor_103 {M0 : jm_M} (fu : Nat) (k2 : jm_M → Int → Int → jm_R) (hk2 : ∀ (M : jm_M) (b0 b1 : Int), Kp RWA M0 M → pw (k2 M b0 b1) (Kp RWA M0)) {M : jm_M} (l1 l2 r3 l4 s0 s1 : Int) (h : Kp RWA M0 M) : pw (gX5_reckonFor_103 fu k2 M l1 l2 r3 l4 s0 s1) (Kp RWA M0) := by
  unfold gX5_reckonFor_103
  exact pw_ite (pw_ite (pw_s (P := Kp RWA M0) (rwa_f h (by decide) (by decide)) (fun M2 h2 => pw_b (rwc_fX0_timeBy fu l2 l1 h2) (fun v5 M6 h6 => pw_ite (pw_s (P := Kp RWA M0) (rwa_f h6 (by decide) (by decide)) (fun M9 h9 => pw_e (fun v10 => hk2 M9 l1 v10 h9))) (pw_none)))) (pw_none)) (pw_none)
theorem rwc_gX5_reckonFor_2 {M0 : jm_M} (fu : Nat) (k2 : jm_M → Int → Int → jm_R) (hk2 : ∀ (M : jm_M) (b0 b1 : Int), Kp RWA M0 M → pw (k2 M b0 b1) (Kp RWA M0)) {M : jm_M} (l1 l2 : Int) (h : Kp RWA M0 M) : pw (gX5_reckonFor_2 fu k2 M l1 l2) (Kp RWA M0) := by
  unfold gX5_reckonFor_2
  exact pw_ite (pw_ret h) (pw_ite (pw_ret h) (pw_ite (pw_b (rwc_fX2_lapsEnded  l2 h) (fun v5 M6 h6 => pw_ite (pw_s (P := Kp RWA M0) (rwa_f h6 (by decide) (by decide)) (fun M9 h9 => pw_ite (pw_ite (pw_b (rwc_fX0_weightBy fu l2 l1 h9) (fun v13 M14 h14 => pw_b (rwc_fX0_secondsBy fu l2 l2 (M9 37 0 l2) v13 l1 h14) (fun v16 M17 h17 => pw_ite (rwc_gX5_reckonFor_103 fu k2 hk2 l1 l2 l2 v16 0 l2 h17) (pw_ite (rwc_gX5_reckonFor_103 fu k2 hk2 l1 l2 l2 v16 0 l2 h17) (rwc_gX5_reckonFor_103 fu k2 hk2 l1 l2 l2 v16 1 l2 h17))))) (pw_none)) (pw_none))) (pw_none))) (pw_none)))
theorem rwc_fX5_reckonFor_2 {M0 : jm_M} (fu : Nat) : ∀ (n : Nat) {M : jm_M} (a0 a1 : Int), Kp RWA M0 M → pw (fX5_reckonFor_2 fu n M a0 a1) (Kp RWA M0) := by
  intro n
  induction n with
  | zero => intro M a0 a1 h; exact pw_none
  | succ n ih =>
    intro M a0 a1 h
    exact rwc_gX5_reckonFor_2 fu (fX5_reckonFor_2 fu n) (fun M a0 a1 h => ih a0 a1 h) a0 a1 h
theorem rwc_fX5_reckonFor {M0 : jm_M} (fu : Nat) {M : jm_M} (l1 : Int) (h : Kp RWA M0 M) : pw (fX5_reckonFor fu M l1) (Kp RWA M0) := by
  unfold fX5_reckonFor
  exact rwc_fX5_reckonFor_2 fu fu l1 0 h
theorem rwc_fX5_isAhead {M0 : jm_M} {M : jm_M} (l1 l2 : Int) (h : Kp RWA M0 M) : pw (fX5_isAhead M l1 l2) (Kp RWA M0) := by
  unfold fX5_isAhead
  exact pw_ite (pw_ite (pw_ite (pw_ite (pw_ite (pw_ite (pw_ret h) (pw_ite (pw_ite (pw_ite (pw_ite (pw_ret h) (pw_ret h)) (pw_ret h)) (pw_none)) (pw_none))) (pw_none)) (pw_none)) (pw_ite (pw_ite (pw_ite (pw_ret h) (pw_ret h)) (pw_none)) (pw_none))) (pw_none)) (pw_none)
theorem rwc_gX5_placeAmong_83 {M0 : jm_M} (fu : Nat) (k27 : jm_M → Int → Int → Int → Int → jm_R) (hk27 : ∀ (M : jm_M) (b0 b1 b2 b3 : Int), Kp RWA M0 M → pw (k27 M b0 b1 b2 b3) (Kp RWA M0)) {M : jm_M} (l1 l2 l3 l4 s0 : Int) (h : Kp RWA M0 M) : pw (gX5_placeAmong_83 fu k27 M l1 l2 l3 l4 s0) (Kp RWA M0) := by
  unfold gX5_placeAmong_83
  exact pw_ite (pw_e (fun v2 => hk27 M l1 l2 l3 v2 h)) (pw_b (rwc_fX5_isAhead  l4 l1 h) (fun v4 M5 h5 => pw_ite (pw_e (fun v8 => hk27 M5 l1 l2 l3 v8 h5)) (pw_e (fun v10 => pw_e (fun v12 => hk27 M5 l1 l2 v10 v12 h5)))))
theorem rwc_gX5_placeAmong_27 {M0 : jm_M} (fu : Nat) (k27 : jm_M → Int → Int → Int → Int → jm_R) (hk27 : ∀ (M : jm_M) (b0 b1 b2 b3 : Int), Kp RWA M0 M → pw (k27 M b0 b1 b2 b3) (Kp RWA M0)) {M : jm_M} (l1 l2 l3 l4 : Int) (h : Kp RWA M0 M) : pw (gX5_placeAmong_27 fu k27 M l1 l2 l3 l4) (Kp RWA M0) := by
  unfold gX5_placeAmong_27
  exact pw_ite (pw_ret h) (pw_ite (pw_ret h) (pw_ite (pw_ite (rwc_gX5_placeAmong_83 fu k27 hk27 l1 l2 l3 l4 0 h) (pw_ite (rwc_gX5_placeAmong_83 fu k27 hk27 l1 l2 l3 l4 1 h) (pw_ite (pw_ite (rwc_gX5_placeAmong_83 fu k27 hk27 l1 l2 l3 l4 1 h) (rwc_gX5_placeAmong_83 fu k27 hk27 l1 l2 l3 l4 0 h)) (pw_none)))) (pw_none)))
theorem rwc_fX5_placeAmong_27 {M0 : jm_M} (fu : Nat) : ∀ (n : Nat) {M : jm_M} (a0 a1 a2 a3 : Int), Kp RWA M0 M → pw (fX5_placeAmong_27 fu n M a0 a1 a2 a3) (Kp RWA M0) := by
  intro n
  induction n with
  | zero => intro M a0 a1 a2 a3 h; exact pw_none
  | succ n ih =>
    intro M a0 a1 a2 a3 h
    exact rwc_gX5_placeAmong_27 fu (fX5_placeAmong_27 fu n) (fun M a0 a1 a2 a3 h => ih a0 a1 a2 a3 h) a0 a1 a2 a3 h
theorem rwc_fX5_placeAmong {M0 : jm_M} (fu : Nat) {M : jm_M} (l1 l2 : Int) (h : Kp RWA M0 M) : pw (fX5_placeAmong fu M l1 l2) (Kp RWA M0) := by
  unfold fX5_placeAmong
  exact pw_b (rwc_fX2_has  l1 h) (fun v1 M2 h2 => pw_ite (pw_ret h2) (pw_ite (pw_ite (pw_ret h2) (rwc_fX5_placeAmong_27 fu fu l1 l2 0 0 h2)) (pw_none)))
theorem rwc_fX11_move {M0 : jm_M} (fu : Nat) {M : jm_M} (l1 l2 l3 l4 : Int) (h : Kp RWA M0 M) : pw (fX11_move fu M l1 l2 l3 l4) (Kp RWA M0) := by
  unfold fX11_move
  exact pw_b (rwc_fX2_has  l1 h) (fun v1 M2 h2 => pw_ite (pw_ret h2) (pw_ite (pw_b (rwc_fX11_isIndex  l2 (M2 10 (l1 + 12) 3) h2) (fun v7 M8 h8 => pw_ite (pw_ret h8) (pw_b (rwc_fX11_isWithin  l3 0 (jm_w ((M8 1 0 1) - 2)) h8) (fun v12 M13 h13 => pw_ite (pw_ret h13) (pw_b (rwc_fX11_isDay  l4 h13) (fun v16 M17 h17 => pw_ite (pw_ret h17) (pw_ite (pw_b (rwc_fX7_cell  (l1 + 12) l2 0 h17) (fun v21 M22 h22 => pw_b (rwc_fX7_put  (l1 + 12) l2 0 l3 h22) (fun v24 M25 h25 => pw_b (rwc_fX2_run fu  h25) (fun v26 M27 h27 => pw_b (rwc_fX5_reckonFor fu l4 h27) (fun v28 M29 h29 => pw_b (rwc_fX7_put  (l1 + 12) l2 0 v21 h29) (fun v30 M31 h31 => pw_b (rwc_fX5_placeAmong fu l1 (-1) h31) (fun v32 M33 h33 => pw_ite (pw_ret h33) (pw_ret h33)))))))) (pw_none)))))))) (pw_none)))
theorem rwc_gX2_optionCount_4 {M0 : jm_M} (fu : Nat) (k4 : jm_M → Int → Int → jm_R) (hk4 : ∀ (M : jm_M) (b0 b1 : Int), Kp RWA M0 M → pw (k4 M b0 b1) (Kp RWA M0)) {M : jm_M} (l1 l2 : Int) (h : Kp RWA M0 M) : pw (gX2_optionCount_4 fu k4 M l1 l2) (Kp RWA M0) := by
  unfold gX2_optionCount_4
  exact pw_ite (pw_ret h) (pw_ite (pw_ret h) (pw_ite (pw_e (fun v6 => pw_e (fun v8 => hk4 M v6 v8 h))) (pw_none)))
theorem rwc_fX2_optionCount_4 {M0 : jm_M} (fu : Nat) : ∀ (n : Nat) {M : jm_M} (a0 a1 : Int), Kp RWA M0 M → pw (fX2_optionCount_4 fu n M a0 a1) (Kp RWA M0) := by
  intro n
  induction n with
  | zero => intro M a0 a1 h; exact pw_none
  | succ n ih =>
    intro M a0 a1 h
    exact rwc_gX2_optionCount_4 fu (fX2_optionCount_4 fu n) (fun M a0 a1 h => ih a0 a1 h) a0 a1 h
theorem rwc_fX2_optionCount {M0 : jm_M} (fu : Nat) {M : jm_M} (h : Kp RWA M0 M) : pw (fX2_optionCount fu M ) (Kp RWA M0) := by
  unfold fX2_optionCount
  exact rwc_fX2_optionCount_4 fu fu 0 0 h
theorem rwc_fX11_count {M0 : jm_M} (fu : Nat) {M : jm_M} (l1 : Int) (h : Kp RWA M0 M) : pw (fX11_count fu M l1) (Kp RWA M0) := by
  unfold fX11_count
  exact pw_ite (pw_ret h) (pw_ite (pw_ret h) (pw_ite (pw_ret h) (pw_ite (pw_ret h) (pw_ite (pw_ret h) (pw_ite (pw_ret h) (pw_ite (pw_ret h) (pw_ite (pw_ret h) (pw_ite (pw_ret h) (pw_ite (pw_b (rwc_fX2_optionCount fu  h) (fun v20 M21 h21 => pw_ret h21)) (pw_ret h))))))))))
theorem rwc_fX11_row {M0 : jm_M} {M : jm_M} (l1 : Int) (h : Kp RWA M0 M) : pw (fX11_row M l1) (Kp RWA M0) := by
  unfold fX11_row
  exact pw_b (rwc_fX11_isIndex  l1 (M 0 0 9) h) (fun v2 M3 h3 => pw_ite (pw_ret h3) (pw_ite (pw_ite (pw_ret h3) (pw_none)) (pw_ret h3)))
theorem rwc_fX11_lost {M0 : jm_M} {M : jm_M} (l1 l2 : Int) (h : Kp RWA M0 M) : pw (fX11_lost M l1 l2) (Kp RWA M0) := by
  unfold fX11_lost
  exact pw_b (rwc_fX9_hasSector  l1 h) (fun v1 M2 h2 => pw_ite (pw_ret h2) (pw_ite (pw_ret h2) (pw_ite (pw_ite (pw_s (P := Kp RWA M0) (rwa_f h2 (by decide) (by decide)) (fun M8 h8 => pw_ret h8)) (pw_none)) (pw_none))))
theorem rwc_gX11_clear_10 {M0 : jm_M} (fu : Nat) (k10 : jm_M → Int → Int → jm_R) (hk10 : ∀ (M : jm_M) (b0 b1 : Int), Kp RWA M0 M → pw (k10 M b0 b1) (Kp RWA M0)) {M : jm_M} (l1 l2 : Int) (h : Kp RWA M0 M) : pw (gX11_clear_10 fu k10 M l1 l2) (Kp RWA M0) := by
  unfold gX11_clear_10
  exact pw_ite (pw_ret h) (pw_ite (pw_ret h) (pw_ite (pw_s (P := Kp RWA M0) (rwa_f h (by decide) (by decide)) (fun M5 h5 => pw_e (fun v6 => hk10 M5 l1 v6 h5))) (pw_none)))
theorem rwc_fX11_clear_10 {M0 : jm_M} (fu : Nat) : ∀ (n : Nat) {M : jm_M} (a0 a1 : Int), Kp RWA M0 M → pw (fX11_clear_10 fu n M a0 a1) (Kp RWA M0) := by
  intro n
  induction n with
  | zero => intro M a0 a1 h; exact pw_none
  | succ n ih =>
    intro M a0 a1 h
    exact rwc_gX11_clear_10 fu (fX11_clear_10 fu n) (fun M a0 a1 h => ih a0 a1 h) a0 a1 h
theorem rwc_fX11_clear {M0 : jm_M} (fu : Nat) {M : jm_M} (h : Kp RWA M0 M) : pw (fX11_clear fu M ) (Kp RWA M0) := by
  unfold fX11_clear
  exact pw_b (rwc_fX2_optionCount fu  h) (fun v1 M2 h2 => rwc_fX11_clear_10 fu fu v1 0 h2)
theorem rwc_fX11_end {M0 : jm_M} {M : jm_M} (l1 : Int) (h : Kp RWA M0 M) : pw (fX11_end M l1) (Kp RWA M0) := by
  unfold fX11_end
  exact pw_ite (pw_ret h) (pw_ite (pw_s (P := Kp RWA M0) (rwa_k h (by decide)) (fun M4 h4 => pw_ret h4)) (pw_ret h))
theorem rwc_gX11_sign_16 {M0 : jm_M} (fu : Nat) (k16 : jm_M → Int → Int → jm_R) (hk16 : ∀ (M : jm_M) (b0 b1 : Int), Kp RWA M0 M → pw (k16 M b0 b1) (Kp RWA M0)) {M : jm_M} (l1 l2 : Int) (h : Kp RWA M0 M) : pw (gX11_sign_16 fu k16 M l1 l2) (Kp RWA M0) := by
  unfold gX11_sign_16
  exact pw_ite (pw_ret h) (pw_ite (pw_s (P := Kp RWA M0) (rwa_f h (by decide) (by decide)) (fun M5 h5 => pw_s (P := Kp RWA M0) (rwa_k h5 (by decide)) (fun M7 h7 => pw_e (fun v8 => hk16 M7 l1 v8 h7)))) (pw_none))
theorem rwc_fX11_sign_16 {M0 : jm_M} (fu : Nat) : ∀ (n : Nat) {M : jm_M} (a0 a1 : Int), Kp RWA M0 M → pw (fX11_sign_16 fu n M a0 a1) (Kp RWA M0) := by
  intro n
  induction n with
  | zero => intro M a0 a1 h; exact pw_none
  | succ n ih =>
    intro M a0 a1 h
    exact rwc_gX11_sign_16 fu (fX11_sign_16 fu n) (fun M a0 a1 h => ih a0 a1 h) a0 a1 h
theorem rwc_fX11_sign {M0 : jm_M} (fu : Nat) {M : jm_M} (l1 : Int) (h : Kp RWA M0 M) : pw (fX11_sign fu M l1) (Kp RWA M0) := by
  unfold fX11_sign
  exact pw_ite (rwc_fX11_sign_16 fu fu l1 24 h) (pw_ret h)
theorem rwc_fX11_unplan {M0 : jm_M} {M : jm_M} (l1 : Int) (h : Kp RWA M0 M) : pw (fX11_unplan M l1) (Kp RWA M0) := by
  unfold fX11_unplan
  exact pw_b (rwc_fX2_has  l1 h) (fun v1 M2 h2 => pw_ite (pw_ret h2) (pw_ite (pw_ite (pw_ret h2) (pw_ite (pw_s (P := Kp RWA M0) (rwa_f h2 (by decide) (by decide)) (fun M9 h9 => pw_s (P := Kp RWA M0) (rwa_f h9 (by decide) (by decide)) (fun M10 h10 => pw_ret h10))) (pw_none))) (pw_none)))
theorem rwc_fX11_takeTape {M0 : jm_M} {M : jm_M} (h : Kp RWA M0 M) : pw (fX11_takeTape M ) (Kp RWA M0) := by
  unfold fX11_takeTape
  exact pw_e (fun v2 => pw_s (P := Kp RWA M0) (rwa_k h (by decide)) (fun M4 h4 => pw_ret h4))
theorem rwc_fX8_empty {M0 : jm_M} {M : jm_M} (r0 : Int) (h : Kp RWA M0 M) : pw (fX8_empty M r0) (Kp RWA M0) := by
  unfold fX8_empty
  exact pw_s (P := Kp RWA M0) (rwa_f h (by decide) (by decide)) (fun M1 h1 => pw_s (P := Kp RWA M0) (rwa_f h1 (by decide) (by decide)) (fun M2 h2 => pw_s (P := Kp RWA M0) (rwa_f h2 (by decide) (by decide)) (fun M3 h3 => pw_ret h3)))
theorem rwc_fX3_beginLine {M0 : jm_M} {M : jm_M} (h : Kp RWA M0 M) : pw (fX3_beginLine M ) (Kp RWA M0) := by
  unfold fX3_beginLine
  exact pw_s (P := Kp RWA M0) (rwa_f h (by decide) (by decide)) (fun M1 h1 => pw_s (P := Kp RWA M0) (rwa_f h1 (by decide) (by decide)) (fun M2 h2 => pw_s (P := Kp RWA M0) (rwa_f h2 (by decide) (by decide)) (fun M3 h3 => pw_s (P := Kp RWA M0) (rwa_f h3 (by decide) (by decide)) (fun M4 h4 => pw_s (P := Kp RWA M0) (rwa_f h4 (by decide) (by decide)) (fun M5 h5 => pw_ret h5)))))
theorem rwc_gX3_firstWrong_a12_121 {M0 : jm_M} (fu : Nat) {M : jm_M} (l2 : Int) (h : Kp RWA M0 M) : pw (gX3_firstWrong_a12_121 fu M l2) (Kp RWA M0) := by
  unfold gX3_firstWrong_a12_121
  exact pw_ret h
theorem rwc_gX3_firstWrong_a12_125 {M0 : jm_M} (fu : Nat) {M : jm_M} (l2 : Int) (h : Kp RWA M0 M) : pw (gX3_firstWrong_a12_125 fu M l2) (Kp RWA M0) := by
  unfold gX3_firstWrong_a12_125
  exact pw_ret h
theorem rwc_gX3_firstWrong_a12_65 {M0 : jm_M} (fu : Nat) {M : jm_M} (l2 : Int) (h : Kp RWA M0 M) : pw (gX3_firstWrong_a12_65 fu M l2) (Kp RWA M0) := by
  unfold gX3_firstWrong_a12_65
  exact pw_ite (pw_ite (pw_ite (rwc_gX3_firstWrong_a12_121 fu l2 h) (pw_ite (pw_ite (rwc_gX3_firstWrong_a12_125 fu l2 h) (rwc_gX3_firstWrong_a12_121 fu l2 h)) (rwc_gX3_firstWrong_a12_125 fu l2 h))) (pw_ite (pw_ret h) (pw_ret h))) (pw_ret h)
theorem rwc_fX3_isDigit {M0 : jm_M} {M : jm_M} (l0 : Int) (h : Kp RWA M0 M) : pw (fX3_isDigit M l0) (Kp RWA M0) := by
  unfold fX3_isDigit
  exact pw_ite (pw_ret h) (pw_ite (pw_ret h) (pw_ret h))
theorem rwc_fX3_hold {M0 : jm_M} {M : jm_M} (l1 : Int) (h : Kp RWA M0 M) : pw (fX3_hold M l1) (Kp RWA M0) := by
  unfold fX3_hold
  exact pw_b (rwc_fX11_isIndex  (M 6 0 1) 60 h) (fun v2 M3 h3 => pw_ite (pw_ret h3) (pw_ite (pw_s (P := Kp RWA M0) (rwa_f h3 (by decide) (by decide)) (fun M8 h8 => pw_s (P := Kp RWA M0) (rwa_f h8 (by decide) (by decide)) (fun M10 h10 => pw_ret h10))) (pw_none)))
theorem rwc_fX3_opens {M0 : jm_M} {M : jm_M} (h : Kp RWA M0 M) : pw (fX3_opens M ) (Kp RWA M0) := by
  unfold fX3_opens
  exact pw_b (rwc_fX11_isIndex  (M 6 0 3) 60 h) (fun v2 M3 h3 => pw_ite (pw_ret h3) (pw_ite (pw_ite (pw_s (P := Kp RWA M0) (rwa_f h3 (by decide) (by decide)) (fun M9 h9 => pw_s (P := Kp RWA M0) (rwa_f h9 (by decide) (by decide)) (fun M12 h12 => pw_s (P := Kp RWA M0) (rwa_f h12 (by decide) (by decide)) (fun M13 h13 => pw_b (rwc_fX3_hold  40 h13) (fun v14 M15 h15 => pw_s (P := Kp RWA M0) (rwa_f h15 (by decide) (by decide)) (fun M16 h16 => pw_ret h16)))))) (pw_none)) (pw_none)))
theorem rwc_gX3_takesOperand_113 {M0 : jm_M} (fu : Nat) {M : jm_M} (l1 : Int) (h : Kp RWA M0 M) : pw (gX3_takesOperand_113 fu M l1) (Kp RWA M0) := by
  unfold gX3_takesOperand_113
  exact pw_ite (pw_b (rwc_fX3_hold  126 h) (fun v2 M3 h3 => pw_s (P := Kp RWA M0) (rwa_f h3 (by decide) (by decide)) (fun M4 h4 => pw_ret h4))) (pw_b (rwc_fX3_hold  l1 h) (fun v5 M6 h6 => pw_s (P := Kp RWA M0) (rwa_f h6 (by decide) (by decide)) (fun M7 h7 => pw_ret h7)))
theorem rwc_gX3_takesOperand_90 {M0 : jm_M} (fu : Nat) {M : jm_M} (l1 : Int) (h : Kp RWA M0 M) : pw (gX3_takesOperand_90 fu M l1) (Kp RWA M0) := by
  unfold gX3_takesOperand_90
  exact pw_ite (pw_b (rwc_fX3_opens   h) (fun v2 M3 h3 => pw_ite (pw_ret h3) (pw_none))) (pw_ite (rwc_gX3_takesOperand_113 fu l1 h) (pw_ite (rwc_gX3_takesOperand_113 fu l1 h) (pw_ret h)))
theorem rwc_fX3_levelOf {M0 : jm_M} {M : jm_M} (l0 : Int) (h : Kp RWA M0 M) : pw (fX3_levelOf M l0) (Kp RWA M0) := by
  unfold fX3_levelOf
  exact pw_ite (pw_ret h) (pw_ite (pw_ret h) (pw_ite (pw_ret h) (pw_ite (pw_ret h) (pw_ite (pw_ret h) (pw_ite (pw_ret h) (pw_ite (pw_ret h) (pw_ite (pw_ret h) (pw_ite (pw_ret h) (pw_ite (pw_ret h) (pw_ret h))))))))))
theorem rwc_fX8_emit {M0 : jm_M} {M : jm_M} (r0 l1 : Int) (h : Kp RWA M0 M) : pw (fX8_emit M r0 l1) (Kp RWA M0) := by
  unfold fX8_emit
  exact pw_b (rwc_fX11_isIndex  (M 11 r0 1) 60 h) (fun v2 M3 h3 => pw_ite (pw_ret h3) (pw_ite (pw_s (P := Kp RWA M0) (rwa_f h3 (by decide) (by decide)) (fun M8 h8 => pw_s (P := Kp RWA M0) (rwa_f h8 (by decide) (by decide)) (fun M10 h10 => pw_ret h10))) (pw_none)))
theorem rwc_gX3_release_7 {M0 : jm_M} (fu : Nat) (k7 : jm_M → Int → Int → jm_R) (hk7 : ∀ (M : jm_M) (b0 b1 : Int), Kp RWA M0 M → pw (k7 M b0 b1) (Kp RWA M0)) {M : jm_M} (l1 l2 : Int) (h : Kp RWA M0 M) : pw (gX3_release_7 fu k7 M l1 l2) (Kp RWA M0) := by
  unfold gX3_release_7
  exact pw_ite (pw_ret h) (pw_ite (pw_b (rwc_fX3_levelOf  (M 25 0 l2) h) (fun v4 M5 h5 => pw_ite (pw_ret h5) (pw_ite (pw_ite (pw_b (rwc_fX8_emit  (M5 6 0 8) (jm_w (2000 + (M5 25 0 l2))) h5) (fun v11 M12 h12 => pw_s (P := Kp RWA M0) (rwa_f h12 (by decide) (by decide)) (fun M13 h13 => pw_e (fun v14 => hk7 M13 l1 v14 h13)))) (pw_none)) (pw_none)))) (pw_none))
theorem rwc_fX3_release_7 {M0 : jm_M} (fu : Nat) : ∀ (n : Nat) {M : jm_M} (a0 a1 : Int), Kp RWA M0 M → pw (fX3_release_7 fu n M a0 a1) (Kp RWA M0) := by
  intro n
  induction n with
  | zero => intro M a0 a1 h; exact pw_none
  | succ n ih =>
    intro M a0 a1 h
    exact rwc_gX3_release_7 fu (fX3_release_7 fu n) (fun M a0 a1 h => ih a0 a1 h) a0 a1 h
theorem rwc_fX3_release {M0 : jm_M} (fu : Nat) {M : jm_M} (l1 : Int) (h : Kp RWA M0 M) : pw (fX3_release fu M l1) (Kp RWA M0) := by
  unfold fX3_release
  exact pw_e (fun v2 => rwc_fX3_release_7 fu fu l1 v2 h)
theorem rwc_fX8_endCondition {M0 : jm_M} {M : jm_M} (r0 : Int) (h : Kp RWA M0 M) : pw (fX8_endCondition M r0) (Kp RWA M0) := by
  unfold fX8_endCondition
  exact pw_b (rwc_fX11_isIndex  (M 11 r0 6) 21 h) (fun v2 M3 h3 => pw_ite (pw_ret h3) (pw_ite (pw_s (P := Kp RWA M0) (rwa_f h3 (by decide) (by decide)) (fun M9 h9 => pw_ite (pw_s (P := Kp RWA M0) (rwa_f h9 (by decide) (by decide)) (fun M12 h12 => pw_ite (pw_s (P := Kp RWA M0) (rwa_f h12 (by decide) (by decide)) (fun M15 h15 => pw_ite (pw_s (P := Kp RWA M0) (rwa_f h15 (by decide) (by decide)) (fun M18 h18 => pw_s (P := Kp RWA M0) (rwa_f h18 (by decide) (by decide)) (fun M20 h20 => pw_ret h20))) (pw_none))) (pw_none))) (pw_none))) (pw_none)))
theorem rwc_fX3_endsCondition {M0 : jm_M} (fu : Nat) {M : jm_M} (h : Kp RWA M0 M) : pw (fX3_endsCondition fu M ) (Kp RWA M0) := by
  unfold fX3_endsCondition
  exact pw_b (rwc_fX3_release fu 1 h) (fun v1 M2 h2 => pw_ite (pw_b (rwc_fX8_endCondition  (M2 6 0 8) h2) (fun v4 M5 h5 => pw_ite (pw_s (P := Kp RWA M0) (rwa_f h5 (by decide) (by decide)) (fun M8 h8 => pw_ret h8)) (pw_s (P := Kp RWA M0) (rwa_f h5 (by decide) (by decide)) (fun M9 h9 => pw_ret h9)))) (pw_none))
theorem rwc_fX3_takesOperand {M0 : jm_M} (fu : Nat) {M : jm_M} (l1 : Int) (h : Kp RWA M0 M) : pw (fX3_takesOperand fu M l1) (Kp RWA M0) := by
  unfold fX3_takesOperand
  exact pw_b (rwc_fX3_isDigit  l1 h) (fun v1 M2 h2 => pw_ite (pw_b (rwc_fX3_isLetter fu l1 h2) (fun v5 M6 h6 => pw_ite (pw_ite (pw_ite (rwc_gX3_takesOperand_90 fu l1 h6) (pw_ite (pw_b (rwc_fX3_endsCondition fu  h6) (fun v14 M15 h15 => pw_ite (pw_ret h15) (pw_none))) (rwc_gX3_takesOperand_90 fu l1 h6))) (rwc_gX3_takesOperand_90 fu l1 h6)) (pw_ite (pw_b (rwc_fX8_emit  (M6 6 0 8) (jm_w ((jm_w (1000 + l1)) - 97)) h6) (fun v18 M19 h19 => pw_s (P := Kp RWA M0) (rwa_f h19 (by decide) (by decide)) (fun M20 h20 => pw_s (P := Kp RWA M0) (rwa_f h20 (by decide) (by decide)) (fun M21 h21 => pw_ret h21)))) (pw_none)))) (pw_ite (pw_b (rwc_fX8_emit  (M2 6 0 8) (jm_w (l1 - 48)) h2) (fun v23 M24 h24 => pw_s (P := Kp RWA M0) (rwa_f h24 (by decide) (by decide)) (fun M25 h25 => pw_s (P := Kp RWA M0) (rwa_f h25 (by decide) (by decide)) (fun M26 h26 => pw_ret h26)))) (pw_none)))
theorem rwc_fX3_closes {M0 : jm_M} (fu : Nat) {M : jm_M} (h : Kp RWA M0 M) : pw (fX3_closes fu M ) (Kp RWA M0) := by
  unfold fX3_closes
  exact pw_b (rwc_fX11_isIndex  (jm_w ((M 6 0 3) - 1)) 60 h) (fun v2 M3 h3 => pw_ite (pw_ret h3) (pw_b (rwc_fX3_release fu 1 h3) (fun v6 M7 h7 => pw_s (P := Kp RWA M0) (rwa_f h7 (by decide) (by decide)) (fun M9 h9 => pw_s (P := Kp RWA M0) (rwa_f h9 (by decide) (by decide)) (fun M11 h11 => pw_ite (pw_ite (pw_s (P := Kp RWA M0) (rwa_f h11 (by decide) (by decide)) (fun M15 h15 => pw_ret h15)) (pw_none)) (pw_none))))))
theorem rwc_gX3_joins_48 {M0 : jm_M} (fu : Nat) {M : jm_M} (l1 l2 : Int) (h : Kp RWA M0 M) : pw (gX3_joins_48 fu M l1 l2) (Kp RWA M0) := by
  unfold gX3_joins_48
  exact pw_b (rwc_fX3_release fu l2 h) (fun v1 M2 h2 => pw_b (rwc_fX3_hold  l1 h2) (fun v3 M4 h4 => pw_s (P := Kp RWA M0) (rwa_f h4 (by decide) (by decide)) (fun M5 h5 => pw_ret h5)))
theorem rwc_gX3_joins_29 {M0 : jm_M} (fu : Nat) {M : jm_M} (l1 l2 : Int) (h : Kp RWA M0 M) : pw (gX3_joins_29 fu M l1 l2) (Kp RWA M0) := by
  unfold gX3_joins_29
  exact pw_ite (rwc_gX3_joins_48 fu l1 l2 h) (pw_ite (pw_s (P := Kp RWA M0) (rwa_f h (by decide) (by decide)) (fun M3 h3 => rwc_gX3_joins_48 fu l1 l2 h3)) (pw_s (P := Kp RWA M0) (rwa_f h (by decide) (by decide)) (fun M4 h4 => rwc_gX3_joins_48 fu l1 l2 h4)))
theorem rwc_fX3_joins {M0 : jm_M} (fu : Nat) {M : jm_M} (l1 : Int) (h : Kp RWA M0 M) : pw (fX3_joins fu M l1) (Kp RWA M0) := by
  unfold fX3_joins
  exact pw_b (rwc_fX3_levelOf  l1 h) (fun v1 M2 h2 => pw_ite (pw_ret h2) (pw_ite (pw_ret h2) (pw_ite (pw_ite (rwc_gX3_joins_29 fu l1 v1 h2) (pw_ret h2)) (rwc_gX3_joins_29 fu l1 v1 h2))))
theorem rwc_fX8_addDigit {M0 : jm_M} {M : jm_M} (r0 l1 : Int) (h : Kp RWA M0 M) : pw (fX8_addDigit M r0 l1) (Kp RWA M0) := by
  unfold fX8_addDigit
  exact pw_b (rwc_fX11_isIndex  (jm_w ((M 11 r0 1) - 1)) 60 h) (fun v2 M3 h3 => pw_ite (pw_ret h3) (pw_ite (pw_ite (pw_s (P := Kp RWA M0) (rwa_f h3 (by decide) (by decide)) (fun M11 h11 => pw_ret h11)) (pw_none)) (pw_none)))
theorem rwc_fX3_takesBehindOperand {M0 : jm_M} (fu : Nat) {M : jm_M} (l1 : Int) (h : Kp RWA M0 M) : pw (fX3_takesBehindOperand fu M l1) (Kp RWA M0) := by
  unfold fX3_takesBehindOperand
  exact pw_b (rwc_fX3_isDigit  l1 h) (fun v1 M2 h2 => pw_ite (pw_s (P := Kp RWA M0) (rwa_f h2 (by decide) (by decide)) (fun M5 h5 => pw_ite (pw_ite (pw_b (rwc_fX3_endsCondition fu  h5) (fun v9 M10 h10 => pw_ite (pw_ret h10) (pw_ret h10))) (pw_ret h5)) (pw_ite (pw_b (rwc_fX3_closes fu  h5) (fun v14 M15 h15 => pw_ite (pw_ret h15) (pw_none))) (pw_b (rwc_fX3_joins fu l1 h5) (fun v17 M18 h18 => pw_ite (pw_ret h18) (pw_none)))))) (pw_ite (pw_ret h2) (pw_ite (pw_ite (pw_b (rwc_fX8_addDigit  (M2 6 0 8) (jm_w (l1 - 48)) h2) (fun v25 M26 h26 => pw_s (P := Kp RWA M0) (rwa_f h26 (by decide) (by decide)) (fun M28 h28 => pw_ret h28))) (pw_none)) (pw_ret h2))))
theorem rwc_fX3_takesVerdict {M0 : jm_M} {M : jm_M} (l1 : Int) (h : Kp RWA M0 M) : pw (fX3_takesVerdict M l1) (Kp RWA M0) := by
  unfold fX3_takesVerdict
  exact pw_ite (pw_ite (pw_s (P := Kp RWA M0) (rwa_f h (by decide) (by decide)) (fun M3 h3 => pw_s (P := Kp RWA M0) (rwa_f h3 (by decide) (by decide)) (fun M4 h4 => pw_ret h4))) (pw_none)) (pw_s (P := Kp RWA M0) (rwa_f h (by decide) (by decide)) (fun M5 h5 => pw_s (P := Kp RWA M0) (rwa_f h5 (by decide) (by decide)) (fun M6 h6 => pw_ite (pw_ret h6) (pw_ret h6))))
theorem rwc_fX3_takesSeconds {M0 : jm_M} {M : jm_M} (l1 : Int) (h : Kp RWA M0 M) : pw (fX3_takesSeconds M l1) (Kp RWA M0) := by
  unfold fX3_takesSeconds
  exact pw_b (rwc_fX3_isDigit  l1 h) (fun v1 M2 h2 => pw_ite (pw_ret h2) (pw_ite (pw_ite (pw_ite (pw_s (P := Kp RWA M0) (rwa_f h2 (by decide) (by decide)) (fun M10 h10 => pw_s (P := Kp RWA M0) (rwa_f h10 (by decide) (by decide)) (fun M12 h12 => pw_ret h12))) (pw_none)) (pw_none)) (pw_ret h2)))
theorem rwc_fX8_act {M0 : jm_M} {M : jm_M} (r0 l1 : Int) (h : Kp RWA M0 M) : pw (fX8_act M r0 l1) (Kp RWA M0) := by
  unfold fX8_act
  exact pw_e (fun v2 => pw_b (rwc_fX11_isIndex  v2 21 h) (fun v4 M5 h5 => pw_ite (pw_ret h5) (pw_ite (pw_ite (pw_s (P := Kp RWA M0) (rwa_f h5 (by decide) (by decide)) (fun M10 h10 => pw_ret h10)) (pw_none)) (pw_ite (pw_ite (pw_s (P := Kp RWA M0) (rwa_f h5 (by decide) (by decide)) (fun M13 h13 => pw_ret h13)) (pw_none)) (pw_ite (pw_ite (pw_s (P := Kp RWA M0) (rwa_f h5 (by decide) (by decide)) (fun M16 h16 => pw_ret h16)) (pw_none)) (pw_ite (pw_ite (pw_s (P := Kp RWA M0) (rwa_f h5 (by decide) (by decide)) (fun M19 h19 => pw_ret h19)) (pw_none)) (pw_ite (pw_ite (pw_s (P := Kp RWA M0) (rwa_f h5 (by decide) (by decide)) (fun M22 h22 => pw_ret h22)) (pw_none)) (pw_ret h5))))))))
theorem rwc_fX3_takesAct {M0 : jm_M} {M : jm_M} (l1 : Int) (h : Kp RWA M0 M) : pw (fX3_takesAct M l1) (Kp RWA M0) := by
  unfold fX3_takesAct
  exact pw_ite (pw_ite (pw_b (rwc_fX8_act  (M 6 0 8) l1 h) (fun v3 M4 h4 => pw_s (P := Kp RWA M0) (rwa_f h4 (by decide) (by decide)) (fun M5 h5 => pw_ret h5))) (pw_none)) (pw_ite (pw_ite (pw_b (rwc_fX8_act  (M 6 0 8) l1 h) (fun v8 M9 h9 => pw_s (P := Kp RWA M0) (rwa_f h9 (by decide) (by decide)) (fun M10 h10 => pw_ret h10))) (pw_none)) (pw_ite (pw_ite (pw_b (rwc_fX8_act  (M 6 0 8) l1 h) (fun v13 M14 h14 => pw_s (P := Kp RWA M0) (rwa_f h14 (by decide) (by decide)) (fun M15 h15 => pw_ret h15))) (pw_none)) (pw_ite (pw_ite (pw_b (rwc_fX3_beginLine   h) (fun v19 M20 h20 => pw_ret h20)) (pw_ret h)) (pw_ite (pw_ite (pw_b (rwc_fX8_act  (M 6 0 8) l1 h) (fun v23 M24 h24 => pw_s (P := Kp RWA M0) (rwa_f h24 (by decide) (by decide)) (fun M25 h25 => pw_ret h25))) (pw_none)) (pw_ite (pw_s (P := Kp RWA M0) (rwa_f h (by decide) (by decide)) (fun M27 h27 => pw_ret h27)) (pw_ite (pw_ite (pw_b (rwc_fX8_act  (M 6 0 8) l1 h) (fun v30 M31 h31 => pw_s (P := Kp RWA M0) (rwa_f h31 (by decide) (by decide)) (fun M32 h32 => pw_ret h32))) (pw_none)) (pw_ite (pw_ite (pw_b (rwc_fX8_act  (M 6 0 8) l1 h) (fun v35 M36 h36 => pw_s (P := Kp RWA M0) (rwa_f h36 (by decide) (by decide)) (fun M37 h37 => pw_ret h37))) (pw_none)) (pw_ret h))))))))
theorem rwc_fX8_actBox {M0 : jm_M} {M : jm_M} (r0 l1 : Int) (h : Kp RWA M0 M) : pw (fX8_actBox M r0 l1) (Kp RWA M0) := by
  unfold fX8_actBox
  exact pw_b (rwc_fX11_isIndex  (jm_w ((M 11 r0 6) - 1)) 21 h) (fun v2 M3 h3 => pw_ite (pw_ret h3) (pw_ite (pw_s (P := Kp RWA M0) (rwa_f h3 (by decide) (by decide)) (fun M8 h8 => pw_ret h8)) (pw_none)))
theorem rwc_fX3_takesBox {M0 : jm_M} {M : jm_M} (l1 : Int) (h : Kp RWA M0 M) : pw (fX3_takesBox M l1) (Kp RWA M0) := by
  unfold fX3_takesBox
  exact pw_ite (pw_ret h) (pw_ite (pw_ite (pw_b (rwc_fX8_actBox  (M 6 0 8) (jm_w (l1 - 48)) h) (fun v4 M5 h5 => pw_s (P := Kp RWA M0) (rwa_f h5 (by decide) (by decide)) (fun M6 h6 => pw_ret h6))) (pw_none)) (pw_ret h))
theorem rwc_fX3_takes {M0 : jm_M} (fu : Nat) {M : jm_M} (l1 : Int) (h : Kp RWA M0 M) : pw (fX3_takes fu M l1) (Kp RWA M0) := by
  unfold fX3_takes
  exact pw_ite (pw_b (rwc_fX3_takesOperand fu l1 h) (fun v3 M4 h4 => pw_ite (pw_ret h4) (pw_none))) (pw_ite (pw_b (rwc_fX3_takesOperand fu l1 h) (fun v7 M8 h8 => pw_ite (pw_ret h8) (pw_none))) (pw_ite (pw_b (rwc_fX3_takesBehindOperand fu l1 h) (fun v11 M12 h12 => pw_ite (pw_ret h12) (pw_none))) (pw_ite (pw_b (rwc_fX3_takesVerdict  l1 h) (fun v15 M16 h16 => pw_ite (pw_ret h16) (pw_none))) (pw_ite (pw_b (rwc_fX3_takesSeconds  l1 h) (fun v19 M20 h20 => pw_ite (pw_ret h20) (pw_none))) (pw_ite (pw_b (rwc_fX3_takesAct  l1 h) (fun v23 M24 h24 => pw_ite (pw_ret h24) (pw_none))) (pw_ite (pw_b (rwc_fX3_takesAct  l1 h) (fun v27 M28 h28 => pw_ite (pw_ret h28) (pw_none))) (pw_ite (pw_b (rwc_fX3_takesBox  l1 h) (fun v31 M32 h32 => pw_ite (pw_ret h32) (pw_none))) (pw_ret h))))))))
theorem rwc_gX3_firstWrong_a12_25 {M0 : jm_M} (fu : Nat) (k25 : jm_M → Int → Int → jm_R) (hk25 : ∀ (M : jm_M) (b0 b1 : Int), Kp RWA M0 M → pw (k25 M b0 b1) (Kp RWA M0)) {M : jm_M} (l2 l5 : Int) (h : Kp RWA M0 M) : pw (gX3_firstWrong_a12_25 fu k25 M l2 l5) (Kp RWA M0) := by
  unfold gX3_firstWrong_a12_25
  exact pw_ite (rwc_gX3_firstWrong_a12_65 fu l2 h) (pw_ite (rwc_gX3_firstWrong_a12_65 fu l2 h) (pw_ite (rwc_gX3_firstWrong_a12_65 fu l2 h) (pw_ite (pw_b (rwc_fX3_takes fu (M 12 0 l5) h) (fun v6 M7 h7 => pw_ite (pw_ret h7) (pw_e (fun v10 => hk25 M7 l2 v10 h7)))) (pw_none))))
theorem rwc_fX3_firstWrong_a12_25 {M0 : jm_M} (fu : Nat) : ∀ (n : Nat) {M : jm_M} (a0 a1 : Int), Kp RWA M0 M → pw (fX3_firstWrong_a12_25 fu n M a0 a1) (Kp RWA M0) := by
  intro n
  induction n with
  | zero => intro M a0 a1 h; exact pw_none
  | succ n ih =>
    intro M a0 a1 h
    exact rwc_gX3_firstWrong_a12_25 fu (fX3_firstWrong_a12_25 fu n) (fun M a0 a1 h => ih a0 a1 h) a0 a1 h
theorem rwc_fX3_firstWrong_a12 {M0 : jm_M} (fu : Nat) {M : jm_M} (l2 r3 l4 : Int) (h : Kp RWA M0 M) : pw (fX3_firstWrong_a12 fu M l2 r3 l4) (Kp RWA M0) := by
  unfold fX3_firstWrong_a12
  exact pw_ite (pw_s (P := Kp RWA M0) (rwa_f h (by decide) (by decide)) (fun M1 h1 => pw_s (P := Kp RWA M0) (rwa_f h1 (by decide) (by decide)) (fun M3 h3 => pw_ite (pw_b (rwc_fX8_empty  (M3 6 0 8) h3) (fun v5 M6 h6 => pw_b (rwc_fX3_beginLine   h6) (fun v7 M8 h8 => rwc_fX3_firstWrong_a12_25 fu fu l2 0 h8))) (pw_none)))) (pw_none)
theorem rwc_fX11_plan {M0 : jm_M} (fu : Nat) {M : jm_M} (l1 : Int) (h : Kp RWA M0 M) : pw (fX11_plan fu M l1) (Kp RWA M0) := by
  unfold fX11_plan
  exact pw_b (rwc_fX11_takeTape   h) (fun v1 M2 h2 => pw_b (rwc_fX2_has  l1 h2) (fun v4 M5 h5 => pw_ite (pw_ret h5) (pw_ite (pw_b (rwc_fX3_firstWrong_a12 fu v1 (M5 0 0 10) 1 h5) (fun v9 M10 h10 => pw_ite (pw_ite (pw_ite (pw_ite (pw_ite (pw_s (P := Kp RWA M0) (rwa_f h10 (by decide) (by decide)) (fun M17 h17 => pw_ite (pw_s (P := Kp RWA M0) (rwa_f h17 (by decide) (by decide)) (fun M19 h19 => pw_s (P := Kp RWA M0) (rwa_k h19 (by decide)) (fun M20 h20 => pw_s (P := Kp RWA M0) (rwa_f h20 (by decide) (by decide)) (fun M21 h21 => pw_ret h21)))) (pw_none))) (pw_none)) (pw_none)) (pw_none)) (pw_none)) (pw_ret h10))) (pw_none))))
theorem rwc_fX0_takeRule {M0 : jm_M} {M : jm_M} (r1 l2 : Int) (h : Kp RWA M0 M) : pw (fX0_takeRule M r1 l2) (Kp RWA M0) := by
  unfold fX0_takeRule
  exact pw_b (rwc_fX11_isIndex  (M 3 0 3) 10 h) (fun v2 M3 h3 => pw_ite (pw_ret h3) (pw_ite (pw_ite (pw_ite (pw_s (P := Kp RWA M0) (rwa_f h3 (by decide) (by decide)) (fun M11 h11 => pw_ite (pw_s (P := Kp RWA M0) (rwa_f h11 (by decide) (by decide)) (fun M14 h14 => pw_s (P := Kp RWA M0) (rwa_f h14 (by decide) (by decide)) (fun M16 h16 => pw_ret h16))) (pw_none))) (pw_none)) (pw_none)) (pw_none)))
theorem rwc_fX11_rule {M0 : jm_M} (fu : Nat) {M : jm_M} (l1 : Int) (h : Kp RWA M0 M) : pw (fX11_rule fu M l1) (Kp RWA M0) := by
  unfold fX11_rule
  exact pw_b (rwc_fX11_takeTape   h) (fun v1 M2 h2 => pw_b (rwc_fX11_isDay  l1 h2) (fun v4 M5 h5 => pw_ite (pw_ret h5) (pw_b (rwc_fX11_isIndex  (M5 3 0 3) 10 h5) (fun v9 M10 h10 => pw_ite (pw_ret h10) (pw_ite (pw_b (rwc_fX3_firstWrong_a12 fu v1 (M10 0 0 10) 0 h10) (fun v14 M15 h15 => pw_ite (pw_ite (pw_b (rwc_fX0_takeRule  (M15 0 0 10) l1 h15) (fun v19 M20 h20 => pw_s (P := Kp RWA M0) (rwa_k h20 (by decide)) (fun M22 h22 => pw_ret h22))) (pw_none)) (pw_ret h15))) (pw_none))))))
theorem rwc_fX1_forget {M0 : jm_M} {M : jm_M} (r0 : Int) (h : Kp RWA M0 M) : pw (fX1_forget M r0) (Kp RWA M0) := by
  unfold fX1_forget
  exact pw_s (P := Kp RWA M0) (rwa_f h (by decide) (by decide)) (fun M1 h1 => pw_s (P := Kp RWA M0) (rwa_f h1 (by decide) (by decide)) (fun M2 h2 => pw_s (P := Kp RWA M0) (rwa_f h2 (by decide) (by decide)) (fun M3 h3 => pw_s (P := Kp RWA M0) (rwa_f h3 (by decide) (by decide)) (fun M4 h4 => pw_s (P := Kp RWA M0) (rwa_f h4 (by decide) (by decide)) (fun M5 h5 => pw_s (P := Kp RWA M0) (rwa_f h5 (by decide) (by decide)) (fun M6 h6 => pw_ret h6))))))
theorem rwc_fX11_car {M0 : jm_M} {M : jm_M} (l1 l2 l3 l4 l5 l6 : Int) (h : Kp RWA M0 M) : pw (fX11_car M l1 l2 l3 l4 l5 l6) (Kp RWA M0) := by
  unfold fX11_car
  exact pw_b (rwc_fX11_isWithin  l1 (-2000) 2000 h) (fun v1 M2 h2 => pw_ite (pw_ret h2) (pw_b (rwc_fX11_isWithin  l2 1 200 h2) (fun v5 M6 h6 => pw_ite (pw_ret h6) (pw_b (rwc_fX11_isWithin  l3 1 9 h6) (fun v9 M10 h10 => pw_ite (pw_ret h10) (pw_b (rwc_fX11_isIndex  l4 4 h10) (fun v13 M14 h14 => pw_ite (pw_ret h14) (pw_b (rwc_fX11_isIndex  l5 2 h14) (fun v17 M18 h18 => pw_ite (pw_ret h18) (pw_b (rwc_fX11_isWithin  l6 0 l2 h18) (fun v21 M22 h22 => pw_ite (pw_ret h22) (pw_b (rwc_fX11_isIndex  (M22 2 0 5) 6 h22) (fun v26 M27 h27 => pw_ite (pw_ret h27) (pw_ite (pw_b (rwc_fX1_forget  (M27 2 0 5) h27) (fun v32 M33 h33 => pw_s (P := Kp RWA M0) (rwa_f h33 (by decide) (by decide)) (fun M34 h34 => pw_s (P := Kp RWA M0) (rwa_f h34 (by decide) (by decide)) (fun M35 h35 => pw_s (P := Kp RWA M0) (rwa_f h35 (by decide) (by decide)) (fun M36 h36 => pw_s (P := Kp RWA M0) (rwa_f h36 (by decide) (by decide)) (fun M37 h37 => pw_s (P := Kp RWA M0) (rwa_f h37 (by decide) (by decide)) (fun M38 h38 => pw_s (P := Kp RWA M0) (rwa_f h38 (by decide) (by decide)) (fun M39 h39 => pw_s (P := Kp RWA M0) (rwa_f h39 (by decide) (by decide)) (fun M41 h41 => pw_s (P := Kp RWA M0) (rwa_f h41 (by decide) (by decide)) (fun M42 h42 => pw_ret h42)))))))))) (pw_none)))))))))))))))
theorem rwc_gX9_layAnew_12 {M0 : jm_M} (fu : Nat) (k12 : jm_M → Int → jm_R) (hk12 : ∀ (M : jm_M) (b0 : Int), Kp RWA M0 M → pw (k12 M b0) (Kp RWA M0)) {M : jm_M} (l3 : Int) (h : Kp RWA M0 M) : pw (gX9_layAnew_12 fu k12 M l3) (Kp RWA M0) := by
  unfold gX9_layAnew_12
  exact pw_ite (pw_s (P := Kp RWA M0) (rwa_f h (by decide) (by decide)) (fun M2 h2 => pw_s (P := Kp RWA M0) (rwa_f h2 (by decide) (by decide)) (fun M3 h3 => pw_ret h3))) (pw_ite (pw_s (P := Kp RWA M0) (rwa_f h (by decide) (by decide)) (fun M5 h5 => pw_ite (pw_s (P := Kp RWA M0) (rwa_f h5 (by decide) (by decide)) (fun M7 h7 => pw_ite (pw_ite (pw_s (P := Kp RWA M0) (rwa_f h7 (by decide) (by decide)) (fun M9 h9 => pw_e (fun v11 => hk12 M9 v11 h9))) (pw_none)) (pw_none))) (pw_none))) (pw_none))
theorem rwc_fX9_layAnew_12 {M0 : jm_M} (fu : Nat) : ∀ (n : Nat) {M : jm_M} (a0 : Int), Kp RWA M0 M → pw (fX9_layAnew_12 fu n M a0) (Kp RWA M0) := by
  intro n
  induction n with
  | zero => intro M a0 h; exact pw_none
  | succ n ih =>
    intro M a0 h
    exact rwc_gX9_layAnew_12 fu (fX9_layAnew_12 fu n) (fun M a0 h => ih a0 h) a0 h
theorem rwc_fX9_layAnew {M0 : jm_M} (fu : Nat) {M : jm_M} (l1 l2 : Int) (h : Kp RWA M0 M) : pw (fX9_layAnew fu M l1 l2) (Kp RWA M0) := by
  unfold fX9_layAnew
  exact pw_s (P := Kp RWA M0) (rwa_f h (by decide) (by decide)) (fun M1 h1 => pw_s (P := Kp RWA M0) (rwa_f h1 (by decide) (by decide)) (fun M2 h2 => rwc_fX9_layAnew_12 fu fu 0 h2))
theorem rwc_fX11_track {M0 : jm_M} (fu : Nat) {M : jm_M} (l1 l2 : Int) (h : Kp RWA M0 M) : pw (fX11_track fu M l1 l2) (Kp RWA M0) := by
  unfold fX11_track
  exact pw_ite (pw_ret h) (pw_ite (pw_ret h) (pw_ite (pw_ret h) (pw_ite (pw_b (rwc_fX9_layAnew fu l1 l2 h) (fun v5 M6 h6 => pw_s (P := Kp RWA M0) (rwa_f h6 (by decide) (by decide)) (fun M7 h7 => pw_s (P := Kp RWA M0) (rwa_f h7 (by decide) (by decide)) (fun M8 h8 => pw_s (P := Kp RWA M0) (rwa_f h8 (by decide) (by decide)) (fun M9 h9 => pw_s (P := Kp RWA M0) (rwa_f h9 (by decide) (by decide)) (fun M10 h10 => pw_ret h10)))))) (pw_ret h))))
theorem rwd_fX12_in {M0 : jm_M} {M : jm_M} (l0 l2 l4 : Int) (h : Kp RWB M0 M) : pw (fX12_in M l0 l2 l4) (Kp RWB M0) := by
  unfold fX12_in
  exact pw_ite (pw_ret h) (pw_ite (pw_ret h) (pw_ret h))
theorem rwd_fX12_isSector {M0 : jm_M} {M : jm_M} (l1 : Int) (h : Kp RWB M0 M) : pw (fX12_isSector M l1) (Kp RWB M0) := by
  unfold fX12_isSector
  exact pw_b (rwd_fX12_in  l1 0 (jm_w ((M 0 0 1) - 1)) h) (fun v2 M3 h3 => pw_ite (pw_ret h3) (pw_none))
theorem rwd_fX12_sector {M0 : jm_M} {M : jm_M} (l1 l2 l3 : Int) (h : Kp RWB M0 M) : pw (fX12_sector M l1 l2 l3) (Kp RWB M0) := by
  unfold fX12_sector
  exact pw_s (P := Kp RWB M0) (rwb_k h (by decide)) (fun M1 h1 => pw_b (rwd_fX12_isSector  l1 h1) (fun v2 M3 h3 => pw_ite (pw_ret h3) (pw_b (rwd_fX12_in  l2 5000 60000 h3) (fun v6 M7 h7 => pw_ite (pw_ret h7) (pw_b (rwd_fX12_in  l3 (-1) 5000 h7) (fun v10 M11 h11 => pw_ite (pw_ret h11) (pw_ite (pw_s (P := Kp RWB M0) (rwb_f h11 (by decide) (by decide)) (fun M15 h15 => pw_ite (pw_s (P := Kp RWB M0) (rwb_f h15 (by decide) (by decide)) (fun M17 h17 => pw_ret h17)) (pw_none))) (pw_none))))))))
theorem rwd_fX12_rain {M0 : jm_M} {M : jm_M} (l1 l2 l3 : Int) (h : Kp RWB M0 M) : pw (fX12_rain M l1 l2 l3) (Kp RWB M0) := by
  unfold fX12_rain
  exact pw_s (P := Kp RWB M0) (rwb_k h (by decide)) (fun M1 h1 => pw_b (rwd_fX12_isSector  l1 h1) (fun v2 M3 h3 => pw_ite (pw_ret h3) (pw_ite (pw_ret h3) (pw_b (rwd_fX12_in  l3 0 100 h3) (fun v7 M8 h8 => pw_ite (pw_ret h8) (pw_ite (pw_ret h8) (pw_ite (pw_s (P := Kp RWB M0) (rwb_f h8 (by decide) (by decide)) (fun M15 h15 => pw_ite (pw_s (P := Kp RWB M0) (rwb_f h15 (by decide) (by decide)) (fun M18 h18 => pw_ite (pw_s (P := Kp RWB M0) (rwb_f h18 (by decide) (by decide)) (fun M21 h21 => pw_s (P := Kp RWB M0) (rwb_k h21 (by decide)) (fun M23 h23 => pw_ret h23))) (pw_none))) (pw_none))) (pw_none))))))))
theorem rwd_gX12_flag_18 {M0 : jm_M} (fu : Nat) {M : jm_M} (l1 l2 l3 l4 : Int) (h : Kp RWB M0 M) : pw (gX12_flag_18 fu M l1 l2 l3 l4) (Kp RWB M0) := by
  unfold gX12_flag_18
  exact pw_ite (pw_ret h) (pw_ite (pw_ret h) (pw_b (rwd_fX12_in  l4 0 1 h) (fun v3 M4 h4 => pw_ite (pw_ret h4) (pw_ite (pw_ret h4) (pw_ite (pw_s (P := Kp RWB M0) (rwb_f h4 (by decide) (by decide)) (fun M11 h11 => pw_ite (pw_s (P := Kp RWB M0) (rwb_f h11 (by decide) (by decide)) (fun M14 h14 => pw_ite (pw_s (P := Kp RWB M0) (rwb_f h14 (by decide) (by decide)) (fun M17 h17 => pw_ite (pw_s (P := Kp RWB M0) (rwb_f h17 (by decide) (by decide)) (fun M20 h20 => pw_s (P := Kp RWB M0) (rwb_k h20 (by decide)) (fun M22 h22 => pw_ret h22))) (pw_none))) (pw_none))) (pw_none))) (pw_none))))))
theorem rwd_fX12_flag {M0 : jm_M} (fu : Nat) {M : jm_M} (l1 l2 l3 l4 : Int) (h : Kp RWB M0 M) : pw (fX12_flag fu M l1 l2 l3 l4) (Kp RWB M0) := by
  unfold fX12_flag
  exact pw_s (P := Kp RWB M0) (rwb_k h (by decide)) (fun M1 h1 => pw_ite (rwd_gX12_flag_18 fu l1 l2 l3 l4 h1) (pw_b (rwd_fX12_isSector  l1 h1) (fun v3 M4 h4 => pw_ite (pw_ret h4) (rwd_gX12_flag_18 fu l1 l2 l3 l4 h4))))
theorem rwd_fX12_isDay {M0 : jm_M} {M : jm_M} (l0 : Int) (h : Kp RWB M0 M) : pw (fX12_isDay M l0) (Kp RWB M0) := by
  unfold fX12_isDay
  exact pw_b (rwd_fX12_in  l0 0 99 h) (fun v1 M2 h2 => pw_ite (pw_ret h2) (pw_none))
theorem rwd_gX12_finding_71 {M0 : jm_M} (fu : Nat) {M : jm_M} (l1 l2 l3 l4 s0 : Int) (h : Kp RWB M0 M) : pw (gX12_finding_71 fu M l1 l2 l3 l4 s0) (Kp RWB M0) := by
  unfold gX12_finding_71
  exact pw_ite (pw_ret h) (pw_ite (pw_s (P := Kp RWB M0) (rwb_f h (by decide) (by decide)) (fun M4 h4 => pw_ite (pw_s (P := Kp RWB M0) (rwb_f h4 (by decide) (by decide)) (fun M7 h7 => pw_ite (pw_s (P := Kp RWB M0) (rwb_f h7 (by decide) (by decide)) (fun M10 h10 => pw_ite (pw_s (P := Kp RWB M0) (rwb_f h10 (by decide) (by decide)) (fun M13 h13 => pw_s (P := Kp RWB M0) (rwb_k h13 (by decide)) (fun M15 h15 => pw_ret h15))) (pw_none))) (pw_none))) (pw_none))) (pw_none))
theorem rwd_fX12_isCar {M0 : jm_M} {M : jm_M} (l1 : Int) (h : Kp RWB M0 M) : pw (fX12_isCar M l1) (Kp RWB M0) := by
  unfold fX12_isCar
  exact pw_b (rwd_fX12_in  l1 0 (jm_w ((M 0 0 17) - 1)) h) (fun v2 M3 h3 => pw_ite (pw_ret h3) (pw_none))
theorem rwd_gX12_finding_57 {M0 : jm_M} (fu : Nat) {M : jm_M} (l1 l2 l3 l4 : Int) (h : Kp RWB M0 M) : pw (gX12_finding_57 fu M l1 l2 l3 l4) (Kp RWB M0) := by
  unfold gX12_finding_57
  exact pw_ite (rwd_gX12_finding_71 fu l1 l2 l3 l4 0 h) (rwd_gX12_finding_71 fu l1 l2 l3 l4 1 h)
theorem rwd_gX12_finding_37 {M0 : jm_M} (fu : Nat) {M : jm_M} (l1 l2 l3 l4 : Int) (h : Kp RWB M0 M) : pw (gX12_finding_37 fu M l1 l2 l3 l4) (Kp RWB M0) := by
  unfold gX12_finding_37
  exact pw_ite (pw_b (rwd_fX12_in  l4 (-60000) 60000 h) (fun v2 M3 h3 => pw_ite (rwd_gX12_finding_71 fu l1 l2 l3 l4 0 h3) (rwd_gX12_finding_57 fu l1 l2 l3 l4 h3))) (rwd_gX12_finding_71 fu l1 l2 l3 l4 0 h)
theorem rwd_fX12_finding {M0 : jm_M} (fu : Nat) {M : jm_M} (l1 l2 l3 l4 : Int) (h : Kp RWB M0 M) : pw (fX12_finding fu M l1 l2 l3 l4) (Kp RWB M0) := by
  unfold fX12_finding
  exact pw_s (P := Kp RWB M0) (rwb_k h (by decide)) (fun M1 h1 => pw_b (rwd_fX12_isDay  l1 h1) (fun v2 M3 h3 => pw_ite (rwd_gX12_finding_71 fu l1 l2 l3 l4 0 h3) (pw_b (rwd_fX12_isCar  l2 h3) (fun v6 M7 h7 => pw_ite (rwd_gX12_finding_71 fu l1 l2 l3 l4 0 h7) (pw_ite (pw_b (rwd_fX12_in  l4 0 999 h7) (fun v11 M12 h12 => pw_ite (rwd_gX12_finding_37 fu l1 l2 l3 l4 h12) (rwd_gX12_finding_57 fu l1 l2 l3 l4 h12))) (rwd_gX12_finding_37 fu l1 l2 l3 l4 h7))))))
theorem rwd_fX12_refuse {M0 : jm_M} {M : jm_M} (h : Kp RWB M0 M) : pw (fX12_refuse M ) (Kp RWB M0) := by
  unfold fX12_refuse
  exact pw_s (P := Kp RWB M0) (rwb_k h (by decide)) (fun M1 h1 => pw_ret h1)
theorem rwd_gX12_starts_273 {M0 : jm_M} (fu : Nat) (k31 : jm_M → Int → jm_R) (hk31 : ∀ (M : jm_M) (b0 : Int), Kp RWB M0 M → pw (k31 M b0) (Kp RWB M0)) (k273 : jm_M → Int → Int → jm_R) (hk273 : ∀ (M : jm_M) (b0 b1 : Int), Kp RWB M0 M → pw (k273 M b0 b1) (Kp RWB M0)) {M : jm_M} (l1 l2 : Int) (h : Kp RWB M0 M) : pw (gX12_starts_273 fu k31 k273 M l1 l2) (Kp RWB M0) := by
  unfold gX12_starts_273
  exact pw_ite (pw_e (fun v2 => hk31 M v2 h)) (pw_ite (pw_s (P := Kp RWB M0) (rwb_f h (by decide) (by decide)) (fun M5 h5 => pw_e (fun v6 => hk273 M5 l1 v6 h5))) (pw_none))
theorem rwd_fX12_starts_273 {M0 : jm_M} (fu : Nat) (k31 : jm_M → Int → jm_R) (hk31 : ∀ (M : jm_M) (b0 : Int), Kp RWB M0 M → pw (k31 M b0) (Kp RWB M0)) : ∀ (n : Nat) {M : jm_M} (a0 a1 : Int), Kp RWB M0 M → pw (fX12_starts_273 fu k31 n M a0 a1) (Kp RWB M0) := by
  intro n
  induction n with
  | zero => intro M a0 a1 h; exact pw_none
  | succ n ih =>
    intro M a0 a1 h
    exact rwd_gX12_starts_273 fu k31 hk31 (fX12_starts_273 fu k31 n) (fun M a0 a1 h => ih a0 a1 h) a0 a1 h
theorem rwd_gX12_starts_249 {M0 : jm_M} (fu : Nat) (k31 : jm_M → Int → jm_R) (hk31 : ∀ (M : jm_M) (b0 : Int), Kp RWB M0 M → pw (k31 M b0) (Kp RWB M0)) (k249 : jm_M → Int → Int → jm_R) (hk249 : ∀ (M : jm_M) (b0 b1 : Int), Kp RWB M0 M → pw (k249 M b0 b1) (Kp RWB M0)) {M : jm_M} (l1 l2 : Int) (h : Kp RWB M0 M) : pw (gX12_starts_249 fu k31 k249 M l1 l2) (Kp RWB M0) := by
  unfold gX12_starts_249
  exact pw_ite (rwd_fX12_starts_273 fu k31 hk31 fu l1 0 h) (pw_ite (pw_s (P := Kp RWB M0) (rwb_f h (by decide) (by decide)) (fun M3 h3 => pw_e (fun v4 => hk249 M3 l1 v4 h3))) (pw_none))
theorem rwd_fX12_starts_249 {M0 : jm_M} (fu : Nat) (k31 : jm_M → Int → jm_R) (hk31 : ∀ (M : jm_M) (b0 : Int), Kp RWB M0 M → pw (k31 M b0) (Kp RWB M0)) : ∀ (n : Nat) {M : jm_M} (a0 a1 : Int), Kp RWB M0 M → pw (fX12_starts_249 fu k31 n M a0 a1) (Kp RWB M0) := by
  intro n
  induction n with
  | zero => intro M a0 a1 h; exact pw_none
  | succ n ih =>
    intro M a0 a1 h
    exact rwd_gX12_starts_249 fu k31 hk31 (fX12_starts_249 fu k31 n) (fun M a0 a1 h => ih a0 a1 h) a0 a1 h
theorem rwd_gX12_starts_223 {M0 : jm_M} (fu : Nat) (k31 : jm_M → Int → jm_R) (hk31 : ∀ (M : jm_M) (b0 : Int), Kp RWB M0 M → pw (k31 M b0) (Kp RWB M0)) (k223 : jm_M → Int → Int → jm_R) (hk223 : ∀ (M : jm_M) (b0 b1 : Int), Kp RWB M0 M → pw (k223 M b0 b1) (Kp RWB M0)) {M : jm_M} (l1 l2 : Int) (h : Kp RWB M0 M) : pw (gX12_starts_223 fu k31 k223 M l1 l2) (Kp RWB M0) := by
  unfold gX12_starts_223
  exact pw_ite (rwd_fX12_starts_249 fu k31 hk31 fu l1 0 h) (pw_ite (pw_s (P := Kp RWB M0) (rwb_f h (by decide) (by decide)) (fun M3 h3 => pw_e (fun v4 => hk223 M3 l1 v4 h3))) (pw_none))
theorem rwd_fX12_starts_223 {M0 : jm_M} (fu : Nat) (k31 : jm_M → Int → jm_R) (hk31 : ∀ (M : jm_M) (b0 : Int), Kp RWB M0 M → pw (k31 M b0) (Kp RWB M0)) : ∀ (n : Nat) {M : jm_M} (a0 a1 : Int), Kp RWB M0 M → pw (fX12_starts_223 fu k31 n M a0 a1) (Kp RWB M0) := by
  intro n
  induction n with
  | zero => intro M a0 a1 h; exact pw_none
  | succ n ih =>
    intro M a0 a1 h
    exact rwd_gX12_starts_223 fu k31 hk31 (fX12_starts_223 fu k31 n) (fun M a0 a1 h => ih a0 a1 h) a0 a1 h
theorem rwd_gX12_starts_190 {M0 : jm_M} (fu : Nat) (k31 : jm_M → Int → jm_R) (hk31 : ∀ (M : jm_M) (b0 : Int), Kp RWB M0 M → pw (k31 M b0) (Kp RWB M0)) (k190 : jm_M → Int → Int → jm_R) (hk190 : ∀ (M : jm_M) (b0 b1 : Int), Kp RWB M0 M → pw (k190 M b0 b1) (Kp RWB M0)) {M : jm_M} (l1 l2 : Int) (h : Kp RWB M0 M) : pw (gX12_starts_190 fu k31 k190 M l1 l2) (Kp RWB M0) := by
  unfold gX12_starts_190
  exact pw_ite (rwd_fX12_starts_223 fu k31 hk31 fu l1 0 h) (pw_ite (pw_ite (pw_s (P := Kp RWB M0) (rwb_f h (by decide) (by decide)) (fun M5 h5 => pw_e (fun v6 => hk190 M5 l1 v6 h5))) (pw_none)) (pw_none))
theorem rwd_fX12_starts_190 {M0 : jm_M} (fu : Nat) (k31 : jm_M → Int → jm_R) (hk31 : ∀ (M : jm_M) (b0 : Int), Kp RWB M0 M → pw (k31 M b0) (Kp RWB M0)) : ∀ (n : Nat) {M : jm_M} (a0 a1 : Int), Kp RWB M0 M → pw (fX12_starts_190 fu k31 n M a0 a1) (Kp RWB M0) := by
  intro n
  induction n with
  | zero => intro M a0 a1 h; exact pw_none
  | succ n ih =>
    intro M a0 a1 h
    exact rwd_gX12_starts_190 fu k31 hk31 (fX12_starts_190 fu k31 n) (fun M a0 a1 h => ih a0 a1 h) a0 a1 h
theorem rwd_gX12_starts_131 {M0 : jm_M} (fu : Nat) (k31 : jm_M → Int → jm_R) (hk31 : ∀ (M : jm_M) (b0 : Int), Kp RWB M0 M → pw (k31 M b0) (Kp RWB M0)) {M : jm_M} (l1 s0 s1 : Int) (h : Kp RWB M0 M) : pw (gX12_starts_131 fu k31 M l1 s0 s1) (Kp RWB M0) := by
  unfold gX12_starts_131
  exact pw_ite (pw_s (P := Kp RWB M0) (rwb_f h (by decide) (by decide)) (fun M2 h2 => pw_ite (pw_s (P := Kp RWB M0) (rwb_f h2 (by decide) (by decide)) (fun M4 h4 => pw_ite (pw_s (P := Kp RWB M0) (rwb_f h4 (by decide) (by decide)) (fun M6 h6 => pw_ite (pw_s (P := Kp RWB M0) (rwb_f h6 (by decide) (by decide)) (fun M8 h8 => pw_ite (pw_s (P := Kp RWB M0) (rwb_f h8 (by decide) (by decide)) (fun M10 h10 => pw_ite (pw_s (P := Kp RWB M0) (rwb_f h10 (by decide) (by decide)) (fun M12 h12 => pw_ite (pw_s (P := Kp RWB M0) (rwb_f h12 (by decide) (by decide)) (fun M14 h14 => pw_ite (pw_s (P := Kp RWB M0) (rwb_f h14 (by decide) (by decide)) (fun M16 h16 => pw_ite (pw_s (P := Kp RWB M0) (rwb_f h16 (by decide) (by decide)) (fun M18 h18 => rwd_fX12_starts_190 fu k31 hk31 fu l1 0 h18)) (pw_none))) (pw_none))) (pw_none))) (pw_none))) (pw_none))) (pw_none))) (pw_none))) (pw_none))) (pw_none)
theorem rwd_gX12_starts_58 {M0 : jm_M} (fu : Nat) (k31 : jm_M → Int → jm_R) (hk31 : ∀ (M : jm_M) (b0 : Int), Kp RWB M0 M → pw (k31 M b0) (Kp RWB M0)) {M : jm_M} (l1 s0 s1 : Int) (h : Kp RWB M0 M) : pw (gX12_starts_58 fu k31 M l1 s0 s1) (Kp RWB M0) := by
  unfold gX12_starts_58
  exact pw_ite (pw_s (P := Kp RWB M0) (rwb_f h (by decide) (by decide)) (fun M2 h2 => pw_ite (pw_ite (pw_s (P := Kp RWB M0) (rwb_f h2 (by decide) (by decide)) (fun M6 h6 => pw_ite (pw_ite (pw_s (P := Kp RWB M0) (rwb_f h6 (by decide) (by decide)) (fun M10 h10 => pw_ite (pw_s (P := Kp RWB M0) (rwb_f h10 (by decide) (by decide)) (fun M12 h12 => pw_ite (pw_s (P := Kp RWB M0) (rwb_f h12 (by decide) (by decide)) (fun M14 h14 => pw_ite (pw_ite (pw_s (P := Kp RWB M0) (rwb_f h14 (by decide) (by decide)) (fun M18 h18 => pw_ite (pw_ite (rwd_gX12_starts_131 fu k31 hk31 l1 (-1) l1 h18) (rwd_gX12_starts_131 fu k31 hk31 l1 0 l1 h18)) (pw_none))) (pw_none)) (pw_none))) (pw_none))) (pw_none))) (pw_none)) (pw_none))) (pw_none)) (pw_none))) (pw_none)
theorem rwd_gX12_starts_31 {M0 : jm_M} (fu : Nat) (k31 : jm_M → Int → jm_R) (hk31 : ∀ (M : jm_M) (b0 : Int), Kp RWB M0 M → pw (k31 M b0) (Kp RWB M0)) {M : jm_M} (l1 : Int) (h : Kp RWB M0 M) : pw (gX12_starts_31 fu k31 M l1) (Kp RWB M0) := by
  unfold gX12_starts_31
  exact pw_ite (pw_ret h) (pw_ite (pw_ite (rwd_gX12_starts_58 fu k31 hk31 l1 2 l1 h) (rwd_gX12_starts_58 fu k31 hk31 l1 0 l1 h)) (pw_none))
theorem rwd_fX12_starts_31 {M0 : jm_M} (fu : Nat) : ∀ (n : Nat) {M : jm_M} (a0 : Int), Kp RWB M0 M → pw (fX12_starts_31 fu n M a0) (Kp RWB M0) := by
  intro n
  induction n with
  | zero => intro M a0 h; exact pw_none
  | succ n ih =>
    intro M a0 h
    exact rwd_gX12_starts_31 fu (fX12_starts_31 fu n) (fun M a0 h => ih a0 h) a0 h
theorem rwd_gX12_starts_7 {M0 : jm_M} (fu : Nat) (k7 : jm_M → Int → jm_R) (hk7 : ∀ (M : jm_M) (b0 : Int), Kp RWB M0 M → pw (k7 M b0) (Kp RWB M0)) {M : jm_M} (l1 : Int) (h : Kp RWB M0 M) : pw (gX12_starts_7 fu k7 M l1) (Kp RWB M0) := by
  unfold gX12_starts_7
  exact pw_ite (rwd_fX12_starts_31 fu fu 0 h) (pw_ite (pw_s (P := Kp RWB M0) (rwb_f h (by decide) (by decide)) (fun M3 h3 => pw_e (fun v4 => hk7 M3 v4 h3))) (pw_none))
theorem rwd_fX12_starts_7 {M0 : jm_M} (fu : Nat) : ∀ (n : Nat) {M : jm_M} (a0 : Int), Kp RWB M0 M → pw (fX12_starts_7 fu n M a0) (Kp RWB M0) := by
  intro n
  induction n with
  | zero => intro M a0 h; exact pw_none
  | succ n ih =>
    intro M a0 h
    exact rwd_gX12_starts_7 fu (fX12_starts_7 fu n) (fun M a0 h => ih a0 h) a0 h
theorem rwd_fX12_starts {M0 : jm_M} (fu : Nat) {M : jm_M} (h : Kp RWB M0 M) : pw (fX12_starts fu M ) (Kp RWB M0) := by
  unfold fX12_starts
  exact pw_s (P := Kp RWB M0) (rwb_k h (by decide)) (fun M1 h1 => rwd_fX12_starts_7 fu fu 0 h1)
theorem rwd_fX12_goesOn {M0 : jm_M} {M : jm_M} (l1 : Int) (h : Kp RWB M0 M) : pw (fX12_goesOn M l1) (Kp RWB M0) := by
  unfold fX12_goesOn
  exact pw_ite (pw_ite (pw_ret h) (pw_ret h)) (pw_none)
theorem rwd_gX12_next_4 {M0 : jm_M} (fu : Nat) (k4 : jm_M → Int → Int → jm_R) (hk4 : ∀ (M : jm_M) (b0 b1 : Int), Kp RWB M0 M → pw (k4 M b0 b1) (Kp RWB M0)) {M : jm_M} (l1 l2 : Int) (h : Kp RWB M0 M) : pw (gX12_next_4 fu k4 M l1 l2) (Kp RWB M0) := by
  unfold gX12_next_4
  exact pw_ite (pw_ret h) (pw_b (rwd_fX12_goesOn  l2 h) (fun v3 M4 h4 => pw_ite (pw_e (fun v7 => hk4 M4 l1 v7 h4)) (pw_ite (pw_e (fun v10 => hk4 M4 l2 v10 h4)) (pw_ite (pw_ite (pw_ite (pw_e (fun v17 => hk4 M4 l2 v17 h4)) (pw_ite (pw_ite (pw_ite (pw_ite (pw_ite (pw_ite (pw_e (fun v29 => hk4 M4 l1 v29 h4)) (pw_e (fun v31 => hk4 M4 l2 v31 h4))) (pw_none)) (pw_none)) (pw_e (fun v33 => hk4 M4 l1 v33 h4))) (pw_none)) (pw_none))) (pw_none)) (pw_none)))))
theorem rwd_fX12_next_4 {M0 : jm_M} (fu : Nat) : ∀ (n : Nat) {M : jm_M} (a0 a1 : Int), Kp RWB M0 M → pw (fX12_next_4 fu n M a0 a1) (Kp RWB M0) := by
  intro n
  induction n with
  | zero => intro M a0 a1 h; exact pw_none
  | succ n ih =>
    intro M a0 a1 h
    exact rwd_gX12_next_4 fu (fX12_next_4 fu n) (fun M a0 a1 h => ih a0 a1 h) a0 a1 h
theorem rwd_fX12_next {M0 : jm_M} (fu : Nat) {M : jm_M} (h : Kp RWB M0 M) : pw (fX12_next fu M ) (Kp RWB M0) := by
  unfold fX12_next
  exact rwd_fX12_next_4 fu fu (-1) 0 h
theorem rwd_gX12_hears_72 {M0 : jm_M} (fu : Nat) (k5 : jm_M → Int → Int → Int → jm_R) (hk5 : ∀ (M : jm_M) (b0 b1 b2 : Int), Kp RWB M0 M → pw (k5 M b0 b1 b2) (Kp RWB M0)) {M : jm_M} (l1 l2 l3 s0 s1 : Int) (h : Kp RWB M0 M) : pw (gX12_hears_72 fu k5 M l1 l2 l3 s0 s1) (Kp RWB M0) := by
  unfold gX12_hears_72
  exact pw_ite (pw_s (P := Kp RWB M0) (rwb_f h (by decide) (by decide)) (fun M2 h2 => pw_ite (pw_ite (pw_ite (pw_ite (pw_s (P := Kp RWB M0) (rwb_f h2 (by decide) (by decide)) (fun M9 h9 => pw_e (fun v10 => hk5 M9 l1 l2 v10 h9))) (pw_none)) (pw_none)) (pw_ite (pw_ite (pw_s (P := Kp RWB M0) (rwb_f h2 (by decide) (by decide)) (fun M15 h15 => pw_e (fun v16 => hk5 M15 l1 l2 v16 h15))) (pw_none)) (pw_none))) (pw_none))) (pw_none)
theorem rwd_gX12_hears_5 {M0 : jm_M} (fu : Nat) (k5 : jm_M → Int → Int → Int → jm_R) (hk5 : ∀ (M : jm_M) (b0 b1 b2 : Int), Kp RWB M0 M → pw (k5 M b0 b1 b2) (Kp RWB M0)) {M : jm_M} (l1 l2 l3 : Int) (h : Kp RWB M0 M) : pw (gX12_hears_5 fu k5 M l1 l2 l3) (Kp RWB M0) := by
  unfold gX12_hears_5
  exact pw_ite (pw_ite (pw_ret h) (pw_ite (pw_ite (pw_ite (pw_ite (pw_ite (pw_ite (rwd_gX12_hears_72 fu k5 hk5 l1 l2 l3 (M 25 0 l3) l1 h) (pw_none)) (pw_ite (rwd_gX12_hears_72 fu k5 hk5 l1 l2 l3 (M 47 0 l1) l1 h) (pw_none))) (pw_none)) (pw_e (fun v17 => hk5 M l1 l2 v17 h))) (pw_none)) (pw_none))) (pw_none)
theorem rwd_fX12_hears_5 {M0 : jm_M} (fu : Nat) : ∀ (n : Nat) {M : jm_M} (a0 a1 a2 : Int), Kp RWB M0 M → pw (fX12_hears_5 fu n M a0 a1 a2) (Kp RWB M0) := by
  intro n
  induction n with
  | zero => intro M a0 a1 a2 h; exact pw_none
  | succ n ih =>
    intro M a0 a1 a2 h
    exact rwd_gX12_hears_5 fu (fX12_hears_5 fu n) (fun M a0 a1 a2 h => ih a0 a1 a2 h) a0 a1 a2 h
theorem rwd_fX12_hears {M0 : jm_M} (fu : Nat) {M : jm_M} (l1 l2 : Int) (h : Kp RWB M0 M) : pw (fX12_hears fu M l1 l2) (Kp RWB M0) := by
  unfold fX12_hears
  exact pw_e (fun v1 => rwd_fX12_hears_5 fu fu l1 l2 v1 h)
theorem rwd_gX12_isSlow_4 {M0 : jm_M} (fu : Nat) (k4 : jm_M → Int → Int → Int → jm_R) (hk4 : ∀ (M : jm_M) (b0 b1 b2 : Int), Kp RWB M0 M → pw (k4 M b0 b1 b2) (Kp RWB M0)) {M : jm_M} (l1 l2 l3 : Int) (h : Kp RWB M0 M) : pw (gX12_isSlow_4 fu k4 M l1 l2 l3) (Kp RWB M0) := by
  unfold gX12_isSlow_4
  exact pw_ite (pw_ite (pw_ret h) (pw_none)) (pw_ite (pw_ite (pw_ite (pw_ite (pw_ite (pw_e (fun v10 => hk4 M l1 0 v10 h)) (pw_ite (pw_ite (pw_e (fun v15 => hk4 M l1 0 v15 h)) (pw_e (fun v17 => hk4 M l1 1 v17 h))) (pw_none))) (pw_none)) (pw_e (fun v19 => hk4 M l1 0 v19 h))) (pw_none)) (pw_e (fun v21 => hk4 M l1 1 v21 h)))
theorem rwd_fX12_isSlow_4 {M0 : jm_M} (fu : Nat) : ∀ (n : Nat) {M : jm_M} (a0 a1 a2 : Int), Kp RWB M0 M → pw (fX12_isSlow_4 fu n M a0 a1 a2) (Kp RWB M0) := by
  intro n
  induction n with
  | zero => intro M a0 a1 a2 h; exact pw_none
  | succ n ih =>
    intro M a0 a1 a2 h
    exact rwd_gX12_isSlow_4 fu (fX12_isSlow_4 fu n) (fun M a0 a1 a2 h => ih a0 a1 a2 h) a0 a1 a2 h
theorem rwd_fX12_isSlow {M0 : jm_M} (fu : Nat) {M : jm_M} (l1 : Int) (h : Kp RWB M0 M) : pw (fX12_isSlow fu M l1) (Kp RWB M0) := by
  unfold fX12_isSlow
  exact rwd_fX12_isSlow_4 fu fu l1 0 0 h
theorem rwd_gX12_wet_5 {M0 : jm_M} (fu : Nat) (k5 : jm_M → Int → Int → Int → Int → jm_R) (hk5 : ∀ (M : jm_M) (b0 b1 b2 b3 : Int), Kp RWB M0 M → pw (k5 M b0 b1 b2 b3) (Kp RWB M0)) {M : jm_M} (l1 l2 l3 l4 : Int) (h : Kp RWB M0 M) : pw (gX12_wet_5 fu k5 M l1 l2 l3 l4) (Kp RWB M0) := by
  unfold gX12_wet_5
  exact pw_ite (pw_ite (pw_ite (pw_ret h) (pw_none)) (pw_ret h)) (pw_ite (pw_ite (pw_ite (pw_ite (pw_e (fun v12 => hk5 M l1 l2 l3 v12 h)) (pw_ite (pw_e (fun v15 => hk5 M l1 l2 l4 v15 h)) (pw_ite (pw_ite (pw_ite (pw_e (fun v22 => hk5 M l1 l2 l3 v22 h)) (pw_e (fun v24 => hk5 M l1 l2 l4 v24 h))) (pw_none)) (pw_none)))) (pw_none)) (pw_e (fun v26 => hk5 M l1 l2 l3 v26 h))) (pw_none))
theorem rwd_fX12_wet_5 {M0 : jm_M} (fu : Nat) : ∀ (n : Nat) {M : jm_M} (a0 a1 a2 a3 : Int), Kp RWB M0 M → pw (fX12_wet_5 fu n M a0 a1 a2 a3) (Kp RWB M0) := by
  intro n
  induction n with
  | zero => intro M a0 a1 a2 a3 h; exact pw_none
  | succ n ih =>
    intro M a0 a1 a2 a3 h
    exact rwd_gX12_wet_5 fu (fX12_wet_5 fu n) (fun M a0 a1 a2 a3 h => ih a0 a1 a2 a3 h) a0 a1 a2 a3 h
theorem rwd_fX12_wet {M0 : jm_M} (fu : Nat) {M : jm_M} (l1 l2 : Int) (h : Kp RWB M0 M) : pw (fX12_wet fu M l1 l2) (Kp RWB M0) := by
  unfold fX12_wet
  exact rwd_fX12_wet_5 fu fu l1 l2 (-1) 0 h
theorem rwd_gX12_takes_145 {M0 : jm_M} (fu : Nat) {M : jm_M} (l1 l2 l3 l6 s0 s1 : Int) (h : Kp RWB M0 M) : pw (gX12_takes_145 fu M l1 l2 l3 l6 s0 s1) (Kp RWB M0) := by
  unfold gX12_takes_145
  exact pw_e (fun v1 => pw_ite (pw_b (rwd_fX12_wet fu l2 l3 h) (fun v5 M6 h6 => pw_ite (pw_ite (pw_ite (pw_e (fun v14 => pw_ret h6)) (pw_none)) (pw_none)) (pw_none))) (pw_none))
theorem rwd_gX12_isFront_4 {M0 : jm_M} (fu : Nat) (k4 : jm_M → Int → Int → Int → jm_R) (hk4 : ∀ (M : jm_M) (b0 b1 b2 : Int), Kp RWB M0 M → pw (k4 M b0 b1 b2) (Kp RWB M0)) {M : jm_M} (l1 l2 l3 : Int) (h : Kp RWB M0 M) : pw (gX12_isFront_4 fu k4 M l1 l2 l3) (Kp RWB M0) := by
  unfold gX12_isFront_4
  exact pw_ite (pw_ite (pw_ret h) (pw_none)) (pw_ite (pw_e (fun v4 => hk4 M l1 0 v4 h)) (pw_ite (pw_e (fun v7 => hk4 M l1 1 v7 h)) (pw_b (rwd_fX12_goesOn  l3 h) (fun v9 M10 h10 => pw_ite (pw_e (fun v13 => hk4 M10 l1 1 v13 h10)) (pw_ite (pw_ite (pw_ite (pw_e (fun v20 => hk4 M10 l1 0 v20 h10)) (pw_e (fun v22 => hk4 M10 l1 1 v22 h10))) (pw_none)) (pw_none))))))
theorem rwd_fX12_isFront_4 {M0 : jm_M} (fu : Nat) : ∀ (n : Nat) {M : jm_M} (a0 a1 a2 : Int), Kp RWB M0 M → pw (fX12_isFront_4 fu n M a0 a1 a2) (Kp RWB M0) := by
  intro n
  induction n with
  | zero => intro M a0 a1 a2 h; exact pw_none
  | succ n ih =>
    intro M a0 a1 a2 h
    exact rwd_gX12_isFront_4 fu (fX12_isFront_4 fu n) (fun M a0 a1 a2 h => ih a0 a1 a2 h) a0 a1 a2 h
theorem rwd_fX12_isFront {M0 : jm_M} (fu : Nat) {M : jm_M} (l1 : Int) (h : Kp RWB M0 M) : pw (fX12_isFront fu M l1) (Kp RWB M0) := by
  unfold fX12_isFront
  exact rwd_fX12_isFront_4 fu fu l1 1 0 h
theorem rwd_fX12_takes {M0 : jm_M} (fu : Nat) {M : jm_M} (l1 l2 l3 l4 : Int) (h : Kp RWB M0 M) : pw (fX12_takes fu M l1 l2 l3 l4) (Kp RWB M0) := by
  unfold fX12_takes
  exact pw_ite (pw_ite (pw_e (fun v4 => pw_ite (pw_e (fun v8 => pw_ite (pw_ite (pw_ite (pw_ite (pw_ite (pw_ite (pw_ite (pw_e (fun v24 => pw_ite (pw_ite (pw_ite (rwd_gX12_takes_145 fu l1 l2 l3 v8 0 v24 h) (pw_ite (rwd_gX12_takes_145 fu l1 l2 l3 v8 (M 4 0 (jm_w (v8 + 3))) v24 h) (pw_none))) (pw_none)) (pw_none))) (pw_none)) (pw_none)) (pw_none)) (pw_none)) (pw_none)) (pw_none)) (pw_none))) (pw_none))) (pw_none)) (pw_ite (pw_b (rwd_fX12_isFront fu l1 h) (fun v35 M36 h36 => pw_ite (pw_ret h36) (pw_ret h36))) (pw_none))
theorem rwd_gX12_isYellow_46 {M0 : jm_M} (fu : Nat) (k5 : jm_M → Int → Int → Int → Int → jm_R) (hk5 : ∀ (M : jm_M) (b0 b1 b2 b3 : Int), Kp RWB M0 M → pw (k5 M b0 b1 b2 b3) (Kp RWB M0)) {M : jm_M} (l1 l2 l3 l4 s0 : Int) (h : Kp RWB M0 M) : pw (gX12_isYellow_46 fu k5 M l1 l2 l3 l4 s0) (Kp RWB M0) := by
  unfold gX12_isYellow_46
  exact pw_ite (pw_ite (pw_ite (pw_ite (pw_e (fun v6 => hk5 M l1 l2 0 v6 h)) (pw_ite (pw_ite (pw_e (fun v11 => hk5 M l1 l2 0 v11 h)) (pw_ite (pw_ite (pw_e (fun v16 => hk5 M l1 l2 0 v16 h)) (pw_e (fun v18 => hk5 M l1 l2 1 v18 h))) (pw_none))) (pw_none))) (pw_e (fun v20 => hk5 M l1 l2 0 v20 h))) (pw_none)) (pw_e (fun v22 => hk5 M l1 l2 1 v22 h))
theorem rwd_gX12_isYellow_5 {M0 : jm_M} (fu : Nat) (k5 : jm_M → Int → Int → Int → Int → jm_R) (hk5 : ∀ (M : jm_M) (b0 b1 b2 b3 : Int), Kp RWB M0 M → pw (k5 M b0 b1 b2 b3) (Kp RWB M0)) {M : jm_M} (l1 l2 l3 l4 : Int) (h : Kp RWB M0 M) : pw (gX12_isYellow_5 fu k5 M l1 l2 l3 l4) (Kp RWB M0) := by
  unfold gX12_isYellow_5
  exact pw_ite (pw_ite (pw_ret h) (pw_none)) (pw_ite (rwd_gX12_isYellow_46 fu k5 hk5 l1 l2 l3 l4 1 h) (pw_ite (pw_ite (rwd_gX12_isYellow_46 fu k5 hk5 l1 l2 l3 l4 1 h) (pw_ite (pw_ite (rwd_gX12_isYellow_46 fu k5 hk5 l1 l2 l3 l4 1 h) (rwd_gX12_isYellow_46 fu k5 hk5 l1 l2 l3 l4 0 h)) (pw_none))) (pw_none)))
theorem rwd_fX12_isYellow_5 {M0 : jm_M} (fu : Nat) : ∀ (n : Nat) {M : jm_M} (a0 a1 a2 a3 : Int), Kp RWB M0 M → pw (fX12_isYellow_5 fu n M a0 a1 a2 a3) (Kp RWB M0) := by
  intro n
  induction n with
  | zero => intro M a0 a1 a2 a3 h; exact pw_none
  | succ n ih =>
    intro M a0 a1 a2 a3 h
    exact rwd_gX12_isYellow_5 fu (fX12_isYellow_5 fu n) (fun M a0 a1 a2 a3 h => ih a0 a1 a2 a3 h) a0 a1 a2 a3 h
theorem rwd_fX12_isYellow {M0 : jm_M} (fu : Nat) {M : jm_M} (l1 l2 : Int) (h : Kp RWB M0 M) : pw (fX12_isYellow fu M l1 l2) (Kp RWB M0) := by
  unfold fX12_isYellow
  exact rwd_fX12_isYellow_5 fu fu l1 l2 0 0 h
theorem rwd_gX12_latest_6 {M0 : jm_M} (fu : Nat) (k6 : jm_M → Int → Int → Int → Int → Int → jm_R) (hk6 : ∀ (M : jm_M) (b0 b1 b2 b3 b4 : Int), Kp RWB M0 M → pw (k6 M b0 b1 b2 b3 b4) (Kp RWB M0)) {M : jm_M} (l1 l2 l3 l4 l5 : Int) (h : Kp RWB M0 M) : pw (gX12_latest_6 fu k6 M l1 l2 l3 l4 l5) (Kp RWB M0) := by
  unfold gX12_latest_6
  exact pw_ite (pw_ret h) (pw_ite (pw_e (fun v5 => pw_ite (pw_e (fun v8 => hk6 M l1 l2 l3 l4 v8 h)) (pw_ite (pw_e (fun v11 => hk6 M l1 l2 l3 l4 v11 h)) (pw_ite (pw_e (fun v14 => hk6 M l1 l2 l3 l4 v14 h)) (pw_ite (pw_e (fun v17 => hk6 M l1 l2 l3 l5 v17 h)) (pw_ite (pw_ite (pw_e (fun v22 => hk6 M l1 l2 l3 l4 v22 h)) (pw_e (fun v24 => hk6 M l1 l2 l3 l5 v24 h))) (pw_none))))))) (pw_none))
theorem rwd_fX12_latest_6 {M0 : jm_M} (fu : Nat) : ∀ (n : Nat) {M : jm_M} (a0 a1 a2 a3 a4 : Int), Kp RWB M0 M → pw (fX12_latest_6 fu n M a0 a1 a2 a3 a4) (Kp RWB M0) := by
  intro n
  induction n with
  | zero => intro M a0 a1 a2 a3 a4 h; exact pw_none
  | succ n ih =>
    intro M a0 a1 a2 a3 a4 h
    exact rwd_gX12_latest_6 fu (fX12_latest_6 fu n) (fun M a0 a1 a2 a3 a4 h => ih a0 a1 a2 a3 a4 h) a0 a1 a2 a3 a4 h
theorem rwd_fX12_latest {M0 : jm_M} (fu : Nat) {M : jm_M} (l1 l2 l3 : Int) (h : Kp RWB M0 M) : pw (fX12_latest fu M l1 l2 l3) (Kp RWB M0) := by
  unfold fX12_latest
  exact rwd_fX12_latest_6 fu fu l1 l2 l3 (-1) 0 h
theorem rwd_gX12_held_134 {M0 : jm_M} (fu : Nat) {M : jm_M} (l1 l9 : Int) (h : Kp RWB M0 M) : pw (gX12_held_134 fu M l1 l9) (Kp RWB M0) := by
  unfold gX12_held_134
  exact pw_ite (pw_ite (pw_s (P := Kp RWB M0) (rwb_f h (by decide) (by decide)) (fun M4 h4 => pw_ite (pw_ret h4) (pw_none))) (pw_none)) (pw_none)
theorem rwd_gX12_held_181 {M0 : jm_M} (fu : Nat) (k37 : jm_M → Int → Int → Int → Int → Int → jm_R) (hk37 : ∀ (M : jm_M) (b0 b1 b2 b3 b4 : Int), Kp RWB M0 M → pw (k37 M b0 b1 b2 b3 b4) (Kp RWB M0)) {M : jm_M} (l1 l2 l6 l7 l8 s0 s1 s2 : Int) (h : Kp RWB M0 M) : pw (gX12_held_181 fu k37 M l1 l2 l6 l7 l8 s0 s1 s2) (Kp RWB M0) := by
  unfold gX12_held_181
  exact pw_ite (pw_s (P := Kp RWB M0) (rwb_f h (by decide) (by decide)) (fun M2 h2 => pw_ite (pw_b (rwd_fX12_latest fu l1 l2 (M2 56 0 (jm_w ((jm_w (5 * l8)) + l2))) h2) (fun v5 M6 h6 => hk37 M6 l1 l2 l6 l7 v5 h6)) (pw_none))) (pw_none)
theorem rwd_gX12_held_154 {M0 : jm_M} (fu : Nat) (k37 : jm_M → Int → Int → Int → Int → Int → jm_R) (hk37 : ∀ (M : jm_M) (b0 b1 b2 b3 b4 : Int), Kp RWB M0 M → pw (k37 M b0 b1 b2 b3 b4) (Kp RWB M0)) {M : jm_M} (l1 l2 l6 l7 l8 : Int) (h : Kp RWB M0 M) : pw (gX12_held_154 fu k37 M l1 l2 l6 l7 l8) (Kp RWB M0) := by
  unfold gX12_held_154
  exact pw_ite (pw_ite (pw_s (P := Kp RWB M0) (rwb_f h (by decide) (by decide)) (fun M4 h4 => pw_ite (pw_ite (rwd_gX12_held_181 fu k37 hk37 l1 l2 l6 l7 l8 0 (M4 51 0 l1) l1 h4) (rwd_gX12_held_181 fu k37 hk37 l1 l2 l6 l7 l8 1 (M4 51 0 l1) l1 h4)) (pw_none))) (pw_none)) (pw_none)
theorem rwd_gX12_held_103 {M0 : jm_M} (fu : Nat) (k37 : jm_M → Int → Int → Int → Int → Int → jm_R) (hk37 : ∀ (M : jm_M) (b0 b1 b2 b3 b4 : Int), Kp RWB M0 M → pw (k37 M b0 b1 b2 b3 b4) (Kp RWB M0)) {M : jm_M} (l1 l2 l6 l7 l8 l9 s0 : Int) (h : Kp RWB M0 M) : pw (gX12_held_103 fu k37 M l1 l2 l6 l7 l8 l9 s0) (Kp RWB M0) := by
  unfold gX12_held_103
  exact pw_ite (rwd_gX12_held_134 fu l1 l9 h) (pw_ite (rwd_gX12_held_134 fu l1 l9 h) (pw_ite (rwd_gX12_held_154 fu k37 hk37 l1 l2 l6 l7 l8 h) (pw_ite (pw_ite (rwd_gX12_held_134 fu l1 l9 h) (rwd_gX12_held_154 fu k37 hk37 l1 l2 l6 l7 l8 h)) (pw_none))))
theorem rwd_gX12_held_37 {M0 : jm_M} (fu : Nat) (k37 : jm_M → Int → Int → Int → Int → Int → jm_R) (hk37 : ∀ (M : jm_M) (b0 b1 b2 b3 b4 : Int), Kp RWB M0 M → pw (k37 M b0 b1 b2 b3 b4) (Kp RWB M0)) {M : jm_M} (l1 l2 l6 l7 l8 : Int) (h : Kp RWB M0 M) : pw (gX12_held_37 fu k37 M l1 l2 l6 l7 l8) (Kp RWB M0) := by
  unfold gX12_held_37
  exact pw_ite (pw_ret h) (pw_ite (pw_e (fun v4 => pw_ite (pw_ite (pw_ite (pw_ite (pw_ite (pw_ite (rwd_gX12_held_103 fu k37 hk37 l1 l2 l6 l7 l8 v4 (M 2 0 l2) h) (pw_none)) (rwd_gX12_held_103 fu k37 hk37 l1 l2 l6 l7 l8 v4 0 h)) (pw_none)) (pw_none)) (pw_ret h)) (pw_none))) (pw_none))
theorem rwd_fX12_held_37 {M0 : jm_M} (fu : Nat) : ∀ (n : Nat) {M : jm_M} (a0 a1 a2 a3 a4 : Int), Kp RWB M0 M → pw (fX12_held_37 fu n M a0 a1 a2 a3 a4) (Kp RWB M0) := by
  intro n
  induction n with
  | zero => intro M a0 a1 a2 a3 a4 h; exact pw_none
  | succ n ih =>
    intro M a0 a1 a2 a3 a4 h
    exact rwd_gX12_held_37 fu (fX12_held_37 fu n) (fun M a0 a1 a2 a3 a4 h => ih a0 a1 a2 a3 a4 h) a0 a1 a2 a3 a4 h
theorem rwd_gX12_held_23 {M0 : jm_M} (fu : Nat) {M : jm_M} (l1 l2 l6 s0 : Int) (h : Kp RWB M0 M) : pw (gX12_held_23 fu M l1 l2 l6 s0) (Kp RWB M0) := by
  unfold gX12_held_23
  exact pw_b (rwd_fX12_latest fu l1 l2 (M 0 0 70) h) (fun v2 M3 h3 => rwd_fX12_held_37 fu fu l1 l2 l6 s0 v2 h3)
theorem rwd_fX12_held {M0 : jm_M} (fu : Nat) {M : jm_M} (l1 l2 l3 l4 l5 : Int) (h : Kp RWB M0 M) : pw (fX12_held fu M l1 l2 l3 l4 l5) (Kp RWB M0) := by
  unfold fX12_held
  exact pw_ite (pw_b (rwd_fX12_isYellow fu l2 l3 h) (fun v2 M3 h3 => pw_ite (rwd_gX12_held_23 fu l1 l2 l4 0 h3) (rwd_gX12_held_23 fu l1 l2 l4 1 h3))) (rwd_gX12_held_23 fu l1 l2 l4 1 h)
theorem rwd_gX12_endsLap_19 {M0 : jm_M} (fu : Nat) {M : jm_M} (l1 l3 : Int) (h : Kp RWB M0 M) : pw (gX12_endsLap_19 fu M l1 l3) (Kp RWB M0) := by
  unfold gX12_endsLap_19
  exact pw_ite (pw_s (P := Kp RWB M0) (rwb_f h (by decide) (by decide)) (fun M2 h2 => pw_ite (pw_s (P := Kp RWB M0) (rwb_f h2 (by decide) (by decide)) (fun M4 h4 => pw_ret h4)) (pw_none))) (pw_none)
theorem rwd_gX12_isOver_5 {M0 : jm_M} (fu : Nat) (k5 : jm_M → Int → Int → Int → Int → jm_R) (hk5 : ∀ (M : jm_M) (b0 b1 b2 b3 : Int), Kp RWB M0 M → pw (k5 M b0 b1 b2 b3) (Kp RWB M0)) {M : jm_M} (l1 l2 l3 l4 : Int) (h : Kp RWB M0 M) : pw (gX12_isOver_5 fu k5 M l1 l2 l3 l4) (Kp RWB M0) := by
  unfold gX12_isOver_5
  exact pw_ite (pw_ite (pw_ret h) (pw_none)) (pw_ite (pw_e (fun v7 => pw_ite (pw_ite (pw_e (fun v11 => hk5 M l1 l2 0 v11 h)) (pw_ite (pw_e (fun v14 => hk5 M l1 l2 0 v14 h)) (pw_ite (pw_e (fun v17 => hk5 M l1 l2 0 v17 h)) (pw_e (fun v19 => hk5 M l1 l2 1 v19 h))))) (pw_e (fun v21 => hk5 M l1 l2 1 v21 h)))) (pw_none))
theorem rwd_fX12_isOver_5 {M0 : jm_M} (fu : Nat) : ∀ (n : Nat) {M : jm_M} (a0 a1 a2 a3 : Int), Kp RWB M0 M → pw (fX12_isOver_5 fu n M a0 a1 a2 a3) (Kp RWB M0) := by
  intro n
  induction n with
  | zero => intro M a0 a1 a2 a3 h; exact pw_none
  | succ n ih =>
    intro M a0 a1 a2 a3 h
    exact rwd_gX12_isOver_5 fu (fX12_isOver_5 fu n) (fun M a0 a1 a2 a3 h => ih a0 a1 a2 a3 h) a0 a1 a2 a3 h
theorem rwd_fX12_isOver {M0 : jm_M} (fu : Nat) {M : jm_M} (l1 l2 : Int) (h : Kp RWB M0 M) : pw (fX12_isOver fu M l1 l2) (Kp RWB M0) := by
  unfold fX12_isOver
  exact rwd_fX12_isOver_5 fu fu l1 l2 0 0 h
theorem rwd_gX12_boxes_132 {M0 : jm_M} (fu : Nat) {M : jm_M} (l1 l7 l8 s0 s1 : Int) (h : Kp RWB M0 M) : pw (gX12_boxes_132 fu M l1 l7 l8 s0 s1) (Kp RWB M0) := by
  unfold gX12_boxes_132
  exact pw_ite (pw_s (P := Kp RWB M0) (rwb_f h (by decide) (by decide)) (fun M2 h2 => pw_ite (pw_ite (pw_s (P := Kp RWB M0) (rwb_f h2 (by decide) (by decide)) (fun M6 h6 => pw_ite (pw_ite (pw_s (P := Kp RWB M0) (rwb_f h6 (by decide) (by decide)) (fun M10 h10 => pw_ite (pw_s (P := Kp RWB M0) (rwb_f h10 (by decide) (by decide)) (fun M12 h12 => pw_ite (pw_ite (pw_s (P := Kp RWB M0) (rwb_f h12 (by decide) (by decide)) (fun M16 h16 => pw_ret h16)) (pw_none)) (pw_none))) (pw_none))) (pw_none)) (pw_none))) (pw_none)) (pw_none))) (pw_none)
theorem rwd_gX12_boxes_99 {M0 : jm_M} (fu : Nat) {M : jm_M} (l1 l2 l6 l7 s0 s1 : Int) (h : Kp RWB M0 M) : pw (gX12_boxes_99 fu M l1 l2 l6 l7 s0 s1) (Kp RWB M0) := by
  unfold gX12_boxes_99
  exact pw_ite (pw_e (fun v3 => pw_ite (pw_ite (rwd_gX12_boxes_132 fu l1 l7 v3 (M 45 0 l1) l1 h) (pw_none)) (rwd_gX12_boxes_132 fu l1 l7 v3 l2 l1 h))) (pw_none)
theorem rwd_gX12_boxes_61 {M0 : jm_M} (fu : Nat) {M : jm_M} (l1 l2 l3 l5 s0 : Int) (h : Kp RWB M0 M) : pw (gX12_boxes_61 fu M l1 l2 l3 l5 s0) (Kp RWB M0) := by
  unfold gX12_boxes_61
  exact pw_ite (pw_ite (pw_e (fun v5 => pw_ite (rwd_gX12_boxes_99 fu l1 l2 s0 v5 0 l5 h) (pw_ite (rwd_gX12_boxes_99 fu l1 l2 s0 v5 (M 5 0 4) l5 h) (pw_none)))) (pw_none)) (pw_none)
theorem rwd_fX12_boxes {M0 : jm_M} (fu : Nat) {M : jm_M} (l1 l2 l3 l4 : Int) (h : Kp RWB M0 M) : pw (fX12_boxes fu M l1 l2 l3 l4) (Kp RWB M0) := by
  unfold fX12_boxes
  exact pw_ite (pw_ite (pw_e (fun v5 => pw_ite (pw_ite (pw_s (P := Kp RWB M0) (rwb_f h (by decide) (by decide)) (fun M10 h10 => pw_ite (rwd_gX12_boxes_61 fu l1 l2 l3 v5 0 h10) (pw_ite (pw_ite (rwd_gX12_boxes_61 fu l1 l2 l3 v5 0 h10) (pw_ite (pw_ite (rwd_gX12_boxes_61 fu l1 l2 l3 v5 0 h10) (rwd_gX12_boxes_61 fu l1 l2 l3 v5 1 h10)) (pw_none))) (pw_none)))) (pw_none)) (pw_none))) (pw_none)) (pw_none)
theorem rwd_gX12_endsLap_92 {M0 : jm_M} (fu : Nat) (k92 : jm_M → Int → Int → Int → Int → Int → Int → jm_R) (hk92 : ∀ (M : jm_M) (b0 b1 b2 b3 b4 b5 : Int), Kp RWB M0 M → pw (k92 M b0 b1 b2 b3 b4 b5) (Kp RWB M0)) {M : jm_M} (l1 l2 l3 l4 l5 l6 : Int) (h : Kp RWB M0 M) : pw (gX12_endsLap_92 fu k92 M l1 l2 l3 l4 l5 l6) (Kp RWB M0) := by
  unfold gX12_endsLap_92
  exact pw_ite (pw_ite (pw_ite (pw_ret h) (pw_ite (pw_b (rwd_fX12_boxes fu l1 l4 l5 (jm_w (l3 + (M 5 0 3))) h) (fun v7 M8 h8 => pw_ret h8)) (pw_none))) (pw_ite (pw_ite (pw_ite (pw_e (fun v14 => pw_ite (pw_e (fun v18 => pw_e (fun v20 => hk92 M l1 l2 l3 v14 v18 v20 h))) (pw_none))) (pw_none)) (pw_e (fun v22 => hk92 M l1 l2 l3 l4 l5 v22 h))) (pw_none))) (pw_none)
theorem rwd_fX12_endsLap_92 {M0 : jm_M} (fu : Nat) : ∀ (n : Nat) {M : jm_M} (a0 a1 a2 a3 a4 a5 : Int), Kp RWB M0 M → pw (fX12_endsLap_92 fu n M a0 a1 a2 a3 a4 a5) (Kp RWB M0) := by
  intro n
  induction n with
  | zero => intro M a0 a1 a2 a3 a4 a5 h; exact pw_none
  | succ n ih =>
    intro M a0 a1 a2 a3 a4 a5 h
    exact rwd_gX12_endsLap_92 fu (fX12_endsLap_92 fu n) (fun M a0 a1 a2 a3 a4 a5 h => ih a0 a1 a2 a3 a4 a5 h) a0 a1 a2 a3 a4 a5 h
theorem rwd_fX12_truth {M0 : jm_M} {M : jm_M} (l0 : Int) (h : Kp RWB M0 M) : pw (fX12_truth M l0) (Kp RWB M0) := by
  unfold fX12_truth
  exact pw_ite (pw_ret h) (pw_ret h)
theorem rwd_gX12_speaks_146 {M0 : jm_M} (fu : Nat) {M : jm_M} (l1 l3 l4 l7 s0 s1 : Int) (h : Kp RWB M0 M) : pw (gX12_speaks_146 fu M l1 l3 l4 l7 s0 s1) (Kp RWB M0) := by
  unfold gX12_speaks_146
  exact pw_ite (pw_s (P := Kp RWB M0) (rwb_f h (by decide) (by decide)) (fun M2 h2 => pw_ite (pw_ite (pw_s (P := Kp RWB M0) (rwb_f h2 (by decide) (by decide)) (fun M6 h6 => pw_ite (pw_ite (pw_s (P := Kp RWB M0) (rwb_f h6 (by decide) (by decide)) (fun M12 h12 => pw_ite (pw_ite (pw_s (P := Kp RWB M0) (rwb_f h12 (by decide) (by decide)) (fun M16 h16 => pw_ite (pw_ite (pw_s (P := Kp RWB M0) (rwb_f h16 (by decide) (by decide)) (fun M20 h20 => pw_b (rwd_fX12_wet fu 0 l3 h20) (fun v21 M22 h22 => pw_ite (pw_s (P := Kp RWB M0) (rwb_f h22 (by decide) (by decide)) (fun M25 h25 => pw_b (rwd_fX12_isSlow fu l3 h25) (fun v26 M27 h27 => pw_b (rwd_fX12_truth  v26 h27) (fun v29 M30 h30 => pw_ite (pw_s (P := Kp RWB M0) (rwb_f h30 (by decide) (by decide)) (fun M33 h33 => pw_b (rwd_fX12_isYellow fu (-1) l3 h33) (fun v34 M35 h35 => pw_b (rwd_fX12_truth  v34 h35) (fun v37 M38 h38 => pw_ite (pw_s (P := Kp RWB M0) (rwb_f h38 (by decide) (by decide)) (fun M41 h41 => pw_ite (pw_ite (pw_s (P := Kp RWB M0) (rwb_f h41 (by decide) (by decide)) (fun M45 h45 => pw_ite (pw_ite (pw_ite (pw_ite (pw_b (rwd_fX12_truth  0 h45) (fun v53 M54 h54 => pw_ite (pw_s (P := Kp RWB M0) (rwb_f h54 (by decide) (by decide)) (fun M57 h57 => pw_ret h57)) (pw_none))) (pw_b (rwd_fX12_truth  1 h45) (fun v58 M59 h59 => pw_ite (pw_s (P := Kp RWB M0) (rwb_f h59 (by decide) (by decide)) (fun M62 h62 => pw_ret h62)) (pw_none)))) (pw_none)) (pw_none)) (pw_none))) (pw_none)) (pw_none))) (pw_none))))) (pw_none))))) (pw_none)))) (pw_none)) (pw_none))) (pw_none)) (pw_none))) (pw_none)) (pw_none))) (pw_none)) (pw_none))) (pw_none)
theorem rwd_gX12_speaks_21 {M0 : jm_M} (fu : Nat) (k21 : jm_M → Int → Int → Int → Int → Int → Int → Int → jm_R) (hk21 : ∀ (M : jm_M) (b0 b1 b2 b3 b4 b5 b6 : Int), Kp RWB M0 M → pw (k21 M b0 b1 b2 b3 b4 b5 b6) (Kp RWB M0)) {M : jm_M} (l1 l2 l3 l4 l5 l6 l7 : Int) (h : Kp RWB M0 M) : pw (gX12_speaks_21 fu k21 M l1 l2 l3 l4 l5 l6 l7) (Kp RWB M0) := by
  unfold gX12_speaks_21
  exact pw_ite (pw_ite (pw_e (fun v5 => pw_ite (pw_s (P := Kp RWB M0) (rwb_f h (by decide) (by decide)) (fun M8 h8 => pw_ite (pw_s (P := Kp RWB M0) (rwb_f h8 (by decide) (by decide)) (fun M11 h11 => pw_ite (pw_s (P := Kp RWB M0) (rwb_f h11 (by decide) (by decide)) (fun M13 h13 => pw_ite (rwd_gX12_speaks_146 fu l1 l3 l4 v5 (jm_div (jm_w (l3 - l6)) 100) 3 h13) (rwd_gX12_speaks_146 fu l1 l3 l4 v5 999 3 h13))) (pw_none))) (pw_none))) (pw_none))) (pw_none)) (pw_ite (pw_e (fun v17 => pw_ite (pw_e (fun v20 => hk21 M l1 l2 l3 l4 l5 l6 v20 h)) (pw_ite (pw_e (fun v23 => hk21 M l1 l2 l3 l4 l5 l6 v23 h)) (pw_ite (pw_e (fun v26 => hk21 M l1 l2 l3 l4 l5 l6 v26 h)) (pw_e (fun v28 => pw_e (fun v30 => pw_e (fun v32 => hk21 M l1 l2 l3 l4 v28 v30 v32 h)))))))) (pw_none))
theorem rwd_fX12_speaks_21 {M0 : jm_M} (fu : Nat) : ∀ (n : Nat) {M : jm_M} (a0 a1 a2 a3 a4 a5 a6 : Int), Kp RWB M0 M → pw (fX12_speaks_21 fu n M a0 a1 a2 a3 a4 a5 a6) (Kp RWB M0) := by
  intro n
  induction n with
  | zero => intro M a0 a1 a2 a3 a4 a5 a6 h; exact pw_none
  | succ n ih =>
    intro M a0 a1 a2 a3 a4 a5 a6 h
    exact rwd_gX12_speaks_21 fu (fX12_speaks_21 fu n) (fun M a0 a1 a2 a3 a4 a5 a6 h => ih a0 a1 a2 a3 a4 a5 a6 h) a0 a1 a2 a3 a4 a5 a6 h
theorem rwd_fX12_speaks {M0 : jm_M} (fu : Nat) {M : jm_M} (l1 l2 l3 : Int) (h : Kp RWB M0 M) : pw (fX12_speaks fu M l1 l2 l3) (Kp RWB M0) := by
  unfold fX12_speaks
  exact pw_e (fun v2 => rwd_fX12_speaks_21 fu fu l1 l2 l3 v2 1 (-1) 0 h)
theorem rwd_fX12_act {M0 : jm_M} {M : jm_M} (l0 : Int) (h : Kp RWB M0 M) : pw (fX12_act M l0) (Kp RWB M0) := by
  unfold fX12_act
  exact pw_ret h
theorem rwd_fX12_acted {M0 : jm_M} {M : jm_M} (l0 l1 l2 : Int) (h : Kp RWB M0 M) : pw (fX12_acted M l0 l1 l2) (Kp RWB M0) := by
  unfold fX12_acted
  exact pw_ite (pw_ite (pw_b (rwd_fX12_truth  0 h) (fun v3 M4 h4 => pw_ret h4)) (pw_ite (pw_b (rwd_fX12_truth  0 h) (fun v7 M8 h8 => pw_ret h8)) (pw_b (rwd_fX12_truth  1 h) (fun v10 M11 h11 => pw_ret h11)))) (pw_ite (pw_ret h) (pw_ite (pw_ret h) (pw_ite (pw_ret h) (pw_ite (pw_ite (pw_b (rwd_fX12_truth  0 h) (fun v18 M19 h19 => pw_ret h19)) (pw_b (rwd_fX12_truth  1 h) (fun v21 M22 h22 => pw_ret h22))) (pw_ite (pw_ite (pw_b (rwd_fX12_truth  1 h) (fun v26 M27 h27 => pw_ret h27)) (pw_b (rwd_fX12_truth  0 h) (fun v29 M30 h30 => pw_ret h30))) (pw_ite (pw_ite (pw_b (rwd_fX12_truth  0 h) (fun v34 M35 h35 => pw_ret h35)) (pw_b (rwd_fX12_truth  1 h) (fun v37 M38 h38 => pw_ret h38))) (pw_ite (pw_ite (pw_b (rwd_fX12_truth  0 h) (fun v43 M44 h44 => pw_ret h44)) (pw_b (rwd_fX12_truth  1 h) (fun v46 M47 h47 => pw_ret h47))) (pw_b (rwd_fX12_truth  1 h) (fun v49 M50 h50 => pw_ret h50)))))))))
theorem rwd_gX12_gives_5 {M0 : jm_M} (fu : Nat) (k5 : jm_M → Int → Int → Int → jm_R) (hk5 : ∀ (M : jm_M) (b0 b1 b2 : Int), Kp RWB M0 M → pw (k5 M b0 b1 b2) (Kp RWB M0)) {M : jm_M} (l2 l3 l4 : Int) (h : Kp RWB M0 M) : pw (gX12_gives_5 fu k5 M l2 l3 l4) (Kp RWB M0) := by
  unfold gX12_gives_5
  exact pw_ite (pw_s (P := Kp RWB M0) (rwb_k h (by decide)) (fun M2 h2 => pw_ite (pw_ret h2) (pw_none))) (pw_ite (pw_ite (pw_s (P := Kp RWB M0) (rwb_k h (by decide)) (fun M8 h8 => pw_ite (pw_ret h8) (pw_none))) (pw_ite (pw_e (fun v13 => pw_ite (pw_ite (pw_b (rwd_fX12_act  33 h) (fun v17 M18 h18 => pw_ite (pw_ite (pw_ite (pw_b (rwd_fX12_truth  1 h18) (fun v24 M25 h25 => pw_ite (pw_s (P := Kp RWB M0) (rwb_f h25 (by decide) (by decide)) (fun M28 h28 => pw_e (fun v29 => hk5 M28 l2 l3 v29 h28))) (pw_none))) (pw_b (rwd_fX12_truth  0 h18) (fun v31 M32 h32 => pw_ite (pw_s (P := Kp RWB M0) (rwb_f h32 (by decide) (by decide)) (fun M35 h35 => pw_e (fun v36 => hk5 M35 l2 l3 v36 h35))) (pw_none)))) (pw_none)) (pw_b (rwd_fX12_act  126 h18) (fun v38 M39 h39 => pw_ite (pw_ite (pw_ite (pw_s (P := Kp RWB M0) (rwb_f h39 (by decide) (by decide)) (fun M45 h45 => pw_e (fun v46 => hk5 M45 l2 l3 v46 h45))) (pw_none)) (pw_none)) (pw_e (fun v48 => pw_ite (pw_ite (pw_b (rwd_fX12_acted  (jm_w (v13 + 200)) (M39 37 0 (jm_w (v48 - 1))) (M39 37 0 v48) h39) (fun v54 M55 h55 => pw_ite (pw_s (P := Kp RWB M0) (rwb_f h55 (by decide) (by decide)) (fun M58 h58 => pw_e (fun v59 => hk5 M58 l2 v48 v59 h58))) (pw_none))) (pw_none)) (pw_none))))))) (pw_ite (pw_ite (pw_s (P := Kp RWB M0) (rwb_f h (by decide) (by decide)) (fun M64 h64 => pw_e (fun v65 => pw_e (fun v67 => hk5 M64 l2 v65 v67 h64)))) (pw_none)) (pw_none))) (pw_ite (pw_s (P := Kp RWB M0) (rwb_f h (by decide) (by decide)) (fun M70 h70 => pw_e (fun v71 => pw_e (fun v73 => hk5 M70 l2 v71 v73 h70)))) (pw_none)))) (pw_none))) (pw_none))
theorem rwd_fX12_gives_5 {M0 : jm_M} (fu : Nat) : ∀ (n : Nat) {M : jm_M} (a0 a1 a2 : Int), Kp RWB M0 M → pw (fX12_gives_5 fu n M a0 a1 a2) (Kp RWB M0) := by
  intro n
  induction n with
  | zero => intro M a0 a1 a2 h; exact pw_none
  | succ n ih =>
    intro M a0 a1 a2 h
    exact rwd_gX12_gives_5 fu (fX12_gives_5 fu n) (fun M a0 a1 a2 h => ih a0 a1 a2 h) a0 a1 a2 h
theorem rwd_fX12_gives {M0 : jm_M} (fu : Nat) {M : jm_M} (l1 l2 : Int) (h : Kp RWB M0 M) : pw (fX12_gives fu M l1 l2) (Kp RWB M0) := by
  unfold fX12_gives
  exact rwd_fX12_gives_5 fu fu l2 0 l1 h
theorem rwd_gX12_asks_156 {M0 : jm_M} (fu : Nat) (k27 : jm_M → Int → Int → Int → Int → Int → jm_R) (hk27 : ∀ (M : jm_M) (b0 b1 b2 b3 b4 : Int), Kp RWB M0 M → pw (k27 M b0 b1 b2 b3 b4) (Kp RWB M0)) (k64 : jm_M → Int → Int → Int → Int → Int → Int → Int → jm_R) (hk64 : ∀ (M : jm_M) (b0 b1 b2 b3 b4 b5 b6 : Int), Kp RWB M0 M → pw (k64 M b0 b1 b2 b3 b4 b5 b6) (Kp RWB M0)) {M : jm_M} (l1 l2 l4 l5 l6 l7 l8 l9 s0 s1 : Int) (h : Kp RWB M0 M) : pw (gX12_asks_156 fu k27 k64 M l1 l2 l4 l5 l6 l7 l8 l9 s0 s1) (Kp RWB M0) := by
  unfold gX12_asks_156
  exact pw_ite (pw_s (P := Kp RWB M0) (rwb_f h (by decide) (by decide)) (fun M2 h2 => pw_ite (pw_ite (pw_s (P := Kp RWB M0) (rwb_f h2 (by decide) (by decide)) (fun M5 h5 => pw_e (fun v6 => hk64 M5 l1 l2 v6 l5 l6 l7 l8 h5))) (pw_none)) (pw_ite (pw_ite (pw_s (P := Kp RWB M0) (rwb_f h2 (by decide) (by decide)) (fun M10 h10 => pw_e (fun v11 => hk64 M10 l1 l2 v11 l5 l6 l7 l8 h10))) (pw_none)) (pw_ite (pw_ite (pw_s (P := Kp RWB M0) (rwb_f h2 (by decide) (by decide)) (fun M16 h16 => pw_e (fun v17 => hk64 M16 l1 l2 v17 l5 l6 l7 l8 h16))) (pw_none)) (pw_none))))) (pw_none)
theorem rwd_gX12_asks_110 {M0 : jm_M} (fu : Nat) (k27 : jm_M → Int → Int → Int → Int → Int → jm_R) (hk27 : ∀ (M : jm_M) (b0 b1 b2 b3 b4 : Int), Kp RWB M0 M → pw (k27 M b0 b1 b2 b3 b4) (Kp RWB M0)) (k64 : jm_M → Int → Int → Int → Int → Int → Int → Int → jm_R) (hk64 : ∀ (M : jm_M) (b0 b1 b2 b3 b4 b5 b6 : Int), Kp RWB M0 M → pw (k64 M b0 b1 b2 b3 b4 b5 b6) (Kp RWB M0)) {M : jm_M} (l1 l2 l4 l5 l6 l7 l9 s0 : Int) (h : Kp RWB M0 M) : pw (gX12_asks_110 fu k27 k64 M l1 l2 l4 l5 l6 l7 l9 s0) (Kp RWB M0) := by
  unfold gX12_asks_110
  exact pw_ite (rwd_gX12_asks_156 fu k27 hk27 k64 hk64 l1 l2 l4 l5 l6 l7 s0 l9 1 l1 h) (pw_ite (rwd_gX12_asks_156 fu k27 hk27 k64 hk64 l1 l2 l4 l5 l6 l7 s0 l9 0 l1 h) (pw_ite (rwd_gX12_asks_156 fu k27 hk27 k64 hk64 l1 l2 l4 l5 l6 l7 s0 l9 (-1) l1 h) (pw_ite (rwd_gX12_asks_156 fu k27 hk27 k64 hk64 l1 l2 l4 l5 l6 l7 s0 l9 (M 47 0 l1) l1 h) (pw_none))))
theorem rwd_gX12_asks_64 {M0 : jm_M} (fu : Nat) (k27 : jm_M → Int → Int → Int → Int → Int → jm_R) (hk27 : ∀ (M : jm_M) (b0 b1 b2 b3 b4 : Int), Kp RWB M0 M → pw (k27 M b0 b1 b2 b3 b4) (Kp RWB M0)) (k64 : jm_M → Int → Int → Int → Int → Int → Int → Int → jm_R) (hk64 : ∀ (M : jm_M) (b0 b1 b2 b3 b4 b5 b6 : Int), Kp RWB M0 M → pw (k64 M b0 b1 b2 b3 b4 b5 b6) (Kp RWB M0)) {M : jm_M} (l1 l2 l4 l5 l6 l7 l8 : Int) (h : Kp RWB M0 M) : pw (gX12_asks_64 fu k27 k64 M l1 l2 l4 l5 l6 l7 l8) (Kp RWB M0) := by
  unfold gX12_asks_64
  exact pw_ite (pw_ite (pw_e (fun v4 => pw_ite (pw_e (fun v7 => hk27 M l1 l2 v4 l5 v7 h)) (pw_ite (pw_s (P := Kp RWB M0) (rwb_f h (by decide) (by decide)) (fun M10 h10 => pw_ret h10)) (pw_none)))) (pw_ite (pw_e (fun v12 => hk64 M l1 l2 v12 l5 l6 l7 l8 h)) (pw_ite (pw_e (fun v16 => pw_ite (rwd_gX12_asks_110 fu k27 hk27 k64 hk64 l1 l2 l4 l5 l6 l7 v16 l8 h) (rwd_gX12_asks_110 fu k27 hk27 k64 hk64 l1 l2 l4 l5 l6 l7 v16 (jm_w (v16 - 1000)) h))) (pw_none)))) (pw_none)
theorem rwd_fX12_asks_64 {M0 : jm_M} (fu : Nat) (k27 : jm_M → Int → Int → Int → Int → Int → jm_R) (hk27 : ∀ (M : jm_M) (b0 b1 b2 b3 b4 : Int), Kp RWB M0 M → pw (k27 M b0 b1 b2 b3 b4) (Kp RWB M0)) : ∀ (n : Nat) {M : jm_M} (a0 a1 a2 a3 a4 a5 a6 : Int), Kp RWB M0 M → pw (fX12_asks_64 fu k27 n M a0 a1 a2 a3 a4 a5 a6) (Kp RWB M0) := by
  intro n
  induction n with
  | zero => intro M a0 a1 a2 a3 a4 a5 a6 h; exact pw_none
  | succ n ih =>
    intro M a0 a1 a2 a3 a4 a5 a6 h
    exact rwd_gX12_asks_64 fu k27 hk27 (fX12_asks_64 fu k27 n) (fun M a0 a1 a2 a3 a4 a5 a6 h => ih a0 a1 a2 a3 a4 a5 a6 h) a0 a1 a2 a3 a4 a5 a6 h
theorem rwd_gX12_asks_50 {M0 : jm_M} (fu : Nat) (k27 : jm_M → Int → Int → Int → Int → Int → jm_R) (hk27 : ∀ (M : jm_M) (b0 b1 b2 b3 b4 : Int), Kp RWB M0 M → pw (k27 M b0 b1 b2 b3 b4) (Kp RWB M0)) {M : jm_M} (l1 l2 l5 l6 s0 : Int) (h : Kp RWB M0 M) : pw (gX12_asks_50 fu k27 M l1 l2 l5 l6 s0) (Kp RWB M0) := by
  unfold gX12_asks_50
  exact pw_e (fun v2 => rwd_fX12_asks_64 fu k27 hk27 fu l1 l2 v2 l5 l6 s0 (-2) h)
theorem rwd_gX12_asks_27 {M0 : jm_M} (fu : Nat) (k27 : jm_M → Int → Int → Int → Int → Int → jm_R) (hk27 : ∀ (M : jm_M) (b0 b1 b2 b3 b4 : Int), Kp RWB M0 M → pw (k27 M b0 b1 b2 b3 b4) (Kp RWB M0)) {M : jm_M} (l1 l2 l4 l5 l6 : Int) (h : Kp RWB M0 M) : pw (gX12_asks_27 fu k27 M l1 l2 l4 l5 l6) (Kp RWB M0) := by
  unfold gX12_asks_27
  exact pw_ite (pw_ret h) (pw_b (rwd_fX12_gives fu l4 l5 h) (fun v2 M3 h3 => pw_ite (rwd_gX12_asks_50 fu k27 hk27 l1 l2 l5 l6 0 h3) (rwd_gX12_asks_50 fu k27 hk27 l1 l2 l5 l6 1 h3)))
theorem rwd_fX12_asks_27 {M0 : jm_M} (fu : Nat) : ∀ (n : Nat) {M : jm_M} (a0 a1 a2 a3 a4 : Int), Kp RWB M0 M → pw (fX12_asks_27 fu n M a0 a1 a2 a3 a4) (Kp RWB M0) := by
  intro n
  induction n with
  | zero => intro M a0 a1 a2 a3 a4 h; exact pw_none
  | succ n ih =>
    intro M a0 a1 a2 a3 a4 h
    exact rwd_gX12_asks_27 fu (fX12_asks_27 fu n) (fun M a0 a1 a2 a3 a4 h => ih a0 a1 a2 a3 a4 h) a0 a1 a2 a3 a4 h
theorem rwd_fX12_asks {M0 : jm_M} (fu : Nat) {M : jm_M} (l1 l2 l3 : Int) (h : Kp RWB M0 M) : pw (fX12_asks fu M l1 l2 l3) (Kp RWB M0) := by
  unfold fX12_asks
  exact pw_b (rwd_fX12_speaks fu l1 l2 l3 h) (fun v1 M2 h2 => pw_e (fun v3 => pw_ite (pw_e (fun v7 => rwd_fX12_asks_27 fu fu l1 l2 v3 v7 0 h2)) (pw_none)))
theorem rwd_fX12_endsLap {M0 : jm_M} (fu : Nat) {M : jm_M} (l1 l2 l3 : Int) (h : Kp RWB M0 M) : pw (fX12_endsLap fu M l1 l2 l3) (Kp RWB M0) := by
  unfold fX12_endsLap
  exact pw_ite (rwd_gX12_endsLap_19 fu l1 l3 h) (pw_b (rwd_fX12_isOver fu l1 l3 h) (fun v3 M4 h4 => pw_ite (pw_ite (pw_ite (pw_e (fun v10 => rwd_fX12_endsLap_92 fu fu l1 l2 l3 (-2) 0 v10 h4)) (pw_ite (pw_ite (pw_b (rwd_fX12_asks fu l1 l2 l3 h4) (fun v15 M16 h16 => pw_ite (pw_e (fun v19 => rwd_fX12_endsLap_92 fu fu l1 l2 l3 v15 0 v19 h16)) (pw_ite (pw_e (fun v23 => pw_e (fun v25 => rwd_fX12_endsLap_92 fu fu l1 l2 l3 v15 v23 v25 h16))) (pw_none)))) (pw_e (fun v27 => rwd_fX12_endsLap_92 fu fu l1 l2 l3 (-2) 0 v27 h4))) (pw_none))) (pw_none)) (rwd_gX12_endsLap_19 fu l1 l3 h4)))
theorem rwd_gX12_goes_180 {M0 : jm_M} (fu : Nat) {M : jm_M} (l1 l3 l4 l7 s0 s1 s2 : Int) (h : Kp RWB M0 M) : pw (gX12_goes_180 fu M l1 l3 l4 l7 s0 s1 s2) (Kp RWB M0) := by
  unfold gX12_goes_180
  exact pw_ite (pw_s (P := Kp RWB M0) (rwb_f h (by decide) (by decide)) (fun M2 h2 => pw_ite (pw_s (P := Kp RWB M0) (rwb_f h2 (by decide) (by decide)) (fun M5 h5 => pw_ite (pw_s (P := Kp RWB M0) (rwb_f h5 (by decide) (by decide)) (fun M7 h7 => pw_s (P := Kp RWB M0) (rwb_k h7 (by decide)) (fun M9 h9 => pw_ite (pw_s (P := Kp RWB M0) (rwb_f h9 (by decide) (by decide)) (fun M11 h11 => pw_ite (pw_ite (pw_s (P := Kp RWB M0) (rwb_f h11 (by decide) (by decide)) (fun M15 h15 => pw_ite (pw_s (P := Kp RWB M0) (rwb_f h15 (by decide) (by decide)) (fun M17 h17 => pw_ite (pw_ite (pw_b (rwd_fX12_endsLap fu l1 (jm_div l3 (M17 0 0 1)) l7 h17) (fun v22 M23 h23 => pw_ret h23)) (pw_none)) (pw_ret h17))) (pw_none))) (pw_none)) (pw_none))) (pw_none)))) (pw_none))) (pw_none))) (pw_none)
theorem rwd_fX12_goes {M0 : jm_M} (fu : Nat) {M : jm_M} (l1 l2 : Int) (h : Kp RWB M0 M) : pw (fX12_goes fu M l1 l2) (Kp RWB M0) := by
  unfold fX12_goes
  exact pw_ite (pw_e (fun v3 => pw_ite (pw_e (fun v7 => pw_ite (pw_ite (pw_s (P := Kp RWB M0) (rwb_f h (by decide) (by decide)) (fun M12 h12 => pw_b (rwd_fX12_hears fu l1 v3 h12) (fun v13 M14 h14 => pw_ite (pw_ite (pw_ite (pw_ite (pw_s (P := Kp RWB M0) (rwb_f h14 (by decide) (by decide)) (fun M22 h22 => pw_ite (pw_ite (pw_e (fun v27 => pw_ite (pw_ite (pw_ite (pw_ite (pw_s (P := Kp RWB M0) (rwb_f h22 (by decide) (by decide)) (fun M35 h35 => pw_b (rwd_fX12_isSlow fu l2 h35) (fun v36 M37 h37 => pw_b (rwd_fX12_takes fu l1 v7 l2 v36 h37) (fun v39 M40 h40 => pw_b (rwd_fX12_held fu l1 v7 l2 (jm_w (l2 + v39)) v36 h40) (fun v42 M43 h43 => pw_ite (pw_ite (pw_ite (pw_ite (pw_ite (rwd_gX12_goes_180 fu l1 v3 v7 v42 2 (M43 46 0 (jm_w ((jm_w (4 * l1)) + (M43 45 0 l1)))) (jm_w ((jm_w (4 * l1)) + (M43 45 0 l1))) h43) (rwd_gX12_goes_180 fu l1 v3 v7 v42 1 (M43 46 0 (jm_w ((jm_w (4 * l1)) + (M43 45 0 l1)))) (jm_w ((jm_w (4 * l1)) + (M43 45 0 l1))) h43)) (pw_none)) (rwd_gX12_goes_180 fu l1 v3 v7 v42 0 (M43 46 0 (jm_w ((jm_w (4 * l1)) + (M43 45 0 l1)))) (jm_w ((jm_w (4 * l1)) + (M43 45 0 l1))) h43)) (pw_none)) (pw_none)))))) (pw_none)) (pw_none)) (pw_ite (pw_s (P := Kp RWB M0) (rwb_f h22 (by decide) (by decide)) (fun M54 h54 => pw_ite (pw_s (P := Kp RWB M0) (rwb_f h54 (by decide) (by decide)) (fun M56 h56 => pw_ret h56)) (pw_none))) (pw_none))) (pw_none))) (pw_none)) (pw_none))) (pw_none)) (pw_none)) (pw_none)) (pw_none)))) (pw_none)) (pw_none))) (pw_none))) (pw_none)
theorem rwd_gX12_runs_9 {M0 : jm_M} (fu : Nat) (k9 : jm_M → Int → jm_R) (hk9 : ∀ (M : jm_M) (b0 : Int), Kp RWB M0 M → pw (k9 M b0) (Kp RWB M0)) {M : jm_M} (l1 : Int) (h : Kp RWB M0 M) : pw (gX12_runs_9 fu k9 M l1) (Kp RWB M0) := by
  unfold gX12_runs_9
  exact pw_ite (pw_ret h) (pw_ite (pw_b (rwd_fX12_goes fu l1 (M 41 0 l1) h) (fun v4 M5 h5 => pw_b (rwd_fX12_next fu  h5) (fun v6 M7 h7 => hk9 M7 v6 h7))) (pw_none))
theorem rwd_fX12_runs_9 {M0 : jm_M} (fu : Nat) : ∀ (n : Nat) {M : jm_M} (a0 : Int), Kp RWB M0 M → pw (fX12_runs_9 fu n M a0) (Kp RWB M0) := by
  intro n
  induction n with
  | zero => intro M a0 h; exact pw_none
  | succ n ih =>
    intro M a0 h
    exact rwd_gX12_runs_9 fu (fX12_runs_9 fu n) (fun M a0 h => ih a0 h) a0 h
theorem rwd_fX12_runs {M0 : jm_M} (fu : Nat) {M : jm_M} (h : Kp RWB M0 M) : pw (fX12_runs fu M ) (Kp RWB M0) := by
  unfold fX12_runs
  exact pw_b (rwd_fX12_starts fu  h) (fun v1 M2 h2 => pw_b (rwd_fX12_next fu  h2) (fun v3 M4 h4 => rwd_fX12_runs_9 fu fu v3 h4))
theorem rwd_fJ6_bitCount_0f7a4_w2 {M0 : jm_M} {M : jm_M} (l0 : Int) (h : Kp RWB M0 M) : pw (fJ6_bitCount_0f7a4_w2 M l0) (Kp RWB M0) := by
  unfold fJ6_bitCount_0f7a4_w2
  exact pw_e (fun v1 => pw_e (fun v3 => pw_e (fun v5 => pw_e (fun v7 => pw_e (fun v9 => pw_ret h)))))
theorem rwd_fX12_of {M0 : jm_M} (fu : Nat) {M : jm_M} (l1 l2 : Int) (h : Kp RWB M0 M) : pw (fX12_of fu M l1 l2) (Kp RWB M0) := by
  unfold fX12_of
  exact pw_s (P := Kp RWB M0) (rwb_k h (by decide)) (fun M1 h1 => pw_b (rwd_fX12_isCar  l1 h1) (fun v2 M3 h3 => pw_ite (pw_b (rwd_fX12_refuse   h3) (fun v6 M7 h7 => pw_ret h7)) (pw_b (rwd_fX12_in  l2 0 10 h3) (fun v9 M10 h10 => pw_ite (pw_b (rwd_fX12_refuse   h10) (fun v13 M14 h14 => pw_ret h14)) (pw_b (rwd_fX12_runs fu  h10) (fun v16 M17 h17 => pw_ite (pw_ite (pw_ret h17) (pw_none)) (pw_ite (pw_ite (pw_ret h17) (pw_none)) (pw_ite (pw_ite (pw_ret h17) (pw_none)) (pw_ite (pw_ite (pw_ret h17) (pw_none)) (pw_ite (pw_ite (pw_b (rwd_fJ6_bitCount_0f7a4_w2  (M17 50 0 l1) h17) (fun v33 M34 h34 => pw_ret h34)) (pw_none)) (pw_ite (pw_ite (pw_ret h17) (pw_none)) (pw_ite (pw_ite (pw_ret h17) (pw_none)) (pw_ite (pw_ite (pw_ret h17) (pw_none)) (pw_ite (pw_ite (pw_ite (pw_ite (pw_ite (pw_ret h17) (pw_none)) (pw_none)) (pw_ret h17)) (pw_none)) (pw_ite (pw_ite (pw_ret h17) (pw_none)) (pw_ite (pw_ret h17) (pw_none)))))))))))))))))
theorem rwd_fX12_isLap {M0 : jm_M} {M : jm_M} (l1 : Int) (h : Kp RWB M0 M) : pw (fX12_isLap M l1) (Kp RWB M0) := by
  unfold fX12_isLap
  exact pw_b (rwd_fX12_in  l1 0 (jm_w ((M 0 0 2) - 1)) h) (fun v2 M3 h3 => pw_ite (pw_ret h3) (pw_none))
theorem rwd_gX12_ledBy_43 {M0 : jm_M} (fu : Nat) (k14 : jm_M → Int → Int → Int → jm_R) (hk14 : ∀ (M : jm_M) (b0 b1 b2 : Int), Kp RWB M0 M → pw (k14 M b0 b1 b2) (Kp RWB M0)) (k43 : jm_M → Int → Int → Int → Int → Int → Int → jm_R) (hk43 : ∀ (M : jm_M) (b0 b1 b2 b3 b4 b5 : Int), Kp RWB M0 M → pw (k43 M b0 b1 b2 b3 b4 b5) (Kp RWB M0)) {M : jm_M} (l2 l3 l4 l5 l6 l7 : Int) (h : Kp RWB M0 M) : pw (gX12_ledBy_43 fu k14 k43 M l2 l3 l4 l5 l6 l7) (Kp RWB M0) := by
  unfold gX12_ledBy_43
  exact pw_ite (pw_ite (pw_e (fun v4 => hk14 M l2 l3 v4 h)) (pw_ite (pw_ret h) (pw_e (fun v7 => hk14 M l2 l3 v7 h)))) (pw_ite (pw_e (fun v11 => pw_ite (pw_e (fun v14 => pw_e (fun v16 => hk43 M l2 l3 l4 l5 v14 v16 h))) (pw_ite (pw_e (fun v19 => pw_e (fun v21 => hk43 M l2 l3 l4 l5 v19 v21 h))) (pw_ite (pw_ite (pw_e (fun v25 => pw_e (fun v27 => hk43 M l2 l3 l4 l5 v25 v27 h))) (pw_e (fun v29 => pw_e (fun v31 => hk43 M l2 l3 l4 l5 v29 v31 h)))) (pw_e (fun v33 => pw_e (fun v35 => hk43 M l2 l3 l4 l5 v33 v35 h))))))) (pw_none))
theorem rwd_fX12_ledBy_43 {M0 : jm_M} (fu : Nat) (k14 : jm_M → Int → Int → Int → jm_R) (hk14 : ∀ (M : jm_M) (b0 b1 b2 : Int), Kp RWB M0 M → pw (k14 M b0 b1 b2) (Kp RWB M0)) : ∀ (n : Nat) {M : jm_M} (a0 a1 a2 a3 a4 a5 : Int), Kp RWB M0 M → pw (fX12_ledBy_43 fu k14 n M a0 a1 a2 a3 a4 a5) (Kp RWB M0) := by
  intro n
  induction n with
  | zero => intro M a0 a1 a2 a3 a4 a5 h; exact pw_none
  | succ n ih =>
    intro M a0 a1 a2 a3 a4 a5 h
    exact rwd_gX12_ledBy_43 fu k14 hk14 (fX12_ledBy_43 fu k14 n) (fun M a0 a1 a2 a3 a4 a5 h => ih a0 a1 a2 a3 a4 a5 h) a0 a1 a2 a3 a4 a5 h
theorem rwd_gX12_ledBy_14 {M0 : jm_M} (fu : Nat) (k14 : jm_M → Int → Int → Int → jm_R) (hk14 : ∀ (M : jm_M) (b0 b1 b2 : Int), Kp RWB M0 M → pw (k14 M b0 b1 b2) (Kp RWB M0)) {M : jm_M} (l2 l3 l4 : Int) (h : Kp RWB M0 M) : pw (gX12_ledBy_14 fu k14 M l2 l3 l4) (Kp RWB M0) := by
  unfold gX12_ledBy_14
  exact pw_ite (pw_ret h) (pw_ite (pw_e (fun v5 => rwd_fX12_ledBy_43 fu k14 hk14 fu l2 l3 l4 v5 0 0 h)) (pw_none))
theorem rwd_fX12_ledBy_14 {M0 : jm_M} (fu : Nat) : ∀ (n : Nat) {M : jm_M} (a0 a1 a2 : Int), Kp RWB M0 M → pw (fX12_ledBy_14 fu n M a0 a1 a2) (Kp RWB M0) := by
  intro n
  induction n with
  | zero => intro M a0 a1 a2 h; exact pw_none
  | succ n ih =>
    intro M a0 a1 a2 h
    exact rwd_gX12_ledBy_14 fu (fX12_ledBy_14 fu n) (fun M a0 a1 a2 h => ih a0 a1 a2 h) a0 a1 a2 h
theorem rwd_fX12_ledBy {M0 : jm_M} (fu : Nat) {M : jm_M} (l1 l2 : Int) (h : Kp RWB M0 M) : pw (fX12_ledBy fu M l1 l2) (Kp RWB M0) := by
  unfold fX12_ledBy
  exact pw_e (fun v2 => rwd_fX12_ledBy_14 fu fu l2 v2 0 h)
theorem rwd_fX12_led {M0 : jm_M} (fu : Nat) {M : jm_M} (l1 l2 : Int) (h : Kp RWB M0 M) : pw (fX12_led fu M l1 l2) (Kp RWB M0) := by
  unfold fX12_led
  exact pw_s (P := Kp RWB M0) (rwb_k h (by decide)) (fun M1 h1 => pw_b (rwd_fX12_isLap  l1 h1) (fun v2 M3 h3 => pw_ite (pw_ret h3) (pw_ite (pw_b (rwd_fX12_runs fu  h3) (fun v7 M8 h8 => pw_b (rwd_fX12_ledBy fu l1 l2 h8) (fun v9 M10 h10 => pw_ret h10))) (pw_ret h3))))
theorem rwd_fX12_at {M0 : jm_M} (fu : Nat) {M : jm_M} (l1 l2 l3 : Int) (h : Kp RWB M0 M) : pw (fX12_at fu M l1 l2 l3) (Kp RWB M0) := by
  unfold fX12_at
  exact pw_s (P := Kp RWB M0) (rwb_k h (by decide)) (fun M1 h1 => pw_b (rwd_fX12_isCar  l1 h1) (fun v2 M3 h3 => pw_ite (pw_ret h3) (pw_b (rwd_fX12_isLap  l2 h3) (fun v6 M7 h7 => pw_ite (pw_ret h7) (pw_b (rwd_fX12_isSector  l3 h7) (fun v10 M11 h11 => pw_ite (pw_ret h11) (pw_b (rwd_fX12_runs fu  h11) (fun v14 M15 h15 => pw_ite (pw_ret h15) (pw_none)))))))))
theorem rwd_fX12_waited {M0 : jm_M} (fu : Nat) {M : jm_M} (l1 : Int) (h : Kp RWB M0 M) : pw (fX12_waited fu M l1) (Kp RWB M0) := by
  unfold fX12_waited
  exact pw_s (P := Kp RWB M0) (rwb_k h (by decide)) (fun M1 h1 => pw_b (rwd_fX12_isCar  l1 h1) (fun v2 M3 h3 => pw_ite (pw_ret h3) (pw_b (rwd_fX12_runs fu  h3) (fun v6 M7 h7 => pw_ite (pw_ret h7) (pw_none)))))
theorem rwd_gX12_leads_13 {M0 : jm_M} (fu : Nat) (k13 : jm_M → Int → Int → jm_R) (hk13 : ∀ (M : jm_M) (b0 b1 : Int), Kp RWB M0 M → pw (k13 M b0 b1) (Kp RWB M0)) {M : jm_M} (l1 l2 : Int) (h : Kp RWB M0 M) : pw (gX12_leads_13 fu k13 M l1 l2) (Kp RWB M0) := by
  unfold gX12_leads_13
  exact pw_ite (pw_ret h) (pw_b (rwd_fX12_ledBy fu l2 0 h) (fun v3 M4 h4 => pw_ite (pw_e (fun v7 => pw_e (fun v9 => hk13 M4 v7 v9 h4))) (pw_b (rwd_fX12_ledBy fu l2 0 h4) (fun v11 M12 h12 => pw_b (rwd_fX12_ledBy fu (jm_w (l2 - 1)) 0 h12) (fun v14 M15 h15 => pw_ite (pw_e (fun v18 => pw_e (fun v20 => hk13 M15 v18 v20 h15))) (pw_e (fun v22 => pw_e (fun v24 => hk13 M15 v22 v24 h15))))))))
theorem rwd_fX12_leads_13 {M0 : jm_M} (fu : Nat) : ∀ (n : Nat) {M : jm_M} (a0 a1 : Int), Kp RWB M0 M → pw (fX12_leads_13 fu n M a0 a1) (Kp RWB M0) := by
  intro n
  induction n with
  | zero => intro M a0 a1 h; exact pw_none
  | succ n ih =>
    intro M a0 a1 h
    exact rwd_gX12_leads_13 fu (fX12_leads_13 fu n) (fun M a0 a1 h => ih a0 a1 h) a0 a1 h
theorem rwd_fX12_leads {M0 : jm_M} (fu : Nat) {M : jm_M} (h : Kp RWB M0 M) : pw (fX12_leads fu M ) (Kp RWB M0) := by
  unfold fX12_leads
  exact pw_s (P := Kp RWB M0) (rwb_k h (by decide)) (fun M1 h1 => pw_b (rwd_fX12_runs fu  h1) (fun v2 M3 h3 => rwd_fX12_leads_13 fu fu 0 1 h3))
theorem rwd_gX12_weight_5 {M0 : jm_M} (fu : Nat) (k5 : jm_M → Int → Int → Int → Int → jm_R) (hk5 : ∀ (M : jm_M) (b0 b1 b2 b3 : Int), Kp RWB M0 M → pw (k5 M b0 b1 b2 b3) (Kp RWB M0)) {M : jm_M} (l1 l2 l3 l4 : Int) (h : Kp RWB M0 M) : pw (gX12_weight_5 fu k5 M l1 l2 l3 l4) (Kp RWB M0) := by
  unfold gX12_weight_5
  exact pw_ite (pw_ite (pw_ite (pw_ret h) (pw_none)) (pw_ret h)) (pw_ite (pw_ite (pw_ite (pw_ite (pw_ite (pw_ite (pw_e (fun v15 => hk5 M l1 l2 l3 v15 h)) (pw_ite (pw_e (fun v18 => hk5 M l1 l2 l4 v18 h)) (pw_ite (pw_ite (pw_ite (pw_e (fun v25 => hk5 M l1 l2 l3 v25 h)) (pw_e (fun v27 => hk5 M l1 l2 l4 v27 h))) (pw_none)) (pw_none)))) (pw_none)) (pw_e (fun v29 => hk5 M l1 l2 l3 v29 h))) (pw_none)) (pw_e (fun v31 => hk5 M l1 l2 l3 v31 h))) (pw_none))
theorem rwd_fX12_weight_5 {M0 : jm_M} (fu : Nat) : ∀ (n : Nat) {M : jm_M} (a0 a1 a2 a3 : Int), Kp RWB M0 M → pw (fX12_weight_5 fu n M a0 a1 a2 a3) (Kp RWB M0) := by
  intro n
  induction n with
  | zero => intro M a0 a1 a2 a3 h; exact pw_none
  | succ n ih =>
    intro M a0 a1 a2 a3 h
    exact rwd_gX12_weight_5 fu (fX12_weight_5 fu n) (fun M a0 a1 a2 a3 h => ih a0 a1 a2 a3 h) a0 a1 a2 a3 h
theorem rwd_fX12_weight {M0 : jm_M} (fu : Nat) {M : jm_M} (l1 l2 : Int) (h : Kp RWB M0 M) : pw (fX12_weight fu M l1 l2) (Kp RWB M0) := by
  unfold fX12_weight
  exact rwd_fX12_weight_5 fu fu l1 l2 (-1) 0 h
theorem rwd_gX12_secondsOf_136 {M0 : jm_M} (fu : Nat) (k136 : jm_M → Int → Int → Int → jm_R) (hk136 : ∀ (M : jm_M) (b0 b1 b2 : Int), Kp RWB M0 M → pw (k136 M b0 b1 b2) (Kp RWB M0)) {M : jm_M} (l2 l3 l4 : Int) (h : Kp RWB M0 M) : pw (gX12_secondsOf_136 fu k136 M l2 l3 l4) (Kp RWB M0) := by
  unfold gX12_secondsOf_136
  exact pw_ite (pw_ret h) (pw_e (fun v3 => pw_ite (pw_ite (pw_e (fun v8 => hk136 M l2 l3 v8 h)) (pw_ite (pw_b (rwd_fX12_gives fu v3 (jm_w (v3 + (M 36 0 (jm_w (6 + l4))))) h) (fun v12 M13 h13 => pw_ite (pw_e (fun v16 => hk136 M13 l2 l3 v16 h13)) (pw_ite (pw_ite (pw_ite (pw_e (fun v23 => pw_e (fun v25 => hk136 M13 l2 v23 v25 h13))) (pw_none)) (pw_ret h13)) (pw_none)))) (pw_none))) (pw_none)))
theorem rwd_fX12_secondsOf_136 {M0 : jm_M} (fu : Nat) : ∀ (n : Nat) {M : jm_M} (a0 a1 a2 : Int), Kp RWB M0 M → pw (fX12_secondsOf_136 fu n M a0 a1 a2) (Kp RWB M0) := by
  intro n
  induction n with
  | zero => intro M a0 a1 a2 h; exact pw_none
  | succ n ih =>
    intro M a0 a1 a2 h
    exact rwd_gX12_secondsOf_136 fu (fX12_secondsOf_136 fu n) (fun M a0 a1 a2 h => ih a0 a1 a2 h) a0 a1 a2 h
theorem rwd_gX12_secondsOf_101 {M0 : jm_M} (fu : Nat) {M : jm_M} (l1 l2 s0 s1 : Int) (h : Kp RWB M0 M) : pw (gX12_secondsOf_101 fu M l1 l2 s0 s1) (Kp RWB M0) := by
  unfold gX12_secondsOf_101
  exact pw_b (rwd_fX12_truth  s0 h) (fun v1 M2 h2 => pw_ite (pw_s (P := Kp RWB M0) (rwb_f h2 (by decide) (by decide)) (fun M5 h5 => pw_ite (pw_ite (pw_s (P := Kp RWB M0) (rwb_f h5 (by decide) (by decide)) (fun M9 h9 => pw_ite (pw_ite (pw_s (P := Kp RWB M0) (rwb_f h9 (by decide) (by decide)) (fun M13 h13 => rwd_fX12_secondsOf_136 fu fu l2 0 0 h13)) (pw_none)) (pw_none))) (pw_none)) (pw_none))) (pw_none))
theorem rwd_fX12_secondsOf {M0 : jm_M} (fu : Nat) {M : jm_M} (l1 l2 : Int) (h : Kp RWB M0 M) : pw (fX12_secondsOf fu M l1 l2) (Kp RWB M0) := by
  unfold fX12_secondsOf
  exact pw_ite (pw_ite (pw_s (P := Kp RWB M0) (rwb_f h (by decide) (by decide)) (fun M4 h4 => pw_ite (pw_b (rwd_fJ6_bitCount_0f7a4_w2  (M4 50 0 l1) h4) (fun v7 M8 h8 => pw_ite (pw_s (P := Kp RWB M0) (rwb_f h8 (by decide) (by decide)) (fun M11 h11 => pw_ite (pw_ite (pw_s (P := Kp RWB M0) (rwb_f h11 (by decide) (by decide)) (fun M15 h15 => pw_ite (pw_ite (pw_ite (pw_s (P := Kp RWB M0) (rwb_f h15 (by decide) (by decide)) (fun M21 h21 => pw_b (rwd_fX12_weight fu l1 l2 h21) (fun v22 M23 h23 => pw_ite (pw_s (P := Kp RWB M0) (rwb_f h23 (by decide) (by decide)) (fun M26 h26 => pw_ite (pw_ite (pw_s (P := Kp RWB M0) (rwb_f h26 (by decide) (by decide)) (fun M30 h30 => pw_ite (pw_ite (rwd_gX12_secondsOf_101 fu l1 l2 1 6 h30) (rwd_gX12_secondsOf_101 fu l1 l2 0 6 h30)) (pw_none))) (pw_none)) (pw_none))) (pw_none)))) (pw_none)) (pw_none)) (pw_none))) (pw_none)) (pw_none))) (pw_none))) (pw_none))) (pw_none)) (pw_none)
theorem rwd_fX12_seconds {M0 : jm_M} (fu : Nat) {M : jm_M} (l1 l2 : Int) (h : Kp RWB M0 M) : pw (fX12_seconds fu M l1 l2) (Kp RWB M0) := by
  unfold fX12_seconds
  exact pw_s (P := Kp RWB M0) (rwb_k h (by decide)) (fun M1 h1 => pw_b (rwd_fX12_isCar  l1 h1) (fun v2 M3 h3 => pw_ite (pw_ret h3) (pw_b (rwd_fX12_isDay  l2 h3) (fun v6 M7 h7 => pw_ite (pw_ret h7) (pw_b (rwd_fX12_runs fu  h7) (fun v10 M11 h11 => pw_b (rwd_fX12_secondsOf fu l1 l2 h11) (fun v12 M13 h13 => pw_ret h13)))))))
theorem rwd_gX12_timeFound_5 {M0 : jm_M} (fu : Nat) (k5 : jm_M → Int → Int → Int → Int → jm_R) (hk5 : ∀ (M : jm_M) (b0 b1 b2 b3 : Int), Kp RWB M0 M → pw (k5 M b0 b1 b2 b3) (Kp RWB M0)) {M : jm_M} (l1 l2 l3 l4 : Int) (h : Kp RWB M0 M) : pw (gX12_timeFound_5 fu k5 M l1 l2 l3 l4) (Kp RWB M0) := by
  unfold gX12_timeFound_5
  exact pw_ite (pw_ret h) (pw_ite (pw_ite (pw_ite (pw_ite (pw_ite (pw_ite (pw_e (fun v12 => pw_e (fun v14 => hk5 M l1 l2 v12 v14 h))) (pw_ite (pw_e (fun v18 => pw_e (fun v20 => hk5 M l1 l2 v18 v20 h))) (pw_none))) (pw_none)) (pw_e (fun v22 => pw_e (fun v24 => hk5 M l1 l2 v22 v24 h)))) (pw_none)) (pw_e (fun v26 => pw_e (fun v28 => hk5 M l1 l2 v26 v28 h)))) (pw_none))
theorem rwd_fX12_timeFound_5 {M0 : jm_M} (fu : Nat) : ∀ (n : Nat) {M : jm_M} (a0 a1 a2 a3 : Int), Kp RWB M0 M → pw (fX12_timeFound_5 fu n M a0 a1 a2 a3) (Kp RWB M0) := by
  intro n
  induction n with
  | zero => intro M a0 a1 a2 a3 h; exact pw_none
  | succ n ih =>
    intro M a0 a1 a2 a3 h
    exact rwd_gX12_timeFound_5 fu (fX12_timeFound_5 fu n) (fun M a0 a1 a2 a3 h => ih a0 a1 a2 a3 h) a0 a1 a2 a3 h
theorem rwd_fX12_timeFound {M0 : jm_M} (fu : Nat) {M : jm_M} (l1 l2 : Int) (h : Kp RWB M0 M) : pw (fX12_timeFound fu M l1 l2) (Kp RWB M0) := by
  unfold fX12_timeFound
  exact rwd_fX12_timeFound_5 fu fu l1 l2 0 0 h
theorem rwd_gX12_judges_47 {M0 : jm_M} (fu : Nat) (k6 : jm_M → Int → Int → jm_R) (hk6 : ∀ (M : jm_M) (b0 b1 : Int), Kp RWB M0 M → pw (k6 M b0 b1) (Kp RWB M0)) {M : jm_M} (l1 l2 l3 s0 s1 : Int) (h : Kp RWB M0 M) : pw (gX12_judges_47 fu k6 M l1 l2 l3 s0 s1) (Kp RWB M0) := by
  unfold gX12_judges_47
  exact pw_ite (pw_ite (pw_s (P := Kp RWB M0) (rwb_f h (by decide) (by decide)) (fun M2 h2 => pw_ite (pw_b (rwd_fX12_timeFound fu l2 l1 h2) (fun v6 M7 h7 => pw_ite (pw_s (P := Kp RWB M0) (rwb_f h7 (by decide) (by decide)) (fun M10 h10 => pw_e (fun v11 => hk6 M10 l1 v11 h10))) (pw_none))) (pw_none))) (pw_none)) (pw_none)
theorem rwd_gX12_judges_6 {M0 : jm_M} (fu : Nat) (k6 : jm_M → Int → Int → jm_R) (hk6 : ∀ (M : jm_M) (b0 b1 : Int), Kp RWB M0 M → pw (k6 M b0 b1) (Kp RWB M0)) {M : jm_M} (l1 l2 : Int) (h : Kp RWB M0 M) : pw (gX12_judges_6 fu k6 M l1 l2) (Kp RWB M0) := by
  unfold gX12_judges_6
  exact pw_ite (pw_ret h) (pw_b (rwd_fX12_secondsOf fu l2 l1 h) (fun v3 M4 h4 => pw_ite (pw_ite (rwd_gX12_judges_47 fu k6 hk6 l1 l2 v3 0 l2 h4) (pw_ite (rwd_gX12_judges_47 fu k6 hk6 l1 l2 v3 0 l2 h4) (rwd_gX12_judges_47 fu k6 hk6 l1 l2 v3 1 l2 h4))) (pw_none)))
theorem rwd_fX12_judges_6 {M0 : jm_M} (fu : Nat) : ∀ (n : Nat) {M : jm_M} (a0 a1 : Int), Kp RWB M0 M → pw (fX12_judges_6 fu n M a0 a1) (Kp RWB M0) := by
  intro n
  induction n with
  | zero => intro M a0 a1 h; exact pw_none
  | succ n ih =>
    intro M a0 a1 h
    exact rwd_gX12_judges_6 fu (fX12_judges_6 fu n) (fun M a0 a1 h => ih a0 a1 h) a0 a1 h
theorem rwd_fX12_judges {M0 : jm_M} (fu : Nat) {M : jm_M} (l1 : Int) (h : Kp RWB M0 M) : pw (fX12_judges fu M l1) (Kp RWB M0) := by
  unfold fX12_judges
  exact pw_b (rwd_fX12_runs fu  h) (fun v1 M2 h2 => rwd_fX12_judges_6 fu fu l1 0 h2)
theorem rwd_fX12_isBetter {M0 : jm_M} {M : jm_M} (l1 l2 : Int) (h : Kp RWB M0 M) : pw (fX12_isBetter M l1 l2) (Kp RWB M0) := by
  unfold fX12_isBetter
  exact pw_ite (pw_ite (pw_e (fun v5 => pw_ite (pw_ite (pw_e (fun v11 => pw_ite (pw_ite (pw_ite (pw_ite (pw_ret h) (pw_ite (pw_ite (pw_ite (pw_ite (pw_ret h) (pw_ret h)) (pw_ret h)) (pw_none)) (pw_none))) (pw_none)) (pw_none)) (pw_ite (pw_ret h) (pw_ret h)))) (pw_none)) (pw_none))) (pw_none)) (pw_none)
theorem rwd_gX12_placeOf_5 {M0 : jm_M} (fu : Nat) (k5 : jm_M → Int → Int → Int → Int → jm_R) (hk5 : ∀ (M : jm_M) (b0 b1 b2 b3 : Int), Kp RWB M0 M → pw (k5 M b0 b1 b2 b3) (Kp RWB M0)) {M : jm_M} (l1 l2 l3 l4 : Int) (h : Kp RWB M0 M) : pw (gX12_placeOf_5 fu k5 M l1 l2 l3 l4) (Kp RWB M0) := by
  unfold gX12_placeOf_5
  exact pw_ite (pw_ite (pw_ite (pw_ret h) (pw_ret h)) (pw_none)) (pw_ite (pw_e (fun v7 => pw_e (fun v9 => hk5 M l1 l2 v7 v9 h))) (pw_ite (pw_ite (pw_e (fun v14 => pw_e (fun v16 => hk5 M l1 l2 v14 v16 h))) (pw_b (rwd_fX12_isBetter  l4 l1 h) (fun v18 M19 h19 => pw_ite (pw_e (fun v22 => pw_e (fun v24 => hk5 M19 l1 l2 v22 v24 h19))) (pw_ite (pw_e (fun v27 => pw_e (fun v29 => hk5 M19 l1 l2 v27 v29 h19))) (pw_ite (pw_ite (pw_ite (pw_e (fun v36 => pw_e (fun v38 => hk5 M19 l1 l2 v36 v38 h19))) (pw_e (fun v40 => pw_e (fun v42 => hk5 M19 l1 l2 v40 v42 h19)))) (pw_none)) (pw_none)))))) (pw_none)))
theorem rwd_fX12_placeOf_5 {M0 : jm_M} (fu : Nat) : ∀ (n : Nat) {M : jm_M} (a0 a1 a2 a3 : Int), Kp RWB M0 M → pw (fX12_placeOf_5 fu n M a0 a1 a2 a3) (Kp RWB M0) := by
  intro n
  induction n with
  | zero => intro M a0 a1 a2 a3 h; exact pw_none
  | succ n ih =>
    intro M a0 a1 a2 a3 h
    exact rwd_gX12_placeOf_5 fu (fX12_placeOf_5 fu n) (fun M a0 a1 a2 a3 h => ih a0 a1 a2 a3 h) a0 a1 a2 a3 h
theorem rwd_fX12_placeOf {M0 : jm_M} (fu : Nat) {M : jm_M} (l1 l2 : Int) (h : Kp RWB M0 M) : pw (fX12_placeOf fu M l1 l2) (Kp RWB M0) := by
  unfold fX12_placeOf
  exact rwd_fX12_placeOf_5 fu fu l1 l2 0 0 h
theorem rwd_fX12_place {M0 : jm_M} (fu : Nat) {M : jm_M} (l1 l2 : Int) (h : Kp RWB M0 M) : pw (fX12_place fu M l1 l2) (Kp RWB M0) := by
  unfold fX12_place
  exact pw_s (P := Kp RWB M0) (rwb_k h (by decide)) (fun M1 h1 => pw_b (rwd_fX12_isCar  l1 h1) (fun v2 M3 h3 => pw_ite (pw_ret h3) (pw_b (rwd_fX12_isDay  l2 h3) (fun v6 M7 h7 => pw_ite (pw_ret h7) (pw_b (rwd_fX12_judges fu l2 h7) (fun v10 M11 h11 => pw_b (rwd_fX12_placeOf fu l1 0 h11) (fun v12 M13 h13 => pw_ret h13)))))))
theorem rwd_fX12_sum {M0 : jm_M} (fu : Nat) {M : jm_M} (l1 l2 : Int) (h : Kp RWB M0 M) : pw (fX12_sum fu M l1 l2) (Kp RWB M0) := by
  unfold fX12_sum
  exact pw_s (P := Kp RWB M0) (rwb_k h (by decide)) (fun M1 h1 => pw_b (rwd_fX12_isCar  l1 h1) (fun v2 M3 h3 => pw_ite (pw_b (rwd_fX12_refuse   h3) (fun v6 M7 h7 => pw_ret h7)) (pw_b (rwd_fX12_isDay  l2 h3) (fun v9 M10 h10 => pw_ite (pw_b (rwd_fX12_refuse   h10) (fun v13 M14 h14 => pw_ret h14)) (pw_b (rwd_fX12_judges fu l2 h10) (fun v16 M17 h17 => pw_ite (pw_ite (pw_b (rwd_fX12_refuse   h17) (fun v21 M22 h22 => pw_ret h22)) (pw_ite (pw_ret h17) (pw_none))) (pw_none)))))))
theorem rwd_fX12_within {M0 : jm_M} (fu : Nat) {M : jm_M} (l1 l2 : Int) (h : Kp RWB M0 M) : pw (fX12_within fu M l1 l2) (Kp RWB M0) := by
  unfold fX12_within
  exact pw_s (P := Kp RWB M0) (rwb_k h (by decide)) (fun M1 h1 => pw_b (rwd_fX12_isCar  l1 h1) (fun v2 M3 h3 => pw_ite (pw_ret h3) (pw_b (rwd_fX12_isDay  l2 h3) (fun v6 M7 h7 => pw_ite (pw_ret h7) (pw_b (rwd_fX12_judges fu l2 h7) (fun v10 M11 h11 => pw_b (rwd_fX12_placeOf fu l1 1 h11) (fun v12 M13 h13 => pw_ret h13)))))))
theorem rwd_fX12_isAsked {M0 : jm_M} {M : jm_M} (l1 l2 l3 : Int) (h : Kp RWB M0 M) : pw (fX12_isAsked M l1 l2 l3) (Kp RWB M0) := by
  unfold fX12_isAsked
  exact pw_b (rwd_fX12_isCar  l1 h) (fun v1 M2 h2 => pw_ite (pw_ret h2) (pw_b (rwd_fX12_in  l2 0 2 h2) (fun v5 M6 h6 => pw_ite (pw_ret h6) (pw_b (rwd_fX12_isDay  l3 h6) (fun v9 M10 h10 => pw_ite (pw_ret h10) (pw_ret h10))))))
theorem rwd_gX12_clears_4 {M0 : jm_M} (fu : Nat) (k4 : jm_M → Int → Int → jm_R) (hk4 : ∀ (M : jm_M) (b0 b1 : Int), Kp RWB M0 M → pw (k4 M b0 b1) (Kp RWB M0)) {M : jm_M} (l1 l2 : Int) (h : Kp RWB M0 M) : pw (gX12_clears_4 fu k4 M l1 l2) (Kp RWB M0) := by
  unfold gX12_clears_4
  exact pw_ite (pw_ite (pw_ite (pw_s (P := Kp RWB M0) (rwb_f h (by decide) (by decide)) (fun M5 h5 => pw_ite (pw_s (P := Kp RWB M0) (rwb_f h5 (by decide) (by decide)) (fun M7 h7 => pw_ite (pw_ite (pw_s (P := Kp RWB M0) (rwb_f h7 (by decide) (by decide)) (fun M9 h9 => pw_ret h9)) (pw_none)) (pw_none))) (pw_none))) (pw_none)) (pw_none)) (pw_ite (pw_ite (pw_s (P := Kp RWB M0) (rwb_f h (by decide) (by decide)) (fun M14 h14 => pw_ite (pw_ite (pw_s (P := Kp RWB M0) (rwb_f h14 (by decide) (by decide)) (fun M18 h18 => pw_ite (pw_ite (pw_s (P := Kp RWB M0) (rwb_f h18 (by decide) (by decide)) (fun M22 h22 => pw_e (fun v23 => hk4 M22 l1 v23 h22))) (pw_none)) (pw_none))) (pw_none)) (pw_none))) (pw_none)) (pw_none))
theorem rwd_fX12_clears_4 {M0 : jm_M} (fu : Nat) : ∀ (n : Nat) {M : jm_M} (a0 a1 : Int), Kp RWB M0 M → pw (fX12_clears_4 fu n M a0 a1) (Kp RWB M0) := by
  intro n
  induction n with
  | zero => intro M a0 a1 h; exact pw_none
  | succ n ih =>
    intro M a0 a1 h
    exact rwd_gX12_clears_4 fu (fX12_clears_4 fu n) (fun M a0 a1 h => ih a0 a1 h) a0 a1 h
theorem rwd_fX12_clears {M0 : jm_M} (fu : Nat) {M : jm_M} (l1 : Int) (h : Kp RWB M0 M) : pw (fX12_clears fu M l1) (Kp RWB M0) := by
  unfold fX12_clears
  exact pw_e (fun v1 => rwd_fX12_clears_4 fu fu l1 v1 h)
theorem rwd_gX12_putsBack_4 {M0 : jm_M} (fu : Nat) (k4 : jm_M → Int → Int → jm_R) (hk4 : ∀ (M : jm_M) (b0 b1 : Int), Kp RWB M0 M → pw (k4 M b0 b1) (Kp RWB M0)) {M : jm_M} (l1 l2 : Int) (h : Kp RWB M0 M) : pw (gX12_putsBack_4 fu k4 M l1 l2) (Kp RWB M0) := by
  unfold gX12_putsBack_4
  exact pw_ite (pw_ite (pw_ite (pw_s (P := Kp RWB M0) (rwb_f h (by decide) (by decide)) (fun M5 h5 => pw_ite (pw_ite (pw_s (P := Kp RWB M0) (rwb_f h5 (by decide) (by decide)) (fun M7 h7 => pw_ret h7)) (pw_none)) (pw_none))) (pw_none)) (pw_none)) (pw_ite (pw_ite (pw_s (P := Kp RWB M0) (rwb_f h (by decide) (by decide)) (fun M12 h12 => pw_ite (pw_ite (pw_s (P := Kp RWB M0) (rwb_f h12 (by decide) (by decide)) (fun M16 h16 => pw_ite (pw_ite (pw_s (P := Kp RWB M0) (rwb_f h16 (by decide) (by decide)) (fun M20 h20 => pw_e (fun v21 => hk4 M20 l1 v21 h20))) (pw_none)) (pw_none))) (pw_none)) (pw_none))) (pw_none)) (pw_none))
theorem rwd_fX12_putsBack_4 {M0 : jm_M} (fu : Nat) : ∀ (n : Nat) {M : jm_M} (a0 a1 : Int), Kp RWB M0 M → pw (fX12_putsBack_4 fu n M a0 a1) (Kp RWB M0) := by
  intro n
  induction n with
  | zero => intro M a0 a1 h; exact pw_none
  | succ n ih =>
    intro M a0 a1 h
    exact rwd_gX12_putsBack_4 fu (fX12_putsBack_4 fu n) (fun M a0 a1 h => ih a0 a1 h) a0 a1 h
theorem rwd_fX12_putsBack {M0 : jm_M} (fu : Nat) {M : jm_M} (l1 : Int) (h : Kp RWB M0 M) : pw (fX12_putsBack fu M l1) (Kp RWB M0) := by
  unfold fX12_putsBack
  exact pw_e (fun v1 => rwd_fX12_putsBack_4 fu fu l1 v1 h)
theorem rwd_gX12_tries_82 {M0 : jm_M} (fu : Nat) {M : jm_M} (l1 l4 l5 l6 l7 l8 : Int) (h : Kp RWB M0 M) : pw (gX12_tries_82 fu M l1 l4 l5 l6 l7 l8) (Kp RWB M0) := by
  unfold gX12_tries_82
  exact pw_s (P := Kp RWB M0) (rwb_k h (by decide)) (fun M1 h1 => pw_s (P := Kp RWB M0) (rwb_k h1 (by decide)) (fun M2 h2 => pw_ite (pw_s (P := Kp RWB M0) (rwb_k h2 (by decide)) (fun M5 h5 => pw_ite (pw_s (P := Kp RWB M0) (rwb_f h5 (by decide) (by decide)) (fun M7 h7 => pw_ite (pw_s (P := Kp RWB M0) (rwb_f h7 (by decide) (by decide)) (fun M9 h9 => pw_ite (pw_s (P := Kp RWB M0) (rwb_f h9 (by decide) (by decide)) (fun M11 h11 => pw_ite (pw_s (P := Kp RWB M0) (rwb_f h11 (by decide) (by decide)) (fun M13 h13 => pw_ret h13)) (pw_none))) (pw_none))) (pw_none))) (pw_none))) (pw_none)))
theorem rwd_fX12_isAhead {M0 : jm_M} {M : jm_M} (l0 l1 l2 l3 : Int) (h : Kp RWB M0 M) : pw (fX12_isAhead M l0 l1 l2 l3) (Kp RWB M0) := by
  unfold fX12_isAhead
  exact pw_ite (pw_ite (pw_ret h) (pw_ret h)) (pw_ite (pw_ite (pw_ret h) (pw_ite (pw_ite (pw_ret h) (pw_ret h)) (pw_ret h))) (pw_ite (pw_ret h) (pw_ret h)))
theorem rwd_gX12_tries_40 {M0 : jm_M} (fu : Nat) {M : jm_M} (l1 l2 l4 l5 l6 l7 : Int) (h : Kp RWB M0 M) : pw (gX12_tries_40 fu M l1 l2 l4 l5 l6 l7) (Kp RWB M0) := by
  unfold gX12_tries_40
  exact pw_b (rwd_fX12_judges fu l2 h) (fun v1 M2 h2 => pw_b (rwd_fX12_placeOf fu l1 0 h2) (fun v3 M4 h4 => pw_ite (rwd_gX12_tries_82 fu l1 l4 l5 l6 l7 v3 h4) (pw_ite (pw_b (rwd_fX12_isAhead  v3 (M4 68 0 l1) (M4 0 0 89) (M4 0 0 90) h4) (fun v12 M13 h13 => pw_ite (pw_ret h13) (rwd_gX12_tries_82 fu l1 l4 l5 l6 l7 v3 h13))) (pw_none))))
theorem rwd_fX12_puts {M0 : jm_M} {M : jm_M} (l1 l2 l3 l4 : Int) (h : Kp RWB M0 M) : pw (fX12_puts M l1 l2 l3 l4) (Kp RWB M0) := by
  unfold fX12_puts
  exact pw_ite (pw_e (fun v3 => pw_ite (pw_s (P := Kp RWB M0) (rwb_f h (by decide) (by decide)) (fun M6 h6 => pw_ite (pw_s (P := Kp RWB M0) (rwb_f h6 (by decide) (by decide)) (fun M8 h8 => pw_ite (pw_s (P := Kp RWB M0) (rwb_f h8 (by decide) (by decide)) (fun M10 h10 => pw_ite (pw_ite (pw_s (P := Kp RWB M0) (rwb_f h10 (by decide) (by decide)) (fun M14 h14 => pw_ret h14)) (pw_none)) (pw_none))) (pw_none))) (pw_none))) (pw_none))) (pw_none)
theorem rwd_gX12_tries_23 {M0 : jm_M} (fu : Nat) {M : jm_M} (l1 l2 l3 l4 l5 l6 l7 : Int) (h : Kp RWB M0 M) : pw (gX12_tries_23 fu M l1 l2 l3 l4 l5 l6 l7) (Kp RWB M0) := by
  unfold gX12_tries_23
  exact pw_ite (rwd_gX12_tries_40 fu l1 l2 l4 l5 l6 l7 h) (pw_b (rwd_fX12_puts  l1 l5 l7 200 h) (fun v2 M3 h3 => rwd_gX12_tries_40 fu l1 l2 l4 l5 l6 l7 h3))
theorem rwd_fX12_tries {M0 : jm_M} (fu : Nat) {M : jm_M} (l1 l2 l3 l4 l5 l6 l7 : Int) (h : Kp RWB M0 M) : pw (fX12_tries fu M l1 l2 l3 l4 l5 l6 l7) (Kp RWB M0) := by
  unfold fX12_tries
  exact pw_ite (pw_s (P := Kp RWB M0) (rwb_f h (by decide) (by decide)) (fun M2 h2 => pw_ite (rwd_gX12_tries_23 fu l1 l2 l3 l4 l5 l6 l7 h2) (pw_b (rwd_fX12_puts  l1 l4 l6 200 h2) (fun v4 M5 h5 => rwd_gX12_tries_23 fu l1 l2 l3 l4 l5 l6 l7 h5)))) (pw_none)
theorem rwd_gX12_bests_109 {M0 : jm_M} (fu : Nat) (k13 : jm_M → Int → Int → Int → Int → jm_R) (hk13 : ∀ (M : jm_M) (b0 b1 b2 b3 : Int), Kp RWB M0 M → pw (k13 M b0 b1 b2 b3) (Kp RWB M0)) (k47 : jm_M → Int → Int → Int → Int → Int → jm_R) (hk47 : ∀ (M : jm_M) (b0 b1 b2 b3 b4 : Int), Kp RWB M0 M → pw (k47 M b0 b1 b2 b3 b4) (Kp RWB M0)) (k70 : jm_M → Int → Int → Int → Int → Int → Int → jm_R) (hk70 : ∀ (M : jm_M) (b0 b1 b2 b3 b4 b5 : Int), Kp RWB M0 M → pw (k70 M b0 b1 b2 b3 b4 b5) (Kp RWB M0)) (k92 : jm_M → Int → Int → Int → Int → Int → Int → Int → jm_R) (hk92 : ∀ (M : jm_M) (b0 b1 b2 b3 b4 b5 b6 : Int), Kp RWB M0 M → pw (k92 M b0 b1 b2 b3 b4 b5 b6) (Kp RWB M0)) {M : jm_M} (l1 l2 l3 l4 l5 l6 l7 s0 s1 : Int) (h : Kp RWB M0 M) : pw (gX12_bests_109 fu k13 k47 k70 k92 M l1 l2 l3 l4 l5 l6 l7 s0 s1) (Kp RWB M0) := by
  unfold gX12_bests_109
  exact pw_ite (pw_e (fun v2 => hk70 M l1 l2 l3 l4 l5 v2 h)) (pw_b (rwd_fX12_tries fu l1 l3 l2 l4 l5 l6 l7 h) (fun v4 M5 h5 => pw_e (fun v6 => hk92 M5 l1 l2 l3 l4 l5 l6 v6 h5)))
theorem rwd_gX12_bests_92 {M0 : jm_M} (fu : Nat) (k13 : jm_M → Int → Int → Int → Int → jm_R) (hk13 : ∀ (M : jm_M) (b0 b1 b2 b3 : Int), Kp RWB M0 M → pw (k13 M b0 b1 b2 b3) (Kp RWB M0)) (k47 : jm_M → Int → Int → Int → Int → Int → jm_R) (hk47 : ∀ (M : jm_M) (b0 b1 b2 b3 b4 : Int), Kp RWB M0 M → pw (k47 M b0 b1 b2 b3 b4) (Kp RWB M0)) (k70 : jm_M → Int → Int → Int → Int → Int → Int → jm_R) (hk70 : ∀ (M : jm_M) (b0 b1 b2 b3 b4 b5 : Int), Kp RWB M0 M → pw (k70 M b0 b1 b2 b3 b4 b5) (Kp RWB M0)) (k92 : jm_M → Int → Int → Int → Int → Int → Int → Int → jm_R) (hk92 : ∀ (M : jm_M) (b0 b1 b2 b3 b4 b5 b6 : Int), Kp RWB M0 M → pw (k92 M b0 b1 b2 b3 b4 b5 b6) (Kp RWB M0)) {M : jm_M} (l1 l2 l3 l4 l5 l6 l7 : Int) (h : Kp RWB M0 M) : pw (gX12_bests_92 fu k13 k47 k70 k92 M l1 l2 l3 l4 l5 l6 l7) (Kp RWB M0) := by
  unfold gX12_bests_92
  exact pw_ite (rwd_gX12_bests_109 fu k13 hk13 k47 hk47 k70 hk70 k92 hk92 l1 l2 l3 l4 l5 l6 l7 1 l7 h) (pw_ite (rwd_gX12_bests_109 fu k13 hk13 k47 hk47 k70 hk70 k92 hk92 l1 l2 l3 l4 l5 l6 l7 (M 19 0 l1) l7 h) (pw_none))
theorem rwd_fX12_bests_92 {M0 : jm_M} (fu : Nat) (k13 : jm_M → Int → Int → Int → Int → jm_R) (hk13 : ∀ (M : jm_M) (b0 b1 b2 b3 : Int), Kp RWB M0 M → pw (k13 M b0 b1 b2 b3) (Kp RWB M0)) (k47 : jm_M → Int → Int → Int → Int → Int → jm_R) (hk47 : ∀ (M : jm_M) (b0 b1 b2 b3 b4 : Int), Kp RWB M0 M → pw (k47 M b0 b1 b2 b3 b4) (Kp RWB M0)) (k70 : jm_M → Int → Int → Int → Int → Int → Int → jm_R) (hk70 : ∀ (M : jm_M) (b0 b1 b2 b3 b4 b5 : Int), Kp RWB M0 M → pw (k70 M b0 b1 b2 b3 b4 b5) (Kp RWB M0)) : ∀ (n : Nat) {M : jm_M} (a0 a1 a2 a3 a4 a5 a6 : Int), Kp RWB M0 M → pw (fX12_bests_92 fu k13 k47 k70 n M a0 a1 a2 a3 a4 a5 a6) (Kp RWB M0) := by
  intro n
  induction n with
  | zero => intro M a0 a1 a2 a3 a4 a5 a6 h; exact pw_none
  | succ n ih =>
    intro M a0 a1 a2 a3 a4 a5 a6 h
    exact rwd_gX12_bests_92 fu k13 hk13 k47 hk47 k70 hk70 (fX12_bests_92 fu k13 k47 k70 n) (fun M a0 a1 a2 a3 a4 a5 a6 h => ih a0 a1 a2 a3 a4 a5 a6 h) a0 a1 a2 a3 a4 a5 a6 h
theorem rwd_gX12_bests_70 {M0 : jm_M} (fu : Nat) (k13 : jm_M → Int → Int → Int → Int → jm_R) (hk13 : ∀ (M : jm_M) (b0 b1 b2 b3 : Int), Kp RWB M0 M → pw (k13 M b0 b1 b2 b3) (Kp RWB M0)) (k47 : jm_M → Int → Int → Int → Int → Int → jm_R) (hk47 : ∀ (M : jm_M) (b0 b1 b2 b3 b4 : Int), Kp RWB M0 M → pw (k47 M b0 b1 b2 b3 b4) (Kp RWB M0)) (k70 : jm_M → Int → Int → Int → Int → Int → Int → jm_R) (hk70 : ∀ (M : jm_M) (b0 b1 b2 b3 b4 b5 : Int), Kp RWB M0 M → pw (k70 M b0 b1 b2 b3 b4 b5) (Kp RWB M0)) {M : jm_M} (l1 l2 l3 l4 l5 l6 : Int) (h : Kp RWB M0 M) : pw (gX12_bests_70 fu k13 k47 k70 M l1 l2 l3 l4 l5 l6) (Kp RWB M0) := by
  unfold gX12_bests_70
  exact pw_ite (pw_ite (pw_e (fun v3 => hk47 M l1 l2 l3 l4 v3 h)) (rwd_fX12_bests_92 fu k13 hk13 k47 hk47 k70 hk70 fu l1 l2 l3 l4 l5 l6 0 h)) (pw_ite (pw_ite (pw_e (fun v8 => hk47 M l1 l2 l3 l4 v8 h)) (rwd_fX12_bests_92 fu k13 hk13 k47 hk47 k70 hk70 fu l1 l2 l3 l4 l5 l6 0 h)) (pw_none))
theorem rwd_fX12_bests_70 {M0 : jm_M} (fu : Nat) (k13 : jm_M → Int → Int → Int → Int → jm_R) (hk13 : ∀ (M : jm_M) (b0 b1 b2 b3 : Int), Kp RWB M0 M → pw (k13 M b0 b1 b2 b3) (Kp RWB M0)) (k47 : jm_M → Int → Int → Int → Int → Int → jm_R) (hk47 : ∀ (M : jm_M) (b0 b1 b2 b3 b4 : Int), Kp RWB M0 M → pw (k47 M b0 b1 b2 b3 b4) (Kp RWB M0)) : ∀ (n : Nat) {M : jm_M} (a0 a1 a2 a3 a4 a5 : Int), Kp RWB M0 M → pw (fX12_bests_70 fu k13 k47 n M a0 a1 a2 a3 a4 a5) (Kp RWB M0) := by
  intro n
  induction n with
  | zero => intro M a0 a1 a2 a3 a4 a5 h; exact pw_none
  | succ n ih =>
    intro M a0 a1 a2 a3 a4 a5 h
    exact rwd_gX12_bests_70 fu k13 hk13 k47 hk47 (fX12_bests_70 fu k13 k47 n) (fun M a0 a1 a2 a3 a4 a5 h => ih a0 a1 a2 a3 a4 a5 h) a0 a1 a2 a3 a4 a5 h
theorem rwd_gX12_bests_47 {M0 : jm_M} (fu : Nat) (k13 : jm_M → Int → Int → Int → Int → jm_R) (hk13 : ∀ (M : jm_M) (b0 b1 b2 b3 : Int), Kp RWB M0 M → pw (k13 M b0 b1 b2 b3) (Kp RWB M0)) (k47 : jm_M → Int → Int → Int → Int → Int → jm_R) (hk47 : ∀ (M : jm_M) (b0 b1 b2 b3 b4 : Int), Kp RWB M0 M → pw (k47 M b0 b1 b2 b3 b4) (Kp RWB M0)) {M : jm_M} (l1 l2 l3 l4 l5 : Int) (h : Kp RWB M0 M) : pw (gX12_bests_47 fu k13 k47 M l1 l2 l3 l4 l5) (Kp RWB M0) := by
  unfold gX12_bests_47
  exact pw_ite (pw_ite (pw_e (fun v3 => hk13 M l1 l2 l3 v3 h)) (rwd_fX12_bests_70 fu k13 hk13 k47 hk47 fu l1 l2 l3 l4 l5 0 h)) (pw_ite (pw_e (fun v7 => hk13 M l1 l2 l3 v7 h)) (rwd_fX12_bests_70 fu k13 hk13 k47 hk47 fu l1 l2 l3 l4 l5 0 h))
theorem rwd_fX12_bests_47 {M0 : jm_M} (fu : Nat) (k13 : jm_M → Int → Int → Int → Int → jm_R) (hk13 : ∀ (M : jm_M) (b0 b1 b2 b3 : Int), Kp RWB M0 M → pw (k13 M b0 b1 b2 b3) (Kp RWB M0)) : ∀ (n : Nat) {M : jm_M} (a0 a1 a2 a3 a4 : Int), Kp RWB M0 M → pw (fX12_bests_47 fu k13 n M a0 a1 a2 a3 a4) (Kp RWB M0) := by
  intro n
  induction n with
  | zero => intro M a0 a1 a2 a3 a4 h; exact pw_none
  | succ n ih =>
    intro M a0 a1 a2 a3 a4 h
    exact rwd_gX12_bests_47 fu k13 hk13 (fX12_bests_47 fu k13 n) (fun M a0 a1 a2 a3 a4 h => ih a0 a1 a2 a3 a4 h) a0 a1 a2 a3 a4 h
theorem rwd_gX12_bests_29 {M0 : jm_M} (fu : Nat) (k13 : jm_M → Int → Int → Int → Int → jm_R) (hk13 : ∀ (M : jm_M) (b0 b1 b2 b3 : Int), Kp RWB M0 M → pw (k13 M b0 b1 b2 b3) (Kp RWB M0)) {M : jm_M} (l1 l2 l3 l4 s0 s1 : Int) (h : Kp RWB M0 M) : pw (gX12_bests_29 fu k13 M l1 l2 l3 l4 s0 s1) (Kp RWB M0) := by
  unfold gX12_bests_29
  exact pw_ite (pw_b (rwd_fX12_putsBack fu l1 h) (fun v2 M3 h3 => pw_ite (pw_ret h3) (pw_none))) (pw_ite (rwd_fX12_bests_47 fu k13 hk13 fu l1 l2 l3 l4 0 h) (pw_e (fun v6 => rwd_fX12_bests_47 fu k13 hk13 fu l1 l2 l3 l4 v6 h)))
theorem rwd_gX12_bests_13 {M0 : jm_M} (fu : Nat) (k13 : jm_M → Int → Int → Int → Int → jm_R) (hk13 : ∀ (M : jm_M) (b0 b1 b2 b3 : Int), Kp RWB M0 M → pw (k13 M b0 b1 b2 b3) (Kp RWB M0)) {M : jm_M} (l1 l2 l3 l4 : Int) (h : Kp RWB M0 M) : pw (gX12_bests_13 fu k13 M l1 l2 l3 l4) (Kp RWB M0) := by
  unfold gX12_bests_13
  exact pw_ite (rwd_gX12_bests_29 fu k13 hk13 l1 l2 l3 l4 1 l4 h) (rwd_gX12_bests_29 fu k13 hk13 l1 l2 l3 l4 (jm_w ((M 0 0 2) - 1)) l4 h)
theorem rwd_fX12_bests_13 {M0 : jm_M} (fu : Nat) : ∀ (n : Nat) {M : jm_M} (a0 a1 a2 a3 : Int), Kp RWB M0 M → pw (fX12_bests_13 fu n M a0 a1 a2 a3) (Kp RWB M0) := by
  intro n
  induction n with
  | zero => intro M a0 a1 a2 a3 h; exact pw_none
  | succ n ih =>
    intro M a0 a1 a2 a3 h
    exact rwd_gX12_bests_13 fu (fX12_bests_13 fu n) (fun M a0 a1 a2 a3 h => ih a0 a1 a2 a3 h) a0 a1 a2 a3 h
theorem rwd_fX12_bests {M0 : jm_M} (fu : Nat) {M : jm_M} (l1 l2 l3 : Int) (h : Kp RWB M0 M) : pw (fX12_bests fu M l1 l2 l3) (Kp RWB M0) := by
  unfold fX12_bests
  exact pw_s (P := Kp RWB M0) (rwb_k h (by decide)) (fun M1 h1 => pw_b (rwd_fX12_clears fu l1 h1) (fun v2 M3 h3 => rwd_fX12_bests_13 fu fu l1 l2 l3 0 h3))
theorem rwd_gX12_gain_45 {M0 : jm_M} (fu : Nat) {M : jm_M} (l1 l3 s0 : Int) (h : Kp RWB M0 M) : pw (gX12_gain_45 fu M l1 l3 s0) (Kp RWB M0) := by
  unfold gX12_gain_45
  exact pw_b (rwd_fX12_judges fu l3 h) (fun v1 M2 h2 => pw_b (rwd_fX12_placeOf fu l1 0 h2) (fun v3 M4 h4 => pw_ite (pw_ret h4) (pw_ret h4)))
theorem rwd_fX12_gain {M0 : jm_M} (fu : Nat) {M : jm_M} (l1 l2 l3 : Int) (h : Kp RWB M0 M) : pw (fX12_gain fu M l1 l2 l3) (Kp RWB M0) := by
  unfold fX12_gain
  exact pw_s (P := Kp RWB M0) (rwb_k h (by decide)) (fun M1 h1 => pw_b (rwd_fX12_isAsked  l1 l2 l3 h1) (fun v2 M3 h3 => pw_ite (pw_ret h3) (pw_b (rwd_fX12_bests fu l1 l2 l3 h3) (fun v6 M7 h7 => pw_ite (pw_ret h7) (pw_ite (rwd_gX12_gain_45 fu l1 l3 (M7 0 0 89) h7) (rwd_gX12_gain_45 fu l1 l3 (M7 0 0 17) h7))))))
theorem rwd_gX12_isSettled_82 {M0 : jm_M} (fu : Nat) (k82 : jm_M → Int → Int → Int → Int → Int → jm_R) (hk82 : ∀ (M : jm_M) (b0 b1 b2 b3 b4 : Int), Kp RWB M0 M → pw (k82 M b0 b1 b2 b3 b4) (Kp RWB M0)) {M : jm_M} (l1 l4 l5 l6 l7 : Int) (h : Kp RWB M0 M) : pw (gX12_isSettled_82 fu k82 M l1 l4 l5 l6 l7) (Kp RWB M0) := by
  unfold gX12_isSettled_82
  exact pw_ite (pw_ite (pw_ret h) (pw_none)) (pw_ite (pw_e (fun v3 => hk82 M l1 l4 l5 0 v3 h)) (pw_ite (pw_ite (pw_ite (pw_ite (pw_b (rwd_fX12_isAhead  (M 78 0 (jm_w ((jm_w (4 * l1)) + l7))) (M 79 0 (jm_w ((jm_w (4 * l1)) + l7))) (M 78 0 l5) (M 79 0 l5) h) (fun v13 M14 h14 => pw_ite (pw_e (fun v17 => hk82 M14 l1 l4 l5 1 v17 h14)) (pw_e (fun v19 => hk82 M14 l1 l4 l5 0 v19 h14)))) (pw_none)) (pw_none)) (pw_none)) (pw_none)))
theorem rwd_fX12_isSettled_82 {M0 : jm_M} (fu : Nat) : ∀ (n : Nat) {M : jm_M} (a0 a1 a2 a3 a4 : Int), Kp RWB M0 M → pw (fX12_isSettled_82 fu n M a0 a1 a2 a3 a4) (Kp RWB M0) := by
  intro n
  induction n with
  | zero => intro M a0 a1 a2 a3 a4 h; exact pw_none
  | succ n ih =>
    intro M a0 a1 a2 a3 a4 h
    exact rwd_gX12_isSettled_82 fu (fX12_isSettled_82 fu n) (fun M a0 a1 a2 a3 a4 h => ih a0 a1 a2 a3 a4 h) a0 a1 a2 a3 a4 h
theorem rwd_gX12_isSettled_13 {M0 : jm_M} (fu : Nat) (k13 : jm_M → Int → Int → Int → Int → Int → Int → Int → jm_R) (hk13 : ∀ (M : jm_M) (b0 b1 b2 b3 b4 b5 b6 : Int), Kp RWB M0 M → pw (k13 M b0 b1 b2 b3 b4 b5 b6) (Kp RWB M0)) {M : jm_M} (l1 l2 l3 l4 l5 l6 l7 : Int) (h : Kp RWB M0 M) : pw (gX12_isSettled_13 fu k13 M l1 l2 l3 l4 l5 l6 l7) (Kp RWB M0) := by
  unfold gX12_isSettled_13
  exact pw_ite (rwd_fX12_isSettled_82 fu fu l1 l4 l5 l6 0 h) (pw_ite (pw_e (fun v3 => hk13 M l1 l2 l3 l4 l5 0 v3 h)) (pw_ite (pw_ite (pw_ite (pw_ite (pw_b (rwd_fX12_isAhead  (M 76 0 (jm_w ((jm_w (4 * l7)) + l2))) (M 77 0 (jm_w ((jm_w (4 * l7)) + l2))) (M 76 0 l5) (M 77 0 l5) h) (fun v13 M14 h14 => pw_ite (pw_e (fun v17 => hk13 M14 l1 l2 l3 l4 l5 1 v17 h14)) (pw_e (fun v19 => hk13 M14 l1 l2 l3 l4 l5 0 v19 h14)))) (pw_none)) (pw_none)) (pw_none)) (pw_none)))
theorem rwd_fX12_isSettled_13 {M0 : jm_M} (fu : Nat) : ∀ (n : Nat) {M : jm_M} (a0 a1 a2 a3 a4 a5 a6 : Int), Kp RWB M0 M → pw (fX12_isSettled_13 fu n M a0 a1 a2 a3 a4 a5 a6) (Kp RWB M0) := by
  intro n
  induction n with
  | zero => intro M a0 a1 a2 a3 a4 a5 a6 h; exact pw_none
  | succ n ih =>
    intro M a0 a1 a2 a3 a4 a5 a6 h
    exact rwd_gX12_isSettled_13 fu (fX12_isSettled_13 fu n) (fun M a0 a1 a2 a3 a4 a5 a6 h => ih a0 a1 a2 a3 a4 a5 a6 h) a0 a1 a2 a3 a4 a5 a6 h
theorem rwd_fX12_isSettled {M0 : jm_M} (fu : Nat) {M : jm_M} (l1 l2 l3 l4 : Int) (h : Kp RWB M0 M) : pw (fX12_isSettled fu M l1 l2 l3 l4) (Kp RWB M0) := by
  unfold fX12_isSettled
  exact pw_e (fun v1 => rwd_fX12_isSettled_13 fu fu l1 l2 l3 l4 v1 1 0 h)
theorem rwd_gX12_settle_221 {M0 : jm_M} (fu : Nat) (k207 : jm_M → Int → Int → Int → jm_R) (hk207 : ∀ (M : jm_M) (b0 b1 b2 : Int), Kp RWB M0 M → pw (k207 M b0 b1 b2) (Kp RWB M0)) (k221 : jm_M → Int → Int → Int → Int → jm_R) (hk221 : ∀ (M : jm_M) (b0 b1 b2 b3 : Int), Kp RWB M0 M → pw (k221 M b0 b1 b2 b3) (Kp RWB M0)) {M : jm_M} (l1 l2 l4 l5 : Int) (h : Kp RWB M0 M) : pw (gX12_settle_221 fu k207 k221 M l1 l2 l4 l5) (Kp RWB M0) := by
  unfold gX12_settle_221
  exact pw_ite (pw_ite (pw_e (fun v4 => hk207 M l1 l2 v4 h)) (pw_ite (pw_ite (pw_b (rwd_fX12_isSettled fu l4 l5 (M 31 0 l1) (M 31 0 l2) h) (fun v10 M11 h11 => pw_ite (pw_e (fun v14 => hk221 M11 l1 l2 l4 v14 h11)) (pw_ret h11))) (pw_none)) (pw_none))) (pw_none)
theorem rwd_fX12_settle_221 {M0 : jm_M} (fu : Nat) (k207 : jm_M → Int → Int → Int → jm_R) (hk207 : ∀ (M : jm_M) (b0 b1 b2 : Int), Kp RWB M0 M → pw (k207 M b0 b1 b2) (Kp RWB M0)) : ∀ (n : Nat) {M : jm_M} (a0 a1 a2 a3 : Int), Kp RWB M0 M → pw (fX12_settle_221 fu k207 n M a0 a1 a2 a3) (Kp RWB M0) := by
  intro n
  induction n with
  | zero => intro M a0 a1 a2 a3 h; exact pw_none
  | succ n ih =>
    intro M a0 a1 a2 a3 h
    exact rwd_gX12_settle_221 fu k207 hk207 (fX12_settle_221 fu k207 n) (fun M a0 a1 a2 a3 h => ih a0 a1 a2 a3 h) a0 a1 a2 a3 h
theorem rwd_gX12_settle_207 {M0 : jm_M} (fu : Nat) (k207 : jm_M → Int → Int → Int → jm_R) (hk207 : ∀ (M : jm_M) (b0 b1 b2 : Int), Kp RWB M0 M → pw (k207 M b0 b1 b2) (Kp RWB M0)) {M : jm_M} (l1 l2 l4 : Int) (h : Kp RWB M0 M) : pw (gX12_settle_207 fu k207 M l1 l2 l4) (Kp RWB M0) := by
  unfold gX12_settle_207
  exact pw_ite (pw_ite (pw_ret h) (rwd_fX12_settle_221 fu k207 hk207 fu l1 l2 l4 0 h)) (pw_none)
theorem rwd_fX12_settle_207 {M0 : jm_M} (fu : Nat) : ∀ (n : Nat) {M : jm_M} (a0 a1 a2 : Int), Kp RWB M0 M → pw (fX12_settle_207 fu n M a0 a1 a2) (Kp RWB M0) := by
  intro n
  induction n with
  | zero => intro M a0 a1 a2 h; exact pw_none
  | succ n ih =>
    intro M a0 a1 a2 h
    exact rwd_gX12_settle_207 fu (fX12_settle_207 fu n) (fun M a0 a1 a2 h => ih a0 a1 a2 h) a0 a1 a2 h
theorem rwd_fX12_chooses {M0 : jm_M} {M : jm_M} (l1 l2 : Int) (h : Kp RWB M0 M) : pw (fX12_chooses M l1 l2) (Kp RWB M0) := by
  unfold fX12_chooses
  exact pw_ite (pw_s (P := Kp RWB M0) (rwb_f h (by decide) (by decide)) (fun M2 h2 => pw_ite (pw_ite (pw_ret h2) (pw_ite (pw_ite (pw_b (rwd_fX12_puts  l1 (M2 32 0 (jm_w ((jm_w (4 * l1)) + l2))) (M2 33 0 (jm_w ((jm_w (4 * l1)) + l2))) 200 h2) (fun v10 M11 h11 => pw_ret h11)) (pw_none)) (pw_none))) (pw_none))) (pw_none)
theorem rwd_gX12_settle_80 {M0 : jm_M} (fu : Nat) (k66 : jm_M → Int → Int → Int → Int → jm_R) (hk66 : ∀ (M : jm_M) (b0 b1 b2 b3 : Int), Kp RWB M0 M → pw (k66 M b0 b1 b2 b3) (Kp RWB M0)) (k80 : jm_M → Int → Int → Int → Int → Int → jm_R) (hk80 : ∀ (M : jm_M) (b0 b1 b2 b3 b4 : Int), Kp RWB M0 M → pw (k80 M b0 b1 b2 b3 b4) (Kp RWB M0)) {M : jm_M} (l1 l2 l3 l4 l5 : Int) (h : Kp RWB M0 M) : pw (gX12_settle_80 fu k66 k80 M l1 l2 l3 l4 l5) (Kp RWB M0) := by
  unfold gX12_settle_80
  exact pw_ite (pw_ite (pw_e (fun v4 => hk66 M l1 l2 l3 v4 h)) (pw_b (rwd_fX12_chooses  l1 l4 h) (fun v6 M7 h7 => pw_b (rwd_fX12_chooses  l2 l5 h7) (fun v8 M9 h9 => pw_b (rwd_fX12_judges fu l3 h9) (fun v10 M11 h11 => pw_b (rwd_fX12_placeOf fu l1 0 h11) (fun v12 M13 h13 => pw_ite (pw_s (P := Kp RWB M0) (rwb_f h13 (by decide) (by decide)) (fun M16 h16 => pw_ite (pw_ite (pw_s (P := Kp RWB M0) (rwb_f h16 (by decide) (by decide)) (fun M20 h20 => pw_b (rwd_fX12_placeOf fu l2 0 h20) (fun v21 M22 h22 => pw_ite (pw_s (P := Kp RWB M0) (rwb_f h22 (by decide) (by decide)) (fun M25 h25 => pw_ite (pw_ite (pw_s (P := Kp RWB M0) (rwb_f h25 (by decide) (by decide)) (fun M29 h29 => pw_e (fun v30 => hk80 M29 l1 l2 l3 l4 v30 h29))) (pw_none)) (pw_none))) (pw_none)))) (pw_none)) (pw_none))) (pw_none))))))) (pw_none)
theorem rwd_fX12_settle_80 {M0 : jm_M} (fu : Nat) (k66 : jm_M → Int → Int → Int → Int → jm_R) (hk66 : ∀ (M : jm_M) (b0 b1 b2 b3 : Int), Kp RWB M0 M → pw (k66 M b0 b1 b2 b3) (Kp RWB M0)) : ∀ (n : Nat) {M : jm_M} (a0 a1 a2 a3 a4 : Int), Kp RWB M0 M → pw (fX12_settle_80 fu k66 n M a0 a1 a2 a3 a4) (Kp RWB M0) := by
  intro n
  induction n with
  | zero => intro M a0 a1 a2 a3 a4 h; exact pw_none
  | succ n ih =>
    intro M a0 a1 a2 a3 a4 h
    exact rwd_gX12_settle_80 fu k66 hk66 (fX12_settle_80 fu k66 n) (fun M a0 a1 a2 a3 a4 h => ih a0 a1 a2 a3 a4 h) a0 a1 a2 a3 a4 h
theorem rwd_gX12_settle_66 {M0 : jm_M} (fu : Nat) (k66 : jm_M → Int → Int → Int → Int → jm_R) (hk66 : ∀ (M : jm_M) (b0 b1 b2 b3 : Int), Kp RWB M0 M → pw (k66 M b0 b1 b2 b3) (Kp RWB M0)) {M : jm_M} (l1 l2 l3 l4 : Int) (h : Kp RWB M0 M) : pw (gX12_settle_66 fu k66 M l1 l2 l3 l4) (Kp RWB M0) := by
  unfold gX12_settle_66
  exact pw_ite (pw_ite (pw_b (rwd_fX12_putsBack fu l1 h) (fun v4 M5 h5 => pw_b (rwd_fX12_putsBack fu l2 h5) (fun v6 M7 h7 => rwd_fX12_settle_207 fu fu l1 l2 0 h7))) (rwd_fX12_settle_80 fu k66 hk66 fu l1 l2 l3 l4 0 h)) (pw_none)
theorem rwd_fX12_settle_66 {M0 : jm_M} (fu : Nat) : ∀ (n : Nat) {M : jm_M} (a0 a1 a2 a3 : Int), Kp RWB M0 M → pw (fX12_settle_66 fu n M a0 a1 a2 a3) (Kp RWB M0) := by
  intro n
  induction n with
  | zero => intro M a0 a1 a2 a3 h; exact pw_none
  | succ n ih =>
    intro M a0 a1 a2 a3 h
    exact rwd_gX12_settle_66 fu (fX12_settle_66 fu n) (fun M a0 a1 a2 a3 h => ih a0 a1 a2 a3 h) a0 a1 a2 a3 h
theorem rwd_fX12_settle {M0 : jm_M} (fu : Nat) {M : jm_M} (l1 l2 l3 : Int) (h : Kp RWB M0 M) : pw (fX12_settle fu M l1 l2 l3) (Kp RWB M0) := by
  unfold fX12_settle
  exact pw_s (P := Kp RWB M0) (rwb_k h (by decide)) (fun M1 h1 => pw_b (rwd_fX12_isCar  l1 h1) (fun v2 M3 h3 => pw_ite (pw_ret h3) (pw_b (rwd_fX12_isCar  l2 h3) (fun v6 M7 h7 => pw_ite (pw_ret h7) (pw_ite (pw_ret h7) (pw_b (rwd_fX12_isDay  l3 h7) (fun v11 M12 h12 => pw_ite (pw_ret h12) (pw_ite (pw_ite (pw_ret h12) (pw_ite (pw_ite (pw_ret h12) (pw_b (rwd_fX12_clears fu l1 h12) (fun v21 M22 h22 => pw_b (rwd_fX12_clears fu l2 h22) (fun v23 M24 h24 => rwd_fX12_settle_66 fu fu l1 l2 l3 0 h24)))) (pw_none))) (pw_none)))))))))
theorem rwd_gX12_knownOf_160 {M0 : jm_M} (fu : Nat) {M : jm_M} (l1 l2 l6 : Int) (h : Kp RWB M0 M) : pw (gX12_knownOf_160 fu M l1 l2 l6) (Kp RWB M0) := by
  unfold gX12_knownOf_160
  exact pw_ite (pw_ite (pw_ret h) (pw_none)) (pw_ite (pw_ret h) (pw_none))
theorem rwd_gX12_knownOf_134 {M0 : jm_M} (fu : Nat) (k134 : jm_M → Int → Int → Int → jm_R) (hk134 : ∀ (M : jm_M) (b0 b1 b2 : Int), Kp RWB M0 M → pw (k134 M b0 b1 b2) (Kp RWB M0)) {M : jm_M} (l1 l2 l6 : Int) (h : Kp RWB M0 M) : pw (gX12_knownOf_134 fu k134 M l1 l2 l6) (Kp RWB M0) := by
  unfold gX12_knownOf_134
  exact pw_ite (rwd_gX12_knownOf_160 fu l1 l2 l6 h) (pw_ite (pw_ite (pw_ite (rwd_gX12_knownOf_160 fu l1 l2 l6 h) (pw_e (fun v7 => hk134 M l1 l2 v7 h))) (pw_none)) (pw_none))
theorem rwd_fX12_knownOf_134 {M0 : jm_M} (fu : Nat) : ∀ (n : Nat) {M : jm_M} (a0 a1 a2 : Int), Kp RWB M0 M → pw (fX12_knownOf_134 fu n M a0 a1 a2) (Kp RWB M0) := by
  intro n
  induction n with
  | zero => intro M a0 a1 a2 h; exact pw_none
  | succ n ih =>
    intro M a0 a1 a2 h
    exact rwd_gX12_knownOf_134 fu (fX12_knownOf_134 fu n) (fun M a0 a1 a2 h => ih a0 a1 a2 h) a0 a1 a2 h
theorem rwd_gX12_knownOf_73 {M0 : jm_M} (fu : Nat) {M : jm_M} (l1 l2 l3 l5 : Int) (h : Kp RWB M0 M) : pw (gX12_knownOf_73 fu M l1 l2 l3 l5) (Kp RWB M0) := by
  unfold gX12_knownOf_73
  exact pw_ite (pw_ret h) (pw_ite (pw_ite (pw_ite (pw_ite (pw_ret h) (pw_none)) (rwd_fX12_knownOf_134 fu fu l1 l2 l2 h)) (pw_ret h)) (pw_none))
theorem rwd_gX12_knownOf_38 {M0 : jm_M} (fu : Nat) (k38 : jm_M → Int → Int → Int → Int → jm_R) (hk38 : ∀ (M : jm_M) (b0 b1 b2 b3 : Int), Kp RWB M0 M → pw (k38 M b0 b1 b2 b3) (Kp RWB M0)) {M : jm_M} (l1 l2 l3 l5 : Int) (h : Kp RWB M0 M) : pw (gX12_knownOf_38 fu k38 M l1 l2 l3 l5) (Kp RWB M0) := by
  unfold gX12_knownOf_38
  exact pw_ite (rwd_gX12_knownOf_73 fu l1 l2 l3 l5 h) (pw_ite (pw_ite (pw_ite (rwd_gX12_knownOf_73 fu l1 l2 l3 l5 h) (pw_e (fun v9 => hk38 M l1 l2 l3 v9 h))) (pw_none)) (pw_none))
theorem rwd_fX12_knownOf_38 {M0 : jm_M} (fu : Nat) : ∀ (n : Nat) {M : jm_M} (a0 a1 a2 a3 : Int), Kp RWB M0 M → pw (fX12_knownOf_38 fu n M a0 a1 a2 a3) (Kp RWB M0) := by
  intro n
  induction n with
  | zero => intro M a0 a1 a2 a3 h; exact pw_none
  | succ n ih =>
    intro M a0 a1 a2 a3 h
    exact rwd_gX12_knownOf_38 fu (fX12_knownOf_38 fu n) (fun M a0 a1 a2 a3 h => ih a0 a1 a2 a3 h) a0 a1 a2 a3 h
theorem rwd_fX12_knownOf {M0 : jm_M} (fu : Nat) {M : jm_M} (l1 l2 l3 : Int) (h : Kp RWB M0 M) : pw (fX12_knownOf fu M l1 l2 l3) (Kp RWB M0) := by
  unfold fX12_knownOf
  exact pw_ite (pw_e (fun v3 => pw_ite (pw_ret h) (pw_ite (pw_ite (pw_ite (pw_ret h) (rwd_fX12_knownOf_38 fu fu l1 l2 l3 l2 h)) (pw_none)) (pw_none)))) (pw_none)
theorem rwd_fX12_known {M0 : jm_M} (fu : Nat) {M : jm_M} (l1 l2 l3 l4 : Int) (h : Kp RWB M0 M) : pw (fX12_known fu M l1 l2 l3 l4) (Kp RWB M0) := by
  unfold fX12_known
  exact pw_s (P := Kp RWB M0) (rwb_k h (by decide)) (fun M1 h1 => pw_b (rwd_fX12_isCar  l1 h1) (fun v2 M3 h3 => pw_ite (pw_ret h3) (pw_b (rwd_fX12_isLap  l2 h3) (fun v6 M7 h7 => pw_ite (pw_ret h7) (pw_b (rwd_fX12_isSector  l3 h7) (fun v10 M11 h11 => pw_ite (pw_ret h11) (pw_b (rwd_fX12_in  l4 0 1 h11) (fun v14 M15 h15 => pw_ite (pw_ret h15) (pw_b (rwd_fX12_runs fu  h15) (fun v18 M19 h19 => pw_b (rwd_fX12_knownOf fu l1 (jm_w ((jm_w ((M19 0 0 1) * l2)) + l3)) l4 h19) (fun v21 M22 h22 => pw_ret h22)))))))))))
theorem rwd_fX12_ahead {M0 : jm_M} (fu : Nat) {M : jm_M} (l1 l2 l3 l4 : Int) (h : Kp RWB M0 M) : pw (fX12_ahead fu M l1 l2 l3 l4) (Kp RWB M0) := by
  unfold fX12_ahead
  exact pw_s (P := Kp RWB M0) (rwb_k h (by decide)) (fun M1 h1 => pw_b (rwd_fX12_isCar  l1 h1) (fun v2 M3 h3 => pw_ite (pw_ret h3) (pw_b (rwd_fX12_isCar  l2 h3) (fun v6 M7 h7 => pw_ite (pw_ret h7) (pw_ite (pw_ret h7) (pw_b (rwd_fX12_isLap  l3 h7) (fun v11 M12 h12 => pw_ite (pw_ret h12) (pw_b (rwd_fX12_isSector  l4 h12) (fun v15 M16 h16 => pw_ite (pw_ret h16) (pw_b (rwd_fX12_runs fu  h16) (fun v19 M20 h20 => pw_b (rwd_fX12_knownOf fu l1 (jm_w ((jm_w ((M20 0 0 1) * l3)) + l4)) 1 h20) (fun v22 M23 h23 => pw_b (rwd_fX12_knownOf fu l2 (jm_w ((jm_w ((M23 0 0 1) * l3)) + l4)) 0 h23) (fun v26 M27 h27 => pw_ite (pw_ret h27) (pw_ite (pw_ite (pw_b (rwd_fX12_truth  0 h27) (fun v32 M33 h33 => pw_ret h33)) (pw_b (rwd_fX12_truth  1 h27) (fun v35 M36 h36 => pw_ret h36))) (pw_ret h27)))))))))))))))
theorem rwd_gX12_toldLine_5 {M0 : jm_M} (fu : Nat) (k5 : jm_M → Int → Int → Int → Int → jm_R) (hk5 : ∀ (M : jm_M) (b0 b1 b2 b3 : Int), Kp RWB M0 M → pw (k5 M b0 b1 b2 b3) (Kp RWB M0)) {M : jm_M} (l1 l2 l3 l4 : Int) (h : Kp RWB M0 M) : pw (gX12_toldLine_5 fu k5 M l1 l2 l3 l4) (Kp RWB M0) := by
  unfold gX12_toldLine_5
  exact pw_ite (pw_ret h) (pw_ite (pw_e (fun v6 => pw_ite (pw_e (fun v9 => hk5 M l1 l2 l3 v9 h)) (pw_ite (pw_e (fun v12 => hk5 M l1 l2 l3 v12 h)) (pw_ite (pw_ite (pw_ite (pw_e (fun v19 => hk5 M l1 l2 l4 v19 h)) (pw_e (fun v21 => hk5 M l1 l2 l3 v21 h))) (pw_none)) (pw_none))))) (pw_none))
theorem rwd_fX12_toldLine_5 {M0 : jm_M} (fu : Nat) : ∀ (n : Nat) {M : jm_M} (a0 a1 a2 a3 : Int), Kp RWB M0 M → pw (fX12_toldLine_5 fu n M a0 a1 a2 a3) (Kp RWB M0) := by
  intro n
  induction n with
  | zero => intro M a0 a1 a2 a3 h; exact pw_none
  | succ n ih =>
    intro M a0 a1 a2 a3 h
    exact rwd_gX12_toldLine_5 fu (fX12_toldLine_5 fu n) (fun M a0 a1 a2 a3 h => ih a0 a1 a2 a3 h) a0 a1 a2 a3 h
theorem rwd_fX12_toldLine {M0 : jm_M} (fu : Nat) {M : jm_M} (l1 l2 : Int) (h : Kp RWB M0 M) : pw (fX12_toldLine fu M l1 l2) (Kp RWB M0) := by
  unfold fX12_toldLine
  exact rwd_fX12_toldLine_5 fu fu l1 l2 (-1) 0 h
theorem rwd_gX12_wall_97 {M0 : jm_M} (fu : Nat) (k57 : jm_M → Int → Int → Int → Int → Int → Int → jm_R) (hk57 : ∀ (M : jm_M) (b0 b1 b2 b3 b4 b5 : Int), Kp RWB M0 M → pw (k57 M b0 b1 b2 b3 b4 b5) (Kp RWB M0)) {M : jm_M} (l1 l2 l3 l4 l5 l6 l7 s0 : Int) (h : Kp RWB M0 M) : pw (gX12_wall_97 fu k57 M l1 l2 l3 l4 l5 l6 l7 s0) (Kp RWB M0) := by
  unfold gX12_wall_97
  exact pw_ite (pw_e (fun v2 => pw_e (fun v4 => hk57 M l1 l2 l3 l4 v2 v4 h))) (pw_ite (pw_ite (pw_e (fun v8 => pw_e (fun v10 => hk57 M l1 l2 l3 l4 v8 v10 h))) (pw_ite (pw_ite (pw_e (fun v14 => pw_e (fun v16 => hk57 M l1 l2 l3 l4 v14 v16 h))) (pw_e (fun v18 => pw_e (fun v20 => hk57 M l1 l2 l3 l4 v18 v20 h)))) (pw_e (fun v22 => pw_e (fun v24 => hk57 M l1 l2 l3 l4 v22 v24 h))))) (pw_e (fun v26 => pw_e (fun v28 => hk57 M l1 l2 l3 l4 v26 v28 h))))
theorem rwd_gX12_wall_57 {M0 : jm_M} (fu : Nat) (k57 : jm_M → Int → Int → Int → Int → Int → Int → jm_R) (hk57 : ∀ (M : jm_M) (b0 b1 b2 b3 b4 b5 : Int), Kp RWB M0 M → pw (k57 M b0 b1 b2 b3 b4 b5) (Kp RWB M0)) {M : jm_M} (l1 l2 l3 l4 l5 l6 : Int) (h : Kp RWB M0 M) : pw (gX12_wall_57 fu k57 M l1 l2 l3 l4 l5 l6) (Kp RWB M0) := by
  unfold gX12_wall_57
  exact pw_ite (pw_ret h) (pw_b (rwd_fX12_toldLine fu l6 l2 h) (fun v3 M4 h4 => pw_ite (pw_ite (rwd_gX12_wall_97 fu k57 hk57 l1 l2 l3 l4 l5 l6 v3 (M4 55 0 (jm_w ((jm_w (60 * l6)) + v3))) h4) (pw_none)) (rwd_gX12_wall_97 fu k57 hk57 l1 l2 l3 l4 l5 l6 v3 0 h4)))
theorem rwd_fX12_wall_57 {M0 : jm_M} (fu : Nat) : ∀ (n : Nat) {M : jm_M} (a0 a1 a2 a3 a4 a5 : Int), Kp RWB M0 M → pw (fX12_wall_57 fu n M a0 a1 a2 a3 a4 a5) (Kp RWB M0) := by
  intro n
  induction n with
  | zero => intro M a0 a1 a2 a3 a4 a5 h; exact pw_none
  | succ n ih =>
    intro M a0 a1 a2 a3 a4 a5 h
    exact rwd_gX12_wall_57 fu (fX12_wall_57 fu n) (fun M a0 a1 a2 a3 a4 a5 h => ih a0 a1 a2 a3 a4 a5 h) a0 a1 a2 a3 a4 a5 h
theorem rwd_fX12_wall {M0 : jm_M} (fu : Nat) {M : jm_M} (l1 l2 : Int) (h : Kp RWB M0 M) : pw (fX12_wall fu M l1 l2) (Kp RWB M0) := by
  unfold fX12_wall
  exact pw_s (P := Kp RWB M0) (rwb_k h (by decide)) (fun M1 h1 => pw_b (rwd_fX12_isCar  l1 h1) (fun v2 M3 h3 => pw_ite (pw_ret h3) (pw_ite (pw_b (rwd_fX12_runs fu  h3) (fun v7 M8 h8 => pw_b (rwd_fX12_toldLine fu l1 l2 h8) (fun v9 M10 h10 => pw_ite (pw_ite (pw_e (fun v15 => rwd_fX12_wall_57 fu fu l1 l2 v9 v15 0 0 h10)) (pw_none)) (rwd_fX12_wall_57 fu fu l1 l2 v9 0 0 0 h10)))) (pw_ret h3))))
theorem rwd_fX12_why {M0 : jm_M} (fu : Nat) {M : jm_M} (l1 l2 : Int) (h : Kp RWB M0 M) : pw (fX12_why fu M l1 l2) (Kp RWB M0) := by
  unfold fX12_why
  exact pw_s (P := Kp RWB M0) (rwb_k h (by decide)) (fun M1 h1 => pw_b (rwd_fX12_isCar  l1 h1) (fun v2 M3 h3 => pw_ite (pw_ret h3) (pw_b (rwd_fX12_isLap  l2 h3) (fun v6 M7 h7 => pw_ite (pw_ret h7) (pw_b (rwd_fX12_runs fu  h7) (fun v10 M11 h11 => pw_ite (pw_ret h11) (pw_none)))))))
theorem rwd_fX12_tyre {M0 : jm_M} {M : jm_M} (l1 l2 l3 : Int) (h : Kp RWB M0 M) : pw (fX12_tyre M l1 l2 l3) (Kp RWB M0) := by
  unfold fX12_tyre
  exact pw_s (P := Kp RWB M0) (rwb_k h (by decide)) (fun M1 h1 => pw_b (rwd_fX12_isCar  l1 h1) (fun v2 M3 h3 => pw_ite (pw_ret h3) (pw_b (rwd_fX12_in  l2 0 3 h3) (fun v6 M7 h7 => pw_ite (pw_ret h7) (pw_b (rwd_fX12_in  l3 0 100 h7) (fun v10 M11 h11 => pw_ite (pw_ret h11) (pw_ite (pw_ite (pw_ret h11) (pw_ite (pw_ite (pw_s (P := Kp RWB M0) (rwb_f h11 (by decide) (by decide)) (fun M20 h20 => pw_ite (pw_ite (pw_s (P := Kp RWB M0) (rwb_f h20 (by decide) (by decide)) (fun M24 h24 => pw_ite (pw_ite (pw_s (P := Kp RWB M0) (rwb_f h24 (by decide) (by decide)) (fun M28 h28 => pw_ite (pw_ret h28) (pw_none))) (pw_none)) (pw_none))) (pw_none)) (pw_none))) (pw_none)) (pw_none))) (pw_none))))))))
theorem rwd_gX12_order_45 {M0 : jm_M} (fu : Nat) {M : jm_M} (l1 l2 l3 l4 s0 s1 : Int) (h : Kp RWB M0 M) : pw (gX12_order_45 fu M l1 l2 l3 l4 s0 s1) (Kp RWB M0) := by
  unfold gX12_order_45
  exact pw_b (rwd_fX12_in  s1 s0 1 h) (fun v1 M2 h2 => pw_ite (pw_ret h2) (pw_ite (pw_ite (pw_ret h2) (pw_ite (pw_e (fun v10 => pw_ite (pw_s (P := Kp RWB M0) (rwb_f h2 (by decide) (by decide)) (fun M13 h13 => pw_ite (pw_s (P := Kp RWB M0) (rwb_f h13 (by decide) (by decide)) (fun M15 h15 => pw_ite (pw_s (P := Kp RWB M0) (rwb_f h15 (by decide) (by decide)) (fun M17 h17 => pw_ite (pw_ite (pw_s (P := Kp RWB M0) (rwb_f h17 (by decide) (by decide)) (fun M21 h21 => pw_ite (pw_ret h21) (pw_none))) (pw_none)) (pw_none))) (pw_none))) (pw_none))) (pw_none))) (pw_none))) (pw_none)))
theorem rwd_fX12_order {M0 : jm_M} (fu : Nat) {M : jm_M} (l1 l2 l3 l4 : Int) (h : Kp RWB M0 M) : pw (fX12_order fu M l1 l2 l3 l4) (Kp RWB M0) := by
  unfold fX12_order
  exact pw_s (P := Kp RWB M0) (rwb_k h (by decide)) (fun M1 h1 => pw_b (rwd_fX12_isCar  l1 h1) (fun v2 M3 h3 => pw_ite (pw_ret h3) (pw_b (rwd_fX12_isLap  l2 h3) (fun v6 M7 h7 => pw_ite (pw_ret h7) (pw_b (rwd_fX12_in  l3 0 1 h7) (fun v10 M11 h11 => pw_ite (pw_ret h11) (pw_ite (rwd_gX12_order_45 fu l1 l2 l3 l4 (-1) l4 h11) (rwd_gX12_order_45 fu l1 l2 l3 l4 0 l4 h11))))))))
theorem rwd_fX12_isStopLap {M0 : jm_M} {M : jm_M} (l1 : Int) (h : Kp RWB M0 M) : pw (fX12_isStopLap M l1) (Kp RWB M0) := by
  unfold fX12_isStopLap
  exact pw_b (rwd_fX12_in  l1 0 (jm_w ((M 0 0 2) - 2)) h) (fun v2 M3 h3 => pw_ite (pw_ret h3) (pw_none))
theorem rwd_fX12_isSet {M0 : jm_M} {M : jm_M} (l0 : Int) (h : Kp RWB M0 M) : pw (fX12_isSet M l0) (Kp RWB M0) := by
  unfold fX12_isSet
  exact pw_b (rwd_fX12_in  l0 (-1) 3 h) (fun v1 M2 h2 => pw_ite (pw_ret h2) (pw_none))
theorem rwd_fX12_stop {M0 : jm_M} {M : jm_M} (l1 l2 l3 l4 : Int) (h : Kp RWB M0 M) : pw (fX12_stop M l1 l2 l3 l4) (Kp RWB M0) := by
  unfold fX12_stop
  exact pw_s (P := Kp RWB M0) (rwb_k h (by decide)) (fun M1 h1 => pw_b (rwd_fX12_isCar  l1 h1) (fun v2 M3 h3 => pw_ite (pw_ret h3) (pw_b (rwd_fX12_isStopLap  l2 h3) (fun v6 M7 h7 => pw_ite (pw_ret h7) (pw_b (rwd_fX12_isSet  l3 h7) (fun v10 M11 h11 => pw_ite (pw_ret h11) (pw_b (rwd_fX12_in  l4 0 200 h11) (fun v14 M15 h15 => pw_ite (pw_ret h15) (pw_ite (pw_ite (pw_ret h15) (pw_b (rwd_fX12_puts  l1 l2 l3 l4 h15) (fun v21 M22 h22 => pw_ite (pw_ret h22) (pw_none)))) (pw_none))))))))))
theorem rwd_gX12_drop_39 {M0 : jm_M} (fu : Nat) (k39 : jm_M → Int → Int → jm_R) (hk39 : ∀ (M : jm_M) (b0 b1 : Int), Kp RWB M0 M → pw (k39 M b0 b1) (Kp RWB M0)) {M : jm_M} (l1 l3 : Int) (h : Kp RWB M0 M) : pw (gX12_drop_39 fu k39 M l1 l3) (Kp RWB M0) := by
  unfold gX12_drop_39
  exact pw_ite (pw_ite (pw_ite (pw_ite (pw_s (P := Kp RWB M0) (rwb_f h (by decide) (by decide)) (fun M7 h7 => pw_ite (pw_ret h7) (pw_none))) (pw_none)) (pw_none)) (pw_ite (pw_ite (pw_s (P := Kp RWB M0) (rwb_f h (by decide) (by decide)) (fun M13 h13 => pw_ite (pw_ite (pw_s (P := Kp RWB M0) (rwb_f h13 (by decide) (by decide)) (fun M17 h17 => pw_ite (pw_ite (pw_s (P := Kp RWB M0) (rwb_f h17 (by decide) (by decide)) (fun M21 h21 => pw_e (fun v22 => hk39 M21 l1 v22 h21))) (pw_none)) (pw_none))) (pw_none)) (pw_none))) (pw_none)) (pw_none))) (pw_none)
theorem rwd_fX12_drop_39 {M0 : jm_M} (fu : Nat) : ∀ (n : Nat) {M : jm_M} (a0 a1 : Int), Kp RWB M0 M → pw (fX12_drop_39 fu n M a0 a1) (Kp RWB M0) := by
  intro n
  induction n with
  | zero => intro M a0 a1 h; exact pw_none
  | succ n ih =>
    intro M a0 a1 h
    exact rwd_gX12_drop_39 fu (fX12_drop_39 fu n) (fun M a0 a1 h => ih a0 a1 h) a0 a1 h
theorem rwd_fX12_drop {M0 : jm_M} (fu : Nat) {M : jm_M} (l1 l2 : Int) (h : Kp RWB M0 M) : pw (fX12_drop fu M l1 l2) (Kp RWB M0) := by
  unfold fX12_drop
  exact pw_s (P := Kp RWB M0) (rwb_k h (by decide)) (fun M1 h1 => pw_b (rwd_fX12_isCar  l1 h1) (fun v2 M3 h3 => pw_ite (pw_ret h3) (pw_ite (pw_b (rwd_fX12_in  l2 0 (jm_w ((M3 26 0 l1) - 1)) h3) (fun v8 M9 h9 => pw_ite (pw_ret h9) (pw_e (fun v12 => rwd_fX12_drop_39 fu fu l1 v12 h9)))) (pw_none))))
theorem rwd_gX12_option_38 {M0 : jm_M} (fu : Nat) {M : jm_M} (l1 l2 l3 s0 : Int) (h : Kp RWB M0 M) : pw (gX12_option_38 fu M l1 l2 l3 s0) (Kp RWB M0) := by
  unfold gX12_option_38
  exact pw_ite (pw_ret h) (pw_ite (pw_ite (pw_ret h) (pw_ite (pw_ite (pw_s (P := Kp RWB M0) (rwb_f h (by decide) (by decide)) (fun M8 h8 => pw_ite (pw_ite (pw_s (P := Kp RWB M0) (rwb_f h8 (by decide) (by decide)) (fun M12 h12 => pw_ite (pw_ite (pw_s (P := Kp RWB M0) (rwb_f h12 (by decide) (by decide)) (fun M16 h16 => pw_ite (pw_ret h16) (pw_none))) (pw_none)) (pw_none))) (pw_none)) (pw_none))) (pw_none)) (pw_none))) (pw_none))
theorem rwd_fX12_option {M0 : jm_M} (fu : Nat) {M : jm_M} (l1 l2 l3 : Int) (h : Kp RWB M0 M) : pw (fX12_option fu M l1 l2 l3) (Kp RWB M0) := by
  unfold fX12_option
  exact pw_s (P := Kp RWB M0) (rwb_k h (by decide)) (fun M1 h1 => pw_b (rwd_fX12_isCar  l1 h1) (fun v2 M3 h3 => pw_ite (rwd_gX12_option_38 fu l1 l2 l3 0 h3) (pw_ite (pw_b (rwd_fX12_isSet  l3 h3) (fun v7 M8 h8 => pw_ite (rwd_gX12_option_38 fu l1 l2 l3 0 h8) (rwd_gX12_option_38 fu l1 l2 l3 1 h8))) (pw_b (rwd_fX12_isStopLap  l2 h3) (fun v11 M12 h12 => pw_ite (rwd_gX12_option_38 fu l1 l2 l3 0 h12) (pw_b (rwd_fX12_isSet  l3 h12) (fun v15 M16 h16 => pw_ite (rwd_gX12_option_38 fu l1 l2 l3 0 h16) (rwd_gX12_option_38 fu l1 l2 l3 1 h16))))))))
theorem rwd_fX12_mostOf {M0 : jm_M} {M : jm_M} (l0 : Int) (h : Kp RWB M0 M) : pw (fX12_mostOf M l0) (Kp RWB M0) := by
  unfold fX12_mostOf
  exact pw_ite (pw_ret h) (pw_ite (pw_ret h) (pw_ite (pw_ret h) (pw_ite (pw_ret h) (pw_ite (pw_ret h) (pw_ite (pw_ret h) (pw_ite (pw_ret h) (pw_ret h)))))))
theorem rwd_gX12_set_30 {M0 : jm_M} (fu : Nat) {M : jm_M} (l1 l2 s0 s1 : Int) (h : Kp RWB M0 M) : pw (gX12_set_30 fu M l1 l2 s0 s1) (Kp RWB M0) := by
  unfold gX12_set_30
  exact pw_b (rwd_fX12_mostOf  l1 h) (fun v1 M2 h2 => pw_b (rwd_fX12_in  s1 s0 v1 h2) (fun v4 M5 h5 => pw_ite (pw_ret h5) (pw_ite (pw_e (fun v10 => pw_ite (pw_s (P := Kp RWB M0) (rwb_f h5 (by decide) (by decide)) (fun M13 h13 => pw_ret h13)) (pw_none))) (pw_none))))
theorem rwd_fX12_set {M0 : jm_M} (fu : Nat) {M : jm_M} (l1 l2 : Int) (h : Kp RWB M0 M) : pw (fX12_set fu M l1 l2) (Kp RWB M0) := by
  unfold fX12_set
  exact pw_s (P := Kp RWB M0) (rwb_k h (by decide)) (fun M1 h1 => pw_b (rwd_fX12_in  l1 0 7 h1) (fun v2 M3 h3 => pw_ite (pw_ret h3) (pw_ite (rwd_gX12_set_30 fu l1 l2 100 l2 h3) (rwd_gX12_set_30 fu l1 l2 0 l2 h3))))
theorem rwd_fX12_mostOfTyres {M0 : jm_M} {M : jm_M} (l0 : Int) (h : Kp RWB M0 M) : pw (fX12_mostOfTyres M l0) (Kp RWB M0) := by
  unfold fX12_mostOfTyres
  exact pw_ite (pw_ret h) (pw_ite (pw_ret h) (pw_ite (pw_ret h) (pw_ret h)))
theorem rwd_fX12_tyres {M0 : jm_M} {M : jm_M} (l1 l2 l3 : Int) (h : Kp RWB M0 M) : pw (fX12_tyres M l1 l2 l3) (Kp RWB M0) := by
  unfold fX12_tyres
  exact pw_s (P := Kp RWB M0) (rwb_k h (by decide)) (fun M1 h1 => pw_b (rwd_fX12_in  l1 0 3 h1) (fun v2 M3 h3 => pw_ite (pw_ret h3) (pw_b (rwd_fX12_in  l2 0 5 h3) (fun v6 M7 h7 => pw_ite (pw_ret h7) (pw_b (rwd_fX12_mostOfTyres  l2 h7) (fun v10 M11 h11 => pw_b (rwd_fX12_in  l3 0 v10 h11) (fun v13 M14 h14 => pw_ite (pw_ret h14) (pw_ite (pw_e (fun v19 => pw_ite (pw_s (P := Kp RWB M0) (rwb_f h14 (by decide) (by decide)) (fun M22 h22 => pw_ret h22)) (pw_none))) (pw_none)))))))))
theorem rwd_fX12_move {M0 : jm_M} (fu : Nat) {M : jm_M} (l1 l2 l3 l4 : Int) (h : Kp RWB M0 M) : pw (fX12_move fu M l1 l2 l3 l4) (Kp RWB M0) := by
  unfold fX12_move
  exact pw_s (P := Kp RWB M0) (rwb_k h (by decide)) (fun M1 h1 => pw_b (rwd_fX12_isCar  l1 h1) (fun v2 M3 h3 => pw_ite (pw_ret h3) (pw_ite (pw_b (rwd_fX12_in  l2 0 (jm_w ((M3 26 0 l1) - 1)) h3) (fun v8 M9 h9 => pw_ite (pw_ret h9) (pw_b (rwd_fX12_isStopLap  l3 h9) (fun v12 M13 h13 => pw_ite (pw_ret h13) (pw_b (rwd_fX12_isDay  l4 h13) (fun v16 M17 h17 => pw_ite (pw_ret h17) (pw_e (fun v20 => pw_ite (pw_e (fun v24 => pw_ite (pw_s (P := Kp RWB M0) (rwb_f h17 (by decide) (by decide)) (fun M27 h27 => pw_b (rwd_fX12_judges fu l4 h27) (fun v28 M29 h29 => pw_ite (pw_s (P := Kp RWB M0) (rwb_f h29 (by decide) (by decide)) (fun M31 h31 => pw_b (rwd_fX12_placeOf fu l1 0 h31) (fun v32 M33 h33 => pw_ite (pw_ret h33) (pw_ret h33)))) (pw_none)))) (pw_none))) (pw_none))))))))) (pw_none))))
theorem rwd_gX12_count_9 {M0 : jm_M} (fu : Nat) (k9 : jm_M → Int → Int → Int → jm_R) (hk9 : ∀ (M : jm_M) (b0 b1 b2 : Int), Kp RWB M0 M → pw (k9 M b0 b1 b2) (Kp RWB M0)) {M : jm_M} (l1 l2 l3 : Int) (h : Kp RWB M0 M) : pw (gX12_count_9 fu k9 M l1 l2 l3) (Kp RWB M0) := by
  unfold gX12_count_9
  exact pw_ite (pw_ite (pw_ret h) (pw_ite (pw_ret h) (pw_ite (pw_ret h) (pw_ite (pw_ret h) (pw_ite (pw_ret h) (pw_ite (pw_ret h) (pw_ite (pw_ret h) (pw_ite (pw_ret h) (pw_ite (pw_ret h) (pw_ite (pw_ret h) (pw_ret h))))))))))) (pw_ite (pw_e (fun v24 => pw_e (fun v26 => hk9 M l1 v24 v26 h))) (pw_none))
theorem rwd_fX12_count_9 {M0 : jm_M} (fu : Nat) : ∀ (n : Nat) {M : jm_M} (a0 a1 a2 : Int), Kp RWB M0 M → pw (fX12_count_9 fu n M a0 a1 a2) (Kp RWB M0) := by
  intro n
  induction n with
  | zero => intro M a0 a1 a2 h; exact pw_none
  | succ n ih =>
    intro M a0 a1 a2 h
    exact rwd_gX12_count_9 fu (fX12_count_9 fu n) (fun M a0 a1 a2 h => ih a0 a1 a2 h) a0 a1 a2 h
theorem rwd_fX12_count {M0 : jm_M} (fu : Nat) {M : jm_M} (l1 : Int) (h : Kp RWB M0 M) : pw (fX12_count fu M l1) (Kp RWB M0) := by
  unfold fX12_count
  exact pw_s (P := Kp RWB M0) (rwb_k h (by decide)) (fun M1 h1 => rwd_fX12_count_9 fu fu l1 0 0 h1)
theorem rwd_fX12_row {M0 : jm_M} {M : jm_M} (l1 : Int) (h : Kp RWB M0 M) : pw (fX12_row M l1) (Kp RWB M0) := by
  unfold fX12_row
  exact pw_s (P := Kp RWB M0) (rwb_k h (by decide)) (fun M1 h1 => pw_b (rwd_fX12_in  l1 0 (jm_w ((M1 0 0 82) - 1)) h1) (fun v3 M4 h4 => pw_ite (pw_b (rwd_fX12_refuse   h4) (fun v7 M8 h8 => pw_ret h8)) (pw_ite (pw_ret h4) (pw_none))))
theorem rwd_fX12_lost {M0 : jm_M} {M : jm_M} (l1 l2 : Int) (h : Kp RWB M0 M) : pw (fX12_lost M l1 l2) (Kp RWB M0) := by
  unfold fX12_lost
  exact pw_s (P := Kp RWB M0) (rwb_k h (by decide)) (fun M1 h1 => pw_b (rwd_fX12_in  l1 0 (jm_w ((M1 0 0 1) - 2)) h1) (fun v3 M4 h4 => pw_ite (pw_ret h4) (pw_ite (pw_ite (pw_s (P := Kp RWB M0) (rwb_f h4 (by decide) (by decide)) (fun M8 h8 => pw_ret h8)) (pw_none)) (pw_none))))
theorem rwd_gX12_clear_34 {M0 : jm_M} (fu : Nat) (k9 : jm_M → Int → Int → jm_R) (hk9 : ∀ (M : jm_M) (b0 b1 : Int), Kp RWB M0 M → pw (k9 M b0 b1) (Kp RWB M0)) {M : jm_M} (l2 s0 s1 : Int) (h : Kp RWB M0 M) : pw (gX12_clear_34 fu k9 M l2 s0 s1) (Kp RWB M0) := by
  unfold gX12_clear_34
  exact pw_e (fun v1 => pw_ite (pw_s (P := Kp RWB M0) (rwb_f h (by decide) (by decide)) (fun M4 h4 => pw_e (fun v5 => hk9 M4 v1 v5 h4))) (pw_none))
theorem rwd_gX12_clear_9 {M0 : jm_M} (fu : Nat) (k9 : jm_M → Int → Int → jm_R) (hk9 : ∀ (M : jm_M) (b0 b1 : Int), Kp RWB M0 M → pw (k9 M b0 b1) (Kp RWB M0)) {M : jm_M} (l1 l2 : Int) (h : Kp RWB M0 M) : pw (gX12_clear_9 fu k9 M l1 l2) (Kp RWB M0) := by
  unfold gX12_clear_9
  exact pw_ite (pw_ret h) (pw_ite (rwd_gX12_clear_34 fu k9 hk9 l2 0 l1 h) (pw_ite (rwd_gX12_clear_34 fu k9 hk9 l2 (M 31 0 l2) l1 h) (pw_none)))
theorem rwd_fX12_clear_9 {M0 : jm_M} (fu : Nat) : ∀ (n : Nat) {M : jm_M} (a0 a1 : Int), Kp RWB M0 M → pw (fX12_clear_9 fu n M a0 a1) (Kp RWB M0) := by
  intro n
  induction n with
  | zero => intro M a0 a1 h; exact pw_none
  | succ n ih =>
    intro M a0 a1 h
    exact rwd_gX12_clear_9 fu (fX12_clear_9 fu n) (fun M a0 a1 h => ih a0 a1 h) a0 a1 h
theorem rwd_fX12_clear {M0 : jm_M} (fu : Nat) {M : jm_M} (h : Kp RWB M0 M) : pw (fX12_clear fu M ) (Kp RWB M0) := by
  unfold fX12_clear
  exact pw_s (P := Kp RWB M0) (rwb_k h (by decide)) (fun M1 h1 => rwd_fX12_clear_9 fu fu 0 0 h1)
theorem rwd_fX12_end {M0 : jm_M} {M : jm_M} (l1 : Int) (h : Kp RWB M0 M) : pw (fX12_end M l1) (Kp RWB M0) := by
  unfold fX12_end
  exact pw_s (P := Kp RWB M0) (rwb_k h (by decide)) (fun M1 h1 => pw_b (rwd_fX12_in  l1 0 (M1 0 0 40) h1) (fun v3 M4 h4 => pw_ite (pw_ret h4) (pw_s (P := Kp RWB M0) (rwb_k h4 (by decide)) (fun M7 h7 => pw_ret h7))))
theorem rwd_gX12_sign_18 {M0 : jm_M} (fu : Nat) (k18 : jm_M → Int → Int → jm_R) (hk18 : ∀ (M : jm_M) (b0 b1 : Int), Kp RWB M0 M → pw (k18 M b0 b1) (Kp RWB M0)) {M : jm_M} (l1 l2 : Int) (h : Kp RWB M0 M) : pw (gX12_sign_18 fu k18 M l1 l2) (Kp RWB M0) := by
  unfold gX12_sign_18
  exact pw_ite (pw_s (P := Kp RWB M0) (rwb_k h (by decide)) (fun M3 h3 => pw_ret h3)) (pw_ite (pw_s (P := Kp RWB M0) (rwb_f h (by decide) (by decide)) (fun M7 h7 => pw_e (fun v8 => hk18 M7 l1 v8 h7))) (pw_none))
theorem rwd_fX12_sign_18 {M0 : jm_M} (fu : Nat) : ∀ (n : Nat) {M : jm_M} (a0 a1 : Int), Kp RWB M0 M → pw (fX12_sign_18 fu n M a0 a1) (Kp RWB M0) := by
  intro n
  induction n with
  | zero => intro M a0 a1 h; exact pw_none
  | succ n ih =>
    intro M a0 a1 h
    exact rwd_gX12_sign_18 fu (fX12_sign_18 fu n) (fun M a0 a1 h => ih a0 a1 h) a0 a1 h
theorem rwd_fX12_sign {M0 : jm_M} (fu : Nat) {M : jm_M} (l1 : Int) (h : Kp RWB M0 M) : pw (fX12_sign fu M l1) (Kp RWB M0) := by
  unfold fX12_sign
  exact pw_s (P := Kp RWB M0) (rwb_k h (by decide)) (fun M1 h1 => pw_ite (rwd_fX12_sign_18 fu fu l1 0 h1) (pw_ret h1))
theorem rwd_gX12_unplan_27 {M0 : jm_M} (fu : Nat) {M : jm_M} (l1 s0 : Int) (h : Kp RWB M0 M) : pw (gX12_unplan_27 fu M l1 s0) (Kp RWB M0) := by
  unfold gX12_unplan_27
  exact pw_ite (pw_ite (pw_ret h) (pw_none)) (pw_ite (pw_ite (pw_s (P := Kp RWB M0) (rwb_f h (by decide) (by decide)) (fun M3 h3 => pw_ite (pw_ret h3) (pw_none))) (pw_none)) (pw_none))
theorem rwd_fX12_unplan {M0 : jm_M} (fu : Nat) {M : jm_M} (l1 : Int) (h : Kp RWB M0 M) : pw (fX12_unplan fu M l1) (Kp RWB M0) := by
  unfold fX12_unplan
  exact pw_s (P := Kp RWB M0) (rwb_k h (by decide)) (fun M1 h1 => pw_b (rwd_fX12_isCar  l1 h1) (fun v2 M3 h3 => pw_ite (rwd_gX12_unplan_27 fu l1 0 h3) (pw_ite (pw_ite (rwd_gX12_unplan_27 fu l1 0 h3) (rwd_gX12_unplan_27 fu l1 1 h3)) (pw_none))))
theorem rwd_fX12_car {M0 : jm_M} {M : jm_M} (l1 l2 l3 l4 l5 l6 : Int) (h : Kp RWB M0 M) : pw (fX12_car M l1 l2 l3 l4 l5 l6) (Kp RWB M0) := by
  unfold fX12_car
  exact pw_s (P := Kp RWB M0) (rwb_k h (by decide)) (fun M1 h1 => pw_b (rwd_fX12_in  l1 (-2000) 2000 h1) (fun v2 M3 h3 => pw_ite (pw_ret h3) (pw_b (rwd_fX12_in  l2 1 200 h3) (fun v6 M7 h7 => pw_ite (pw_ret h7) (pw_b (rwd_fX12_in  l3 1 9 h7) (fun v10 M11 h11 => pw_ite (pw_ret h11) (pw_b (rwd_fX12_in  l4 0 3 h11) (fun v14 M15 h15 => pw_ite (pw_ret h15) (pw_b (rwd_fX12_in  l5 0 1 h15) (fun v18 M19 h19 => pw_ite (pw_ret h19) (pw_b (rwd_fX12_in  l6 0 l2 h19) (fun v22 M23 h23 => pw_ite (pw_ret h23) (pw_ite (pw_ret h23) (pw_e (fun v29 => pw_ite (pw_s (P := Kp RWB M0) (rwb_f h23 (by decide) (by decide)) (fun M32 h32 => pw_ite (pw_s (P := Kp RWB M0) (rwb_f h32 (by decide) (by decide)) (fun M34 h34 => pw_ite (pw_s (P := Kp RWB M0) (rwb_f h34 (by decide) (by decide)) (fun M36 h36 => pw_ite (pw_s (P := Kp RWB M0) (rwb_f h36 (by decide) (by decide)) (fun M38 h38 => pw_ite (pw_s (P := Kp RWB M0) (rwb_f h38 (by decide) (by decide)) (fun M40 h40 => pw_ite (pw_s (P := Kp RWB M0) (rwb_f h40 (by decide) (by decide)) (fun M42 h42 => pw_ite (pw_s (P := Kp RWB M0) (rwb_f h42 (by decide) (by decide)) (fun M44 h44 => pw_ite (pw_s (P := Kp RWB M0) (rwb_f h44 (by decide) (by decide)) (fun M46 h46 => pw_ite (pw_s (P := Kp RWB M0) (rwb_f h46 (by decide) (by decide)) (fun M48 h48 => pw_ite (pw_ite (pw_s (P := Kp RWB M0) (rwb_f h48 (by decide) (by decide)) (fun M50 h50 => pw_s (P := Kp RWB M0) (rwb_k h50 (by decide)) (fun M53 h53 => pw_ret h53))) (pw_none)) (pw_none))) (pw_none))) (pw_none))) (pw_none))) (pw_none))) (pw_none))) (pw_none))) (pw_none))) (pw_none))) (pw_none))))))))))))))))
theorem rwd_gX12_lays_75 {M0 : jm_M} (fu : Nat) (k75 : jm_M → Int → jm_R) (hk75 : ∀ (M : jm_M) (b0 : Int), Kp RWB M0 M → pw (k75 M b0) (Kp RWB M0)) {M : jm_M} (l3 : Int) (h : Kp RWB M0 M) : pw (gX12_lays_75 fu k75 M l3) (Kp RWB M0) := by
  unfold gX12_lays_75
  exact pw_ite (pw_ret h) (pw_ite (pw_s (P := Kp RWB M0) (rwb_f h (by decide) (by decide)) (fun M3 h3 => pw_e (fun v4 => hk75 M3 v4 h3))) (pw_none))
theorem rwd_fX12_lays_75 {M0 : jm_M} (fu : Nat) : ∀ (n : Nat) {M : jm_M} (a0 : Int), Kp RWB M0 M → pw (fX12_lays_75 fu n M a0) (Kp RWB M0) := by
  intro n
  induction n with
  | zero => intro M a0 h; exact pw_none
  | succ n ih =>
    intro M a0 h
    exact rwd_gX12_lays_75 fu (fX12_lays_75 fu n) (fun M a0 h => ih a0 h) a0 h
theorem rwd_gX12_lays_12 {M0 : jm_M} (fu : Nat) (k12 : jm_M → Int → jm_R) (hk12 : ∀ (M : jm_M) (b0 : Int), Kp RWB M0 M → pw (k12 M b0) (Kp RWB M0)) {M : jm_M} (l3 : Int) (h : Kp RWB M0 M) : pw (gX12_lays_12 fu k12 M l3) (Kp RWB M0) := by
  unfold gX12_lays_12
  exact pw_ite (pw_s (P := Kp RWB M0) (rwb_k h (by decide)) (fun M2 h2 => pw_s (P := Kp RWB M0) (rwb_k h2 (by decide)) (fun M3 h3 => pw_s (P := Kp RWB M0) (rwb_k h3 (by decide)) (fun M4 h4 => pw_s (P := Kp RWB M0) (rwb_k h4 (by decide)) (fun M5 h5 => pw_s (P := Kp RWB M0) (rwb_k h5 (by decide)) (fun M6 h6 => rwd_fX12_lays_75 fu fu 0 h6)))))) (pw_ite (pw_s (P := Kp RWB M0) (rwb_f h (by decide) (by decide)) (fun M8 h8 => pw_ite (pw_s (P := Kp RWB M0) (rwb_f h8 (by decide) (by decide)) (fun M10 h10 => pw_ite (pw_ite (pw_s (P := Kp RWB M0) (rwb_f h10 (by decide) (by decide)) (fun M12 h12 => pw_e (fun v14 => hk12 M12 v14 h12))) (pw_none)) (pw_none))) (pw_none))) (pw_none))
theorem rwd_fX12_lays_12 {M0 : jm_M} (fu : Nat) : ∀ (n : Nat) {M : jm_M} (a0 : Int), Kp RWB M0 M → pw (fX12_lays_12 fu n M a0) (Kp RWB M0) := by
  intro n
  induction n with
  | zero => intro M a0 h; exact pw_none
  | succ n ih =>
    intro M a0 h
    exact rwd_gX12_lays_12 fu (fX12_lays_12 fu n) (fun M a0 h => ih a0 h) a0 h
theorem rwd_fX12_lays {M0 : jm_M} (fu : Nat) {M : jm_M} (l1 l2 : Int) (h : Kp RWB M0 M) : pw (fX12_lays fu M l1 l2) (Kp RWB M0) := by
  unfold fX12_lays
  exact pw_s (P := Kp RWB M0) (rwb_k h (by decide)) (fun M1 h1 => pw_s (P := Kp RWB M0) (rwb_k h1 (by decide)) (fun M2 h2 => rwd_fX12_lays_12 fu fu 0 h2))
theorem rwd_fX12_track {M0 : jm_M} (fu : Nat) {M : jm_M} (l1 l2 : Int) (h : Kp RWB M0 M) : pw (fX12_track fu M l1 l2) (Kp RWB M0) := by
  unfold fX12_track
  exact pw_s (P := Kp RWB M0) (rwb_k h (by decide)) (fun M1 h1 => pw_b (rwd_fX12_in  l1 2 5 h1) (fun v2 M3 h3 => pw_ite (pw_ret h3) (pw_b (rwd_fX12_in  l2 1 12 h3) (fun v6 M7 h7 => pw_ite (pw_ret h7) (pw_b (rwd_fX12_lays fu l1 l2 h7) (fun v10 M11 h11 => pw_ret h11))))))
theorem rwd_gX12_plan_38 {M0 : jm_M} (fu : Nat) (k38 : jm_M → Int → Int → Int → Int → jm_R) (hk38 : ∀ (M : jm_M) (b0 b1 b2 b3 : Int), Kp RWB M0 M → pw (k38 M b0 b1 b2 b3) (Kp RWB M0)) {M : jm_M} (l1 l2 l3 l4 : Int) (h : Kp RWB M0 M) : pw (gX12_plan_38 fu k38 M l1 l2 l3 l4) (Kp RWB M0) := by
  unfold gX12_plan_38
  exact pw_ite (pw_ite (pw_ite (pw_ite (pw_s (P := Kp RWB M0) (rwb_f h (by decide) (by decide)) (fun M7 h7 => pw_ite (pw_ite (pw_s (P := Kp RWB M0) (rwb_f h7 (by decide) (by decide)) (fun M9 h9 => pw_ret h9)) (pw_none)) (pw_none))) (pw_none)) (pw_none)) (pw_ite (pw_ite (pw_s (P := Kp RWB M0) (rwb_f h (by decide) (by decide)) (fun M14 h14 => pw_e (fun v15 => hk38 M14 l1 l2 l3 v15 h14))) (pw_none)) (pw_none))) (pw_none)
theorem rwd_fX12_plan_38 {M0 : jm_M} (fu : Nat) : ∀ (n : Nat) {M : jm_M} (a0 a1 a2 a3 : Int), Kp RWB M0 M → pw (fX12_plan_38 fu n M a0 a1 a2 a3) (Kp RWB M0) := by
  intro n
  induction n with
  | zero => intro M a0 a1 a2 a3 h; exact pw_none
  | succ n ih =>
    intro M a0 a1 a2 a3 h
    exact rwd_gX12_plan_38 fu (fX12_plan_38 fu n) (fun M a0 a1 a2 a3 h => ih a0 a1 a2 a3 h) a0 a1 a2 a3 h
/-! a text read by the reference -/
theorem rwe_plan (fu : Nat) (hfu : 4000 ≤ fu) {N : jm_M} (iN : bI bx2 N) (l1 : Int) : pw (fX12_plan fu N l1) (Kp RWB N) := by
  unfold fX12_plan
  refine pw_sv (fun N1 u1 => ?_)
  have k1 : Kp RWB N N1 := by rw [u1]; exact rwb_k Kp.rf (by decide)
  have j1 : bI bx2 N1 := by rw [u1]; exact bI_u iN (jm_inL (by decide) (by decide))
  refine pw_b (sn_isCar l1) (fun v2 N3 e3 => ?_)
  rw [e3]
  refine pw_ite (pw_sv (fun N6 u6 => pw_ret (by rw [u6]; exact rwb_k k1 (by decide)))) ?_
  refine pw_at (s_reads fu hfu N1 j1 16 1 ⟨by decide, by decide⟩) (fun v7 N8 q => ?_)
  have k8 : Kp RWB N N8 := k1.tr q.2.1 (fun f i k y => by unfold RWB at y; unfold TRD; omega)
  exact pw_ite (pw_ret k8) (rwd_fX12_plan_38 fu fu l1 16 v7 0 k8)
theorem rwe_rule (fu : Nat) (hfu : 4000 ≤ fu) {N : jm_M} (iN : bI bx2 N) (l1 : Int) : pw (fX12_rule fu N l1) (Kp RWB N) := by
  unfold fX12_rule
  refine pw_sv (fun N1 u1 => ?_)
  have k1 : Kp RWB N N1 := by rw [u1]; exact rwb_k Kp.rf (by decide)
  have j1 : bI bx2 N1 := by rw [u1]; exact bI_u iN (jm_inL (by decide) (by decide))
  have b72 : 0 ≤ N1 0 0 72 ∧ N1 0 0 72 ≤ 10 := j1 0 0 72
  have w : jm_w (6 + N1 0 0 72) = 6 + N1 0 0 72 := jm_wid (by omega) (by omega)
  refine pw_b (sn_isDay l1) (fun v2 N3 e3 => ?_)
  rw [e3]
  refine pw_ite (pw_sv (fun N6 u6 => pw_ret (by rw [u6]; exact rwb_k k1 (by decide)))) (pw_ite (pw_sv (fun N6 u6 => pw_ret (by rw [u6]; exact rwb_k k1 (by decide)))) ?_)
  rw [w]
  refine pw_at (s_reads fu hfu N1 j1 (6 + N1 0 0 72) 0 ⟨by omega, by omega⟩) (fun v11 N12 q => ?_)
  have k12 : Kp RWB N N12 := k1.tr q.2.1 (fun f i k y => by unfold RWB at y; unfold TRD; omega)
  exact pw_ite (pw_ite (pw_sv (fun N17 u17 => pw_sv (fun N19 u19 => pw_ret (by
    rw [u19]
    refine rwb_k ?_ (by decide)
    rw [u17]
    exact rwb_f k12 (by decide) (by decide))))) pw_none) (pw_ret k12)
def RWX (M N : jm_M) : Prop := M 0 0 9 = N 0 0 82 ∧ RW6 M N
def IY (M N : jm_M) : Prop := IX M N ∧ RWX M N
def PWR (x y : jm_R) (same : Prop) : Prop := ∃ (r : Int) (M1 : jm_M) (s : Int) (N1 : jm_M), x = some (r, M1) ∧ y = some (s, N1) ∧ IY M1 N1 ∧ (same → r = s)
theorem RWX.kp {M N M1 N1 : jm_M} (h : RWX M N) (kM : Kp RWA M M1) (kN : Kp RWB N N1) : RWX M1 N1 :=
  ⟨by rw [kM 0 0 9 (Or.inl ⟨rfl, rfl⟩), kN 0 0 82 (Or.inl ⟨rfl, rfl⟩)]; exact h.1, fun j y1 y2 => by
    rw [kM 13 0 j (Or.inr rfl), kN 69 0 j (Or.inr rfl)]
    exact h.2 j y1 y2⟩
theorem PWR.of {M N : jm_M} {x y : jm_R} {same : Prop} (p : PY x y same) (kM : pw x (Kp RWA M)) (kN : pw y (Kp RWB N)) (h : RWX M N) : PWR x y same := by
  obtain ⟨r, M1, s, N1, e1, e2, ix, q⟩ := p
  exact ⟨r, M1, s, N1, e1, e2, ⟨ix, h.kp (kM r M1 e1) (kN s N1 e2)⟩, q⟩
theorem PWR.of2 {M N : jm_M} {x y : jm_R} {same : Prop} (p : PY x y same) (t : J2 x y (fun v M1 w N1 => v = w ∧ (M 0 0 9 = N 0 0 82 ∧ RW6 M N → M1 0 0 9 = N1 0 0 82 ∧ RW6 M1 N1))) (h : RWX M N) : PWR x y same := by
  obtain ⟨r, M1, s, N1, e1, e2, ix, q⟩ := p
  exact ⟨r, M1, s, N1, e1, e2, ⟨ix, (t.at e1 e2).2 h⟩, q⟩
theorem PWR.and {x y : jm_R} {same : Prop} (p : PWR x y same) (h : J2 x y (fun v _ w _ => v = w)) : PWR x y True := by
  obtain ⟨r, M1, s, N1, e1, e2, iy, -⟩ := p
  exact ⟨r, M1, s, N1, e1, e2, iy, fun _ => h.at e1 e2⟩
/-! the counts -/
def cnX (N : jm_M) (l1 s : Int) : jm_R := if l1 = 0 then (some ((N 0 0 1), N)) else (if l1 = 1 then (some ((N 0 0 2), N)) else (if l1 = 2 then (some ((N 0 0 17), N)) else (if l1 = 3 then (some ((N 0 0 8), N)) else (if l1 = 4 then (some ((N 0 0 12), N)) else (if l1 = 5 then (some ((N 0 0 72), N)) else (if l1 = 6 then (some ((N 0 0 75), N)) else (if l1 = 7 then (some ((N 0 0 82), N)) else (if l1 = 8 then (some ((N 0 0 40), N)) else (if l1 = 9 then (some (s, N)) else (some ((-1), N)))))))))))
theorem d_count9 (fu : Nat) {N : jm_M} (iN : bI bx2 N) (l1 : Int) : ∀ (n : Nat) (l2 l3 : Int), 0 ≤ l3 → l3 ≤ N 0 0 17 → l2 = sg (fun c => N 31 0 c) l3.toNat → 0 ≤ l2 → l2 ≤ 4 * l3 → N 0 0 17 - l3 < (n : Int) → fX12_count_9 fu n N l1 l2 l3 = cnX N l1 (sg (fun c => N 31 0 c) (N 0 0 17).toNat) := by
  have b17 : 0 ≤ N 0 0 17 ∧ N 0 0 17 ≤ 6 := iN 0 0 17
  intro n
  induction n with
  | zero => intro l2 l3 _ h1 _ _ _ hm; exfalso; omega
  | succ n ih =>
    intro l2 l3 h0 h1 he h2 h3 hm
    show gX12_count_9 fu (fX12_count_9 fu n) N l1 l2 l3 = _
    unfold gX12_count_9
    by_cases c : N 0 0 17 ≤ l3
    · have e : l2 = sg (fun c => N 31 0 c) (N 0 0 17).toNat := by rw [he, show l3 = N 0 0 17 by omega]
      rw [if_pos c, e]
      rfl
    · have b : 0 ≤ N 31 0 l3 ∧ N 31 0 l3 ≤ 4 := iN 31 0 l3
      have w1 : jm_w (l2 + N 31 0 l3) = l2 + N 31 0 l3 := jm_wid (by omega) (by omega)
      have w2 : jm_w (l3 + 1) = l3 + 1 := jm_wid (by omega) (by omega)
      rw [if_neg c, if_pos (show 0 ≤ l3 ∧ l3 < 6 by omega), w1, w2, jm_ee, jm_ee]
      exact ih (l2 + N 31 0 l3) (l3 + 1) (by omega) (by omega) (by rw [sg_step _ h0, he]) (by omega) (by omega) (by omega)
theorem a_count (fu : Nat) (hfu : 4000 ≤ fu) (M N : jm_M) (iv : IW M N) (h82 : M 0 0 9 = N 0 0 82) (l1 : Int) (h1 : jm_in l1) : J2 (fX11_count fu M l1) (fX12_count fu N l1) (fun v _ w _ => v = w) := by
  have iM := iv.1.1
  have iN := iv.1.2.1
  have rr := iv.1.2.2.2
  obtain ⟨r1, r2, r3, r4, r5, r6, r7⟩ := rr.1
  have n3 : M 3 0 3 = N 0 0 72 := iv.2.2.2
  have b17 : 0 ≤ N 0 0 17 ∧ N 0 0 17 ≤ 6 := iN 0 0 17
  unfold fX11_count fX12_count
  refine J2.rs (fun N1 u1 => ?_)
  have j1 : bI bx2 N1 := by rw [u1]; exact bI_u iN (jm_inL (by decide) (by decide))
  have o : ∀ k : Int, k ≠ 0 → N1 0 0 k = N 0 0 k := fun k y => by rw [u1]; exact jm_une_k y
  have e17 : N1 0 0 17 = N 0 0 17 := o 17 (by decide)
  rw [d_count9 fu j1 l1 fu 0 0 (by decide) (by omega) rfl (by decide) (by decide) (by omega)]
  unfold cnX
  refine J2.bi Iff.rfl (fun _ => J2.ret (by rw [o 1 (by decide)]; exact r1)) (fun _ => ?_)
  refine J2.bi Iff.rfl (fun _ => J2.ret (by rw [o 2 (by decide)]; exact r2)) (fun _ => ?_)
  refine J2.bi Iff.rfl (fun _ => J2.ret (by rw [o 17 (by decide)]; exact r3)) (fun _ => ?_)
  refine J2.bi Iff.rfl (fun _ => J2.ret (by rw [o 8 (by decide)]; exact r4)) (fun _ => ?_)
  refine J2.bi Iff.rfl (fun _ => J2.ret (by rw [o 12 (by decide)]; exact r5)) (fun _ => ?_)
  refine J2.bi Iff.rfl (fun _ => J2.ret (by rw [o 72 (by decide)]; exact n3)) (fun _ => ?_)
  refine J2.bi Iff.rfl (fun _ => J2.ret (by rw [o 75 (by decide)]; exact r6)) (fun _ => ?_)
  refine J2.bi Iff.rfl (fun _ => J2.ret (by rw [o 82 (by decide)]; exact h82)) (fun _ => ?_)
  refine J2.bi Iff.rfl (fun _ => J2.ret (by rw [o 40 (by decide)]; exact r7)) (fun _ => ?_)
  refine J2.bi Iff.rfl (fun _ => ?_) (fun _ => J2.ret rfl)
  unfold fX2_optionCount
  refine J2.lq (s_count_4 fu M iM fu 0 0 (by decide) (by omega) rfl (by decide) (by decide) (by omega)) (fun v e => J2.ret ?_)
  rw [e, e17, r3]
  refine sg_congr _ (fun c y1 y2 => ?_)
  show M 10 (c + 18) 3 = N1 31 0 c
  rw [u1, jm_une_f (by decide)]
  exact (rr.2.1 c y1 (by omega)).2.2.2
/-! row -/
theorem aa_row (M N : jm_M) (iv : IW M N) (hr : RWX M N) (l1 : Int) (h1 : jm_in l1) : J2 (fX11_row M l1) (fX12_row N l1) (fun v _ w N1 => (v = 4294967296 ∧ N1 0 0 0 = 1) ∨ (jm_in v ∧ N1 0 0 0 = 0 ∧ v = w)) := by
  have iM := iv.1.1
  have iN := iv.1.2.1
  have b9 : 0 ≤ M 0 0 9 ∧ M 0 0 9 ≤ 6 := iM 0 0 9
  unfold fX11_row fX12_row
  refine J2.rs (fun N1 u1 => ?_)
  have j1 : bI bx2 N1 := by rw [u1]; exact bI_u iN (jm_inL (by decide) (by decide))
  have e82 : N1 0 0 82 = M 0 0 9 := by rw [u1, jm_une_k (by decide)]; exact hr.1.symm
  have e0 : N1 0 0 0 = 0 := by rw [u1]; exact jm_ueq
  have w : jm_w (M 0 0 9 - 1) = M 0 0 9 - 1 := jm_wid (by omega) (by omega)
  rw [e82, w]
  refine J2.lq (x_isIndex M l1 (M 0 0 9)) (fun v2 z2 => J2.rq (s_fX12_in N1 j1 l1 0 (M 0 0 9 - 1) h1 ⟨by decide, by decide⟩ ⟨by omega, by omega⟩) (fun v3 z3 => ?_))
  refine J2.bi (by omega) (fun _ => J2.ret (Or.inl ⟨rfl, (show jm_u N1 0 0 0 1 0 0 0 = 1 from jm_ueq)⟩)) (fun z => ?_)
  have hc : 0 ≤ l1 ∧ l1 < 6 := ⟨by omega, by omega⟩
  refine J2.lT hc.2 (J2.lT hc (J2.rT hc (J2.ret (Or.inr ⟨bx1_in (iM 13 0 l1), e0, ?_⟩))))
  rw [u1, jm_une_f (by decide)]
  exact hr.2 l1 hc.1 hc.2
theorem ww_sector (M N : jm_M) (h : IY M N) (l1 l2 l3 : Int) (h1 : jm_in l1) (h2 : jm_in l2) (h3 : jm_in l3) : PWR (fX11_sector M l1 l2 l3) (fX12_sector N l1 l2 l3) True := PWR.of (uu_sector M N h.1 l1 l2 l3 h1 h2 h3) (rwc_fX11_sector l1 l2 l3 Kp.rf) (rwd_fX12_sector l1 l2 l3 Kp.rf) h.2
theorem ww_rain (M N : jm_M) (h : IY M N) (l1 l2 l3 : Int) (h1 : jm_in l1) (h2 : jm_in l2) (h3 : jm_in l3) : PWR (fX11_rain M l1 l2 l3) (fX12_rain N l1 l2 l3) True := PWR.of (uu_rain M N h.1 l1 l2 l3 h1 h2 h3) (rwc_fX11_rain l1 l2 l3 Kp.rf) (rwd_fX12_rain l1 l2 l3 Kp.rf) h.2
theorem ww_flag (fu : Nat) (hfu : fu = 4000) (M N : jm_M) (h : IY M N) (l1 l2 l3 l4 : Int) (h1 : jm_in l1) (h2 : jm_in l2) (h3 : jm_in l3) (h4 : jm_in l4) : PWR (fX11_flag fu M l1 l2 l3 l4) (fX12_flag fu N l1 l2 l3 l4) True := PWR.of (uu_flag fu hfu M N h.1 l1 l2 l3 l4 h1 h2 h3 h4) (rwc_fX11_flag fu l1 l2 l3 l4 Kp.rf) (rwd_fX12_flag fu l1 l2 l3 l4 Kp.rf) h.2
theorem ww_finding (fu : Nat) (hfu : fu = 4000) (M N : jm_M) (h : IY M N) (l1 l2 l3 l4 : Int) (h1 : jm_in l1) (h2 : jm_in l2) (h3 : jm_in l3) (h4 : jm_in l4) : PWR (fX11_finding fu M l1 l2 l3 l4) (fX12_finding fu N l1 l2 l3 l4) True := PWR.of (uu_finding fu hfu M N h.1 l1 l2 l3 l4 h1 h2 h3 h4) (rwc_fX11_finding fu l1 l2 l3 l4 Kp.rf) (rwd_fX12_finding fu l1 l2 l3 l4 Kp.rf) h.2
theorem ww_of (fu : Nat) (hfu : fu = 4000) (M N : jm_M) (h : IY M N) (l1 l2 : Int) (h1 : jm_in l1) (h2 : jm_in l2) : PWR (fX11_of fu M l1 l2) (fX12_of fu N l1 l2) False := PWR.of (uu_of fu hfu M N h.1 l1 l2 h1 h2) (pw_wp (s_fX11_of fu (Nat.le_of_eq hfu.symm) M h.1.1.1.1 l1 l2 h1 h2) (fun v M1 q => q.2.1.weak (fun f i k y => by unfold RWA at y; unfold TA; omega))) (rwd_fX12_of fu l1 l2 Kp.rf) h.2
theorem ww_led (fu : Nat) (hfu : fu = 4000) (M N : jm_M) (h : IY M N) (l1 l2 : Int) (h1 : jm_in l1) (h2 : jm_in l2) : PWR (fX11_led fu M l1 l2) (fX12_led fu N l1 l2) True := PWR.of (uu_led fu hfu M N h.1 l1 l2 h1 h2) (pw_wp (s_fX11_led fu (Nat.le_of_eq hfu.symm) M h.1.1.1.1 l1 l2 h1 h2) (fun v M1 q => q.2.1.weak (fun f i k y => by unfold RWA at y; unfold TA; omega))) (rwd_fX12_led fu l1 l2 Kp.rf) h.2
theorem ww_at (fu : Nat) (hfu : fu = 4000) (M N : jm_M) (h : IY M N) (l1 l2 l3 : Int) (h1 : jm_in l1) (h2 : jm_in l2) (h3 : jm_in l3) : PWR (fX11_at fu M l1 l2 l3) (fX12_at fu N l1 l2 l3) True := PWR.of (uu_at fu hfu M N h.1 l1 l2 l3 h1 h2 h3) (pw_wp (s_fX11_at fu (Nat.le_of_eq hfu.symm) M h.1.1.1.1 l1 l2 l3 h1 h2 h3) (fun v M1 q => q.2.1.weak (fun f i k y => by unfold RWA at y; unfold TA; omega))) (rwd_fX12_at fu l1 l2 l3 Kp.rf) h.2
theorem ww_waited (fu : Nat) (hfu : fu = 4000) (M N : jm_M) (h : IY M N) (l1 : Int) (h1 : jm_in l1) : PWR (fX11_waited fu M l1) (fX12_waited fu N l1) True := PWR.of (uu_waited fu hfu M N h.1 l1 h1) (pw_wp (s_fX11_waited fu (Nat.le_of_eq hfu.symm) M h.1.1.1.1 l1 h1) (fun v M1 q => q.2.1.weak (fun f i k y => by unfold RWA at y; unfold TA; omega))) (rwd_fX12_waited fu l1 Kp.rf) h.2
theorem ww_leads (fu : Nat) (hfu : fu = 4000) (M N : jm_M) (h : IY M N) : PWR (fX11_leads fu M ) (fX12_leads fu N ) True := PWR.of (uu_leads fu hfu M N h.1 ) (pw_wp (s_fX11_leads fu (Nat.le_of_eq hfu.symm) M h.1.1.1.1 ) (fun v M1 q => q.2.1.weak (fun f i k y => by unfold RWA at y; unfold TA; omega))) (rwd_fX12_leads fu  Kp.rf) h.2
theorem ww_seconds (fu : Nat) (hfu : fu = 4000) (M N : jm_M) (h : IY M N) (l1 l2 : Int) (h1 : jm_in l1) (h2 : jm_in l2) : PWR (fX11_seconds fu M l1 l2) (fX12_seconds fu N l1 l2) True := PWR.of (uu_seconds fu hfu M N h.1 l1 l2 h1 h2) (pw_wp (s_fX11_seconds fu (Nat.le_of_eq hfu.symm) M h.1.1.1.1 l1 l2 h1 h2) (fun v M1 q => q.2.1.weak (fun f i k y => by unfold RWA at y; unfold TA; omega))) (rwd_fX12_seconds fu l1 l2 Kp.rf) h.2
theorem ww_place (fu : Nat) (hfu : fu = 4000) (M N : jm_M) (h : IY M N) (l1 l2 : Int) (h1 : jm_in l1) (h2 : jm_in l2) : PWR (fX11_place fu M l1 l2) (fX12_place fu N l1 l2) True := PWR.of (uu_place fu hfu M N h.1 l1 l2 h1 h2) (pw_wp (s_fX11_place fu (Nat.le_of_eq hfu.symm) M h.1.1.1.1 l1 l2 h1 h2) (fun v M1 q => q.2.1.weak (fun f i k y => by unfold RWA at y; unfold TA; omega))) (rwd_fX12_place fu l1 l2 Kp.rf) h.2
theorem ww_sum (fu : Nat) (hfu : fu = 4000) (M N : jm_M) (h : IY M N) (l1 l2 : Int) (h1 : jm_in l1) (h2 : jm_in l2) : PWR (fX11_sum fu M l1 l2) (fX12_sum fu N l1 l2) False := PWR.of (uu_sum fu hfu M N h.1 l1 l2 h1 h2) (pw_wp (s_fX11_sum fu (Nat.le_of_eq hfu.symm) M h.1.1.1.1 l1 l2 h1 h2) (fun v M1 q => q.2.1.weak (fun f i k y => by unfold RWA at y; unfold TA; omega))) (rwd_fX12_sum fu l1 l2 Kp.rf) h.2
theorem ww_within (fu : Nat) (hfu : fu = 4000) (M N : jm_M) (h : IY M N) (l1 l2 : Int) (h1 : jm_in l1) (h2 : jm_in l2) : PWR (fX11_within fu M l1 l2) (fX12_within fu N l1 l2) True := PWR.of (uu_within fu hfu M N h.1 l1 l2 h1 h2) (pw_wp (s_fX11_within fu (Nat.le_of_eq hfu.symm) M h.1.1.1.1 l1 l2 h1 h2) (fun v M1 q => q.2.1.weak (fun f i k y => by unfold RWA at y; unfold TA; omega))) (rwd_fX12_within fu l1 l2 Kp.rf) h.2
theorem ww_result (fu : Nat) (hfu : fu = 4000) (M N : jm_M) (h : IY M N) (l1 : Int) (h1 : jm_in l1) : PWR (fX11_result fu M l1) (fX12_result fu N l1) True := by
  subst hfu
  exact PWR.of2 (uu_result 4000 rfl M N h.1 l1 h1) (aw_result 4000 (by decide) M N h.1.1 h.1.2.1 h.1.2.2.1 h.1.2.2.2.2 l1 h1) h.2
theorem ww_best (fu : Nat) (hfu : fu = 4000) (M N : jm_M) (h : IY M N) (l1 l2 l3 : Int) (h1 : jm_in l1) (h2 : jm_in l2) (h3 : jm_in l3) : PWR (fX11_best fu M l1 l2 l3) (fX12_best fu N l1 l2 l3) True := by
  subst hfu
  exact PWR.of2 (uu_best 4000 rfl M N h.1 l1 l2 l3 h1 h2 h3) (aw_best 4000 (by decide) M N h.1.1 h.1.2.1 h.1.2.2.1 h.1.2.2.2.2 l1 l2 l3 h1 h2 h3) h.2
theorem ww_gain (fu : Nat) (hfu : fu = 4000) (M N : jm_M) (h : IY M N) (l1 l2 l3 : Int) (h1 : jm_in l1) (h2 : jm_in l2) (h3 : jm_in l3) : PWR (fX11_gain fu M l1 l2 l3) (fX12_gain fu N l1 l2 l3) True := PWR.of (uu_gain fu hfu M N h.1 l1 l2 l3 h1 h2 h3) (pw_wp (s_fX11_gain fu (Nat.le_of_eq hfu.symm) M h.1.1.1.1 l1 l2 l3 h1 h2 h3) (fun v M1 q => q.2.1.weak (fun f i k y => by unfold RWA at y; unfold TAM; omega))) (rwd_fX12_gain fu l1 l2 l3 Kp.rf) h.2
theorem ww_settle (fu : Nat) (hfu : fu = 4000) (M N : jm_M) (h : IY M N) (l1 l2 l3 : Int) (h1 : jm_in l1) (h2 : jm_in l2) (h3 : jm_in l3) : PWR (fX11_settle fu M l1 l2 l3) (fX12_settle fu N l1 l2 l3) False := PWR.of (uu_settle fu hfu M N h.1 l1 l2 l3 h1 h2 h3) (pw_wp (s_fX11_settle fu (Nat.le_of_eq hfu.symm) M h.1.1.1.1 l1 l2 l3 h1 h2 h3) (fun v M1 q => q.2.1.weak (fun f i k y => by unfold RWA at y; unfold TAM; omega))) (rwd_fX12_settle fu l1 l2 l3 Kp.rf) h.2
theorem ww_known (fu : Nat) (hfu : fu = 4000) (M N : jm_M) (h : IY M N) (l1 l2 l3 l4 : Int) (h1 : jm_in l1) (h2 : jm_in l2) (h3 : jm_in l3) (h4 : jm_in l4) : PWR (fX11_known fu M l1 l2 l3 l4) (fX12_known fu N l1 l2 l3 l4) True := PWR.of (uu_known fu hfu M N h.1 l1 l2 l3 l4 h1 h2 h3 h4) (pw_wp (s_fX11_known fu (Nat.le_of_eq hfu.symm) M h.1.1.1.1 l1 l2 l3 l4 h1 h2 h3 h4) (fun v M1 q => q.2.1.weak (fun f i k y => by unfold RWA at y; unfold TA; omega))) (rwd_fX12_known fu l1 l2 l3 l4 Kp.rf) h.2
theorem ww_ahead (fu : Nat) (hfu : fu = 4000) (M N : jm_M) (h : IY M N) (l1 l2 l3 l4 : Int) (h1 : jm_in l1) (h2 : jm_in l2) (h3 : jm_in l3) (h4 : jm_in l4) : PWR (fX11_ahead fu M l1 l2 l3 l4) (fX12_ahead fu N l1 l2 l3 l4) True := PWR.of (uu_ahead fu hfu M N h.1 l1 l2 l3 l4 h1 h2 h3 h4) (pw_wp (s_fX11_ahead fu (Nat.le_of_eq hfu.symm) M h.1.1.1.1 l1 l2 l3 l4 h1 h2 h3 h4) (fun v M1 q => q.2.1.weak (fun f i k y => by unfold RWA at y; unfold TA; omega))) (rwd_fX12_ahead fu l1 l2 l3 l4 Kp.rf) h.2
theorem ww_wall (fu : Nat) (hfu : fu = 4000) (M N : jm_M) (h : IY M N) (l1 l2 : Int) (h1 : jm_in l1) (h2 : jm_in l2) : PWR (fX11_wall fu M l1 l2) (fX12_wall fu N l1 l2) True := PWR.of (uu_wall fu hfu M N h.1 l1 l2 h1 h2) (pw_wp (s_fX11_wall fu (Nat.le_of_eq hfu.symm) M h.1.1.1.1 l1 l2 h1 h2) (fun v M1 q => q.2.1.weak (fun f i k y => by unfold RWA at y; unfold TA; omega))) (rwd_fX12_wall fu l1 l2 Kp.rf) h.2
theorem ww_why (fu : Nat) (hfu : fu = 4000) (M N : jm_M) (h : IY M N) (l1 l2 : Int) (h1 : jm_in l1) (h2 : jm_in l2) : PWR (fX11_why fu M l1 l2) (fX12_why fu N l1 l2) True := PWR.of (uu_why fu hfu M N h.1 l1 l2 h1 h2) (pw_wp (s_fX11_why fu (Nat.le_of_eq hfu.symm) M h.1.1.1.1 l1 l2 h1 h2) (fun v M1 q => q.2.1.weak (fun f i k y => by unfold RWA at y; unfold TA; omega))) (rwd_fX12_why fu l1 l2 Kp.rf) h.2
theorem ww_tyre (M N : jm_M) (h : IY M N) (l1 l2 l3 : Int) (h1 : jm_in l1) (h2 : jm_in l2) (h3 : jm_in l3) : PWR (fX11_tyre M l1 l2 l3) (fX12_tyre N l1 l2 l3) True := PWR.of (uu_tyre M N h.1 l1 l2 l3 h1 h2 h3) (rwc_fX11_tyre l1 l2 l3 Kp.rf) (rwd_fX12_tyre l1 l2 l3 Kp.rf) h.2
theorem ww_order (fu : Nat) (hfu : fu = 4000) (M N : jm_M) (h : IY M N) (l1 l2 l3 l4 : Int) (h1 : jm_in l1) (h2 : jm_in l2) (h3 : jm_in l3) (h4 : jm_in l4) : PWR (fX11_order fu M l1 l2 l3 l4) (fX12_order fu N l1 l2 l3 l4) True := PWR.of (uu_order fu hfu M N h.1 l1 l2 l3 l4 h1 h2 h3 h4) (rwc_fX11_order fu l1 l2 l3 l4 Kp.rf) (rwd_fX12_order fu l1 l2 l3 l4 Kp.rf) h.2
theorem ww_stop (M N : jm_M) (h : IY M N) (l1 l2 l3 l4 : Int) (h1 : jm_in l1) (h2 : jm_in l2) (h3 : jm_in l3) (h4 : jm_in l4) : PWR (fX11_stop M l1 l2 l3 l4) (fX12_stop N l1 l2 l3 l4) True := PWR.of (uu_stop M N h.1 l1 l2 l3 l4 h1 h2 h3 h4) (rwc_fX11_stop l1 l2 l3 l4 Kp.rf) (rwd_fX12_stop l1 l2 l3 l4 Kp.rf) h.2
theorem ww_drop (fu : Nat) (hfu : fu = 4000) (M N : jm_M) (h : IY M N) (l1 l2 : Int) (h1 : jm_in l1) (h2 : jm_in l2) : PWR (fX11_drop fu M l1 l2) (fX12_drop fu N l1 l2) True := PWR.of (uu_drop fu hfu M N h.1 l1 l2 h1 h2) (rwc_fX11_drop fu l1 l2 Kp.rf) (rwd_fX12_drop fu l1 l2 Kp.rf) h.2
theorem ww_option (fu : Nat) (hfu : fu = 4000) (M N : jm_M) (h : IY M N) (l1 l2 l3 : Int) (h1 : jm_in l1) (h2 : jm_in l2) (h3 : jm_in l3) : PWR (fX11_option M l1 l2 l3) (fX12_option fu N l1 l2 l3) True := PWR.of (uu_option fu hfu M N h.1 l1 l2 l3 h1 h2 h3) (rwc_fX11_option l1 l2 l3 Kp.rf) (rwd_fX12_option fu l1 l2 l3 Kp.rf) h.2
theorem ww_set (fu : Nat) (hfu : fu = 4000) (M N : jm_M) (h : IY M N) (l1 l2 : Int) (h1 : jm_in l1) (h2 : jm_in l2) : PWR (fX11_set M l1 l2) (fX12_set fu N l1 l2) True := PWR.of (uu_set fu hfu M N h.1 l1 l2 h1 h2) (rwc_fX11_set l1 l2 Kp.rf) (rwd_fX12_set fu l1 l2 Kp.rf) h.2
theorem ww_tyres (M N : jm_M) (h : IY M N) (l1 l2 l3 : Int) (h1 : jm_in l1) (h2 : jm_in l2) (h3 : jm_in l3) : PWR (fX11_tyres M l1 l2 l3) (fX12_tyres N l1 l2 l3) True := PWR.of (uu_tyres M N h.1 l1 l2 l3 h1 h2 h3) (rwc_fX11_tyres l1 l2 l3 Kp.rf) (rwd_fX12_tyres l1 l2 l3 Kp.rf) h.2
theorem ww_move (fu : Nat) (hfu : fu = 4000) (M N : jm_M) (h : IY M N) (l1 l2 l3 l4 : Int) (h1 : jm_in l1) (h2 : jm_in l2) (h3 : jm_in l3) (h4 : jm_in l4) : PWR (fX11_move fu M l1 l2 l3 l4) (fX12_move fu N l1 l2 l3 l4) True := PWR.of (uu_move fu hfu M N h.1 l1 l2 l3 l4 h1 h2 h3 h4) (rwc_fX11_move fu l1 l2 l3 l4 Kp.rf) (rwd_fX12_move fu l1 l2 l3 l4 Kp.rf) h.2
theorem ww_count (fu : Nat) (hfu : fu = 4000) (M N : jm_M) (h : IY M N) (l1 : Int) (h1 : jm_in l1) : PWR (fX11_count fu M l1) (fX12_count fu N l1) True := (PWR.of (uu_count fu hfu M N h.1 l1 h1) (rwc_fX11_count fu l1 Kp.rf) (rwd_fX12_count fu l1 Kp.rf) h.2).and (a_count fu (Nat.le_of_eq hfu.symm) M N h.1.1 h.2.1 l1 h1)
theorem ww_row (M N : jm_M) (h : IY M N) (l1 : Int) (h1 : jm_in l1) : PWR (fX11_row M l1) (fX12_row N l1) False := PWR.of (uu_row M N h.1 l1 h1) (rwc_fX11_row l1 Kp.rf) (rwd_fX12_row l1 Kp.rf) h.2
theorem ww_lost (M N : jm_M) (h : IY M N) (l1 l2 : Int) (h1 : jm_in l1) (h2 : 0 ≤ l2 ∧ l2 ≤ 1) : PWR (fX11_lost M l1 l2) (fX12_lost N l1 l2) True := PWR.of (uu_lost M N h.1 l1 l2 h1 h2) (rwc_fX11_lost l1 l2 Kp.rf) (rwd_fX12_lost l1 l2 Kp.rf) h.2
theorem ww_clear (fu : Nat) (hfu : fu = 4000) (M N : jm_M) (h : IY M N) : PWR (fX11_clear fu M) (fX12_clear fu N) True := PWR.of (uu_clear fu hfu M N h.1 ) (rwc_fX11_clear fu  Kp.rf) (rwd_fX12_clear fu  Kp.rf) h.2
theorem ww_end (M N : jm_M) (h : IY M N) (l1 : Int) (h1 : jm_in l1) : PWR (fX11_end M l1) (fX12_end N l1) True := PWR.of (uu_end M N h.1 l1 h1) (rwc_fX11_end l1 Kp.rf) (rwd_fX12_end l1 Kp.rf) h.2
theorem ww_sign (fu : Nat) (hfu : fu = 4000) (M N : jm_M) (h : IY M N) (l1 : Int) (h1 : jm_in l1) : PWR (fX11_sign fu M l1) (fX12_sign fu N l1) True := PWR.of (uu_sign fu hfu M N h.1 l1 h1) (rwc_fX11_sign fu l1 Kp.rf) (rwd_fX12_sign fu l1 Kp.rf) h.2
theorem ww_unplan (fu : Nat) (hfu : fu = 4000) (M N : jm_M) (h : IY M N) (l1 : Int) (h1 : jm_in l1) : PWR (fX11_unplan M l1) (fX12_unplan fu N l1) True := PWR.of (uu_unplan fu hfu M N h.1 l1 h1) (rwc_fX11_unplan l1 Kp.rf) (rwd_fX12_unplan fu l1 Kp.rf) h.2
theorem ww_plan (fu : Nat) (hfu : fu = 4000) (M N : jm_M) (h : IY M N) (l1 : Int) (h1 : jm_in l1) : PWR (fX11_plan fu M l1) (fX12_plan fu N l1) True := PWR.of (uu_plan fu hfu M N h.1 l1 h1) (rwc_fX11_plan fu l1 Kp.rf) (rwe_plan fu (Nat.le_of_eq hfu.symm) h.1.1.1.2.1 l1) h.2
theorem ww_rule (fu : Nat) (hfu : fu = 4000) (M N : jm_M) (h : IY M N) (l1 : Int) (h1 : jm_in l1) : PWR (fX11_rule fu M l1) (fX12_rule fu N l1) True := PWR.of (uu_rule fu hfu M N h.1 l1 h1) (rwc_fX11_rule fu l1 Kp.rf) (rwe_rule fu (Nat.le_of_eq hfu.symm) h.1.1.1.2.1 l1) h.2
theorem ww_car (M N : jm_M) (h : IY M N) (l1 l2 l3 l4 l5 l6 : Int) (h1 : jm_in l1) (h2 : jm_in l2) (h3 : jm_in l3) (h4 : jm_in l4) (h5 : jm_in l5) (h6 : jm_in l6) : PWR (fX11_car M l1 l2 l3 l4 l5 l6) (fX12_car N l1 l2 l3 l4 l5 l6) True := PWR.of (uu_car M N h.1 l1 l2 l3 l4 l5 l6 h1 h2 h3 h4 h5 h6) (rwc_fX11_car l1 l2 l3 l4 l5 l6 Kp.rf) (rwd_fX12_car l1 l2 l3 l4 l5 l6 Kp.rf) h.2
theorem ww_track (fu : Nat) (hfu : fu = 4000) (M N : jm_M) (h : IY M N) (l1 l2 : Int) (h1 : jm_in l1) (h2 : jm_in l2) : PWR (fX11_track fu M l1 l2) (fX12_track fu N l1 l2) True := PWR.of (uu_track fu hfu M N h.1 l1 l2 h1 h2) (rwc_fX11_track fu l1 l2 Kp.rf) (rwd_fX12_track fu l1 l2 Kp.rf) h.2
/-- row, a number or thrown -/
theorem wt_row (M N : jm_M) (h : IY M N) (l1 : Int) (h1 : jm_in l1) : PT IY (fX11_row M l1) (fX12_row N l1) := by
  obtain ⟨r, M1, s, N1, e1, e2, iy, -⟩ := ww_row M N h l1 h1
  exact ⟨r, M1, s, N1, e1, e2, iy, (aa_row M N h.1.1 h.2 l1 h1).at e1 e2⟩
