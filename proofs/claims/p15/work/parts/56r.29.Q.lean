/-! a car goes on -/
theorem run_fin {M N M1 N1 : jm_M} {c : Int} (h : RUN M N) (k1 : Kp (KG1 c) M M1) (k2 : Kp (KG2 c) N N1) (b17 : N 0 0 17 ≤ 6) (b4 : ∀ o : Int, N 19 0 o ≤ 4) (ht : N 0 0 70 ≤ N1 0 0 70) (e6 : M1 2 0 6 = N1 0 0 70) (bx : ∀ t : Int, 0 ≤ t → t < 4 → M1 34 0 t = N1 58 0 t ∧ 0 ≤ N1 58 0 t ∧ N1 58 0 t ≤ BB N1) (rc : RUNc M1 N1 c ∧ INVc N1 c) (rtc : (M1 9 c 2 = N1 43 0 c ∧ 0 ≤ N1 43 0 c ∧ N1 43 0 c ≤ 60) ∧ ∀ g : Int, 0 ≤ g → g < 60 → (g < N1 43 0 c → N1 55 0 (60 * c + g) = M1 30 c g ∧ 0 ≤ M1 30 c g) ∧ (N1 43 0 c ≤ g → N1 55 0 (60 * c + g) = -1)) : RUN M1 N1 := by
  have n17 : N1 0 0 17 = N 0 0 17 := k2 0 0 17 (by unfold KG2; omega)
  have ot := run_others h k1 k2 b17 b4 ht
  refine ⟨⟨e6, by have := h.1.2; omega⟩, bx, fun o y1 y2 => ?_, fun o y1 y2 => ?_⟩
  · rw [n17] at y2
    by_cases q : o = c
    · rw [q]; exact rtc
    · exact (ot o y1 y2 q).2
  · rw [n17] at y2
    by_cases q : o = c
    · rw [q]; exact rc
    · exact (ot o y1 y2 q).1
theorem c_sectorOf (M : jm_M) (g : Int) (h : 0 < M 1 0 0) : wp (fX9_sectorOf M g) (fun v M1 => M1 = M ∧ v = jm_mod g (M 1 0 0)) := by
  unfold fX9_sectorOf
  exact wp_F (by omega) (wp_T (by omega) (wp_ret ⟨rfl, rfl⟩))
theorem c_lapOf (M : jm_M) (g : Int) (h : 0 < M 1 0 0) : wp (fX9_lapOf M g) (fun v M1 => M1 = M ∧ v = jm_div g (M 1 0 0)) := by
  unfold fX9_lapOf
  exact wp_F (by omega) (wp_T (by omega) (wp_ret ⟨rfl, rfl⟩))
/-- line, lap and sector -/
theorem line_ls {g s n : Int} (hs : 2 ≤ s ∧ s ≤ 5) (hg : 0 ≤ g ∧ g < s * n) (hn : 1 ≤ n ∧ n ≤ 12) : (0 ≤ jm_mod g s ∧ jm_mod g s < s) ∧ (0 ≤ jm_div g s ∧ jm_div g s < n) ∧ g = s * jm_div g s + jm_mod g s := by
  have b2 : s * n ≤ 5 * 12 := Int.mul_le_mul hs.2 hn.2 (by omega) (by omega)
  have em : jm_mod g s = g % s := by
    unfold jm_mod
    exact Int.tmod_eq_emod_of_nonneg hg.1
  have ed : jm_div g s = g / s := by
    unfold jm_div
    have e : g.tdiv s = g / s := Int.tdiv_eq_ediv_of_nonneg hg.1
    have h1 : 0 ≤ g / s := Int.ediv_nonneg hg.1 (by omega)
    have h2 : g / s ≤ g := Int.ediv_le_self s hg.1
    rw [e, jm_wid (by omega) (by omega)]
  have h3 : s * (g / s) + g % s = g := Int.mul_ediv_add_emod g s
  have h4 : 0 ≤ g % s := Int.emod_nonneg g (by omega)
  have h5 : g % s < s := Int.emod_lt_of_pos g (by omega)
  have h6 : 0 ≤ g / s := Int.ediv_nonneg hg.1 (by omega)
  have h7 : g / s < n := Int.ediv_lt_of_lt_mul (by omega) (by rw [Int.mul_comm]; exact hg.2)
  rw [em, ed]
  exact ⟨⟨h4, h5⟩, ⟨h6, h7⟩, by omega⟩
/-- what holds of both before a car's turn, and after it -/
def GO (M N : jm_M) (c : Int) (M1 N1 : jm_M) : Prop := (bI bx1 M1 ∧ bI bx2 N1) ∧ TLD M1 N1 ∧ RUN M1 N1 ∧ Kp (KG1 c) M M1 ∧ Kp (KG2 c) N N1 ∧ N1 42 0 c = N 42 0 c + 1 ∧ N1 0 0 70 ≤ N 0 0 70 + 1 ∧ GRO N N1 c
theorem TDr.wetb {M N : jm_M} (h : TDr M N) : WETB N := fun j y1 y2 => (h.2 j y1 y2).2.2.2.2
theorem jm_ix4 {c k : Int} (hc : 0 ≤ c ∧ c < 6) (hk : 0 ≤ k ∧ k < 4) : jm_w (jm_w (4 * c) + k) = 4 * c + k := by rw [jm_wid (x := 4 * c) (by omega) (by omega)]; exact jm_wid (by omega) (by omega)
theorem jm_ix5 {c k : Int} (hc : 0 ≤ c ∧ c < 6) (hk : 0 ≤ k ∧ k < 5) : jm_w (jm_w (5 * c) + k) = 5 * c + k := by rw [jm_wid (x := 5 * c) (by omega) (by omega)]; exact jm_wid (by omega) (by omega)
theorem jm_ix60 {c k : Int} (hc : 0 ≤ c ∧ c < 6) (hk : 0 ≤ k ∧ k < 60) : jm_w (jm_w (60 * c) + k) = 60 * c + k := by rw [jm_wid (x := 60 * c) (by omega) (by omega)]; exact jm_wid (by omega) (by omega)
theorem jm_b4 {c k : Int} (hc : 0 ≤ c ∧ c < 6) (hk : 0 ≤ k ∧ k < 4) : 0 ≤ 4 * c + k ∧ 4 * c + k < 24 := by omega
theorem jm_b5 {c k : Int} (hc : 0 ≤ c ∧ c < 6) (hk : 0 ≤ k ∧ k < 5) : 0 ≤ 5 * c + k ∧ 5 * c + k < 30 := by omega
theorem jm_b60 {c k : Int} (hc : 0 ≤ c ∧ c < 6) (hk : 0 ≤ k ∧ k < 60) : 0 ≤ 60 * c + k ∧ 60 * c + k < 360 := by omega
theorem inc_b {sl inc md : Int} (hsl : sl = 0 ∨ sl = 1) (e : (sl = 0 → (md = -1 → inc = 2) ∧ (md ≠ -1 → inc = 1)) ∧ (sl = 1 → inc = 0)) : 0 ≤ inc ∧ inc ≤ 2 := by
  rcases hsl with z | z
  · by_cases z2 : md = -1
    · have := (e.1 z).1 z2; omega
    · have := (e.1 z).2 z2; omega
  · have := e.2 z; omega
theorem inc_w {a inc t : Int} (ib : 0 ≤ a ∧ a ≤ 100 + 2 * t) (hinc : 0 ≤ inc ∧ inc ≤ 2) (ht : 0 ≤ t ∧ t ≤ 360) : 0 ≤ jm_w (a + inc) ∧ jm_w (a + inc) ≤ 100 + 2 * (t + 1) := by
  rw [jm_wid (by omega) (by omega)]
  omega
theorem KLx.tl {c s g : Int} {f : Nat} {j k : Int} (y : TD1 f j k) : KL1 c s g f j k ∧ KH1 c f j k := by
  unfold TD1 at y
  unfold KL1 KH1
  omega
theorem KLx.n26 {f : Nat} {j k : Int} (y : (f = 10 ∧ j = 31) ∨ (f = 19 ∧ j = 31)) : ¬ (f = 2 ∧ j = 0 ∧ k = 6) := by omega
theorem lt1 (a : Int) : a < a + 1 := by omega
theorem ltne {a b : Int} (h : a < b + 1) (q : a ≠ b) : a < b := by omega
theorem nle1 (a : Int) : ¬ a + 1 ≤ a := by omega
theorem e300 (b : Int) : b + 180000 + 120000 = b + 300000 := by omega
theorem KLx.t26 {f : Nat} {j k : Int} (y : TD1 f j k) : ¬ (f = 2 ∧ j = 0 ∧ k = 6) := by
  unfold TD1 at y
  omega
theorem KLx.np {Ne Nh Nj Nk Nl Nm Nn No Np : jm_M} {c g i on a46 a56 a57 a70 a55 a43 a41 : Int} {f : Nat} {j k : Int} (y : TD2 f j k) (kh2 : Kp (KH2 c) Ne Nh) (uj : Nj = jm_u Nh 46 0 (4 * c + on) a46) (uk : Nk = jm_u Nj 56 0 (5 * c + i) a56) (ul : Nl = jm_u Nk 57 0 (5 * c + i) a57) (um : Nm = jm_u Nl 0 0 70 a70) (un : Nn = jm_u Nm 55 0 (60 * c + g) a55) (uo : No = jm_u Nn 43 0 c a43) (up : Np = jm_u No 41 0 c a41) : Np f j k = Ne f j k := by
  unfold TD2 at y
  rw [up, jm_une (by omega), uo, jm_une (by omega), un, jm_une (by omega), um, jm_une (by omega), ul, jm_une (by omega), uk, jm_une (by omega), uj, jm_une (by omega), kh2 f j k (by unfold KH2; omega)]
/-- cells that a car's line leaves as they were -/
def FM (c g i on : Int) (f : Nat) (j k : Int) : Prop := ¬ (f = 9 ∧ j = c) ∧ ¬ (f = 29 ∧ j = c ∧ k = on) ∧ ¬ (f = 30 ∧ j = c ∧ k = g) ∧ ¬ ((f = 32 ∨ f = 33) ∧ j = c ∧ k = i) ∧ ¬ (f = 2 ∧ j = 0 ∧ k = 6)
def FN (c g i on : Int) (f : Nat) (j k : Int) : Prop := ¬ (((39 ≤ f ∧ f ≤ 45) ∨ (47 ≤ f ∧ f ≤ 54)) ∧ j = 0 ∧ k = c) ∧ ¬ (f = 46 ∧ j = 0 ∧ k = 4 * c + on) ∧ ¬ ((f = 56 ∨ f = 57) ∧ j = 0 ∧ k = 5 * c + i) ∧ ¬ (f = 55 ∧ j = 0 ∧ k = 60 * c + g) ∧ ¬ (f = 0 ∧ j = 0 ∧ k = 70)
theorem FM.kg {c g i on : Int} {f : Nat} {j k : Int} (y : KG1 c f j k) : FM c g i on f j k := by
  unfold KG1 at y
  unfold FM
  omega
theorem FN.kg {c g i on : Int} {f : Nat} {j k : Int} (h1 : 0 ≤ on ∧ on < 4) (h2 : 0 ≤ i ∧ i < 5) (h3 : 0 ≤ g ∧ g < 60) (y : KG2 c f j k) : FN c g i on f j k := by
  unfold KG2 at y
  unfold FN
  omega
theorem FM.a29 {c g i on k : Int} (h : k ≠ on) : FM c g i on 29 c k := by unfold FM; omega
theorem FM.a30 {c g i on k : Int} (h : k ≠ g) : FM c g i on 30 c k := by unfold FM; omega
theorem FM.a31 {c g i on k : Int} : FM c g i on 31 c k := by unfold FM; omega
theorem FM.a32 {c g i on k : Int} (h : k ≠ i) : FM c g i on 32 c k ∧ FM c g i on 33 c k := by unfold FM; omega
theorem FM.a34 {c g i on k : Int} : FM c g i on 34 0 k := by unfold FM; omega
theorem FN.a46 {c g i on k : Int} (h : k ≠ on) : FN c g i on 46 0 (4 * c + k) := by unfold FN; omega
theorem FN.a55 {c g i on k : Int} (h : k ≠ g) : FN c g i on 55 0 (60 * c + k) := by unfold FN; omega
theorem FN.a56 {c g i on k : Int} (h : k ≠ i) : FN c g i on 56 0 (5 * c + k) ∧ FN c g i on 57 0 (5 * c + k) := by unfold FN; omega
theorem FN.a59 {c g i on k : Int} : FN c g i on 59 0 k ∧ FN c g i on 58 0 k := by unfold FN; omega
theorem FM.mk {M Mf Mg Mh Mi : jm_M} {c g i on x : Int} (oM : ∀ (f : Nat) (j k : Int), ¬ (f = 9 ∧ j = c ∧ (k = 1 ∨ k = 6 ∨ k = 8 ∨ k = 13 ∨ k = 14)) → ¬ (f = 29 ∧ j = c ∧ k = on) → Mf f j k = M f j k) (ug : Mg = jm_u Mf 2 0 6 x) (kh1 : Kp (KH1 c) Mg Mh) (ki : Kp (KL1 c i g) Mh Mi) : Kp (FM c g i on) M Mi := fun f j k y => by
  unfold FM at y
  rw [ki f j k (by unfold KL1; omega), kh1 f j k (by unfold KH1; omega), ug, jm_une y.2.2.2.2]
  exact oM f j k (by omega) y.2.1
theorem FN.mk {N Ne Nh Nj Nk Nl Nm Nn No Np : jm_M} {c g i on a46 a56 a57 a70 a55 a43 a41 : Int} (oN : ∀ (f : Nat) (j k : Int), ¬ ((f = 42 ∨ f = 50 ∨ f = 47 ∨ f = 48 ∨ f = 44) ∧ j = 0 ∧ k = c) → Ne f j k = N f j k) (kh2 : Kp (KH2 c) Ne Nh) (uj : Nj = jm_u Nh 46 0 (4 * c + on) a46) (uk : Nk = jm_u Nj 56 0 (5 * c + i) a56) (ul : Nl = jm_u Nk 57 0 (5 * c + i) a57) (um : Nm = jm_u Nl 0 0 70 a70) (un : Nn = jm_u Nm 55 0 (60 * c + g) a55) (uo : No = jm_u Nn 43 0 c a43) (up : Np = jm_u No 41 0 c a41) : Kp (FN c g i on) N Np := fun f j k y => by
  unfold FN at y
  rw [up, jm_une (by omega), uo, jm_une (by omega), un, jm_une (by omega), um, jm_une (by omega), ul, jm_une (by omega), uk, jm_une (by omega), uj, jm_une (by omega), kh2 f j k (by unfold KH2; omega)]
  exact oN f j k (by omega)
theorem FN.b55 {c g i on k : Int} (q : k ≠ 60 * c + g) : FN c g i on 55 0 k := by unfold FN; omega
/-- a line ended, the lap not yet looked at -/
def PRO (M N : jm_M) (c g v : Int) (Mi Np : jm_M) : Prop := ((bI bx1 Mi ∧ bI bx2 Np) ∧ TLD Mi Np ∧ Kp (KG1 c) M Mi ∧ Kp (KG2 c) N Np) ∧ (Np 0 0 70 = N 0 0 70 + 1 ∧ Mi 2 0 6 = N 0 0 70 + 1 ∧ Np 42 0 c = g + 1 ∧ Np 43 0 c = g + 1 ∧ Np 41 0 c = v ∧ Np 39 0 c = 0) ∧ ((Mi 9 c 0 = Np 41 0 c ∧ Mi 9 c 1 = Np 42 0 c ∧ Mi 9 c 3 = Np 39 0 c) ∧ Mi 9 c 5 = Np 49 0 c ∧ Mi 9 c 6 = Np 50 0 c ∧ Mi 9 c 7 = Np 51 0 c ∧ Mi 9 c 8 = Np 44 0 c ∧ Mi 9 c 9 = Np 45 0 c ∧ Mi 9 c 10 = Np 52 0 c ∧ Mi 9 c 11 = Np 53 0 c ∧ Mi 9 c 12 = Np 54 0 c ∧ Mi 9 c 13 = Np 47 0 c ∧ Mi 9 c 14 = Np 48 0 c) ∧ ((0 ≤ Np 45 0 c ∧ Np 45 0 c < N 19 0 c) ∧ (0 ≤ Np 44 0 c ∧ Np 44 0 c ≤ N 14 0 c) ∧ (-1 ≤ Np 47 0 c ∧ Np 47 0 c ≤ 1) ∧ 0 ≤ v ∧ v ≤ BB N + 180000) ∧ (∀ j : Int, 0 ≤ j → j < N 19 0 c → Mi 29 c j = Np 46 0 (4 * c + j) ∧ 0 ≤ Np 46 0 (4 * c + j) ∧ Np 46 0 (4 * c + j) ≤ 100 + 2 * (N 0 0 70 + 1)) ∧ ((Mi 9 c 2 = Np 43 0 c ∧ 0 ≤ Np 43 0 c ∧ Np 43 0 c ≤ 60) ∧ ∀ k : Int, 0 ≤ k → k < 60 → (k < Np 43 0 c → Np 55 0 (60 * c + k) = Mi 30 c k ∧ 0 ≤ Mi 30 c k) ∧ (Np 43 0 c ≤ k → Np 55 0 (60 * c + k) = -1)) ∧ (∀ j : Int, 0 ≤ j → j < 5 → Mi 32 c j = Np 56 0 (5 * c + j) + 1 ∧ -1 ≤ Np 56 0 (5 * c + j) ∧ (0 ≤ Np 56 0 (5 * c + j) → Mi 33 c j = Np 57 0 (5 * c + j)) ∧ (0 ≤ Np 56 0 (5 * c + j) → 0 ≤ Np 57 0 (5 * c + j) ∧ Np 57 0 (5 * c + j) ≤ BB N + 180000)) ∧ (∀ l : Int, 0 ≤ l → l < 12 → Mi 31 c l = Np 59 0 (12 * c + l)) ∧ (∀ t : Int, 0 ≤ t → t < 4 → Mi 34 0 t = Np 58 0 t ∧ 0 ≤ Np 58 0 t ∧ Np 58 0 t ≤ BB N) ∧ N 41 0 c + 1000 ≤ v ∧ Np 55 0 (60 * c + g) = v ∧ ∀ k : Int, k ≠ 60 * c + g → Np 55 0 k = N 55 0 k
theorem go_pro {M N Mi Np : jm_M} (run : RUN M N) {c g i v on : Int} (hc : 0 ≤ c ∧ c < N 0 0 17) (h39 : N 39 0 c = 0) (eg : g = N 42 0 c) (eo : on = N 45 0 c) (hg : 0 ≤ g ∧ g < 60) (hi : 0 ≤ i ∧ i < 5) (ho : 0 ≤ on ∧ on < 4) (hFM : Kp (FM c g i on) M Mi) (hFN : Kp (FN c g i on) N Np) (ii : bI bx1 Mi) (jp : bI bx2 Np) (tp : TLD Mi Np) (v70 : Np 0 0 70 = N 0 0 70 + 1) (h26 : Mi 2 0 6 = N 0 0 70 + 1) (v42 : Np 42 0 c = g + 1) (v43 : Np 43 0 c = g + 1) (v41 : Np 41 0 c = v) (q0 : Mi 9 c 0 = v) (q1 : Mi 9 c 1 = g + 1) (q2 : Mi 9 c 2 = g + 1) (qs : Mi 9 c 3 = M 9 c 3 ∧ Mi 9 c 5 = M 9 c 5 ∧ Mi 9 c 9 = M 9 c 9 ∧ Mi 9 c 12 = M 9 c 12) (ps : Np 39 0 c = N 39 0 c ∧ Np 49 0 c = N 49 0 c ∧ Np 45 0 c = N 45 0 c ∧ Np 54 0 c = N 54 0 c) (q6 : Mi 9 c 6 = Np 50 0 c) (q7 : Mi 9 c 7 = Np 51 0 c) (q8 : Mi 9 c 8 = Np 44 0 c) (q10 : Mi 9 c 10 = Np 52 0 c) (q11 : Mi 9 c 11 = Np 53 0 c) (q13 : Mi 9 c 13 = Np 47 0 c) (q14 : Mi 9 c 14 = Np 48 0 c) (fl : 0 ≤ Np 44 0 c ∧ Np 44 0 c ≤ N 14 0 c) (md : -1 ≤ Np 47 0 c ∧ Np 47 0 c ≤ 1) (vb : 0 ≤ v ∧ v ≤ BB N + 180000) (a46 : Mi 29 c on = Np 46 0 (4 * c + on) ∧ 0 ≤ Np 46 0 (4 * c + on) ∧ Np 46 0 (4 * c + on) ≤ 100 + 2 * (N 0 0 70 + 1)) (l30 : Mi 30 c g = v) (l55 : Np 55 0 (60 * c + g) = v) (t56 : Np 56 0 (5 * c + i) = N 0 0 70) (t57 : Np 57 0 (5 * c + i) = v) (t32 : Mi 32 c i = N 0 0 70 + 1) (t33 : Mi 33 c i = v) (vlo : N 41 0 c + 1000 ≤ v) : PRO M N c g v Mi Np := by
  obtain ⟨rc, ic⟩ := run.2.2.2 c hc.1 hc.2
  have u70 : 0 ≤ N 0 0 70 := run.1.2
  obtain ⟨hon, e4243, -, -⟩ := ic.2.2.2.2 h39
  refine ⟨⟨⟨ii, jp⟩, tp, fun f j k y => hFM f j k (FM.kg y), fun f j k y => hFN f j k (FN.kg ho hi hg y)⟩, ⟨v70, h26, v42, v43, v41, ps.1.trans h39⟩, ⟨⟨q0.trans v41.symm, q1.trans v42.symm, (qs.1.trans rc.1.2.2.1).trans ps.1.symm⟩, (qs.2.1.trans rc.2.1.1).trans ps.2.1.symm, q6, q7, q8, (qs.2.2.1.trans rc.2.1.2.2.2.2.1).trans ps.2.2.1.symm, q10, q11, (qs.2.2.2.trans rc.2.1.2.2.2.2.2.2.2.1).trans ps.2.2.2.symm, q13, q14⟩, ⟨by rw [ps.2.2.1]; exact hon, fl, md, vb⟩, fun j y1 y2 => ?_, ⟨⟨q2.trans v43.symm, by rw [v43]; clear q0 q1 q2 qs ps q6 q7 q8 q10 q11 q13 q14 a46 t56 t57 t32 t33 fl md hFM hFN; omega, by rw [v43]; clear q0 q1 q2 qs ps q6 q7 q8 q10 q11 q13 q14 a46 t56 t57 t32 t33 fl md; omega⟩, fun k y1 y2 => ?_⟩, fun j y1 y2 => ?_, fun l y1 y2 => ?_, fun t y1 y2 => ?_, vlo, l55, fun k q => hFN 55 0 k (FN.b55 q)⟩
  · by_cases q : j = on
    · rw [q]; exact a46
    · rw [hFM 29 c j (FM.a29 q), hFN 46 0 (4 * c + j) (FN.a46 q)]
      have z := ic.2.2.1 j y1 y2
      exact ⟨rc.2.2.1 j y1 y2, z.1, Int.le_trans z.2 (by clear a46 q0 q1 q2 qs ps q6 q7 q8 q10 q11 q13 q14 t56 t57 t32 t33 fl md z; omega)⟩
  · by_cases q : k = g
    · rw [q, l55, l30, v43]
      exact ⟨fun _ => ⟨rfl, vb.1⟩, fun y => absurd y (nle1 g)⟩
    · rw [hFN 55 0 (60 * c + k) (FN.a55 q), hFM 30 c k (FM.a30 q), v43]
      obtain ⟨-, x4⟩ := run.2.2.1 c hc.1 hc.2
      obtain ⟨x5, x6⟩ := x4 k y1 y2
      rw [← e4243, ← eg] at x5 x6
      refine ⟨fun y => x5 ?_, fun y => x6 ?_⟩
      · exact ltne y q
      · exact Int.le_trans (Int.le_of_lt (lt1 g)) y
  · by_cases q : j = i
    · rw [q, t56, t57, t32, t33]
      exact ⟨rfl, by clear a46 q0 q1 q2 qs ps q6 q7 q8 q10 q11 q13 q14 t56 t57 t32 t33 fl md; omega, fun _ => rfl, fun _ => vb⟩
    · rw [hFM 32 c j (FM.a32 q).1, hFM 33 c j (FM.a32 q).2, hFN 56 0 (5 * c + j) (FN.a56 q).1, hFN 57 0 (5 * c + j) (FN.a56 q).2]
      obtain ⟨x1, x2, x3⟩ := rc.2.2.2.1 j y1 y2
      have x4 := ic.2.2.2.1 j y1 y2
      exact ⟨x1, x2, x3, fun y => ⟨(x4 y).1, Int.le_trans (x4 y).2 (by clear a46 q0 q1 q2 qs ps q6 q7 q8 q10 q11 q13 q14 t56 t57 t32 t33 fl md x1 x2 x3 x4; omega)⟩⟩
  · rw [hFM 31 c l FM.a31, hFN 59 0 _ FN.a59.1]
    exact rc.2.2.2.2 l y1 y2
  · rw [hFM 34 0 t FM.a34, hFN 58 0 t FN.a59.2]
    exact run.2.1 t y1 y2
theorem KZ1.n9 {c lap k : Int} (h : k = 1 ∨ k = 2 ∨ k = 6 ∨ k = 7 ∨ k = 10 ∨ k = 11) : KZ1 c lap 9 c k := by unfold KZ1; omega
theorem KZ1.nf {c lap j k : Int} {f : Nat} (h : f = 2 ∨ f = 29 ∨ f = 30 ∨ f = 32 ∨ f = 33) : KZ1 c lap f j k := by unfold KZ1; omega
theorem KZ1.l31 {c lap l : Int} (h : l ≠ lap) : KZ1 c lap 31 c l := by unfold KZ1; omega
theorem KZ1.kg {c lap j k : Int} {f : Nat} (y : KG1 c f j k) : KZ1 c lap f j k := by
  unfold KG1 at y
  unfold KZ1
  omega
theorem KZ2.nf {c lap : Int} {f : Nat} (h : f = 42 ∨ f = 43 ∨ f = 50 ∨ f = 51 ∨ f = 52 ∨ f = 53) : KZ2 c lap f 0 c := by unfold KZ2; omega
theorem KZ2.tf {c lap k : Int} {f : Nat} (h : f = 46 ∨ f = 55 ∨ f = 56 ∨ f = 57) : KZ2 c lap f 0 k := by unfold KZ2; omega
theorem KZ2.n70 {c lap : Int} : KZ2 c lap 0 0 70 := by unfold KZ2; omega
theorem KZ2.l59 {c lap l : Int} (h : l ≠ lap) : KZ2 c lap 59 0 (12 * c + l) := by unfold KZ2; omega
theorem KZ2.kg {c lap j k : Int} {f : Nat} (h : 0 ≤ lap ∧ lap < 12) (y : KG2 c f j k) : KZ2 c lap f j k := by
  unfold KG2 at y
  unfold KZ2
  omega
theorem KG2.num {c : Int} : KG2 c 19 0 c ∧ KG2 c 14 0 c ∧ KG2 c 0 0 1 ∧ KG2 c 0 0 2 ∧ KG2 c 0 0 17 := by unfold KG2; omega
theorem go_close {M N Mi Np M1 N1 : jm_M} {c g v lap : Int} (iN0 : bI bx2 N) (run : RUN M N) (eg : g = N 42 0 c) (p : PRO M N c g v Mi Np) (i1 : bI bx1 M1) (j1 : bI bx2 N1) (z1 : Kp (KZ1 c lap) Mi M1) (z2 : Kp (KZ2 c lap) Np N1) (hl : 0 ≤ lap ∧ lap < 12) (qq : M1 9 c 0 = N1 41 0 c ∧ M1 9 c 3 = N1 39 0 c ∧ (N1 39 0 c = 1 → M1 9 c 4 = N1 40 0 c) ∧ M1 9 c 5 = N1 49 0 c ∧ M1 9 c 8 = N1 44 0 c ∧ M1 9 c 9 = N1 45 0 c ∧ M1 9 c 12 = N1 54 0 c ∧ M1 9 c 13 = N1 47 0 c ∧ M1 9 c 14 = N1 48 0 c) (qb : ∀ t : Int, 0 ≤ t → t < 4 → M1 34 0 t = N1 58 0 t ∧ 0 ≤ N1 58 0 t ∧ N1 58 0 t ≤ BB N + 300000) (q31 : M1 31 c lap = N1 59 0 (12 * c + lap)) (qst : N1 39 0 c = 1 ∨ (N1 39 0 c = 0 ∧ g + 1 < N 0 0 1 * N 0 0 2)) (qon : 0 ≤ N1 45 0 c ∧ N1 45 0 c < N 19 0 c) (qfl : 0 ≤ N1 44 0 c ∧ N1 44 0 c ≤ N 14 0 c) (q41 : 0 ≤ N1 41 0 c ∧ N1 41 0 c ≤ BB N + 300000) (qmd : -1 ≤ N1 47 0 c ∧ N1 47 0 c ≤ 1) (q41l : Np 41 0 c ≤ N1 41 0 c) (e43 : N 43 0 c = g) : GO M N c M1 N1 := by
  obtain ⟨⟨-, tp, fM, fN⟩, ⟨v70, h26, v42, v43, v41, -⟩, ⟨⟨-, k1, -⟩, -, k6, k7, -, -, k10, k11, -⟩, -, ages, rtc, tep, lnp, -, vlo, l55, o55⟩ := p
  have b17 : 0 ≤ N 0 0 17 ∧ N 0 0 17 ≤ 6 := iN0 0 0 17
  have g1 : Kp (KG1 c) M M1 := fun f j k y => (z1 f j k (KZ1.kg y)).trans (fM f j k y)
  have g2 : Kp (KG2 c) N N1 := fun f j k y => (z2 f j k (KZ2.kg hl y)).trans (fN f j k y)
  have n70 : N1 0 0 70 = N 0 0 70 + 1 := (z2 0 0 70 KZ2.n70).trans v70
  have bb1 : BB N1 = BB N + 400000 := by
    unfold BB
    rw [n70]
    omega
  have ble : ∀ x : Int, x ≤ BB N + 300000 → x ≤ BB N1 := fun x y => by omega
  have n42 : N1 42 0 c = g + 1 := (z2 42 0 c (KZ2.nf (by decide))).trans v42
  have n43 : N1 43 0 c = g + 1 := (z2 43 0 c (KZ2.nf (by decide))).trans v43
  obtain ⟨c19, c14, c01, c02, -⟩ := KG2.num (c := c)
  have n19 := g2 19 0 c c19
  have n14 := g2 14 0 c c14
  have n01 := g2 0 0 1 c01
  have n02 := g2 0 0 2 c02
  have m9 : ∀ k : Int, k = 1 ∨ k = 2 ∨ k = 6 ∨ k = 7 ∨ k = 10 ∨ k = 11 → M1 9 c k = Mi 9 c k := fun k y => z1 9 c k (KZ1.n9 y)
  have n9 : ∀ f : Nat, f = 42 ∨ f = 43 ∨ f = 50 ∨ f = 51 ∨ f = 52 ∨ f = 53 → N1 f 0 c = Np f 0 c := fun f y => z2 f 0 c (KZ2.nf y)
  have le70 : N 0 0 70 ≤ N1 0 0 70 := by rw [n70]; exact Int.le_of_lt (lt1 _)
  have n55 : ∀ k : Int, N1 55 0 k = Np 55 0 k := fun k => z2 55 0 k (KZ2.tf (by decide))
  have gro : GRO N N1 c := by
    have lo : v ≤ N1 41 0 c := by
      rw [v41] at q41l
      exact q41l
    refine ⟨qst.elim (fun y => Or.inr (Or.inl y)) (fun y => Or.inl y.1), Int.le_trans (Int.le_trans (Int.le_add_of_nonneg_right (by decide)) vlo) lo, Or.inr ⟨by rw [n43, e43], ⟨?_, ?_⟩, fun k q => ?_⟩⟩
    · rw [e43, n55, l55]; exact vlo
    · rw [e43, n55, l55]; exact lo
    · rw [e43] at q
      rw [n55]
      exact o55 k q
  refine ⟨⟨i1, j1⟩, tp.kp (fun f j k y => z1 f j k (KZ1.kg (KG1.tol f j k y))) (fun f j k y => z2 f j k (KZ2.kg hl (KG2.tol f j k y))), ?_, g1, g2, by rw [n42, eg], by rw [n70]; exact Int.le_refl _, gro⟩
  refine run_fin run g1 g2 b17.2 (fun o => (iN0 19 0 o).2) le70 ?_ (fun t y1 y2 => ?_) ⟨⟨⟨qq.1, ?_, qq.2.1, qq.2.2.1⟩, ⟨qq.2.2.2.1, ?_, ?_, qq.2.2.2.2.1, qq.2.2.2.2.2.1, ?_, ?_, qq.2.2.2.2.2.2.1, qq.2.2.2.2.2.2.2.1, qq.2.2.2.2.2.2.2.2⟩, fun j y1 y2 => ?_, fun j y1 y2 => ?_, fun l y1 y2 => ?_⟩, ⟨q41.1, ble _ q41.2⟩, qmd, fun j y1 y2 => ?_, fun j y1 y2 y3 => ?_, fun y => ?_⟩ ?_
  · exact (z1 2 0 6 (KZ1.nf (by decide))).trans (h26.trans n70.symm)
  · have := qb t y1 y2
    exact ⟨this.1, this.2.1, ble _ this.2.2⟩
  · rw [m9 1 (by decide), n9 42 (by decide)]; exact k1
  · rw [m9 6 (by decide), n9 50 (by decide)]; exact k6
  · rw [m9 7 (by decide), n9 51 (by decide)]; exact k7
  · rw [m9 10 (by decide), n9 52 (by decide)]; exact k10
  · rw [m9 11 (by decide), n9 53 (by decide)]; exact k11
  · rw [n19] at y2
    rw [z1 29 c j (KZ1.nf (by decide)), z2 46 0 _ (KZ2.tf (by decide))]
    exact (ages j y1 y2).1
  · have := tep j y1 y2
    rw [z1 32 c j (KZ1.nf (by decide)), z1 33 c j (KZ1.nf (by decide)), z2 56 0 _ (KZ2.tf (by decide)), z2 57 0 _ (KZ2.tf (by decide))]
    exact ⟨this.1, this.2.1, this.2.2.1⟩
  · by_cases ql : l = lap
    · rw [ql]; exact q31
    · rw [z1 31 c l (KZ1.l31 ql), z2 59 0 _ (KZ2.l59 ql)]
      exact lnp l y1 y2
  · rw [n19] at y2
    rw [z2 46 0 _ (KZ2.tf (by decide)), n70]
    exact (ages j y1 y2).2
  · rw [z2 56 0 _ (KZ2.tf (by decide))] at y3
    rw [z2 57 0 _ (KZ2.tf (by decide))]
    have := (tep j y1 y2).2.2.2 y3
    exact ⟨this.1, ble _ (Int.le_trans this.2 (by omega))⟩
  · rw [n19, n42, n43, n01, n02, n14]
    rcases qst with z | ⟨z, z'⟩
    · rw [z] at y
      exact absurd y (by decide)
    · exact ⟨qon, rfl, z', qfl⟩
  · rw [m9 2 (by decide), n43, ← v43]
    refine ⟨rtc.1, fun k y1 y2 => ?_⟩
    rw [z2 55 0 _ (KZ2.tf (by decide)), z1 30 c k (KZ1.nf (by decide))]
    exact rtc.2 k y1 y2
theorem go_fin (fu : Nat) (hfu : 4000 ≤ fu) {M N Mi Np : jm_M} {c g i v : Int} (iN0 : bI bx2 N) (run : RUN M N) (hc : 0 ≤ c ∧ c < N 0 0 17) (eg : g = N 42 0 c) (gs : 0 ≤ g ∧ g < N 0 0 1 * N 0 0 2) (hi : i = jm_mod g (N 0 0 1)) (bb : BB N ≤ 144020000) (e43 : N 43 0 c = g) (p : PRO M N c g v Mi Np) : J2 (if i = N 0 0 1 - 1 then (jm_b (fX9_lapOf Mi g) fun v11 M12 => jm_b (fX2_endLap fu M12 c c c v11 v) fun _ M15 => some ((0 : Int), M15)) else (some (0, Mi))) (if i = N 0 0 1 - 1 then (if N 0 0 1 ≠ 0 then (jm_b (fX12_endsLap fu Np c (jm_div g (N 0 0 1)) v) fun _ M23 => some ((0 : Int), M23)) else none) else some (0, Np)) (fun _ M1 _ N1 => GO M N c M1 N1) := by
  obtain ⟨⟨⟨ii, jp⟩, tp, fM, fN⟩, ⟨v70, h26, v42, v43, v41, q39⟩, ⟨⟨q0, k1, q3⟩, q5, k6, k7, q8, q9, k10, k11, q12, q13, q14⟩, ⟨on, fl, md, vb⟩, ages, rtc, tep, lnp, bxp, -⟩ := id p
  have b17 : 0 ≤ N 0 0 17 ∧ N 0 0 17 ≤ 6 := iN0 0 0 17
  have bs : 2 ≤ N 0 0 1 ∧ N 0 0 1 ≤ 5 := iN0 0 0 1
  have bn : 1 ≤ N 0 0 2 ∧ N 0 0 2 ≤ 12 := iN0 0 0 2
  obtain ⟨lm, ll, lg⟩ := line_ls bs gs bn
  rw [← hi] at lm lg
  obtain ⟨c19, c14, c01, c02, c17⟩ := KG2.num (c := c)
  have n19 := fN 19 0 c c19
  have n14 := fN 14 0 c c14
  have n01 := fN 0 0 1 c01
  have n02 := fN 0 0 2 c02
  have n17 := fN 0 0 17 c17
  have m10 : Mi 1 0 0 = N 0 0 1 := tp.2.1.1.1.trans n01
  have ll12 : 0 ≤ jm_div g (N 0 0 1) ∧ jm_div g (N 0 0 1) < 12 := ⟨ll.1, Int.lt_of_lt_of_le ll.2 bn.2⟩
  have rtp : RTm Mi Np := fun o y1 y2 => by
    rw [n17] at y2
    by_cases q : o = c
    · rw [q]; exact rtc
    · exact (run_others run fM fN b17.2 (fun o => (iN0 19 0 o).2) (by rw [v70]; exact Int.le_of_lt (lt1 _)) o y1 y2 q).2
  have x180 : ∀ x : Int, x ≤ BB N → x ≤ BB N + 180000 := fun x y => Int.le_trans y (by clear q0 k1 q3 q5 k6 k7 q8 q9 k10 k11 q12 q13 q14 on fl md vb; omega)
  have x300 : ∀ x : Int, x ≤ BB N + 180000 → x ≤ BB N + 300000 := fun x y => Int.le_trans y (by clear q0 k1 q3 q5 k6 k7 q8 q9 k10 k11 q12 q13 q14 on fl md vb; omega)
  by_cases last : i = N 0 0 1 - 1
  · refine J2.lT last (J2.rT last (J2.rT (fun z => by rw [z] at bs; exact absurd bs.1 (by decide)) ?_))
    refine J2.lq (c_lapOf Mi g (by rw [m10]; exact Int.lt_of_lt_of_le (by decide) bs.1)) (fun v11 z11 => ?_)
    rw [z11, m10]
    have lgl : g + 1 = N 0 0 1 * (jm_div g (N 0 0 1) + 1) := by
      rw [Int.mul_add, Int.mul_one]
      clear q0 k1 q3 q5 k6 k7 q8 q9 k10 k11 q12 q13 q14 on fl md vb v70 h26 v42 v43 v41
      omega
    have pz : PZ Mi Np c (jm_div g (N 0 0 1)) v (BB N + 180000) := by
      refine ⟨⟨hc.1, by rw [n17]; exact hc.2, ll.1, by rw [n02]; exact ll.2⟩, ?_, ⟨q0, v41, q3, q39, q5, q8, q9, q12, q13, q14, md⟩, fun t y1 y2 => ?_, lnp _ ll12.1 ll12.2, by rw [n19]; exact on, by rw [n14]; exact fl, ⟨vb.1, vb.2, by clear q0 k1 q3 q5 k6 k7 q8 q9 k10 k11 q12 q13 q14 on fl md vb; omega⟩, fun j y1 y2 => (ages j y1 (by rw [← n19]; exact y2)).1⟩
      · rw [v43, n01]
        clear q0 k1 q3 q5 k6 k7 q8 q9 k10 k11 q12 q13 q14 on fl md vb v70 h26 v42 v43 v41
        omega
      · have := bxp t y1 y2
        exact ⟨this.1, this.2.1, x180 _ this.2.2⟩
    refine J2.bb (j_endLap fu hfu Mi Np ii jp tp rtp c (jm_div g (N 0 0 1)) v (BB N + 180000) pz) (fun _ M1 _ N1 qz => J2.ret ?_)
    obtain ⟨⟨x1, x2, x3, x4⟩, x5, x6, x7, x8, x9, x10, x11, x12, x13⟩ := qz
    rw [e300] at x6 x11
    refine go_close iN0 run eg p x1 x2 x3 x4 ll12 x5 x6 x7 ?_ (by rw [n19] at x9; exact x9) (by rw [n14] at x10; exact x10) x11 x12 x13 e43
    rcases x8 with y | ⟨y, y'⟩
    · exact Or.inl y
    · refine Or.inr ⟨y, ?_⟩
      rw [n02] at y'
      rw [lgl]
      exact Int.mul_lt_mul_of_pos_left y' (Int.lt_of_lt_of_le (by decide) bs.1)
  · refine J2.lF last (J2.rF last (J2.ret ?_))
    refine go_close iN0 run eg p ii jp Kp.rf Kp.rf (lap := 0) ⟨by decide, by decide⟩ ⟨q0, q3, fun y => by rw [q39] at y; exact absurd y (by decide), q5, q8, q9, q12, q13, q14⟩ (fun t y1 y2 => ?_) (lnp 0 (by decide) (by decide)) (Or.inr ⟨q39, ?_⟩) on fl (by rw [v41]; exact ⟨vb.1, x300 _ vb.2⟩) md (Int.le_refl _) e43
    · have := bxp t y1 y2
      exact ⟨this.1, this.2.1, x300 _ (x180 _ this.2.2)⟩
    · have sb : N 0 0 1 * (jm_div g (N 0 0 1) + 1) ≤ N 0 0 1 * N 0 0 2 := Int.mul_le_mul_of_nonneg_left (Int.add_one_le_of_lt ll.2) (Int.le_trans (by decide) bs.1)
      rw [Int.mul_add, Int.mul_one] at sb
      clear q0 k1 q3 q5 k6 k7 q8 q9 k10 k11 q12 q13 q14 on fl md vb v70 h26 v42 v43 v41
      omega
set_option maxHeartbeats 4000000 in
/-- behind the tyres: held, the line ended, perhaps the lap -/
theorem j_go_rest (fu : Nat) (hfu : 4000 ≤ fu) (M N : jm_M) (iN0 : bI bx2 N) (run : RUN M N) (c : Int) (hc : 0 ≤ c ∧ c < N 0 0 17) (h39 : N 39 0 c = 0) (hT : N 0 0 70 ≤ 360) (i tk sl inc : Int) (hi : i = jm_mod (N 42 0 c) (N 0 0 1)) (htk : 1000 ≤ tk ∧ tk ≤ 180000) (Mf Ne : jm_M) (if1 : bI bx1 Mf) (ie : bI bx2 Ne) (tl : TLD Mf Ne) (hsl : sl = 0 ∨ sl = 1) (gs : fX12_isSlow fu Ne (N 41 0 c) = some (sl, Ne))
    (oM : ∀ (f : Nat) (j k : Int), ¬ (f = 9 ∧ j = c ∧ (k = 1 ∨ k = 6 ∨ k = 8 ∨ k = 13 ∨ k = 14)) → ¬ (f = 29 ∧ j = c ∧ k = N 45 0 c) → Mf f j k = M f j k)
    (oN : ∀ (f : Nat) (j k : Int), ¬ ((f = 42 ∨ f = 50 ∨ f = 47 ∨ f = 48 ∨ f = 44) ∧ j = 0 ∧ k = c) → Ne f j k = N f j k)
    (e1 : Mf 9 c 1 = N 42 0 c + 1 ∧ Ne 42 0 c = N 42 0 c + 1) (e6 : Mf 9 c 6 = Ne 50 0 c) (e13 : Mf 9 c 13 = Ne 47 0 c) (e14 : Mf 9 c 14 = Ne 48 0 c) (e8 : Mf 9 c 8 = Ne 44 0 c) (emd : -1 ≤ Ne 47 0 c ∧ Ne 47 0 c ≤ 1) (efl : 0 ≤ Ne 44 0 c ∧ Ne 44 0 c ≤ N 14 0 c)
    (einc : (sl = 0 → (Ne 47 0 c = -1 → inc = 2) ∧ (Ne 47 0 c ≠ -1 → inc = 1)) ∧ (sl = 1 → inc = 0)) (e29 : Mf 29 c (N 45 0 c) = jm_w (N 46 0 (4 * c + N 45 0 c) + inc)) :
    J2 (gX2_goOn_150 fu Mf c c c (N 42 0 c) i (N 41 0 c) tk) (jm_b (fX12_held fu Ne c i (N 41 0 c) (jm_w (N 41 0 c + tk)) sl) fun v42 M43 => if 0 ≤ c ∧ c < 6 then (if 0 ≤ (jm_w ((jm_w (4 * c)) + (M43 45 0 c))) ∧ (jm_w ((jm_w (4 * c)) + (M43 45 0 c))) < 24 then (if sl = 0 then (if 0 ≤ c ∧ c < 6 then (if (M43 47 0 c) = (-1) then (gX12_goes_180 fu M43 c (N 42 0 c) i v42 2 (M43 46 0 (jm_w ((jm_w (4 * c)) + (M43 45 0 c)))) (jm_w ((jm_w (4 * c)) + (M43 45 0 c)))) else (gX12_goes_180 fu M43 c (N 42 0 c) i v42 1 (M43 46 0 (jm_w ((jm_w (4 * c)) + (M43 45 0 c)))) (jm_w ((jm_w (4 * c)) + (M43 45 0 c))))) else none) else (gX12_goes_180 fu M43 c (N 42 0 c) i v42 0 (M43 46 0 (jm_w ((jm_w (4 * c)) + (M43 45 0 c)))) (jm_w ((jm_w (4 * c)) + (M43 45 0 c))))) else none) else none) (fun _ M1 _ N1 => GO M N c M1 N1) := by
  have rc := (run.2.2.2 c hc.1 hc.2).1
  have ic := (run.2.2.2 c hc.1 hc.2).2
  obtain ⟨on, e4243, gsn, fl⟩ := ic.2.2.2.2 h39
  have b17 : 0 ≤ N 0 0 17 ∧ N 0 0 17 ≤ 6 := iN0 0 0 17
  have bs : 2 ≤ N 0 0 1 ∧ N 0 0 1 ≤ 5 := iN0 0 0 1
  have bn : 1 ≤ N 0 0 2 ∧ N 0 0 2 ≤ 12 := iN0 0 0 2
  have b19 : 0 ≤ N 19 0 c ∧ N 19 0 c ≤ 4 := iN0 19 0 c
  have b42 : 0 ≤ N 42 0 c ∧ N 42 0 c ≤ 60 := iN0 42 0 c
  have b41 := ic.1
  have u70 : 0 ≤ N 0 0 70 := run.1.2
  have hc6 : 0 ≤ c ∧ c < 6 := ⟨hc.1, Int.lt_of_lt_of_le hc.2 b17.2⟩
  obtain ⟨lm, ll, lg⟩ := line_ls (g := N 42 0 c) bs ⟨b42.1, gsn⟩ bn
  rw [← hi] at lm lg
  have hi5 : 0 ≤ i ∧ i < 5 := ⟨lm.1, Int.lt_of_lt_of_le lm.2 bs.2⟩
  have sn60 : N 0 0 1 * N 0 0 2 ≤ 60 := Int.mul_le_mul bs.2 bn.2 (Int.le_trans (by decide) bn.1) (by decide)
  have hg60 : 0 ≤ N 42 0 c ∧ N 42 0 c < 60 := ⟨b42.1, Int.lt_of_lt_of_le gsn sn60⟩
  have ho4 : 0 ≤ N 45 0 c ∧ N 45 0 c < 4 := ⟨on.1, Int.lt_of_lt_of_le on.2 b19.2⟩
  have bb : 20000 ≤ BB N ∧ BB N ≤ 144020000 := by
    unfold BB
    clear einc emd efl
    omega
  have wt : jm_w (N 41 0 c + tk) = N 41 0 c + tk := by
    clear einc emd efl lg
    exact jm_wid (by omega) (by omega)
  have c01 : Ne 0 0 1 = N 0 0 1 := oN 0 0 1 (fun z => absurd z.1 (by decide))
  have c17 : Ne 0 0 17 = N 0 0 17 := oN 0 0 17 (fun z => absurd z.1 (by decide))
  have c70 : Ne 0 0 70 = N 0 0 70 := oN 0 0 70 (fun z => absurd z.1 (by decide))
  have c56 : ∀ k : Int, Ne 56 0 k = N 56 0 k := fun k => oN 56 0 k (fun z => absurd z.1 (by decide))
  have c57 : ∀ k : Int, Ne 57 0 k = N 57 0 k := fun k => oN 57 0 k (fun z => absurd z.1 (by decide))
  have oN' : ∀ f : Nat, ¬ (f = 42 ∨ f = 50 ∨ f = 47 ∨ f = 48 ∨ f = 44) → ∀ j k : Int, Ne f j k = N f j k := fun f y j k => oN f j k (fun z => y z.1)
  have oM' : ∀ f : Nat, f ≠ 9 → f ≠ 29 → ∀ j k : Int, Mf f j k = M f j k := fun f y y2 j k => oM f j k (fun z => y z.1) (fun z => y2 z.1)
  have oM9 : ∀ k : Int, ¬ (k = 1 ∨ k = 6 ∨ k = 8 ∨ k = 13 ∨ k = 14) → Mf 9 c k = M 9 c k := fun k y => oM 9 c k (fun z => y z.2.2) (fun z => absurd z.1 (by decide))
  have s0 : Mf 1 0 0 = Ne 0 0 1 := tl.2.1.1.1
  have s5 : Mf 2 0 5 = Ne 0 0 17 := tl.2.1.1.2.2
  have n8 := tl.2.1.2.1 0 (by decide) (by decide)
  have nl := (tl.2.1.2.2.2 i hi5.1 hi5.2).2
  have l2e := (tl.2.2.2.2.2.1 i hi5.1 hi5.2).2.2.1
  have lGG : 0 ≤ Ne 5 0 0 ∧ Ne 5 0 0 ≤ 2000 := ⟨Int.le_trans (by decide) tl.2.2.2.1.1, tl.2.2.2.1.2.1⟩
  have w26 : jm_w (Mf 2 0 6 + 1) = N 0 0 70 + 1 := by
    rw [oM' 2 (by decide) (by decide), run.1.1]
    clear einc emd efl lg on gsn
    exact jm_wid (by omega) (by omega)
  unfold gX2_goOn_150
  rw [w26, wt]
  refine J2.ls (fun Mg ug => ?_)
  have ig : bI bx1 Mg := by rw [ug]; exact bI_u if1 (jm_inL (by clear einc emd efl lg on gsn; omega) (by clear einc emd efl lg on gsn; omega))
  have og : ∀ f : Nat, f ≠ 2 → ∀ j k : Int, Mg f j k = Mf f j k := fun f y j k => by rw [ug]; exact jm_une_f y
  have g25 : Mg 2 0 5 = Mf 2 0 5 := by rw [ug]; exact jm_une_k (by decide)
  have tg : TDf Mg Ne := tl.1.2.1.kl (fun f j k y => by rw [ug, jm_une (KLx.n26 y)])
  have hb : ∀ o : Int, 0 ≤ o → o < Ne 0 0 17 → Mg 9 o 1 = Ne 42 0 o := fun o y1 y2 => by
    rw [c17] at y2
    rw [og 9 (by decide)]
    by_cases q : o = c
    · rw [q, e1.1, e1.2]
    · rw [oM 9 o 1 (fun z => q z.2.1) (fun z => absurd z.1 (by decide)), oN 42 0 o (fun z => q z.2.2)]
      exact (run.2.2.2 o y1 y2).1.1.2.1
  have hte : ∀ o : Int, 0 ≤ o → o < Ne 0 0 17 → Mg 32 o i = Ne 56 0 (5 * o + i) + 1 ∧ -1 ≤ Ne 56 0 (5 * o + i) ∧ (0 ≤ Ne 56 0 (5 * o + i) → Mg 33 o i = Ne 57 0 (5 * o + i) ∧ 0 ≤ Ne 57 0 (5 * o + i) ∧ Ne 57 0 (5 * o + i) + Ne 5 0 0 ≤ BB N + 180000) := fun o y1 y2 => by
    rw [c17] at y2
    obtain ⟨x1, x2, x3⟩ := (run.2.2.2 o y1 y2).1.2.2.2.1 i hi5.1 hi5.2
    have x4 := (run.2.2.2 o y1 y2).2.2.2.2.1 i hi5.1 hi5.2
    rw [og 32 (by decide), og 33 (by decide), oM' 32 (by decide) (by decide), oM' 33 (by decide) (by decide), c56, c57]
    exact ⟨x1, x2, fun y => ⟨x3 y, (x4 y).1, Int.add_le_add (x4 y).2 (Int.le_trans lGG.2 (by decide))⟩⟩
  have hY : 0 ≤ N 41 0 c ∧ N 41 0 c ≤ BB N + 180000 ∧ BB N + 180000 ≤ 2000000000 := by
    clear einc emd efl lg on gsn
    omega
  have hY2 : 0 ≤ N 41 0 c + tk ∧ N 41 0 c + tk ≤ BB N + 180000 := by
    clear einc emd efl lg on gsn
    omega
  have hY3 : 0 ≤ N 41 0 c + tk ∧ N 41 0 c + tk ≤ BB N + 180000 ∧ BB N + 180000 ≤ 2000000000 := ⟨hY2.1, hY2.2, hY.2.2⟩
  refine J2.bb (J2.arv (j_held fu hfu Mg Ne tg ig ie c i (N 41 0 c) (N 41 0 c + tk) sl (BB N + 180000) hY3 lGG ⟨hc.1, by rw [c17]; exact hc.2⟩ hi5 (g25.trans s5) (by rw [ug, jm_ueq, c70]) (by rw [og 18 (by decide)]; exact n8) (by rw [og 1 (by decide)]; exact s0) ⟨by rw [og 15 (by decide)]; exact nl, l2e⟩ hte hb (by rw [og 9 (by decide)]; exact e14) (by rw [og 9 (by decide), oM9 7 (by decide), oN' 51 (by decide)]; exact rc.2.1.2.2.1) (by rw [og 9 (by decide), oM9 10 (by decide), oN' 52 (by decide)]; exact rc.2.1.2.2.2.2.2.1) (by rw [og 9 (by decide), oM9 11 (by decide), oN' 53 (by decide)]; exact rc.2.1.2.2.2.2.2.2.1) gs hsl) (pv_held fu Ne c i (N 41 0 c) (N 41 0 c + tk) sl)) (fun v Mh w Nh qh => ?_)
  obtain ⟨⟨rfl, vb, ih, jh, kh1, kh2, h7, h10, h11⟩, vlo⟩ := qh
  have iv : jm_in v := jm_inL (Int.le_trans (by decide) vb.1) (Int.le_trans vb.2 (Int.le_trans hY.2.2 (by decide)))
  have kh1' : ∀ f : Nat, f ≠ 9 → ∀ j k : Int, Mh f j k = Mg f j k := fun f y j k => kh1 f j k (fun z => y z.1)
  have kh9 : ∀ k : Int, ¬ (k = 7 ∨ k = 10 ∨ k = 11) → Mh 9 c k = Mg 9 c k := fun k y => kh1 9 c k (fun z => y z.2.2)
  have kh2' : ∀ f : Nat, ¬ (f = 51 ∨ f = 52 ∨ f = 53) → ∀ j k : Int, Nh f j k = Ne f j k := fun f y j k => kh2 f j k (fun z => y z.1)
  have h26 : Mh 2 0 6 = N 0 0 70 + 1 := by rw [kh1' 2 (by decide), ug]; exact jm_ueq
  have ix : jm_w (jm_w (4 * c) + N 45 0 c) = 4 * c + N 45 0 c := jm_ix4 hc6 ho4
  have n45 : Nh 45 0 c = N 45 0 c := (kh2' 45 (by decide) 0 c).trans (oN' 45 (by decide) 0 c)
  have n46 : Nh 46 0 (4 * c + N 45 0 c) = N 46 0 (4 * c + N 45 0 c) := (kh2' 46 (by decide) 0 _).trans (oN' 46 (by decide) 0 _)
  have n47 : Nh 47 0 c = Ne 47 0 c := kh2' 47 (by decide) 0 c
  rw [n45, ix, n46, n47, h26]
  have h24 : 0 ≤ 4 * c + N 45 0 c ∧ 4 * c + N 45 0 c < 24 := jm_b4 hc6 ho4
  refine J2.rT hc6 (J2.rT h24 ?_)
  have it : jm_in (N 0 0 70 + 1) := jm_inL (by clear einc emd efl lg on gsn; omega) (by clear einc emd efl lg on gsn; omega)
  refine J2.lb (c_endLine Mh ih c (N 42 0 c) i v (N 0 0 70 + 1) hg60 hi5 iv it) (fun _ Mi zi => ?_)
  obtain ⟨ii, ki, i90, i92, i30, i32, i33⟩ := zi
  have ki' : ∀ f : Nat, f ≠ 9 → f ≠ 30 → f ≠ 32 → f ≠ 33 → ∀ j k : Int, Mi f j k = Mh f j k := fun f y1 y2 y3 y4 j k => ki f j k ⟨fun z => y1 z.1, fun z => y2 z.1, fun z => z.1.elim y3 y4⟩
  have ki9 : ∀ k : Int, k ≠ 0 → k ≠ 2 → Mi 9 c k = Mh 9 c k := fun k y1 y2 => ki 9 c k ⟨fun z => z.2.2.elim y1 y2, fun z => absurd z.1 (by decide), fun z => absurd z.1 (by decide)⟩
  have m10 : Mi 1 0 0 = N 0 0 1 := by
    rw [ki' 1 (by decide) (by decide) (by decide) (by decide), kh1' 1 (by decide), og 1 (by decide), s0, c01]
  have wsm : jm_w (N 0 0 1 - 1) = N 0 0 1 - 1 := jm_wid (by clear einc emd efl lg on gsn; omega) (by clear einc emd efl lg on gsn; omega)
  rw [m10, wsm]
  have hFM := FM.mk (g := N 42 0 c) (i := i) (on := N 45 0 c) oM ug kh1 ki
  have fin : J2 (if i = N 0 0 1 - 1 then (jm_b (fX9_lapOf Mi (N 42 0 c)) fun v11 M12 => jm_b (fX2_endLap fu M12 c c c v11 v) fun _ M15 => some ((0 : Int), M15)) else (some (0, Mi))) (gX12_goes_180 fu Nh c (N 42 0 c) i v inc (N 46 0 (4 * c + N 45 0 c)) (4 * c + N 45 0 c)) (fun _ M1 _ N1 => GO M N c M1 N1) := by
    have w5i : jm_w (jm_w (5 * c) + i) = 5 * c + i := jm_ix5 hc6 hi5
    have w60 : jm_w (jm_w (60 * c) + N 42 0 c) = 60 * c + N 42 0 c := jm_ix60 hc6 hg60
    have h30 : 0 ≤ 5 * c + i ∧ 5 * c + i < 30 := jm_b5 hc6 hi5
    have h360 : 0 ≤ 60 * c + N 42 0 c ∧ 60 * c + N 42 0 c < 360 := jm_b60 hc6 hg60
    unfold gX12_goes_180
    rw [w5i, w60]
    refine J2.rT h24 (J2.rs (fun Nj uj => J2.rT h30 (J2.rs (fun Nk uk => J2.rT h30 (J2.rs (fun Nl ul => J2.rs (fun Nm um => J2.rT h360 (J2.rs (fun Nn un => J2.rT hc6 (J2.rT hc6 (J2.rs (fun No uo => J2.rT hc6 (J2.rs (fun Np up => ?_))))))))))))))
    have x70 : Nl 0 0 70 = N 0 0 70 := by rw [ul, jm_une_f (by decide), uk, jm_une_f (by decide), uj, jm_une_f (by decide), kh2' 0 (by decide)]; exact c70
    have y70 : Nj 0 0 70 = N 0 0 70 := by rw [uj, jm_une_f (by decide), kh2' 0 (by decide)]; exact c70
    have x43 : Nn 43 0 c = N 42 0 c := by rw [un, jm_une_f (by decide), um, jm_une_f (by decide), ul, jm_une_f (by decide), uk, jm_une_f (by decide), uj, jm_une_f (by decide), kh2' 43 (by decide), oN' 43 (by decide)]; exact e4243.symm
    have w70 : jm_w (Nl 0 0 70 + 1) = N 0 0 70 + 1 := by rw [x70]; exact jm_wid (by clear einc emd efl lg on gsn; omega) (by clear einc emd efl lg on gsn; omega)
    have w43 : jm_w (Nn 43 0 c + 1) = N 42 0 c + 1 := by rw [x43]; exact jm_wid (by clear einc emd efl lg on gsn; omega) (by clear einc emd efl lg on gsn; omega)
    rw [w70] at um
    rw [w43] at uo
    rw [y70] at uk
    have i42 : jm_in (N 42 0 c + 1) := jm_inL (by clear einc emd efl lg on gsn; omega) (by clear einc emd efl lg on gsn; omega)
    have i70 : jm_in (N 0 0 70) := jm_inL (by clear einc emd efl lg on gsn; omega) (by clear einc emd efl lg on gsn; omega)
    have b70 : 0 ≤ N 0 0 70 + 1 ∧ N 0 0 70 + 1 ≤ 361 := by clear einc emd efl lg on gsn; omega
    have jp : bI bx2 Np := by
      rw [up, uo, un, um, ul, uk, uj]
      exact bI_u (bI_u (bI_u (bI_u (bI_u (bI_u (bI_u jh (jm_w_in _)) i70) iv) b70) iv) i42) iv
    have hFN := FN.mk (c := c) (g := N 42 0 c) (i := i) (on := N 45 0 c) oN kh2 uj uk ul um un uo up
    have npf : ∀ f : Nat, 42 ≤ f → f ≠ 43 → f ≠ 46 → f ≠ 56 → f ≠ 57 → f ≠ 55 → ∀ k : Int, Np f 0 k = Nh f 0 k := fun f y0 y1 y2 y3 y4 y5 k => by
      rw [up, jm_une_f (fun z => by rw [z] at y0; exact absurd y0 (by decide)), uo, jm_une_f y1, un, jm_une_f y5, um, jm_une_f (fun z => by rw [z] at y0; exact absurd y0 (by decide)), ul, jm_une_f y4, uk, jm_une_f y3, uj, jm_une_f y2]
    have v41 : Np 41 0 c = v := by rw [up]; exact jm_ueq
    have v43 : Np 43 0 c = N 42 0 c + 1 := by rw [up, jm_une_f (by decide), uo]; exact jm_ueq
    have v39 : Np 39 0 c = N 39 0 c := by rw [up, jm_une_f (by decide), uo, jm_une_f (by decide), un, jm_une_f (by decide), um, jm_une_f (by decide), ul, jm_une_f (by decide), uk, jm_une_f (by decide), uj, jm_une_f (by decide), kh2' 39 (by decide)]; exact oN' 39 (by decide) 0 c
    have v55 : Np 55 0 (60 * c + N 42 0 c) = v := by rw [up, jm_une_f (by decide), uo, jm_une_f (by decide), un]; exact jm_ueq
    have v70 : Np 0 0 70 = N 0 0 70 + 1 := by rw [up, jm_une_f (by decide), uo, jm_une_f (by decide), un, jm_une_f (by decide), um]; exact jm_ueq
    have v57 : Np 57 0 (5 * c + i) = v := by rw [up, jm_une_f (by decide), uo, jm_une_f (by decide), un, jm_une_f (by decide), um, jm_une_f (by decide), ul]; exact jm_ueq
    have v56 : Np 56 0 (5 * c + i) = N 0 0 70 := by rw [up, jm_une_f (by decide), uo, jm_une_f (by decide), un, jm_une_f (by decide), um, jm_une_f (by decide), ul, jm_une_f (by decide), uk]; exact jm_ueq
    have v46 : Np 46 0 (4 * c + N 45 0 c) = jm_w (N 46 0 (4 * c + N 45 0 c) + inc) := by rw [up, jm_une_f (by decide), uo, jm_une_f (by decide), un, jm_une_f (by decide), um, jm_une_f (by decide), ul, jm_une_f (by decide), uk, jm_une_f (by decide), uj]; exact jm_ueq
    have v44 : Np 44 0 c = Ne 44 0 c := (npf 44 (by decide) (by decide) (by decide) (by decide) (by decide) (by decide) c).trans (kh2' 44 (by decide) 0 c)
    have v47 : Np 47 0 c = Ne 47 0 c := (npf 47 (by decide) (by decide) (by decide) (by decide) (by decide) (by decide) c).trans (kh2' 47 (by decide) 0 c)
    have v48 : Np 48 0 c = Ne 48 0 c := (npf 48 (by decide) (by decide) (by decide) (by decide) (by decide) (by decide) c).trans (kh2' 48 (by decide) 0 c)
    have v50 : Np 50 0 c = Ne 50 0 c := (npf 50 (by decide) (by decide) (by decide) (by decide) (by decide) (by decide) c).trans (kh2' 50 (by decide) 0 c)
    have v42 : Np 42 0 c = Ne 42 0 c := (npf 42 (by decide) (by decide) (by decide) (by decide) (by decide) (by decide) c).trans (kh2' 42 (by decide) 0 c)
    have vn : ∀ f : Nat, f = 45 ∨ f = 49 ∨ f = 54 → Np f 0 c = N f 0 c := fun f y => by
      rcases y with rfl | rfl | rfl
      · exact (npf 45 (by decide) (by decide) (by decide) (by decide) (by decide) (by decide) c).trans n45
      · exact (npf 49 (by decide) (by decide) (by decide) (by decide) (by decide) (by decide) c).trans ((kh2' 49 (by decide) 0 c).trans (oN' 49 (by decide) 0 c))
      · exact (npf 54 (by decide) (by decide) (by decide) (by decide) (by decide) (by decide) c).trans ((kh2' 54 (by decide) 0 c).trans (oN' 54 (by decide) 0 c))
    have k9f : ∀ k : Int, k ≠ 0 → k ≠ 2 → ¬ (k = 7 ∨ k = 10 ∨ k = 11) → Mi 9 c k = Mf 9 c k := fun k y1 y2 y3 => by rw [ki9 k y1 y2, kh9 k y3, og 9 (by decide)]
    have tM : ∀ (f : Nat) (j k : Int), TD1 f j k → Mi f j k = Mf f j k := fun f j k y => by
      rw [ki f j k (KLx.tl y).1, kh1 f j k (KLx.tl (s := 0) (g := 0) y).2, ug, jm_une (KLx.t26 y)]
    have tN : ∀ (f : Nat) (j k : Int), TD2 f j k → Np f j k = Ne f j k := fun f j k y => KLx.np y kh2 uj uk ul um un uo up
    have tp : TLD Mi Np := tl.kp tM tN
    have a46 : Mi 29 c (N 45 0 c) = Np 46 0 (4 * c + N 45 0 c) ∧ 0 ≤ Np 46 0 (4 * c + N 45 0 c) ∧ Np 46 0 (4 * c + N 45 0 c) ≤ 100 + 2 * (N 0 0 70 + 1) := by
      have ib := ic.2.2.1 (N 45 0 c) on.1 on.2
      have hinc : 0 ≤ inc ∧ inc ≤ 2 := inc_b hsl einc
      rw [v46, ki' 29 (by decide) (by decide) (by decide) (by decide), kh1' 29 (by decide), og 29 (by decide), e29]
      exact ⟨rfl, inc_w ib hinc ⟨u70, hT⟩⟩
    have pro : PRO M N c (N 42 0 c) v Mi Np := go_pro run hc h39 rfl rfl hg60 hi5 ho4 hFM hFN ii jp tp v70 ((ki' 2 (by decide) (by decide) (by decide) (by decide) 0 6).trans h26) (v42.trans e1.2) v43 v41 i90 ((k9f 1 (by decide) (by decide) (by decide)).trans e1.1) i92 ⟨(k9f 3 (by decide) (by decide) (by decide)).trans (oM9 3 (by decide)), (k9f 5 (by decide) (by decide) (by decide)).trans (oM9 5 (by decide)), (k9f 9 (by decide) (by decide) (by decide)).trans (oM9 9 (by decide)), (k9f 12 (by decide) (by decide) (by decide)).trans (oM9 12 (by decide))⟩ ⟨v39, vn 49 (by decide), vn 45 (by decide), vn 54 (by decide)⟩ ((k9f 6 (by decide) (by decide) (by decide)).trans (e6.trans v50.symm)) ((ki9 7 (by decide) (by decide)).trans (h7.trans (npf 51 (by decide) (by decide) (by decide) (by decide) (by decide) (by decide) c).symm)) ((k9f 8 (by decide) (by decide) (by decide)).trans (e8.trans v44.symm)) ((ki9 10 (by decide) (by decide)).trans (h10.trans (npf 52 (by decide) (by decide) (by decide) (by decide) (by decide) (by decide) c).symm)) ((ki9 11 (by decide) (by decide)).trans (h11.trans (npf 53 (by decide) (by decide) (by decide) (by decide) (by decide) (by decide) c).symm)) ((k9f 13 (by decide) (by decide) (by decide)).trans (e13.trans v47.symm)) ((k9f 14 (by decide) (by decide) (by decide)).trans (e14.trans v48.symm)) (by rw [v44]; exact efl) (by rw [v47]; exact emd) vb a46 i30 v55 v56 v57 i32 i33 (Int.le_trans (Int.add_le_add_left htk.1 _) vlo)
    have n01p : Np 0 0 1 = N 0 0 1 := (pro.1.2.2.2 0 0 1 (KG2.num (c := c)).2.2.1)
    rw [n01p, wsm]
    exact go_fin fu hfu iN0 run hc rfl ⟨b42.1, gsn⟩ hi bb.2 e4243.symm pro
  rcases hsl with rfl | rfl
  · refine J2.rT rfl (J2.rT hc6 ?_)
    by_cases y : Ne 47 0 c = -1
    · refine J2.rT y ?_
      rw [(einc.1 rfl).1 y] at fin
      exact fin
    · refine J2.rF y ?_
      rw [(einc.1 rfl).2 y] at fin
      exact fin
  · refine J2.rF (by decide) ?_
    rw [einc.2 rfl] at fin
    exact fin
