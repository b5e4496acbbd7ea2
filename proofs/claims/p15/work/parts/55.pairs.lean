/-! both memories: what is told to both is the same -/
def RR (M N : jm_M) : Prop := (M 1 0 0 = N 0 0 1 ∧ M 1 0 1 = N 0 0 2 ∧ M 2 0 5 = N 0 0 17 ∧ M 10 30 3 = N 0 0 8 ∧ M 10 31 3 = N 0 0 12 ∧ M 10 32 3 = N 0 0 75 ∧ M 0 0 7 = N 0 0 40) ∧ (∀ c : Int, 0 ≤ c → c < N 0 0 17 → M 10 c 3 = N 19 0 c ∧ M 10 (c + 6) 3 = N 22 0 c ∧ M 10 (c + 12) 3 = N 26 0 c ∧ M 10 (c + 18) 3 = N 31 0 c) ∧ (∀ c : Int, N 0 0 17 ≤ c → c < 6 → N 31 0 c = 0) ∧ (∀ k : Int, 0 ≤ k → k < 8 → M 18 0 k = N 5 0 k) ∧ (∀ k : Int, 0 ≤ k → k < 24 → M 17 0 k = N 4 0 k)
def IV (M N : jm_M) : Prop := bI bx1 M ∧ bI bx2 N ∧ WF N ∧ RR M N
theorem RR.kp {M N M1 N1 : jm_M} (h : RR M N) (i2 : bI bx2 N) (k1 : Kp RC1 M M1) (k2 : Kp RC2 N N1) : RR M1 N1 :=
  ⟨⟨by rw [k1 1 0 0 (by unfold RC1; omega), k2 0 0 1 (by unfold RC2; omega)]; exact h.1.1, by rw [k1 1 0 1 (by unfold RC1; omega), k2 0 0 2 (by unfold RC2; omega)]; exact h.1.2.1, by rw [k1 2 0 5 (by unfold RC1; omega), k2 0 0 17 (by unfold RC2; omega)]; exact h.1.2.2.1, by rw [k1 10 30 3 (by unfold RC1; omega), k2 0 0 8 (by unfold RC2; omega)]; exact h.1.2.2.2.1, by rw [k1 10 31 3 (by unfold RC1; omega), k2 0 0 12 (by unfold RC2; omega)]; exact h.1.2.2.2.2.1, by rw [k1 10 32 3 (by unfold RC1; omega), k2 0 0 75 (by unfold RC2; omega)]; exact h.1.2.2.2.2.2.1, by rw [k1 0 0 7 (by unfold RC1; omega), k2 0 0 40 (by unfold RC2; omega)]; exact h.1.2.2.2.2.2.2⟩, fun c y1 y2 => by
      rw [k2 0 0 17 (by unfold RC2; omega)] at y2
      have b17 : 0 ≤ N 0 0 17 ∧ N 0 0 17 ≤ 6 := i2 0 0 17
      rw [k1 10 c 3 (by unfold RC1; omega), k1 10 (c + 6) 3 (by unfold RC1; omega), k1 10 (c + 12) 3 (by unfold RC1; omega), k1 10 (c + 18) 3 (by unfold RC1; omega), k2 19 0 c (by unfold RC2; omega), k2 22 0 c (by unfold RC2; omega), k2 26 0 c (by unfold RC2; omega), k2 31 0 c (by unfold RC2; omega)]
      exact h.2.1 c y1 y2, fun c y1 y2 => by rw [k2 31 0 c (by unfold RC2; omega)]; exact h.2.2.1 c (by rw [← k2 0 0 17 (by unfold RC2; omega)]; exact y1) y2, fun k y1 y2 => by rw [k1 18 0 k (by unfold RC1; omega), k2 5 0 k (by unfold RC2; omega)]; exact h.2.2.2.1 k y1 y2, fun k y1 y2 => by rw [k1 17 0 k (by unfold RC1; omega), k2 4 0 k (by unfold RC2; omega)]; exact h.2.2.2.2 k y1 y2⟩
theorem IV.kp {M N M1 N1 : jm_M} (h : IV M N) (i1 : bI bx1 M1) (i2 : bI bx2 N1) (k1 : Kp RC1 M M1) (k2 : Kp RC2 N N1) : IV M1 N1 := ⟨i1, i2, h.2.2.1.kp k2 wf_RC2, h.2.2.2.kp h.2.1 k1 k2⟩
/-- a call of both: both say some, and what holds of both before holds after -/
def P2 (x y : jm_R) (same : Prop) : Prop := ∃ (r : Int) (M1 : jm_M) (s : Int) (N1 : jm_M), x = some (r, M1) ∧ y = some (s, N1) ∧ IV M1 N1 ∧ (same → r = s)
theorem P2.of {x y : jm_R} {same : Prop} {Q1 Q2 : Int → jm_M → Prop} (h1 : wp x Q1) (h2 : wp y Q2) (k : ∀ (r : Int) (M1 : jm_M) (s : Int) (N1 : jm_M), Q1 r M1 → Q2 s N1 → IV M1 N1 ∧ (same → r = s)) : P2 x y same := by
  obtain ⟨r, M1, e1, q1⟩ := h1
  obtain ⟨s, N1, e2, q2⟩ := h2
  obtain ⟨z1, z2⟩ := k r M1 s N1 q1 q2
  exact ⟨r, M1, s, N1, e1, e2, z1, z2⟩
theorem p_sector (M N : jm_M) (h : IV M N) (l1 l2 l3 : Int) (h1 : jm_in l1) (h2 : jm_in l2) (h3 : jm_in l3) : P2 (fX11_sector M l1 l2 l3) (fX12_sector N l1 l2 l3) True :=
  P2.of (s_fX11_sector M h.1 l1 l2 l3 h1 h2 h3) (s_fX12_sector N h.2.1 l1 l2 l3 h1 h2 h3) (fun r M1 s N1 a b => ⟨h.kp a.1 b.1 a.2.1 b.2.1, fun _ => by
    have e := h.2.2.2.1.1
    obtain ⟨-, -, -, -, a⟩ := a
    obtain ⟨-, -, -, -, b⟩ := b
    omega⟩)
theorem p_rain (M N : jm_M) (h : IV M N) (l1 l2 l3 : Int) (h1 : jm_in l1) (h2 : jm_in l2) (h3 : jm_in l3) : P2 (fX11_rain M l1 l2 l3) (fX12_rain N l1 l2 l3) True :=
  P2.of (s_fX11_rain M h.1 l1 l2 l3 h1 h2 h3) (s_fX12_rain N h.2.1 l1 l2 l3 h1 h2 h3) (fun r M1 s N1 a b => by
    obtain ⟨i1, k1, a⟩ := a
    obtain ⟨i2, k2, b⟩ := b
    obtain ⟨e1, e2, e3, e4, e5, e6, e7⟩ := h.2.2.2.1
    have b17 : 0 ≤ N 0 0 17 ∧ N 0 0 17 ≤ 6 := h.2.1 0 0 17
    have eq : M1 10 30 3 = N1 0 0 8 := by omega
    have es : r = s := by omega
    exact ⟨⟨i1, i2, h.2.2.1.kp k2 (fun k => by unfold TM2 RC2; omega), ⟨⟨by rw [k1 1 0 0 (by unfold TM1 RC1; omega), k2 0 0 1 (by unfold TM2 RC2; omega)]; exact h.2.2.2.1.1, by rw [k1 1 0 1 (by unfold TM1 RC1; omega), k2 0 0 2 (by unfold TM2 RC2; omega)]; exact h.2.2.2.1.2.1, by rw [k1 2 0 5 (by unfold TM1 RC1; omega), k2 0 0 17 (by unfold TM2 RC2; omega)]; exact h.2.2.2.1.2.2.1, eq, by rw [k1 10 31 3 (by unfold TM1 RC1; omega), k2 0 0 12 (by unfold TM2 RC2; omega)]; exact h.2.2.2.1.2.2.2.2.1, by rw [k1 10 32 3 (by unfold TM1 RC1; omega), k2 0 0 75 (by unfold TM2 RC2; omega)]; exact h.2.2.2.1.2.2.2.2.2.1, by rw [k1 0 0 7 (by unfold TM1 RC1; omega), k2 0 0 40 (by unfold TM2 RC2; omega)]; exact h.2.2.2.1.2.2.2.2.2.2⟩, fun c y1 y2 => by
      rw [k2 0 0 17 (by unfold TM2 RC2; omega)] at y2
      have b17 : 0 ≤ N 0 0 17 ∧ N 0 0 17 ≤ 6 := h.2.1 0 0 17
      rw [k1 10 c 3 (by unfold TM1 RC1; omega), k1 10 (c + 6) 3 (by unfold TM1 RC1; omega), k1 10 (c + 12) 3 (by unfold TM1 RC1; omega), k1 10 (c + 18) 3 (by unfold TM1 RC1; omega), k2 19 0 c (by unfold TM2 RC2; omega), k2 22 0 c (by unfold TM2 RC2; omega), k2 26 0 c (by unfold TM2 RC2; omega), k2 31 0 c (by unfold TM2 RC2; omega)]
      exact h.2.2.2.2.1 c y1 y2, fun c y1 y2 => by rw [k2 31 0 c (by unfold TM2 RC2; omega)]; exact h.2.2.2.2.2.1 c (by rw [← k2 0 0 17 (by unfold TM2 RC2; omega)]; exact y1) y2, fun k y1 y2 => by rw [k1 18 0 k (by unfold TM1 RC1; omega), k2 5 0 k (by unfold TM2 RC2; omega)]; exact h.2.2.2.2.2.2.1 k y1 y2, fun k y1 y2 => by rw [k1 17 0 k (by unfold TM1 RC1; omega), k2 4 0 k (by unfold TM2 RC2; omega)]; exact h.2.2.2.2.2.2.2 k y1 y2⟩⟩, fun _ => es⟩)
theorem p_flag (fu : Nat) (hfu : 4000 ≤ fu) (M N : jm_M) (h : IV M N) (l1 l2 l3 l4 : Int) (h1 : jm_in l1) (h2 : jm_in l2) (h3 : jm_in l3) (h4 : jm_in l4) : P2 (fX11_flag fu M l1 l2 l3 l4) (fX12_flag fu N l1 l2 l3 l4) True :=
  P2.of (s_fX11_flag fu hfu M h.1 l1 l2 l3 l4 h1 h2 h3 h4) (s_fX12_flag fu hfu N h.2.1 l1 l2 l3 l4 h1 h2 h3 h4) (fun r M1 s N1 a b => by
    obtain ⟨i1, k1, a⟩ := a
    obtain ⟨i2, k2, b⟩ := b
    obtain ⟨e1, e2, e3, e4, e5, e6, e7⟩ := h.2.2.2.1
    have b17 : 0 ≤ N 0 0 17 ∧ N 0 0 17 ≤ 6 := h.2.1 0 0 17
    have eq : M1 10 31 3 = N1 0 0 12 := by omega
    have es : r = s := by omega
    exact ⟨⟨i1, i2, h.2.2.1.kp k2 (fun k => by unfold TM2 RC2; omega), ⟨⟨by rw [k1 1 0 0 (by unfold TM1 RC1; omega), k2 0 0 1 (by unfold TM2 RC2; omega)]; exact h.2.2.2.1.1, by rw [k1 1 0 1 (by unfold TM1 RC1; omega), k2 0 0 2 (by unfold TM2 RC2; omega)]; exact h.2.2.2.1.2.1, by rw [k1 2 0 5 (by unfold TM1 RC1; omega), k2 0 0 17 (by unfold TM2 RC2; omega)]; exact h.2.2.2.1.2.2.1, by rw [k1 10 30 3 (by unfold TM1 RC1; omega), k2 0 0 8 (by unfold TM2 RC2; omega)]; exact h.2.2.2.1.2.2.2.1, eq, by rw [k1 10 32 3 (by unfold TM1 RC1; omega), k2 0 0 75 (by unfold TM2 RC2; omega)]; exact h.2.2.2.1.2.2.2.2.2.1, by rw [k1 0 0 7 (by unfold TM1 RC1; omega), k2 0 0 40 (by unfold TM2 RC2; omega)]; exact h.2.2.2.1.2.2.2.2.2.2⟩, fun c y1 y2 => by
      rw [k2 0 0 17 (by unfold TM2 RC2; omega)] at y2
      have b17 : 0 ≤ N 0 0 17 ∧ N 0 0 17 ≤ 6 := h.2.1 0 0 17
      rw [k1 10 c 3 (by unfold TM1 RC1; omega), k1 10 (c + 6) 3 (by unfold TM1 RC1; omega), k1 10 (c + 12) 3 (by unfold TM1 RC1; omega), k1 10 (c + 18) 3 (by unfold TM1 RC1; omega), k2 19 0 c (by unfold TM2 RC2; omega), k2 22 0 c (by unfold TM2 RC2; omega), k2 26 0 c (by unfold TM2 RC2; omega), k2 31 0 c (by unfold TM2 RC2; omega)]
      exact h.2.2.2.2.1 c y1 y2, fun c y1 y2 => by rw [k2 31 0 c (by unfold TM2 RC2; omega)]; exact h.2.2.2.2.2.1 c (by rw [← k2 0 0 17 (by unfold TM2 RC2; omega)]; exact y1) y2, fun k y1 y2 => by rw [k1 18 0 k (by unfold TM1 RC1; omega), k2 5 0 k (by unfold TM2 RC2; omega)]; exact h.2.2.2.2.2.2.1 k y1 y2, fun k y1 y2 => by rw [k1 17 0 k (by unfold TM1 RC1; omega), k2 4 0 k (by unfold TM2 RC2; omega)]; exact h.2.2.2.2.2.2.2 k y1 y2⟩⟩, fun _ => es⟩)
theorem p_finding (fu : Nat) (hfu : 4000 ≤ fu) (M N : jm_M) (h : IV M N) (l1 l2 l3 l4 : Int) (h1 : jm_in l1) (h2 : jm_in l2) (h3 : jm_in l3) (h4 : jm_in l4) : P2 (fX11_finding fu M l1 l2 l3 l4) (fX12_finding fu N l1 l2 l3 l4) True :=
  P2.of (s_fX11_finding fu hfu M h.1 l1 l2 l3 l4 h1 h2 h3 h4) (s_fX12_finding fu hfu N h.2.1 l1 l2 l3 l4 h1 h2 h3 h4) (fun r M1 s N1 a b => by
    obtain ⟨i1, k1, a⟩ := a
    obtain ⟨i2, k2, b⟩ := b
    obtain ⟨e1, e2, e3, e4, e5, e6, e7⟩ := h.2.2.2.1
    have b17 : 0 ≤ N 0 0 17 ∧ N 0 0 17 ≤ 6 := h.2.1 0 0 17
    have eq : M1 10 32 3 = N1 0 0 75 := by omega
    have es : r = s := by omega
    exact ⟨⟨i1, i2, h.2.2.1.kp k2 (fun k => by unfold TM2 RC2; omega), ⟨⟨by rw [k1 1 0 0 (by unfold TM1 RC1; omega), k2 0 0 1 (by unfold TM2 RC2; omega)]; exact h.2.2.2.1.1, by rw [k1 1 0 1 (by unfold TM1 RC1; omega), k2 0 0 2 (by unfold TM2 RC2; omega)]; exact h.2.2.2.1.2.1, by rw [k1 2 0 5 (by unfold TM1 RC1; omega), k2 0 0 17 (by unfold TM2 RC2; omega)]; exact h.2.2.2.1.2.2.1, by rw [k1 10 30 3 (by unfold TM1 RC1; omega), k2 0 0 8 (by unfold TM2 RC2; omega)]; exact h.2.2.2.1.2.2.2.1, by rw [k1 10 31 3 (by unfold TM1 RC1; omega), k2 0 0 12 (by unfold TM2 RC2; omega)]; exact h.2.2.2.1.2.2.2.2.1, eq, by rw [k1 0 0 7 (by unfold TM1 RC1; omega), k2 0 0 40 (by unfold TM2 RC2; omega)]; exact h.2.2.2.1.2.2.2.2.2.2⟩, fun c y1 y2 => by
      rw [k2 0 0 17 (by unfold TM2 RC2; omega)] at y2
      have b17 : 0 ≤ N 0 0 17 ∧ N 0 0 17 ≤ 6 := h.2.1 0 0 17
      rw [k1 10 c 3 (by unfold TM1 RC1; omega), k1 10 (c + 6) 3 (by unfold TM1 RC1; omega), k1 10 (c + 12) 3 (by unfold TM1 RC1; omega), k1 10 (c + 18) 3 (by unfold TM1 RC1; omega), k2 19 0 c (by unfold TM2 RC2; omega), k2 22 0 c (by unfold TM2 RC2; omega), k2 26 0 c (by unfold TM2 RC2; omega), k2 31 0 c (by unfold TM2 RC2; omega)]
      exact h.2.2.2.2.1 c y1 y2, fun c y1 y2 => by rw [k2 31 0 c (by unfold TM2 RC2; omega)]; exact h.2.2.2.2.2.1 c (by rw [← k2 0 0 17 (by unfold TM2 RC2; omega)]; exact y1) y2, fun k y1 y2 => by rw [k1 18 0 k (by unfold TM1 RC1; omega), k2 5 0 k (by unfold TM2 RC2; omega)]; exact h.2.2.2.2.2.2.1 k y1 y2, fun k y1 y2 => by rw [k1 17 0 k (by unfold TM1 RC1; omega), k2 4 0 k (by unfold TM2 RC2; omega)]; exact h.2.2.2.2.2.2.2 k y1 y2⟩⟩, fun _ => es⟩)
theorem p_sign (fu : Nat) (hfu : 4000 ≤ fu) (M N : jm_M) (h : IV M N) (l1 : Int) (h1 : jm_in l1) : P2 (fX11_sign fu M l1) (fX12_sign fu N l1) True :=
  P2.of (s_fX11_sign fu hfu M h.1 l1 h1) (s_fX12_sign fu hfu N h.2.1 l1 h1) (fun r M1 s N1 a b => by
    obtain ⟨i1, k1, a⟩ := a
    obtain ⟨i2, k2, b⟩ := b
    obtain ⟨e1, e2, e3, e4, e5, e6, e7⟩ := h.2.2.2.1
    have b17 : 0 ≤ N 0 0 17 ∧ N 0 0 17 ≤ 6 := h.2.1 0 0 17
    have eq : M1 0 0 7 = N1 0 0 40 := by omega
    have es : r = s := by omega
    exact ⟨⟨i1, i2, h.2.2.1.kp k2 (fun k => by unfold TV2 RC2; omega), ⟨⟨by rw [k1 1 0 0 (by unfold TZ1 RC1; omega), k2 0 0 1 (by unfold TV2 RC2; omega)]; exact h.2.2.2.1.1, by rw [k1 1 0 1 (by unfold TZ1 RC1; omega), k2 0 0 2 (by unfold TV2 RC2; omega)]; exact h.2.2.2.1.2.1, by rw [k1 2 0 5 (by unfold TZ1 RC1; omega), k2 0 0 17 (by unfold TV2 RC2; omega)]; exact h.2.2.2.1.2.2.1, by rw [k1 10 30 3 (by unfold TZ1 RC1; omega), k2 0 0 8 (by unfold TV2 RC2; omega)]; exact h.2.2.2.1.2.2.2.1, by rw [k1 10 31 3 (by unfold TZ1 RC1; omega), k2 0 0 12 (by unfold TV2 RC2; omega)]; exact h.2.2.2.1.2.2.2.2.1, by rw [k1 10 32 3 (by unfold TZ1 RC1; omega), k2 0 0 75 (by unfold TV2 RC2; omega)]; exact h.2.2.2.1.2.2.2.2.2.1, eq⟩, fun c y1 y2 => by
      rw [k2 0 0 17 (by unfold TV2 RC2; omega)] at y2
      have b17 : 0 ≤ N 0 0 17 ∧ N 0 0 17 ≤ 6 := h.2.1 0 0 17
      rw [k1 10 c 3 (by unfold TZ1 RC1; omega), k1 10 (c + 6) 3 (by unfold TZ1 RC1; omega), k1 10 (c + 12) 3 (by unfold TZ1 RC1; omega), k1 10 (c + 18) 3 (by unfold TZ1 RC1; omega), k2 19 0 c (by unfold TV2 RC2; omega), k2 22 0 c (by unfold TV2 RC2; omega), k2 26 0 c (by unfold TV2 RC2; omega), k2 31 0 c (by unfold TV2 RC2; omega)]
      exact h.2.2.2.2.1 c y1 y2, fun c y1 y2 => by rw [k2 31 0 c (by unfold TV2 RC2; omega)]; exact h.2.2.2.2.2.1 c (by rw [← k2 0 0 17 (by unfold TV2 RC2; omega)]; exact y1) y2, fun k y1 y2 => by rw [k1 18 0 k (by unfold TZ1 RC1; omega), k2 5 0 k (by unfold TV2 RC2; omega)]; exact h.2.2.2.2.2.2.1 k y1 y2, fun k y1 y2 => by rw [k1 17 0 k (by unfold TZ1 RC1; omega), k2 4 0 k (by unfold TV2 RC2; omega)]; exact h.2.2.2.2.2.2.2 k y1 y2⟩⟩, fun _ => es⟩)
theorem p_end (M N : jm_M) (h : IV M N) (l1 : Int) (h1 : jm_in l1) : P2 (fX11_end M l1) (fX12_end N l1) True :=
  P2.of (s_fX11_end M h.1 l1 h1) (s_fX12_end N h.2.1 l1 h1) (fun r M1 s N1 a b => by
    obtain ⟨i1, k1, a⟩ := a
    obtain ⟨i2, k2, b⟩ := b
    obtain ⟨e1, e2, e3, e4, e5, e6, e7⟩ := h.2.2.2.1
    have b17 : 0 ≤ N 0 0 17 ∧ N 0 0 17 ≤ 6 := h.2.1 0 0 17
    have eq : M1 0 0 7 = N1 0 0 40 := by omega
    have es : r = s := by omega
    exact ⟨⟨i1, i2, h.2.2.1.kp k2 (fun k => by unfold TM2 RC2; omega), ⟨⟨by rw [k1 1 0 0 (by unfold TZ1 RC1; omega), k2 0 0 1 (by unfold TM2 RC2; omega)]; exact h.2.2.2.1.1, by rw [k1 1 0 1 (by unfold TZ1 RC1; omega), k2 0 0 2 (by unfold TM2 RC2; omega)]; exact h.2.2.2.1.2.1, by rw [k1 2 0 5 (by unfold TZ1 RC1; omega), k2 0 0 17 (by unfold TM2 RC2; omega)]; exact h.2.2.2.1.2.2.1, by rw [k1 10 30 3 (by unfold TZ1 RC1; omega), k2 0 0 8 (by unfold TM2 RC2; omega)]; exact h.2.2.2.1.2.2.2.1, by rw [k1 10 31 3 (by unfold TZ1 RC1; omega), k2 0 0 12 (by unfold TM2 RC2; omega)]; exact h.2.2.2.1.2.2.2.2.1, by rw [k1 10 32 3 (by unfold TZ1 RC1; omega), k2 0 0 75 (by unfold TM2 RC2; omega)]; exact h.2.2.2.1.2.2.2.2.2.1, eq⟩, fun c y1 y2 => by
      rw [k2 0 0 17 (by unfold TM2 RC2; omega)] at y2
      have b17 : 0 ≤ N 0 0 17 ∧ N 0 0 17 ≤ 6 := h.2.1 0 0 17
      rw [k1 10 c 3 (by unfold TZ1 RC1; omega), k1 10 (c + 6) 3 (by unfold TZ1 RC1; omega), k1 10 (c + 12) 3 (by unfold TZ1 RC1; omega), k1 10 (c + 18) 3 (by unfold TZ1 RC1; omega), k2 19 0 c (by unfold TM2 RC2; omega), k2 22 0 c (by unfold TM2 RC2; omega), k2 26 0 c (by unfold TM2 RC2; omega), k2 31 0 c (by unfold TM2 RC2; omega)]
      exact h.2.2.2.2.1 c y1 y2, fun c y1 y2 => by rw [k2 31 0 c (by unfold TM2 RC2; omega)]; exact h.2.2.2.2.2.1 c (by rw [← k2 0 0 17 (by unfold TM2 RC2; omega)]; exact y1) y2, fun k y1 y2 => by rw [k1 18 0 k (by unfold TZ1 RC1; omega), k2 5 0 k (by unfold TM2 RC2; omega)]; exact h.2.2.2.2.2.2.1 k y1 y2, fun k y1 y2 => by rw [k1 17 0 k (by unfold TZ1 RC1; omega), k2 4 0 k (by unfold TM2 RC2; omega)]; exact h.2.2.2.2.2.2.2 k y1 y2⟩⟩, fun _ => es⟩)
theorem p_of (fu : Nat) (hfu : 4000 ≤ fu) (M N : jm_M) (h : IV M N) (l1 l2 : Int) (h1 : jm_in l1) (h2 : jm_in l2) : P2 (fX11_of fu M l1 l2) (fX12_of fu N l1 l2) False :=
  P2.of (s_fX11_of fu hfu M h.1 l1 l2 h1 h2) (s_fX12_of fu hfu N h.2.1 l1 l2 h1 h2 h.2.2.1) (fun r M1 s N1 a b => ⟨h.kp a.1 b.1 (a.2.1.weak tt_RC1_TA) (b.2.1.weak tt_RC2_TA2), fun q => absurd q (by decide)⟩)
theorem p_led (fu : Nat) (hfu : 4000 ≤ fu) (M N : jm_M) (h : IV M N) (l1 l2 : Int) (h1 : jm_in l1) (h2 : jm_in l2) : P2 (fX11_led fu M l1 l2) (fX12_led fu N l1 l2) False :=
  P2.of (s_fX11_led fu hfu M h.1 l1 l2 h1 h2) (s_fX12_led fu hfu N h.2.1 l1 l2 h1 h2 h.2.2.1) (fun r M1 s N1 a b => ⟨h.kp a.1 b.1 (a.2.1.weak tt_RC1_TA) (b.2.1.weak tt_RC2_TA2), fun q => absurd q (by decide)⟩)
theorem p_at (fu : Nat) (hfu : 4000 ≤ fu) (M N : jm_M) (h : IV M N) (l1 l2 l3 : Int) (h1 : jm_in l1) (h2 : jm_in l2) (h3 : jm_in l3) : P2 (fX11_at fu M l1 l2 l3) (fX12_at fu N l1 l2 l3) False :=
  P2.of (s_fX11_at fu hfu M h.1 l1 l2 l3 h1 h2 h3) (s_fX12_at fu hfu N h.2.1 l1 l2 l3 h1 h2 h3 h.2.2.1) (fun r M1 s N1 a b => ⟨h.kp a.1 b.1 (a.2.1.weak tt_RC1_TA) (b.2.1.weak tt_RC2_TA2), fun q => absurd q (by decide)⟩)
theorem p_waited (fu : Nat) (hfu : 4000 ≤ fu) (M N : jm_M) (h : IV M N) (l1 : Int) (h1 : jm_in l1) : P2 (fX11_waited fu M l1) (fX12_waited fu N l1) False :=
  P2.of (s_fX11_waited fu hfu M h.1 l1 h1) (s_fX12_waited fu hfu N h.2.1 l1 h1 h.2.2.1) (fun r M1 s N1 a b => ⟨h.kp a.1 b.1 (a.2.1.weak tt_RC1_TA) (b.2.1.weak tt_RC2_TA2), fun q => absurd q (by decide)⟩)
theorem p_leads (fu : Nat) (hfu : 4000 ≤ fu) (M N : jm_M) (h : IV M N) : P2 (fX11_leads fu M ) (fX12_leads fu N ) False :=
  P2.of (s_fX11_leads fu hfu M h.1  ) (s_fX12_leads fu hfu N h.2.1   h.2.2.1) (fun r M1 s N1 a b => ⟨h.kp a.1 b.1 (a.2.1.weak tt_RC1_TA) (b.2.1.weak tt_RC2_TA2), fun q => absurd q (by decide)⟩)
theorem p_seconds (fu : Nat) (hfu : 4000 ≤ fu) (M N : jm_M) (h : IV M N) (l1 l2 : Int) (h1 : jm_in l1) (h2 : jm_in l2) : P2 (fX11_seconds fu M l1 l2) (fX12_seconds fu N l1 l2) False :=
  P2.of (s_fX11_seconds fu hfu M h.1 l1 l2 h1 h2) (s_fX12_seconds fu hfu N h.2.1 l1 l2 h1 h2 h.2.2.1) (fun r M1 s N1 a b => ⟨h.kp a.1 b.1 (a.2.1.weak tt_RC1_TA) (b.2.1.weak tt_RC2_TA2), fun q => absurd q (by decide)⟩)
theorem p_place (fu : Nat) (hfu : 4000 ≤ fu) (M N : jm_M) (h : IV M N) (l1 l2 : Int) (h1 : jm_in l1) (h2 : jm_in l2) : P2 (fX11_place fu M l1 l2) (fX12_place fu N l1 l2) False :=
  P2.of (s_fX11_place fu hfu M h.1 l1 l2 h1 h2) (s_fX12_place fu hfu N h.2.1 l1 l2 h1 h2 h.2.2.1) (fun r M1 s N1 a b => ⟨h.kp a.1 b.1 (a.2.1.weak tt_RC1_TA) (b.2.1.weak tt_RC2_TA2), fun q => absurd q (by decide)⟩)
theorem p_sum (fu : Nat) (hfu : 4000 ≤ fu) (M N : jm_M) (h : IV M N) (l1 l2 : Int) (h1 : jm_in l1) (h2 : jm_in l2) : P2 (fX11_sum fu M l1 l2) (fX12_sum fu N l1 l2) False :=
  P2.of (s_fX11_sum fu hfu M h.1 l1 l2 h1 h2) (s_fX12_sum fu hfu N h.2.1 l1 l2 h1 h2 h.2.2.1) (fun r M1 s N1 a b => ⟨h.kp a.1 b.1 (a.2.1.weak tt_RC1_TA) (b.2.1.weak tt_RC2_TA2), fun q => absurd q (by decide)⟩)
theorem p_within (fu : Nat) (hfu : 4000 ≤ fu) (M N : jm_M) (h : IV M N) (l1 l2 : Int) (h1 : jm_in l1) (h2 : jm_in l2) : P2 (fX11_within fu M l1 l2) (fX12_within fu N l1 l2) False :=
  P2.of (s_fX11_within fu hfu M h.1 l1 l2 h1 h2) (s_fX12_within fu hfu N h.2.1 l1 l2 h1 h2 h.2.2.1) (fun r M1 s N1 a b => ⟨h.kp a.1 b.1 (a.2.1.weak tt_RC1_TA) (b.2.1.weak tt_RC2_TA2), fun q => absurd q (by decide)⟩)
theorem p_result (fu : Nat) (hfu : 4000 ≤ fu) (M N : jm_M) (h : IV M N) (l1 : Int) (h1 : jm_in l1) : P2 (fX11_result fu M l1) (fX12_result fu N l1) False :=
  P2.of (s_fX11_result fu hfu M h.1 l1 h1) (s_fX12_result fu hfu N h.2.1 l1 h1 h.2.2.1) (fun r M1 s N1 a b => ⟨h.kp a.1 b.1 (a.2.1.weak tt_RC1_TP) b.2.1, fun q => absurd q (by decide)⟩)
theorem p_best (fu : Nat) (hfu : 4000 ≤ fu) (M N : jm_M) (h : IV M N) (l1 l2 l3 : Int) (h1 : jm_in l1) (h2 : jm_in l2) (h3 : jm_in l3) : P2 (fX11_best fu M l1 l2 l3) (fX12_best fu N l1 l2 l3) False :=
  P2.of (s_fX11_best fu hfu M h.1 l1 l2 l3 h1 h2 h3) (s_fX12_best fu hfu N h.2.1 l1 l2 l3 h1 h2 h3 h.2.2.1) (fun r M1 s N1 a b => ⟨h.kp a.1 b.1 (a.2.1.weak tt_RC1_TPM) b.2.1, fun q => absurd q (by decide)⟩)
theorem p_gain (fu : Nat) (hfu : 4000 ≤ fu) (M N : jm_M) (h : IV M N) (l1 l2 l3 : Int) (h1 : jm_in l1) (h2 : jm_in l2) (h3 : jm_in l3) : P2 (fX11_gain fu M l1 l2 l3) (fX12_gain fu N l1 l2 l3) False :=
  P2.of (s_fX11_gain fu hfu M h.1 l1 l2 l3 h1 h2 h3) (s_fX12_gain fu hfu N h.2.1 l1 l2 l3 h1 h2 h3 h.2.2.1) (fun r M1 s N1 a b => ⟨h.kp a.1 b.1 (a.2.1.weak tt_RC1_TAM) b.2.1, fun q => absurd q (by decide)⟩)
theorem p_settle (fu : Nat) (hfu : 4000 ≤ fu) (M N : jm_M) (h : IV M N) (l1 l2 l3 : Int) (h1 : jm_in l1) (h2 : jm_in l2) (h3 : jm_in l3) : P2 (fX11_settle fu M l1 l2 l3) (fX12_settle fu N l1 l2 l3) False :=
  P2.of (s_fX11_settle fu hfu M h.1 l1 l2 l3 h1 h2 h3) (s_fX12_settle fu hfu N h.2.1 l1 l2 l3 h1 h2 h3 h.2.2.1) (fun r M1 s N1 a b => ⟨h.kp a.1 b.1 (a.2.1.weak tt_RC1_TAM) b.2.1, fun q => absurd q (by decide)⟩)
theorem p_known (fu : Nat) (hfu : 4000 ≤ fu) (M N : jm_M) (h : IV M N) (l1 l2 l3 l4 : Int) (h1 : jm_in l1) (h2 : jm_in l2) (h3 : jm_in l3) (h4 : jm_in l4) : P2 (fX11_known fu M l1 l2 l3 l4) (fX12_known fu N l1 l2 l3 l4) False :=
  P2.of (s_fX11_known fu hfu M h.1 l1 l2 l3 l4 h1 h2 h3 h4) (s_fX12_known fu hfu N h.2.1 l1 l2 l3 l4 h1 h2 h3 h4 h.2.2.1) (fun r M1 s N1 a b => ⟨h.kp a.1 b.1 (a.2.1.weak tt_RC1_TA) (b.2.1.weak tt_RC2_TA2), fun q => absurd q (by decide)⟩)
theorem p_ahead (fu : Nat) (hfu : 4000 ≤ fu) (M N : jm_M) (h : IV M N) (l1 l2 l3 l4 : Int) (h1 : jm_in l1) (h2 : jm_in l2) (h3 : jm_in l3) (h4 : jm_in l4) : P2 (fX11_ahead fu M l1 l2 l3 l4) (fX12_ahead fu N l1 l2 l3 l4) False :=
  P2.of (s_fX11_ahead fu hfu M h.1 l1 l2 l3 l4 h1 h2 h3 h4) (s_fX12_ahead fu hfu N h.2.1 l1 l2 l3 l4 h1 h2 h3 h4 h.2.2.1) (fun r M1 s N1 a b => ⟨h.kp a.1 b.1 (a.2.1.weak tt_RC1_TA) (b.2.1.weak tt_RC2_TA2), fun q => absurd q (by decide)⟩)
theorem p_wall (fu : Nat) (hfu : 4000 ≤ fu) (M N : jm_M) (h : IV M N) (l1 l2 : Int) (h1 : jm_in l1) (h2 : jm_in l2) : P2 (fX11_wall fu M l1 l2) (fX12_wall fu N l1 l2) False :=
  P2.of (s_fX11_wall fu hfu M h.1 l1 l2 h1 h2) (s_fX12_wall fu hfu N h.2.1 l1 l2 h1 h2 h.2.2.1) (fun r M1 s N1 a b => ⟨h.kp a.1 b.1 (a.2.1.weak tt_RC1_TA) (b.2.1.weak tt_RC2_TA2), fun q => absurd q (by decide)⟩)
theorem p_why (fu : Nat) (hfu : 4000 ≤ fu) (M N : jm_M) (h : IV M N) (l1 l2 : Int) (h1 : jm_in l1) (h2 : jm_in l2) : P2 (fX11_why fu M l1 l2) (fX12_why fu N l1 l2) False :=
  P2.of (s_fX11_why fu hfu M h.1 l1 l2 h1 h2) (s_fX12_why fu hfu N h.2.1 l1 l2 h1 h2 h.2.2.1) (fun r M1 s N1 a b => ⟨h.kp a.1 b.1 (a.2.1.weak tt_RC1_TA) (b.2.1.weak tt_RC2_TA2), fun q => absurd q (by decide)⟩)
theorem p_tyre (M N : jm_M) (h : IV M N) (l1 l2 l3 : Int) (h1 : jm_in l1) (h2 : jm_in l2) (h3 : jm_in l3) : P2 (fX11_tyre M l1 l2 l3) (fX12_tyre N l1 l2 l3) True :=
  P2.of (s_fX11_tyre M h.1 l1 l2 l3 h1 h2 h3) (s_fX12_tyre N h.2.1 l1 l2 l3 h1 h2 h3) (fun r M1 s N1 a b => by
    obtain ⟨i1, k1, a⟩ := a
    obtain ⟨i2, k2, b⟩ := b
    obtain ⟨e1, e2, e3, e4, e5, e6, e7⟩ := h.2.2.2.1
    have b17 : 0 ≤ N 0 0 17 ∧ N 0 0 17 ≤ 6 := h.2.1 0 0 17
    have lm : 0 ≤ l1 → l1 < 6 → lim1 l1 = 4 := fun y1 y2 => lim1_0 (by omega) (by omega)
    have gg : 0 ≤ l1 → l1 < N 0 0 17 → M 10 l1 3 = N 19 0 l1 := fun y1 y2 => (h.2.2.2.2.1 l1 y1 y2).1
    have eqc : 0 ≤ l1 → l1 < N 0 0 17 → M1 10 l1 3 = N1 19 0 l1 := fun y1 y2 => by
      have z1 := lm y1 (by omega)
      have z2 := gg y1 y2
      omega
    have es : r = s := by omega
    by_cases hv : 0 ≤ l1 ∧ l1 < N 0 0 17
    · exact ⟨⟨i1, i2, h.2.2.1.kp k2 (fun k => by unfold TM2 RC2; omega), ⟨⟨by rw [k1 1 0 0 (by unfold TM1 RC1; omega), k2 0 0 1 (by unfold TM2 RC2; omega)]; exact h.2.2.2.1.1, by rw [k1 1 0 1 (by unfold TM1 RC1; omega), k2 0 0 2 (by unfold TM2 RC2; omega)]; exact h.2.2.2.1.2.1, by rw [k1 2 0 5 (by unfold TM1 RC1; omega), k2 0 0 17 (by unfold TM2 RC2; omega)]; exact h.2.2.2.1.2.2.1, by rw [k1 10 30 3 (by unfold TM1 RC1; omega), k2 0 0 8 (by unfold TM2 RC2; omega)]; exact h.2.2.2.1.2.2.2.1, by rw [k1 10 31 3 (by unfold TM1 RC1; omega), k2 0 0 12 (by unfold TM2 RC2; omega)]; exact h.2.2.2.1.2.2.2.2.1, by rw [k1 10 32 3 (by unfold TM1 RC1; omega), k2 0 0 75 (by unfold TM2 RC2; omega)]; exact h.2.2.2.1.2.2.2.2.2.1, by rw [k1 0 0 7 (by unfold TM1 RC1; omega), k2 0 0 40 (by unfold TM2 RC2; omega)]; exact h.2.2.2.1.2.2.2.2.2.2⟩, fun c y1 y2 => by
      rw [k2 0 0 17 (by unfold TM2 RC2; omega)] at y2
      obtain ⟨g1, g2, g3, g4⟩ := h.2.2.2.2.1 c y1 y2
      refine ⟨?_, ?_, ?_, ?_⟩
      · by_cases q : c = l1
        · rw [q] at y1 y2 ⊢
          exact eqc y1 y2
        · rw [k1 10 c 3 (by unfold TM1 RC1; omega), k2 19 0 c (by unfold TM2 RC2; omega)]; exact g1
      · rw [k1 10 (c + 6) 3 (by unfold TM1 RC1; omega), k2 22 0 c (by unfold TM2 RC2; omega)]; exact g2
      · rw [k1 10 (c + 12) 3 (by unfold TM1 RC1; omega), k2 26 0 c (by unfold TM2 RC2; omega)]; exact g3
      · rw [k1 10 (c + 18) 3 (by unfold TM1 RC1; omega), k2 31 0 c (by unfold TM2 RC2; omega)]; exact g4, fun c y1 y2 => by rw [k2 31 0 c (by unfold TM2 RC2; omega)]; exact h.2.2.2.2.2.1 c (by rw [← k2 0 0 17 (by unfold TM2 RC2; omega)]; exact y1) y2, fun k y1 y2 => by rw [k1 18 0 k (by unfold TM1 RC1; omega), k2 5 0 k (by unfold TM2 RC2; omega)]; exact h.2.2.2.2.2.2.1 k y1 y2, fun k y1 y2 => by rw [k1 17 0 k (by unfold TM1 RC1; omega), k2 4 0 k (by unfold TM2 RC2; omega)]; exact h.2.2.2.2.2.2.2 k y1 y2⟩⟩, fun _ => es⟩
    · have eA : M1 10 l1 3 = M 10 l1 3 := by omega
      have eB : N1 19 0 l1 = N 19 0 l1 := by omega
      refine ⟨h.kp i1 i2 (fun f i k q => ?_) (fun f i k q => ?_), fun _ => es⟩
      · by_cases z : f = 10 ∧ i = l1
        · obtain ⟨rfl, rfl⟩ := z
          have : k = 3 := by unfold RC1 at q; omega
          subst this
          exact eA
        · exact k1 f i k ⟨q, z⟩
      · by_cases z : f = 19 ∧ k = l1
        · obtain ⟨rfl, rfl⟩ := z
          have : i = 0 := q.1
          subst this
          exact eB
        · exact k2 f i k ⟨q, z⟩)
theorem p_order (fu : Nat) (hfu : 4000 ≤ fu) (M N : jm_M) (h : IV M N) (l1 l2 l3 l4 : Int) (h1 : jm_in l1) (h2 : jm_in l2) (h3 : jm_in l3) (h4 : jm_in l4) : P2 (fX11_order fu M l1 l2 l3 l4) (fX12_order fu N l1 l2 l3 l4) True :=
  P2.of (s_fX11_order fu hfu M h.1 l1 l2 l3 l4 h1 h2 h3 h4) (s_fX12_order fu hfu N h.2.1 l1 l2 l3 l4 h1 h2 h3 h4) (fun r M1 s N1 a b => by
    obtain ⟨i1, k1, a⟩ := a
    obtain ⟨i2, k2, b⟩ := b
    obtain ⟨e1, e2, e3, e4, e5, e6, e7⟩ := h.2.2.2.1
    have b17 : 0 ≤ N 0 0 17 ∧ N 0 0 17 ≤ 6 := h.2.1 0 0 17
    have lm : 0 ≤ l1 → l1 < 6 → lim1 (l1 + 6) = 12 := fun y1 y2 => lim1_6 (by omega) (by omega)
    have gg : 0 ≤ l1 → l1 < N 0 0 17 → M 10 (l1 + 6) 3 = N 22 0 l1 := fun y1 y2 => (h.2.2.2.2.1 l1 y1 y2).2.1
    have eqc : 0 ≤ l1 → l1 < N 0 0 17 → M1 10 (l1 + 6) 3 = N1 22 0 l1 := fun y1 y2 => by
      have z1 := lm y1 (by omega)
      have z2 := gg y1 y2
      omega
    have es : r = s := by omega
    by_cases hv : 0 ≤ l1 ∧ l1 < N 0 0 17
    · exact ⟨⟨i1, i2, h.2.2.1.kp k2 (fun k => by unfold TM2 RC2; omega), ⟨⟨by rw [k1 1 0 0 (by unfold TM1 RC1; omega), k2 0 0 1 (by unfold TM2 RC2; omega)]; exact h.2.2.2.1.1, by rw [k1 1 0 1 (by unfold TM1 RC1; omega), k2 0 0 2 (by unfold TM2 RC2; omega)]; exact h.2.2.2.1.2.1, by rw [k1 2 0 5 (by unfold TM1 RC1; omega), k2 0 0 17 (by unfold TM2 RC2; omega)]; exact h.2.2.2.1.2.2.1, by rw [k1 10 30 3 (by unfold TM1 RC1; omega), k2 0 0 8 (by unfold TM2 RC2; omega)]; exact h.2.2.2.1.2.2.2.1, by rw [k1 10 31 3 (by unfold TM1 RC1; omega), k2 0 0 12 (by unfold TM2 RC2; omega)]; exact h.2.2.2.1.2.2.2.2.1, by rw [k1 10 32 3 (by unfold TM1 RC1; omega), k2 0 0 75 (by unfold TM2 RC2; omega)]; exact h.2.2.2.1.2.2.2.2.2.1, by rw [k1 0 0 7 (by unfold TM1 RC1; omega), k2 0 0 40 (by unfold TM2 RC2; omega)]; exact h.2.2.2.1.2.2.2.2.2.2⟩, fun c y1 y2 => by
      rw [k2 0 0 17 (by unfold TM2 RC2; omega)] at y2
      obtain ⟨g1, g2, g3, g4⟩ := h.2.2.2.2.1 c y1 y2
      refine ⟨?_, ?_, ?_, ?_⟩
      · rw [k1 10 c 3 (by unfold TM1 RC1; omega), k2 19 0 c (by unfold TM2 RC2; omega)]; exact g1
      · by_cases q : c = l1
        · rw [q] at y1 y2 ⊢
          exact eqc y1 y2
        · rw [k1 10 (c + 6) 3 (by unfold TM1 RC1; omega), k2 22 0 c (by unfold TM2 RC2; omega)]; exact g2
      · rw [k1 10 (c + 12) 3 (by unfold TM1 RC1; omega), k2 26 0 c (by unfold TM2 RC2; omega)]; exact g3
      · rw [k1 10 (c + 18) 3 (by unfold TM1 RC1; omega), k2 31 0 c (by unfold TM2 RC2; omega)]; exact g4, fun c y1 y2 => by rw [k2 31 0 c (by unfold TM2 RC2; omega)]; exact h.2.2.2.2.2.1 c (by rw [← k2 0 0 17 (by unfold TM2 RC2; omega)]; exact y1) y2, fun k y1 y2 => by rw [k1 18 0 k (by unfold TM1 RC1; omega), k2 5 0 k (by unfold TM2 RC2; omega)]; exact h.2.2.2.2.2.2.1 k y1 y2, fun k y1 y2 => by rw [k1 17 0 k (by unfold TM1 RC1; omega), k2 4 0 k (by unfold TM2 RC2; omega)]; exact h.2.2.2.2.2.2.2 k y1 y2⟩⟩, fun _ => es⟩
    · have eA : M1 10 (l1 + 6) 3 = M 10 (l1 + 6) 3 := by omega
      have eB : N1 22 0 l1 = N 22 0 l1 := by omega
      refine ⟨h.kp i1 i2 (fun f i k q => ?_) (fun f i k q => ?_), fun _ => es⟩
      · by_cases z : f = 10 ∧ i = l1 + 6
        · obtain ⟨rfl, rfl⟩ := z
          have : k = 3 := by unfold RC1 at q; omega
          subst this
          exact eA
        · exact k1 f i k ⟨q, z⟩
      · by_cases z : f = 22 ∧ k = l1
        · obtain ⟨rfl, rfl⟩ := z
          have : i = 0 := q.1
          subst this
          exact eB
        · exact k2 f i k ⟨q, z⟩)
theorem p_stop (M N : jm_M) (h : IV M N) (l1 l2 l3 l4 : Int) (h1 : jm_in l1) (h2 : jm_in l2) (h3 : jm_in l3) (h4 : jm_in l4) : P2 (fX11_stop M l1 l2 l3 l4) (fX12_stop N l1 l2 l3 l4) True :=
  P2.of (s_fX11_stop M h.1 l1 l2 l3 l4 h1 h2 h3 h4) (s_fX12_stop N h.2.1 l1 l2 l3 l4 h1 h2 h3 h4) (fun r M1 s N1 a b => by
    obtain ⟨i1, k1, a⟩ := a
    obtain ⟨i2, k2, b⟩ := b
    obtain ⟨e1, e2, e3, e4, e5, e6, e7⟩ := h.2.2.2.1
    have b17 : 0 ≤ N 0 0 17 ∧ N 0 0 17 ≤ 6 := h.2.1 0 0 17
    have lm : 0 ≤ l1 → l1 < 6 → lim1 (l1 + 12) = 5 := fun y1 y2 => lim1_12 (by omega) (by omega)
    have gg : 0 ≤ l1 → l1 < N 0 0 17 → M 10 (l1 + 12) 3 = N 26 0 l1 := fun y1 y2 => (h.2.2.2.2.1 l1 y1 y2).2.2.1
    have eqc : 0 ≤ l1 → l1 < N 0 0 17 → M1 10 (l1 + 12) 3 = N1 26 0 l1 := fun y1 y2 => by
      have z1 := lm y1 (by omega)
      have z2 := gg y1 y2
      omega
    have es : r = s := by omega
    by_cases hv : 0 ≤ l1 ∧ l1 < N 0 0 17
    · exact ⟨⟨i1, i2, h.2.2.1.kp k2 (fun k => by unfold TM2 RC2; omega), ⟨⟨by rw [k1 1 0 0 (by unfold TM1 RC1; omega), k2 0 0 1 (by unfold TM2 RC2; omega)]; exact h.2.2.2.1.1, by rw [k1 1 0 1 (by unfold TM1 RC1; omega), k2 0 0 2 (by unfold TM2 RC2; omega)]; exact h.2.2.2.1.2.1, by rw [k1 2 0 5 (by unfold TM1 RC1; omega), k2 0 0 17 (by unfold TM2 RC2; omega)]; exact h.2.2.2.1.2.2.1, by rw [k1 10 30 3 (by unfold TM1 RC1; omega), k2 0 0 8 (by unfold TM2 RC2; omega)]; exact h.2.2.2.1.2.2.2.1, by rw [k1 10 31 3 (by unfold TM1 RC1; omega), k2 0 0 12 (by unfold TM2 RC2; omega)]; exact h.2.2.2.1.2.2.2.2.1, by rw [k1 10 32 3 (by unfold TM1 RC1; omega), k2 0 0 75 (by unfold TM2 RC2; omega)]; exact h.2.2.2.1.2.2.2.2.2.1, by rw [k1 0 0 7 (by unfold TM1 RC1; omega), k2 0 0 40 (by unfold TM2 RC2; omega)]; exact h.2.2.2.1.2.2.2.2.2.2⟩, fun c y1 y2 => by
      rw [k2 0 0 17 (by unfold TM2 RC2; omega)] at y2
      obtain ⟨g1, g2, g3, g4⟩ := h.2.2.2.2.1 c y1 y2
      refine ⟨?_, ?_, ?_, ?_⟩
      · rw [k1 10 c 3 (by unfold TM1 RC1; omega), k2 19 0 c (by unfold TM2 RC2; omega)]; exact g1
      · rw [k1 10 (c + 6) 3 (by unfold TM1 RC1; omega), k2 22 0 c (by unfold TM2 RC2; omega)]; exact g2
      · by_cases q : c = l1
        · rw [q] at y1 y2 ⊢
          exact eqc y1 y2
        · rw [k1 10 (c + 12) 3 (by unfold TM1 RC1; omega), k2 26 0 c (by unfold TM2 RC2; omega)]; exact g3
      · rw [k1 10 (c + 18) 3 (by unfold TM1 RC1; omega), k2 31 0 c (by unfold TM2 RC2; omega)]; exact g4, fun c y1 y2 => by rw [k2 31 0 c (by unfold TM2 RC2; omega)]; exact h.2.2.2.2.2.1 c (by rw [← k2 0 0 17 (by unfold TM2 RC2; omega)]; exact y1) y2, fun k y1 y2 => by rw [k1 18 0 k (by unfold TM1 RC1; omega), k2 5 0 k (by unfold TM2 RC2; omega)]; exact h.2.2.2.2.2.2.1 k y1 y2, fun k y1 y2 => by rw [k1 17 0 k (by unfold TM1 RC1; omega), k2 4 0 k (by unfold TM2 RC2; omega)]; exact h.2.2.2.2.2.2.2 k y1 y2⟩⟩, fun _ => es⟩
    · have eA : M1 10 (l1 + 12) 3 = M 10 (l1 + 12) 3 := by omega
      have eB : N1 26 0 l1 = N 26 0 l1 := by omega
      refine ⟨h.kp i1 i2 (fun f i k q => ?_) (fun f i k q => ?_), fun _ => es⟩
      · by_cases z : f = 10 ∧ i = l1 + 12
        · obtain ⟨rfl, rfl⟩ := z
          have : k = 3 := by unfold RC1 at q; omega
          subst this
          exact eA
        · exact k1 f i k ⟨q, z⟩
      · by_cases z : f = 26 ∧ k = l1
        · obtain ⟨rfl, rfl⟩ := z
          have : i = 0 := q.1
          subst this
          exact eB
        · exact k2 f i k ⟨q, z⟩)
theorem p_drop (fu : Nat) (hfu : 4000 ≤ fu) (M N : jm_M) (h : IV M N) (l1 l2 : Int) (h1 : jm_in l1) (h2 : jm_in l2) : P2 (fX11_drop fu M l1 l2) (fX12_drop fu N l1 l2) True :=
  P2.of (s_fX11_drop fu hfu M h.1 l1 l2 h1 h2) (s_fX12_drop fu hfu N h.2.1 l1 l2 h1 h2) (fun r M1 s N1 a b => by
    obtain ⟨i1, k1, a⟩ := a
    obtain ⟨i2, k2, b⟩ := b
    obtain ⟨e1, e2, e3, e4, e5, e6, e7⟩ := h.2.2.2.1
    have b17 : 0 ≤ N 0 0 17 ∧ N 0 0 17 ≤ 6 := h.2.1 0 0 17
    have lm : 0 ≤ l1 → l1 < 6 → lim1 (l1 + 12) = 5 := fun y1 y2 => lim1_12 (by omega) (by omega)
    have gg : 0 ≤ l1 → l1 < N 0 0 17 → M 10 (l1 + 12) 3 = N 26 0 l1 := fun y1 y2 => (h.2.2.2.2.1 l1 y1 y2).2.2.1
    have eqc : 0 ≤ l1 → l1 < N 0 0 17 → M1 10 (l1 + 12) 3 = N1 26 0 l1 := fun y1 y2 => by
      have z1 := lm y1 (by omega)
      have z2 := gg y1 y2
      omega
    have es : r = s := by omega
    by_cases hv : 0 ≤ l1 ∧ l1 < N 0 0 17
    · exact ⟨⟨i1, i2, h.2.2.1.kp k2 (fun k => by unfold TM2 RC2; omega), ⟨⟨by rw [k1 1 0 0 (by unfold TM1 RC1; omega), k2 0 0 1 (by unfold TM2 RC2; omega)]; exact h.2.2.2.1.1, by rw [k1 1 0 1 (by unfold TM1 RC1; omega), k2 0 0 2 (by unfold TM2 RC2; omega)]; exact h.2.2.2.1.2.1, by rw [k1 2 0 5 (by unfold TM1 RC1; omega), k2 0 0 17 (by unfold TM2 RC2; omega)]; exact h.2.2.2.1.2.2.1, by rw [k1 10 30 3 (by unfold TM1 RC1; omega), k2 0 0 8 (by unfold TM2 RC2; omega)]; exact h.2.2.2.1.2.2.2.1, by rw [k1 10 31 3 (by unfold TM1 RC1; omega), k2 0 0 12 (by unfold TM2 RC2; omega)]; exact h.2.2.2.1.2.2.2.2.1, by rw [k1 10 32 3 (by unfold TM1 RC1; omega), k2 0 0 75 (by unfold TM2 RC2; omega)]; exact h.2.2.2.1.2.2.2.2.2.1, by rw [k1 0 0 7 (by unfold TM1 RC1; omega), k2 0 0 40 (by unfold TM2 RC2; omega)]; exact h.2.2.2.1.2.2.2.2.2.2⟩, fun c y1 y2 => by
      rw [k2 0 0 17 (by unfold TM2 RC2; omega)] at y2
      obtain ⟨g1, g2, g3, g4⟩ := h.2.2.2.2.1 c y1 y2
      refine ⟨?_, ?_, ?_, ?_⟩
      · rw [k1 10 c 3 (by unfold TM1 RC1; omega), k2 19 0 c (by unfold TM2 RC2; omega)]; exact g1
      · rw [k1 10 (c + 6) 3 (by unfold TM1 RC1; omega), k2 22 0 c (by unfold TM2 RC2; omega)]; exact g2
      · by_cases q : c = l1
        · rw [q] at y1 y2 ⊢
          exact eqc y1 y2
        · rw [k1 10 (c + 12) 3 (by unfold TM1 RC1; omega), k2 26 0 c (by unfold TM2 RC2; omega)]; exact g3
      · rw [k1 10 (c + 18) 3 (by unfold TM1 RC1; omega), k2 31 0 c (by unfold TM2 RC2; omega)]; exact g4, fun c y1 y2 => by rw [k2 31 0 c (by unfold TM2 RC2; omega)]; exact h.2.2.2.2.2.1 c (by rw [← k2 0 0 17 (by unfold TM2 RC2; omega)]; exact y1) y2, fun k y1 y2 => by rw [k1 18 0 k (by unfold TM1 RC1; omega), k2 5 0 k (by unfold TM2 RC2; omega)]; exact h.2.2.2.2.2.2.1 k y1 y2, fun k y1 y2 => by rw [k1 17 0 k (by unfold TM1 RC1; omega), k2 4 0 k (by unfold TM2 RC2; omega)]; exact h.2.2.2.2.2.2.2 k y1 y2⟩⟩, fun _ => es⟩
    · have eA : M1 10 (l1 + 12) 3 = M 10 (l1 + 12) 3 := by omega
      have eB : N1 26 0 l1 = N 26 0 l1 := by omega
      refine ⟨h.kp i1 i2 (fun f i k q => ?_) (fun f i k q => ?_), fun _ => es⟩
      · by_cases z : f = 10 ∧ i = l1 + 12
        · obtain ⟨rfl, rfl⟩ := z
          have : k = 3 := by unfold RC1 at q; omega
          subst this
          exact eA
        · exact k1 f i k ⟨q, z⟩
      · by_cases z : f = 26 ∧ k = l1
        · obtain ⟨rfl, rfl⟩ := z
          have : i = 0 := q.1
          subst this
          exact eB
        · exact k2 f i k ⟨q, z⟩)
theorem p_option (fu : Nat) (hfu : 4000 ≤ fu) (M N : jm_M) (h : IV M N) (l1 l2 l3 : Int) (h1 : jm_in l1) (h2 : jm_in l2) (h3 : jm_in l3) : P2 (fX11_option M l1 l2 l3) (fX12_option fu N l1 l2 l3) True :=
  P2.of (s_fX11_option M h.1 l1 l2 l3 h1 h2 h3) (s_fX12_option fu hfu N h.2.1 l1 l2 l3 h1 h2 h3) (fun r M1 s N1 a b => by
    obtain ⟨i1, k1, a⟩ := a
    obtain ⟨i2, k2, b⟩ := b
    obtain ⟨e1, e2, e3, e4, e5, e6, e7⟩ := h.2.2.2.1
    have b17 : 0 ≤ N 0 0 17 ∧ N 0 0 17 ≤ 6 := h.2.1 0 0 17
    have lm : 0 ≤ l1 → l1 < 6 → lim1 (l1 + 18) = 4 := fun y1 y2 => lim1_18 (by omega) (by omega)
    have gg : 0 ≤ l1 → l1 < N 0 0 17 → M 10 (l1 + 18) 3 = N 31 0 l1 := fun y1 y2 => (h.2.2.2.2.1 l1 y1 y2).2.2.2
    have eqc : 0 ≤ l1 → l1 < N 0 0 17 → M1 10 (l1 + 18) 3 = N1 31 0 l1 := fun y1 y2 => by
      have z1 := lm y1 (by omega)
      have z2 := gg y1 y2
      omega
    have es : r = s := by omega
    by_cases hv : 0 ≤ l1 ∧ l1 < N 0 0 17
    · exact ⟨⟨i1, i2, h.2.2.1.kp k2 (fun k => by unfold TM2 RC2; omega), ⟨⟨by rw [k1 1 0 0 (by unfold TM1 RC1; omega), k2 0 0 1 (by unfold TM2 RC2; omega)]; exact h.2.2.2.1.1, by rw [k1 1 0 1 (by unfold TM1 RC1; omega), k2 0 0 2 (by unfold TM2 RC2; omega)]; exact h.2.2.2.1.2.1, by rw [k1 2 0 5 (by unfold TM1 RC1; omega), k2 0 0 17 (by unfold TM2 RC2; omega)]; exact h.2.2.2.1.2.2.1, by rw [k1 10 30 3 (by unfold TM1 RC1; omega), k2 0 0 8 (by unfold TM2 RC2; omega)]; exact h.2.2.2.1.2.2.2.1, by rw [k1 10 31 3 (by unfold TM1 RC1; omega), k2 0 0 12 (by unfold TM2 RC2; omega)]; exact h.2.2.2.1.2.2.2.2.1, by rw [k1 10 32 3 (by unfold TM1 RC1; omega), k2 0 0 75 (by unfold TM2 RC2; omega)]; exact h.2.2.2.1.2.2.2.2.2.1, by rw [k1 0 0 7 (by unfold TM1 RC1; omega), k2 0 0 40 (by unfold TM2 RC2; omega)]; exact h.2.2.2.1.2.2.2.2.2.2⟩, fun c y1 y2 => by
      rw [k2 0 0 17 (by unfold TM2 RC2; omega)] at y2
      obtain ⟨g1, g2, g3, g4⟩ := h.2.2.2.2.1 c y1 y2
      refine ⟨?_, ?_, ?_, ?_⟩
      · rw [k1 10 c 3 (by unfold TM1 RC1; omega), k2 19 0 c (by unfold TM2 RC2; omega)]; exact g1
      · rw [k1 10 (c + 6) 3 (by unfold TM1 RC1; omega), k2 22 0 c (by unfold TM2 RC2; omega)]; exact g2
      · rw [k1 10 (c + 12) 3 (by unfold TM1 RC1; omega), k2 26 0 c (by unfold TM2 RC2; omega)]; exact g3
      · by_cases q : c = l1
        · rw [q] at y1 y2 ⊢
          exact eqc y1 y2
        · rw [k1 10 (c + 18) 3 (by unfold TM1 RC1; omega), k2 31 0 c (by unfold TM2 RC2; omega)]; exact g4, fun c y1 y2 => by
      rw [k2 0 0 17 (by unfold TM2 RC2; omega)] at y1
      have z := h.2.2.2.2.2.1 c y1 y2
      by_cases q : c = l1
      · rw [q] at y1 z ⊢
        omega
      · rw [k2 31 0 c (by unfold TM2 RC2; omega)]; exact z, fun k y1 y2 => by rw [k1 18 0 k (by unfold TM1 RC1; omega), k2 5 0 k (by unfold TM2 RC2; omega)]; exact h.2.2.2.2.2.2.1 k y1 y2, fun k y1 y2 => by rw [k1 17 0 k (by unfold TM1 RC1; omega), k2 4 0 k (by unfold TM2 RC2; omega)]; exact h.2.2.2.2.2.2.2 k y1 y2⟩⟩, fun _ => es⟩
    · have eA : M1 10 (l1 + 18) 3 = M 10 (l1 + 18) 3 := by omega
      have eB : N1 31 0 l1 = N 31 0 l1 := by omega
      refine ⟨h.kp i1 i2 (fun f i k q => ?_) (fun f i k q => ?_), fun _ => es⟩
      · by_cases z : f = 10 ∧ i = l1 + 18
        · obtain ⟨rfl, rfl⟩ := z
          have : k = 3 := by unfold RC1 at q; omega
          subst this
          exact eA
        · exact k1 f i k ⟨q, z⟩
      · by_cases z : f = 31 ∧ k = l1
        · obtain ⟨rfl, rfl⟩ := z
          have : i = 0 := q.1
          subst this
          exact eB
        · exact k2 f i k ⟨q, z⟩)
