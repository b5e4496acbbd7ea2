/-! bits of a sign -/
def bt (x : Int32) (i : Nat) : Bool := x.toBitVec.getLsbD i
theorem b_ext {x y : Int32} (h : ∀ i, i < 32 → bt x i = bt y i) : x = y := Int32.toBitVec_inj.mp (BitVec.eq_of_getLsbD_eq (fun i hi => h i hi))
theorem b_and (x y : Int32) (i : Nat) : bt (x &&& y) i = (bt x i && bt y i) := by unfold bt; rw [Int32.toBitVec_and, BitVec.getLsbD_and]
theorem b_big {x : Int32} {i : Nat} (h : 32 ≤ i) : bt x i = false := BitVec.getLsbD_of_ge _ _ h
theorem b_255 (i : Nat) : bt 255 i = decide (i < 8) := by
  rcases Nat.lt_or_ge i 32 with h | h
  · exact (by decide +kernel : ∀ i, i < 32 → bt 255 i = decide (i < 8)) i h
  · rw [b_big h, decide_eq_false (by omega)]
theorem s_l : ∀ n, n < 32 → ((nI n &&& 31).toBitVec.smod 32).toNat = n := by decide +kernel
theorem s_u : ∀ n, n < 32 → (((nI n).toUInt32 &&& Int32.toUInt32 31).toBitVec % 32).toNat = n := by decide +kernel
theorem b_ushr (n : Nat) (hn : n < 32) (x : Int32) (i : Nat) : bt ((x.toUInt32 >>> ((nI n).toUInt32 &&& Int32.toUInt32 31)).toInt32) i = bt x (n + i) := by
  show (x.toUInt32 >>> ((nI n).toUInt32 &&& Int32.toUInt32 31)).toBitVec.getLsbD i = x.toUInt32.toBitVec.getLsbD (n + i)
  rw [UInt32.toBitVec_shiftRight]
  show (x.toUInt32.toBitVec >>> (((nI n).toUInt32 &&& Int32.toUInt32 31).toBitVec % 32).toNat).getLsbD i = _
  rw [s_u n hn, BitVec.getLsbD_ushiftRight]
theorem b_sshr (n : Nat) (hn : n < 32) (x : Int32) {i : Nat} (hi : i < 32) : bt (x >>> (nI n &&& 31)) i = if n + i < 32 then bt x (n + i) else bt x 31 := by
  unfold bt
  rw [Int32.toBitVec_shiftRight]
  show (x.toBitVec.sshiftRight ((nI n &&& 31).toBitVec.smod 32).toNat).getLsbD i = _
  rw [s_l n hn, BitVec.getLsbD_sshiftRight, BitVec.msb_eq_getLsbD_last]
  simp [hi]
theorem sh_eqN (x : Int32) (n : Nat) (hn : n ≤ 24) : ((x.toUInt32 >>> ((nI n).toUInt32 &&& Int32.toUInt32 31)).toInt32 &&& 255) = ((x >>> (nI n &&& 31)) &&& 255) := b_ext fun i hi => by
  rw [b_and, b_and, b_ushr n (by omega), b_sshr n (by omega) x hi, b_255]
  by_cases q : i < 8
  · rw [if_pos (by omega)]
  · rw [decide_eq_false q, Bool.and_false, Bool.and_false]
theorem sh_eq (l s : Int) (n : Nat) (hs : Int32.ofInt s = nI n) (hn : n ≤ 24) : jm_and (jm_ushr l s) 255 = jm_and (jm_shr l s) 255 := by
  have e255 : Int32.ofInt 255 = 255 := by decide
  unfold jm_and jm_ushr jm_shr
  rw [hs, Int32.ofInt_toInt, Int32.ofInt_toInt, e255]
  exact congrArg Int32.toInt (sh_eqN _ n hn)
/-- the d-th sign of a number -/
def Sg (l d : Int) : Int := jm_and (jm_shr l (24 - 8 * d)) 255
theorem Sg_u {l d : Int} (h0 : 0 ≤ d) (h1 : d < 4) : jm_and (jm_ushr l (24 - 8 * d)) 255 = Sg l d := by
  have : d = 0 ∨ d = 1 ∨ d = 2 ∨ d = 3 := by omega
  unfold Sg
  rcases this with rfl | rfl | rfl | rfl
  · exact sh_eq l _ 24 (by decide) (by decide)
  · exact sh_eq l _ 16 (by decide) (by decide)
  · exact sh_eq l _ 8 (by decide) (by decide)
  · exact sh_eq l _ 0 (by decide) (by decide)
/-! the relation -/
def KX1 (f : Nat) (i k : Int) : Prop := (f = 12 ∧ i = 0) ∨ (f = 8 ∧ k = 12) ∨ (f = 3 ∧ i = 0 ∧ k = 3)
def KX2 (f : Nat) (i k : Int) : Prop := i = 0 ∧ ((f = 0 ∧ (k = 17 ∨ k = 40 ∨ k = 72)) ∨ f = 30 ∨ f = 34)
def RX (M N : jm_M) : Prop := (∀ j : Int, 0 ≤ j → j < N 0 0 40 → M 12 0 j = N 34 0 j) ∧ (∀ c : Int, 0 ≤ c → c < N 0 0 17 → M 8 c 12 = N 30 0 c) ∧ M 3 0 3 = N 0 0 72
def IW (M N : jm_M) : Prop := IV M N ∧ RX M N
theorem RX.kp {M N M1 N1 : jm_M} (h : RX M N) (k1 : Kp KX1 M M1) (k2 : Kp KX2 N N1) : RX M1 N1 :=
  ⟨fun j y1 y2 => by
    rw [k1 12 0 j (by unfold KX1; omega), k2 34 0 j (by unfold KX2; omega)]
    exact h.1 j y1 (by rw [← k2 0 0 40 (by unfold KX2; omega)]; exact y2), fun c y1 y2 => by
    rw [k1 8 c 12 (by unfold KX1; omega), k2 30 0 c (by unfold KX2; omega)]
    exact h.2.1 c y1 (by rw [← k2 0 0 17 (by unfold KX2; omega)]; exact y2), by
    rw [k1 3 0 3 (by unfold KX1; omega), k2 0 0 72 (by unfold KX2; omega)]
    exact h.2.2⟩
def PX (x y : jm_R) (same : Prop) : Prop := ∃ (r : Int) (M1 : jm_M) (s : Int) (N1 : jm_M), x = some (r, M1) ∧ y = some (s, N1) ∧ IW M1 N1 ∧ (same → r = s)
theorem PX.of {x y : jm_R} {same same2 : Prop} {Q1 Q2 : Int → jm_M → Prop} (p : P2 x y same2) (h1 : wp x Q1) (h2 : wp y Q2) (k : ∀ (r : Int) (M1 : jm_M) (s : Int) (N1 : jm_M), Q1 r M1 → Q2 s N1 → IV M1 N1 → RX M1 N1 ∧ (same → (same2 → r = s) → r = s)) : PX x y same := by
  obtain ⟨r, M1, s, N1, e1, e2, iv, q⟩ := p
  obtain ⟨r', M1', e1', q1⟩ := h1
  obtain ⟨s', N1', e2', q2⟩ := h2
  rw [e1] at e1'
  rw [e2] at e2'
  obtain ⟨rfl, rfl⟩ := Prod.mk.inj (Option.some.inj e1')
  obtain ⟨rfl, rfl⟩ := Prod.mk.inj (Option.some.inj e2')
  obtain ⟨z1, z2⟩ := k _ _ _ _ q1 q2 iv
  exact ⟨_, _, _, _, e1, e2, ⟨iv, z1⟩, fun z => z2 z q⟩
theorem PX.kp {M N : jm_M} {x y : jm_R} {same : Prop} {Q1 Q2 : Int → jm_M → Prop} (w : RX M N) (p : P2 x y same) (h1 : wp x Q1) (h2 : wp y Q2) (k1 : ∀ (r : Int) (M1 : jm_M), Q1 r M1 → Kp KX1 M M1) (k2 : ∀ (r : Int) (M1 : jm_M), Q2 r M1 → Kp KX2 N M1) : PX x y same :=
  PX.of p h1 h2 fun r M1 s N1 a b _ => ⟨w.kp (k1 r M1 a) (k2 s N1 b), fun z q => q z⟩
theorem q_sector (M N : jm_M) (h : IW M N) (l1 l2 l3 : Int) (h1 : jm_in l1) (h2 : jm_in l2) (h3 : jm_in l3) : PX (fX11_sector M l1 l2 l3) (fX12_sector N l1 l2 l3) True :=
  PX.kp h.2 (p_sector M N h.1 l1 l2 l3 h1 h2 h3) (s_fX11_sector M h.1.1 l1 l2 l3 h1 h2 h3) (s_fX12_sector N h.1.2.1 l1 l2 l3 h1 h2 h3) (fun r M1 a => a.2.1.weak (fun f i k q => by unfold KX1 at q; rcases q with ⟨rfl, rfl⟩ | ⟨rfl, rfl⟩ | ⟨rfl, rfl, rfl⟩ <;> (unfold RC1; omega))) (fun r M1 b => b.2.1.weak (fun f i k q => by unfold KX2 at q; rcases q with ⟨rfl, ⟨rfl, rfl | rfl | rfl⟩ | rfl | rfl⟩ <;> (unfold RC2; omega)))
theorem q_rain (M N : jm_M) (h : IW M N) (l1 l2 l3 : Int) (h1 : jm_in l1) (h2 : jm_in l2) (h3 : jm_in l3) : PX (fX11_rain M l1 l2 l3) (fX12_rain N l1 l2 l3) True :=
  PX.kp h.2 (p_rain M N h.1 l1 l2 l3 h1 h2 h3) (s_fX11_rain M h.1.1 l1 l2 l3 h1 h2 h3) (s_fX12_rain N h.1.2.1 l1 l2 l3 h1 h2 h3) (fun r M1 a => a.2.1.weak (fun f i k q => by unfold KX1 at q; rcases q with ⟨rfl, rfl⟩ | ⟨rfl, rfl⟩ | ⟨rfl, rfl, rfl⟩ <;> (unfold TM1 RC1; omega))) (fun r M1 b => b.2.1.weak (fun f i k q => by unfold KX2 at q; rcases q with ⟨rfl, ⟨rfl, rfl | rfl | rfl⟩ | rfl | rfl⟩ <;> (unfold TM2 RC2; omega)))
theorem q_flag (fu : Nat) (hfu : 4000 ≤ fu) (M N : jm_M) (h : IW M N) (l1 l2 l3 l4 : Int) (h1 : jm_in l1) (h2 : jm_in l2) (h3 : jm_in l3) (h4 : jm_in l4) : PX (fX11_flag fu M l1 l2 l3 l4) (fX12_flag fu N l1 l2 l3 l4) True :=
  PX.kp h.2 (p_flag fu hfu M N h.1 l1 l2 l3 l4 h1 h2 h3 h4) (s_fX11_flag fu hfu M h.1.1 l1 l2 l3 l4 h1 h2 h3 h4) (s_fX12_flag fu hfu N h.1.2.1 l1 l2 l3 l4 h1 h2 h3 h4) (fun r M1 a => a.2.1.weak (fun f i k q => by unfold KX1 at q; rcases q with ⟨rfl, rfl⟩ | ⟨rfl, rfl⟩ | ⟨rfl, rfl, rfl⟩ <;> (unfold TM1 RC1; omega))) (fun r M1 b => b.2.1.weak (fun f i k q => by unfold KX2 at q; rcases q with ⟨rfl, ⟨rfl, rfl | rfl | rfl⟩ | rfl | rfl⟩ <;> (unfold TM2 RC2; omega)))
theorem q_finding (fu : Nat) (hfu : 4000 ≤ fu) (M N : jm_M) (h : IW M N) (l1 l2 l3 l4 : Int) (h1 : jm_in l1) (h2 : jm_in l2) (h3 : jm_in l3) (h4 : jm_in l4) : PX (fX11_finding fu M l1 l2 l3 l4) (fX12_finding fu N l1 l2 l3 l4) True :=
  PX.kp h.2 (p_finding fu hfu M N h.1 l1 l2 l3 l4 h1 h2 h3 h4) (s_fX11_finding fu hfu M h.1.1 l1 l2 l3 l4 h1 h2 h3 h4) (s_fX12_finding fu hfu N h.1.2.1 l1 l2 l3 l4 h1 h2 h3 h4) (fun r M1 a => a.2.1.weak (fun f i k q => by unfold KX1 at q; rcases q with ⟨rfl, rfl⟩ | ⟨rfl, rfl⟩ | ⟨rfl, rfl, rfl⟩ <;> (unfold TM1 RC1; omega))) (fun r M1 b => b.2.1.weak (fun f i k q => by unfold KX2 at q; rcases q with ⟨rfl, ⟨rfl, rfl | rfl | rfl⟩ | rfl | rfl⟩ <;> (unfold TM2 RC2; omega)))
theorem q_of (fu : Nat) (hfu : 4000 ≤ fu) (M N : jm_M) (h : IW M N) (l1 l2 : Int) (h1 : jm_in l1) (h2 : jm_in l2) : PX (fX11_of fu M l1 l2) (fX12_of fu N l1 l2) False :=
  PX.kp h.2 (p_of fu hfu M N h.1 l1 l2 h1 h2) (s_fX11_of fu hfu M h.1.1 l1 l2 h1 h2) (s_fX12_of fu hfu N h.1.2.1 l1 l2 h1 h2 h.1.2.2.1) (fun r M1 a => a.2.1.weak (fun f i k q => by unfold KX1 at q; rcases q with ⟨rfl, rfl⟩ | ⟨rfl, rfl⟩ | ⟨rfl, rfl, rfl⟩ <;> (unfold TA; omega))) (fun r M1 b => b.2.1.weak (fun f i k q => by unfold KX2 at q; rcases q with ⟨rfl, ⟨rfl, rfl | rfl | rfl⟩ | rfl | rfl⟩ <;> (unfold TA2; omega)))
theorem q_led (fu : Nat) (hfu : 4000 ≤ fu) (M N : jm_M) (h : IW M N) (l1 l2 : Int) (h1 : jm_in l1) (h2 : jm_in l2) : PX (fX11_led fu M l1 l2) (fX12_led fu N l1 l2) False :=
  PX.kp h.2 (p_led fu hfu M N h.1 l1 l2 h1 h2) (s_fX11_led fu hfu M h.1.1 l1 l2 h1 h2) (s_fX12_led fu hfu N h.1.2.1 l1 l2 h1 h2 h.1.2.2.1) (fun r M1 a => a.2.1.weak (fun f i k q => by unfold KX1 at q; rcases q with ⟨rfl, rfl⟩ | ⟨rfl, rfl⟩ | ⟨rfl, rfl, rfl⟩ <;> (unfold TA; omega))) (fun r M1 b => b.2.1.weak (fun f i k q => by unfold KX2 at q; rcases q with ⟨rfl, ⟨rfl, rfl | rfl | rfl⟩ | rfl | rfl⟩ <;> (unfold TA2; omega)))
theorem q_at (fu : Nat) (hfu : 4000 ≤ fu) (M N : jm_M) (h : IW M N) (l1 l2 l3 : Int) (h1 : jm_in l1) (h2 : jm_in l2) (h3 : jm_in l3) : PX (fX11_at fu M l1 l2 l3) (fX12_at fu N l1 l2 l3) False :=
  PX.kp h.2 (p_at fu hfu M N h.1 l1 l2 l3 h1 h2 h3) (s_fX11_at fu hfu M h.1.1 l1 l2 l3 h1 h2 h3) (s_fX12_at fu hfu N h.1.2.1 l1 l2 l3 h1 h2 h3 h.1.2.2.1) (fun r M1 a => a.2.1.weak (fun f i k q => by unfold KX1 at q; rcases q with ⟨rfl, rfl⟩ | ⟨rfl, rfl⟩ | ⟨rfl, rfl, rfl⟩ <;> (unfold TA; omega))) (fun r M1 b => b.2.1.weak (fun f i k q => by unfold KX2 at q; rcases q with ⟨rfl, ⟨rfl, rfl | rfl | rfl⟩ | rfl | rfl⟩ <;> (unfold TA2; omega)))
theorem q_waited (fu : Nat) (hfu : 4000 ≤ fu) (M N : jm_M) (h : IW M N) (l1 : Int) (h1 : jm_in l1) : PX (fX11_waited fu M l1) (fX12_waited fu N l1) False :=
  PX.kp h.2 (p_waited fu hfu M N h.1 l1 h1) (s_fX11_waited fu hfu M h.1.1 l1 h1) (s_fX12_waited fu hfu N h.1.2.1 l1 h1 h.1.2.2.1) (fun r M1 a => a.2.1.weak (fun f i k q => by unfold KX1 at q; rcases q with ⟨rfl, rfl⟩ | ⟨rfl, rfl⟩ | ⟨rfl, rfl, rfl⟩ <;> (unfold TA; omega))) (fun r M1 b => b.2.1.weak (fun f i k q => by unfold KX2 at q; rcases q with ⟨rfl, ⟨rfl, rfl | rfl | rfl⟩ | rfl | rfl⟩ <;> (unfold TA2; omega)))
theorem q_leads (fu : Nat) (hfu : 4000 ≤ fu) (M N : jm_M) (h : IW M N) : PX (fX11_leads fu M ) (fX12_leads fu N ) False :=
  PX.kp h.2 (p_leads fu hfu M N h.1) (s_fX11_leads fu hfu M h.1.1  ) (s_fX12_leads fu hfu N h.1.2.1   h.1.2.2.1) (fun r M1 a => a.2.1.weak (fun f i k q => by unfold KX1 at q; rcases q with ⟨rfl, rfl⟩ | ⟨rfl, rfl⟩ | ⟨rfl, rfl, rfl⟩ <;> (unfold TA; omega))) (fun r M1 b => b.2.1.weak (fun f i k q => by unfold KX2 at q; rcases q with ⟨rfl, ⟨rfl, rfl | rfl | rfl⟩ | rfl | rfl⟩ <;> (unfold TA2; omega)))
theorem q_seconds (fu : Nat) (hfu : 4000 ≤ fu) (M N : jm_M) (h : IW M N) (l1 l2 : Int) (h1 : jm_in l1) (h2 : jm_in l2) : PX (fX11_seconds fu M l1 l2) (fX12_seconds fu N l1 l2) False :=
  PX.kp h.2 (p_seconds fu hfu M N h.1 l1 l2 h1 h2) (s_fX11_seconds fu hfu M h.1.1 l1 l2 h1 h2) (s_fX12_seconds fu hfu N h.1.2.1 l1 l2 h1 h2 h.1.2.2.1) (fun r M1 a => a.2.1.weak (fun f i k q => by unfold KX1 at q; rcases q with ⟨rfl, rfl⟩ | ⟨rfl, rfl⟩ | ⟨rfl, rfl, rfl⟩ <;> (unfold TA; omega))) (fun r M1 b => b.2.1.weak (fun f i k q => by unfold KX2 at q; rcases q with ⟨rfl, ⟨rfl, rfl | rfl | rfl⟩ | rfl | rfl⟩ <;> (unfold TA2; omega)))
theorem q_place (fu : Nat) (hfu : 4000 ≤ fu) (M N : jm_M) (h : IW M N) (l1 l2 : Int) (h1 : jm_in l1) (h2 : jm_in l2) : PX (fX11_place fu M l1 l2) (fX12_place fu N l1 l2) False :=
  PX.kp h.2 (p_place fu hfu M N h.1 l1 l2 h1 h2) (s_fX11_place fu hfu M h.1.1 l1 l2 h1 h2) (s_fX12_place fu hfu N h.1.2.1 l1 l2 h1 h2 h.1.2.2.1) (fun r M1 a => a.2.1.weak (fun f i k q => by unfold KX1 at q; rcases q with ⟨rfl, rfl⟩ | ⟨rfl, rfl⟩ | ⟨rfl, rfl, rfl⟩ <;> (unfold TA; omega))) (fun r M1 b => b.2.1.weak (fun f i k q => by unfold KX2 at q; rcases q with ⟨rfl, ⟨rfl, rfl | rfl | rfl⟩ | rfl | rfl⟩ <;> (unfold TA2; omega)))
theorem q_sum (fu : Nat) (hfu : 4000 ≤ fu) (M N : jm_M) (h : IW M N) (l1 l2 : Int) (h1 : jm_in l1) (h2 : jm_in l2) : PX (fX11_sum fu M l1 l2) (fX12_sum fu N l1 l2) False :=
  PX.kp h.2 (p_sum fu hfu M N h.1 l1 l2 h1 h2) (s_fX11_sum fu hfu M h.1.1 l1 l2 h1 h2) (s_fX12_sum fu hfu N h.1.2.1 l1 l2 h1 h2 h.1.2.2.1) (fun r M1 a => a.2.1.weak (fun f i k q => by unfold KX1 at q; rcases q with ⟨rfl, rfl⟩ | ⟨rfl, rfl⟩ | ⟨rfl, rfl, rfl⟩ <;> (unfold TA; omega))) (fun r M1 b => b.2.1.weak (fun f i k q => by unfold KX2 at q; rcases q with ⟨rfl, ⟨rfl, rfl | rfl | rfl⟩ | rfl | rfl⟩ <;> (unfold TA2; omega)))
theorem q_within (fu : Nat) (hfu : 4000 ≤ fu) (M N : jm_M) (h : IW M N) (l1 l2 : Int) (h1 : jm_in l1) (h2 : jm_in l2) : PX (fX11_within fu M l1 l2) (fX12_within fu N l1 l2) False :=
  PX.kp h.2 (p_within fu hfu M N h.1 l1 l2 h1 h2) (s_fX11_within fu hfu M h.1.1 l1 l2 h1 h2) (s_fX12_within fu hfu N h.1.2.1 l1 l2 h1 h2 h.1.2.2.1) (fun r M1 a => a.2.1.weak (fun f i k q => by unfold KX1 at q; rcases q with ⟨rfl, rfl⟩ | ⟨rfl, rfl⟩ | ⟨rfl, rfl, rfl⟩ <;> (unfold TA; omega))) (fun r M1 b => b.2.1.weak (fun f i k q => by unfold KX2 at q; rcases q with ⟨rfl, ⟨rfl, rfl | rfl | rfl⟩ | rfl | rfl⟩ <;> (unfold TA2; omega)))
theorem q_result (fu : Nat) (hfu : 4000 ≤ fu) (M N : jm_M) (h : IW M N) (l1 : Int) (h1 : jm_in l1) : PX (fX11_result fu M l1) (fX12_result fu N l1) False :=
  PX.kp h.2 (p_result fu hfu M N h.1 l1 h1) (s_fX11_result fu hfu M h.1.1 l1 h1) (s_fX12_result fu hfu N h.1.2.1 l1 h1 h.1.2.2.1) (fun r M1 a => a.2.1.weak (fun f i k q => by unfold KX1 at q; rcases q with ⟨rfl, rfl⟩ | ⟨rfl, rfl⟩ | ⟨rfl, rfl, rfl⟩ <;> (unfold TP; omega))) (fun r M1 b => b.2.1.weak (fun f i k q => by unfold KX2 at q; rcases q with ⟨rfl, ⟨rfl, rfl | rfl | rfl⟩ | rfl | rfl⟩ <;> (unfold RC2; omega)))
theorem q_best (fu : Nat) (hfu : 4000 ≤ fu) (M N : jm_M) (h : IW M N) (l1 l2 l3 : Int) (h1 : jm_in l1) (h2 : jm_in l2) (h3 : jm_in l3) : PX (fX11_best fu M l1 l2 l3) (fX12_best fu N l1 l2 l3) False :=
  PX.kp h.2 (p_best fu hfu M N h.1 l1 l2 l3 h1 h2 h3) (s_fX11_best fu hfu M h.1.1 l1 l2 l3 h1 h2 h3) (s_fX12_best fu hfu N h.1.2.1 l1 l2 l3 h1 h2 h3 h.1.2.2.1) (fun r M1 a => a.2.1.weak (fun f i k q => by unfold KX1 at q; rcases q with ⟨rfl, rfl⟩ | ⟨rfl, rfl⟩ | ⟨rfl, rfl, rfl⟩ <;> (unfold TPM; omega))) (fun r M1 b => b.2.1.weak (fun f i k q => by unfold KX2 at q; rcases q with ⟨rfl, ⟨rfl, rfl | rfl | rfl⟩ | rfl | rfl⟩ <;> (unfold RC2; omega)))
theorem q_gain (fu : Nat) (hfu : 4000 ≤ fu) (M N : jm_M) (h : IW M N) (l1 l2 l3 : Int) (h1 : jm_in l1) (h2 : jm_in l2) (h3 : jm_in l3) : PX (fX11_gain fu M l1 l2 l3) (fX12_gain fu N l1 l2 l3) False :=
  PX.kp h.2 (p_gain fu hfu M N h.1 l1 l2 l3 h1 h2 h3) (s_fX11_gain fu hfu M h.1.1 l1 l2 l3 h1 h2 h3) (s_fX12_gain fu hfu N h.1.2.1 l1 l2 l3 h1 h2 h3 h.1.2.2.1) (fun r M1 a => a.2.1.weak (fun f i k q => by unfold KX1 at q; rcases q with ⟨rfl, rfl⟩ | ⟨rfl, rfl⟩ | ⟨rfl, rfl, rfl⟩ <;> (unfold TAM; omega))) (fun r M1 b => b.2.1.weak (fun f i k q => by unfold KX2 at q; rcases q with ⟨rfl, ⟨rfl, rfl | rfl | rfl⟩ | rfl | rfl⟩ <;> (unfold RC2; omega)))
theorem q_settle (fu : Nat) (hfu : 4000 ≤ fu) (M N : jm_M) (h : IW M N) (l1 l2 l3 : Int) (h1 : jm_in l1) (h2 : jm_in l2) (h3 : jm_in l3) : PX (fX11_settle fu M l1 l2 l3) (fX12_settle fu N l1 l2 l3) False :=
  PX.kp h.2 (p_settle fu hfu M N h.1 l1 l2 l3 h1 h2 h3) (s_fX11_settle fu hfu M h.1.1 l1 l2 l3 h1 h2 h3) (s_fX12_settle fu hfu N h.1.2.1 l1 l2 l3 h1 h2 h3 h.1.2.2.1) (fun r M1 a => a.2.1.weak (fun f i k q => by unfold KX1 at q; rcases q with ⟨rfl, rfl⟩ | ⟨rfl, rfl⟩ | ⟨rfl, rfl, rfl⟩ <;> (unfold TAM; omega))) (fun r M1 b => b.2.1.weak (fun f i k q => by unfold KX2 at q; rcases q with ⟨rfl, ⟨rfl, rfl | rfl | rfl⟩ | rfl | rfl⟩ <;> (unfold RC2; omega)))
theorem q_known (fu : Nat) (hfu : 4000 ≤ fu) (M N : jm_M) (h : IW M N) (l1 l2 l3 l4 : Int) (h1 : jm_in l1) (h2 : jm_in l2) (h3 : jm_in l3) (h4 : jm_in l4) : PX (fX11_known fu M l1 l2 l3 l4) (fX12_known fu N l1 l2 l3 l4) False :=
  PX.kp h.2 (p_known fu hfu M N h.1 l1 l2 l3 l4 h1 h2 h3 h4) (s_fX11_known fu hfu M h.1.1 l1 l2 l3 l4 h1 h2 h3 h4) (s_fX12_known fu hfu N h.1.2.1 l1 l2 l3 l4 h1 h2 h3 h4 h.1.2.2.1) (fun r M1 a => a.2.1.weak (fun f i k q => by unfold KX1 at q; rcases q with ⟨rfl, rfl⟩ | ⟨rfl, rfl⟩ | ⟨rfl, rfl, rfl⟩ <;> (unfold TA; omega))) (fun r M1 b => b.2.1.weak (fun f i k q => by unfold KX2 at q; rcases q with ⟨rfl, ⟨rfl, rfl | rfl | rfl⟩ | rfl | rfl⟩ <;> (unfold TA2; omega)))
theorem q_ahead (fu : Nat) (hfu : 4000 ≤ fu) (M N : jm_M) (h : IW M N) (l1 l2 l3 l4 : Int) (h1 : jm_in l1) (h2 : jm_in l2) (h3 : jm_in l3) (h4 : jm_in l4) : PX (fX11_ahead fu M l1 l2 l3 l4) (fX12_ahead fu N l1 l2 l3 l4) False :=
  PX.kp h.2 (p_ahead fu hfu M N h.1 l1 l2 l3 l4 h1 h2 h3 h4) (s_fX11_ahead fu hfu M h.1.1 l1 l2 l3 l4 h1 h2 h3 h4) (s_fX12_ahead fu hfu N h.1.2.1 l1 l2 l3 l4 h1 h2 h3 h4 h.1.2.2.1) (fun r M1 a => a.2.1.weak (fun f i k q => by unfold KX1 at q; rcases q with ⟨rfl, rfl⟩ | ⟨rfl, rfl⟩ | ⟨rfl, rfl, rfl⟩ <;> (unfold TA; omega))) (fun r M1 b => b.2.1.weak (fun f i k q => by unfold KX2 at q; rcases q with ⟨rfl, ⟨rfl, rfl | rfl | rfl⟩ | rfl | rfl⟩ <;> (unfold TA2; omega)))
theorem q_wall (fu : Nat) (hfu : 4000 ≤ fu) (M N : jm_M) (h : IW M N) (l1 l2 : Int) (h1 : jm_in l1) (h2 : jm_in l2) : PX (fX11_wall fu M l1 l2) (fX12_wall fu N l1 l2) False :=
  PX.kp h.2 (p_wall fu hfu M N h.1 l1 l2 h1 h2) (s_fX11_wall fu hfu M h.1.1 l1 l2 h1 h2) (s_fX12_wall fu hfu N h.1.2.1 l1 l2 h1 h2 h.1.2.2.1) (fun r M1 a => a.2.1.weak (fun f i k q => by unfold KX1 at q; rcases q with ⟨rfl, rfl⟩ | ⟨rfl, rfl⟩ | ⟨rfl, rfl, rfl⟩ <;> (unfold TA; omega))) (fun r M1 b => b.2.1.weak (fun f i k q => by unfold KX2 at q; rcases q with ⟨rfl, ⟨rfl, rfl | rfl | rfl⟩ | rfl | rfl⟩ <;> (unfold TA2; omega)))
theorem q_why (fu : Nat) (hfu : 4000 ≤ fu) (M N : jm_M) (h : IW M N) (l1 l2 : Int) (h1 : jm_in l1) (h2 : jm_in l2) : PX (fX11_why fu M l1 l2) (fX12_why fu N l1 l2) False :=
  PX.kp h.2 (p_why fu hfu M N h.1 l1 l2 h1 h2) (s_fX11_why fu hfu M h.1.1 l1 l2 h1 h2) (s_fX12_why fu hfu N h.1.2.1 l1 l2 h1 h2 h.1.2.2.1) (fun r M1 a => a.2.1.weak (fun f i k q => by unfold KX1 at q; rcases q with ⟨rfl, rfl⟩ | ⟨rfl, rfl⟩ | ⟨rfl, rfl, rfl⟩ <;> (unfold TA; omega))) (fun r M1 b => b.2.1.weak (fun f i k q => by unfold KX2 at q; rcases q with ⟨rfl, ⟨rfl, rfl | rfl | rfl⟩ | rfl | rfl⟩ <;> (unfold TA2; omega)))
theorem q_tyre (M N : jm_M) (h : IW M N) (l1 l2 l3 : Int) (h1 : jm_in l1) (h2 : jm_in l2) (h3 : jm_in l3) : PX (fX11_tyre M l1 l2 l3) (fX12_tyre N l1 l2 l3) True :=
  PX.kp h.2 (p_tyre M N h.1 l1 l2 l3 h1 h2 h3) (s_fX11_tyre M h.1.1 l1 l2 l3 h1 h2 h3) (s_fX12_tyre N h.1.2.1 l1 l2 l3 h1 h2 h3) (fun r M1 a => a.2.1.weak (fun f i k q => by unfold KX1 at q; rcases q with ⟨rfl, rfl⟩ | ⟨rfl, rfl⟩ | ⟨rfl, rfl, rfl⟩ <;> (unfold TM1 RC1; omega))) (fun r M1 b => b.2.1.weak (fun f i k q => by unfold KX2 at q; rcases q with ⟨rfl, ⟨rfl, rfl | rfl | rfl⟩ | rfl | rfl⟩ <;> (unfold TM2 RC2; omega)))
theorem q_order (fu : Nat) (hfu : 4000 ≤ fu) (M N : jm_M) (h : IW M N) (l1 l2 l3 l4 : Int) (h1 : jm_in l1) (h2 : jm_in l2) (h3 : jm_in l3) (h4 : jm_in l4) : PX (fX11_order fu M l1 l2 l3 l4) (fX12_order fu N l1 l2 l3 l4) True :=
  PX.kp h.2 (p_order fu hfu M N h.1 l1 l2 l3 l4 h1 h2 h3 h4) (s_fX11_order fu hfu M h.1.1 l1 l2 l3 l4 h1 h2 h3 h4) (s_fX12_order fu hfu N h.1.2.1 l1 l2 l3 l4 h1 h2 h3 h4) (fun r M1 a => a.2.1.weak (fun f i k q => by unfold KX1 at q; rcases q with ⟨rfl, rfl⟩ | ⟨rfl, rfl⟩ | ⟨rfl, rfl, rfl⟩ <;> (unfold TM1 RC1; omega))) (fun r M1 b => b.2.1.weak (fun f i k q => by unfold KX2 at q; rcases q with ⟨rfl, ⟨rfl, rfl | rfl | rfl⟩ | rfl | rfl⟩ <;> (unfold TM2 RC2; omega)))
theorem q_stop (M N : jm_M) (h : IW M N) (l1 l2 l3 l4 : Int) (h1 : jm_in l1) (h2 : jm_in l2) (h3 : jm_in l3) (h4 : jm_in l4) : PX (fX11_stop M l1 l2 l3 l4) (fX12_stop N l1 l2 l3 l4) True :=
  PX.kp h.2 (p_stop M N h.1 l1 l2 l3 l4 h1 h2 h3 h4) (s_fX11_stop M h.1.1 l1 l2 l3 l4 h1 h2 h3 h4) (s_fX12_stop N h.1.2.1 l1 l2 l3 l4 h1 h2 h3 h4) (fun r M1 a => a.2.1.weak (fun f i k q => by unfold KX1 at q; rcases q with ⟨rfl, rfl⟩ | ⟨rfl, rfl⟩ | ⟨rfl, rfl, rfl⟩ <;> (unfold TM1 RC1; omega))) (fun r M1 b => b.2.1.weak (fun f i k q => by unfold KX2 at q; rcases q with ⟨rfl, ⟨rfl, rfl | rfl | rfl⟩ | rfl | rfl⟩ <;> (unfold TM2 RC2; omega)))
theorem q_drop (fu : Nat) (hfu : 4000 ≤ fu) (M N : jm_M) (h : IW M N) (l1 l2 : Int) (h1 : jm_in l1) (h2 : jm_in l2) : PX (fX11_drop fu M l1 l2) (fX12_drop fu N l1 l2) True :=
  PX.kp h.2 (p_drop fu hfu M N h.1 l1 l2 h1 h2) (s_fX11_drop fu hfu M h.1.1 l1 l2 h1 h2) (s_fX12_drop fu hfu N h.1.2.1 l1 l2 h1 h2) (fun r M1 a => a.2.1.weak (fun f i k q => by unfold KX1 at q; rcases q with ⟨rfl, rfl⟩ | ⟨rfl, rfl⟩ | ⟨rfl, rfl, rfl⟩ <;> (unfold TM1 RC1; omega))) (fun r M1 b => b.2.1.weak (fun f i k q => by unfold KX2 at q; rcases q with ⟨rfl, ⟨rfl, rfl | rfl | rfl⟩ | rfl | rfl⟩ <;> (unfold TM2 RC2; omega)))
theorem q_option (fu : Nat) (hfu : 4000 ≤ fu) (M N : jm_M) (h : IW M N) (l1 l2 l3 : Int) (h1 : jm_in l1) (h2 : jm_in l2) (h3 : jm_in l3) : PX (fX11_option M l1 l2 l3) (fX12_option fu N l1 l2 l3) True :=
  PX.kp h.2 (p_option fu hfu M N h.1 l1 l2 l3 h1 h2 h3) (s_fX11_option M h.1.1 l1 l2 l3 h1 h2 h3) (s_fX12_option fu hfu N h.1.2.1 l1 l2 l3 h1 h2 h3) (fun r M1 a => a.2.1.weak (fun f i k q => by unfold KX1 at q; rcases q with ⟨rfl, rfl⟩ | ⟨rfl, rfl⟩ | ⟨rfl, rfl, rfl⟩ <;> (unfold TM1 RC1; omega))) (fun r M1 b => b.2.1.weak (fun f i k q => by unfold KX2 at q; rcases q with ⟨rfl, ⟨rfl, rfl | rfl | rfl⟩ | rfl | rfl⟩ <;> (unfold TM2 RC2; omega)))
theorem q_set (fu : Nat) (hfu : 4000 ≤ fu) (M N : jm_M) (h : IW M N) (l1 l2 : Int) (h1 : jm_in l1) (h2 : jm_in l2) : PX (fX11_set M l1 l2) (fX12_set fu N l1 l2) True :=
  PX.kp h.2 (p_set fu hfu M N h.1 l1 l2 h1 h2) (s_fX11_set M h.1.1 l1 l2 h1 h2) (s_fX12_set fu hfu N h.1.2.1 l1 l2 h1 h2) (fun r M1 a => a.2.1.weak (fun f i k q => by unfold KX1 at q; rcases q with ⟨rfl, rfl⟩ | ⟨rfl, rfl⟩ | ⟨rfl, rfl, rfl⟩ <;> (unfold TN1 RC1; omega))) (fun r M1 b => b.2.1.weak (fun f i k q => by unfold KX2 at q; rcases q with ⟨rfl, ⟨rfl, rfl | rfl | rfl⟩ | rfl | rfl⟩ <;> (unfold TM2 RC2; omega)))
theorem q_tyres (M N : jm_M) (h : IW M N) (l1 l2 l3 : Int) (h1 : jm_in l1) (h2 : jm_in l2) (h3 : jm_in l3) : PX (fX11_tyres M l1 l2 l3) (fX12_tyres N l1 l2 l3) True :=
  PX.kp h.2 (p_tyres M N h.1 l1 l2 l3 h1 h2 h3) (s_fX11_tyres M h.1.1 l1 l2 l3 h1 h2 h3) (s_fX12_tyres N h.1.2.1 l1 l2 l3 h1 h2 h3) (fun r M1 a => a.2.1.weak (fun f i k q => by unfold KX1 at q; rcases q with ⟨rfl, rfl⟩ | ⟨rfl, rfl⟩ | ⟨rfl, rfl, rfl⟩ <;> (unfold TN1 RC1; omega))) (fun r M1 b => b.2.1.weak (fun f i k q => by unfold KX2 at q; rcases q with ⟨rfl, ⟨rfl, rfl | rfl | rfl⟩ | rfl | rfl⟩ <;> (unfold TM2 RC2; omega)))
theorem q_move (fu : Nat) (hfu : 4000 ≤ fu) (M N : jm_M) (h : IW M N) (l1 l2 l3 l4 : Int) (h1 : jm_in l1) (h2 : jm_in l2) (h3 : jm_in l3) (h4 : jm_in l4) : PX (fX11_move fu M l1 l2 l3 l4) (fX12_move fu N l1 l2 l3 l4) False :=
  PX.kp h.2 (p_move fu hfu M N h.1 l1 l2 l3 l4 h1 h2 h3 h4) (s_fX11_move fu hfu M h.1.1 l1 l2 l3 l4 h1 h2 h3 h4) (s_fX12_move fu hfu N h.1.2.1 l1 l2 l3 l4 h1 h2 h3 h4 h.1.2.2.1) (fun r M1 a => a.2.1.weak (fun f i k q => by unfold KX1 at q; rcases q with ⟨rfl, rfl⟩ | ⟨rfl, rfl⟩ | ⟨rfl, rfl, rfl⟩ <;> (unfold RC1; omega))) (fun r M1 b => b.2.1.weak (fun f i k q => by unfold KX2 at q; rcases q with ⟨rfl, ⟨rfl, rfl | rfl | rfl⟩ | rfl | rfl⟩ <;> (unfold RC2; omega)))
theorem q_count (fu : Nat) (hfu : 4000 ≤ fu) (M N : jm_M) (h : IW M N) (l1 : Int) (h1 : jm_in l1) : PX (fX11_count fu M l1) (fX12_count fu N l1) False :=
  PX.kp h.2 (p_count fu hfu M N h.1 l1 h1) (s_fX11_count fu hfu M h.1.1 l1 h1) (s_fX12_count fu hfu N h.1.2.1 l1 h1) (fun r M1 a => by rw [a.1]; exact Kp.rf) (fun r M1 b => b.2.1.weak (fun f i k q => by unfold KX2 at q; rcases q with ⟨rfl, ⟨rfl, rfl | rfl | rfl⟩ | rfl | rfl⟩ <;> (unfold TA2; omega)))
theorem q_row (M N : jm_M) (h : IW M N) (l1 : Int) (h1 : jm_in l1) : PX (fX11_row M l1) (fX12_row N l1) False :=
  PX.kp h.2 (p_row M N h.1 l1 h1) (s_fX11_row M h.1.1 l1 h1) (s_fX12_row N h.1.2.1 l1 h1) (fun r M1 a => by rw [a.1]; exact Kp.rf) (fun r M1 b => b.2.1.weak (fun f i k q => by unfold KX2 at q; rcases q with ⟨rfl, ⟨rfl, rfl | rfl | rfl⟩ | rfl | rfl⟩ <;> (unfold TA2; omega)))
theorem q_lost (M N : jm_M) (h : IW M N) (l1 l2 : Int) (h1 : jm_in l1) (h2 : 0 ≤ l2 ∧ l2 ≤ 1) : PX (fX11_lost M l1 l2) (fX12_lost N l1 l2) True :=
  PX.kp h.2 (p_lost M N h.1 l1 l2 h1 h2) (s_fX11_lost M h.1.1 l1 l2 h1 h2) (s_fX12_lost N h.1.2.1 l1 l2 h1 h2) (fun r M1 a => a.2.1.weak (fun f i k q => by unfold KX1 at q; rcases q with ⟨rfl, rfl⟩ | ⟨rfl, rfl⟩ | ⟨rfl, rfl, rfl⟩ <;> (unfold RC1; omega))) (fun r M1 b => b.2.1.weak (fun f i k q => by unfold KX2 at q; rcases q with ⟨rfl, ⟨rfl, rfl | rfl | rfl⟩ | rfl | rfl⟩ <;> (unfold RC2; omega)))
theorem q_clear (fu : Nat) (hfu : 4000 ≤ fu) (M N : jm_M) (h : IW M N) : PX (fX11_clear fu M) (fX12_clear fu N) True :=
  PX.kp h.2 (p_clear fu hfu M N h.1) (s_fX11_clear fu hfu M h.1.1) (s_fX12_clear fu hfu N h.1.2.1) (fun r M1 a => a.2.2.1.weak (fun f i k q => by unfold KX1 at q; show ¬ (f = 10 ∧ 18 ≤ i ∧ i < 24); rcases q with ⟨rfl, rfl⟩ | ⟨rfl, rfl⟩ | ⟨rfl, rfl, rfl⟩ <;> omega)) (fun r M1 b => b.2.2.1.weak (fun f i k q => by unfold KX2 at q; show f ≠ 31 ∧ (f = 0 → k ≠ 0); rcases q with ⟨rfl, ⟨rfl, rfl | rfl | rfl⟩ | rfl | rfl⟩ <;> omega))
/-! end -/
theorem c_end (M : jm_M) (l1 : Int) : wp (fX11_end M l1) (fun _ M1 => Kp (fun f _ _ => f ≠ 0) M M1) := by
  unfold fX11_end
  refine wp_ite (fun c => wp_ret Kp.rf) (fun c => ?_)
  refine wp_ite (fun c => ?_) (fun c => wp_ret Kp.rf)
  exact ⟨_, _, rfl, fun f i k q => jm_une_f q⟩
theorem q_end (M N : jm_M) (h : IW M N) (l1 : Int) (h1 : jm_in l1) : PX (fX11_end M l1) (fX12_end N l1) True :=
  PX.of (p_end M N h.1 l1 h1) (c_end M l1) (s_fX12_end N h.1.2.1 l1 h1) fun r M1 s N1 a b _ => ⟨by
    obtain ⟨-, k2, b⟩ := b
    have le : N1 0 0 40 ≤ N 0 0 40 := by omega
    refine ⟨fun j y1 y2 => ?_, fun c y1 y2 => ?_, ?_⟩
    · rw [a 12 0 j (show (12 : Nat) ≠ 0 by decide), k2 34 0 j (by unfold TM2 RC2; omega)]
      exact h.2.1 j y1 (by omega)
    · rw [k2 0 0 17 (by unfold TM2 RC2; omega)] at y2
      rw [a 8 c 12 (show (8 : Nat) ≠ 0 by decide), k2 30 0 c (by unfold TM2 RC2; omega)]
      exact h.2.2.1 c y1 y2
    · rw [a 3 0 3 (show (3 : Nat) ≠ 0 by decide), k2 0 0 72 (by unfold TM2 RC2; omega)]
      exact h.2.2.2, fun z q => q z⟩
/-! sign -/
theorem c_sign_16 (fu : Nat) (l1 t : Int) (M0 : jm_M) (ht : 0 ≤ t ∧ t ≤ 96) : ∀ (n : Nat) (M : jm_M) (d : Int), bI bx1 M → 0 ≤ d → d ≤ 4 → M 0 0 7 = t + d → Kp (fun f _ _ => f ≠ 0 ∧ f ≠ 12) M0 M → (∀ j : Int, j < t → M 12 0 j = M0 12 0 j) → (∀ e : Int, 0 ≤ e → e < d → M 12 0 (t + e) = Sg l1 e) → 4 - d < (n : Int) → wp (fX11_sign_16 fu n M l1 (24 - 8 * d)) (fun _ M1 => Kp (fun f _ _ => f ≠ 0 ∧ f ≠ 12) M0 M1 ∧ (∀ j : Int, j < t → M1 12 0 j = M0 12 0 j) ∧ (∀ e : Int, 0 ≤ e → e < 4 → M1 12 0 (t + e) = Sg l1 e)) := by
  intro n
  induction n with
  | zero => intro M d _ _ h1 _ _ _ _ hm; exfalso; omega
  | succ n ih =>
    intro M d iM h0 h1 e7 kM ho hc hm
    show wp (gX11_sign_16 fu (fX11_sign_16 fu n) M l1 (24 - 8 * d)) _
    unfold gX11_sign_16
    refine wp_ite (fun c => wp_ret ⟨kM, ho, fun e y1 y2 => hc e y1 (by omega)⟩) (fun c => ?_)
    refine wp_T ⟨by omega, by omega⟩ ?_
    refine wp_si iM (jm_and_in _ _) (fun M5 u5 i5 => ?_)
    have e5 : M5 0 0 7 = t + d := by rw [u5, jm_une_f (by decide)]; exact e7
    have w1 : jm_w (M5 0 0 7 + 1) = t + (d + 1) := by rw [e5, jm_wid (by omega) (by omega)]; omega
    rw [w1]
    refine wp_si i5 (show 0 ≤ t + (d + 1) ∧ t + (d + 1) ≤ 100 by omega) (fun M7 u7 i7 => ?_)
    refine wp_e (jm_w_in _) (fun v e _ => ?_)
    have w2 : jm_w (24 - 8 * d + (-8)) = 24 - 8 * (d + 1) := by rw [jm_wid (by omega) (by omega)]; omega
    rw [e, w2]
    refine ih M7 (d + 1) i7 (by omega) (by omega) ?_ (fun f i k q => ?_) (fun j q => ?_) (fun e y1 y2 => ?_) (by omega)
    · rw [u7]; exact jm_ueq
    · rw [u7, jm_une_f q.1, u5, jm_une_f q.2]
      exact kM f i k q
    · rw [u7, jm_une_f (by decide), u5, jm_une_k (by omega)]
      exact ho j q
    · rw [u7, jm_une_f (by decide), u5, e7]
      by_cases q : e = d
      · rw [q, jm_ueq]
        exact Sg_u h0 (by omega)
      · rw [jm_une_k (by omega)]
        exact hc e y1 (by omega)
theorem c_sign (fu : Nat) (hfu : 4000 ≤ fu) (M : jm_M) (iM : bI bx1 M) (l1 : Int) : wp (fX11_sign fu M l1) (fun _ M1 => Kp (fun f _ _ => f ≠ 0 ∧ f ≠ 12) M M1 ∧ (∀ j : Int, j < M 0 0 7 → M1 12 0 j = M 12 0 j) ∧ (M 0 0 7 ≤ 96 → ∀ e : Int, 0 ≤ e → e < 4 → M1 12 0 (M 0 0 7 + e) = Sg l1 e)) := by
  have b7 : 0 ≤ M 0 0 7 ∧ M 0 0 7 ≤ 100 := iM 0 0 7
  have w : jm_w (M 0 0 7 + 4) = M 0 0 7 + 4 := jm_wid (by omega) (by omega)
  unfold fX11_sign
  rw [w]
  refine wp_ite (fun c => ?_) (fun c => wp_ret ⟨Kp.rf, fun _ _ => rfl, fun q => by exfalso; omega⟩)
  have z := c_sign_16 fu l1 (M 0 0 7) M ⟨by omega, by omega⟩ fu M 0 iM (by omega) (by omega) (by omega) Kp.rf (fun _ _ => rfl) (fun e y1 y2 => by exfalso; omega) (by omega)
  exact wp_mono z (fun _ M1 q => ⟨q.1, q.2.1, fun _ => q.2.2⟩)
theorem d_sign_18 (fu : Nat) (l1 t : Int) (M0 : jm_M) (ht : 0 ≤ t ∧ t ≤ 96) (e0 : M0 0 0 40 = t) : ∀ (n : Nat) (M : jm_M) (d : Int), bI bx2 M → 0 ≤ d → d ≤ 4 → Kp (fun f _ _ => f ≠ 34) M0 M → (∀ j : Int, j < t → M 34 0 j = M0 34 0 j) → (∀ e : Int, 0 ≤ e → e < d → M 34 0 (t + e) = Sg l1 e) → 4 - d < (n : Int) → wp (fX12_sign_18 fu n M l1 d) (fun _ M1 => (∀ j : Int, j < t → M1 34 0 j = M0 34 0 j) ∧ (∀ e : Int, 0 ≤ e → e < 4 → M1 34 0 (t + e) = Sg l1 e)) := by
  intro n
  induction n with
  | zero => intro M d _ _ h1 _ _ _ hm; exfalso; omega
  | succ n ih =>
    intro M d iM h0 h1 kM ho hc hm
    show wp (gX12_sign_18 fu (fX12_sign_18 fu n) M l1 d) _
    unfold gX12_sign_18
    have e40 : M 0 0 40 = t := (kM 0 0 40 (show (0 : Nat) ≠ 34 by decide)).trans e0
    refine wp_ite (fun c => ?_) (fun c => ?_)
    · refine ⟨_, _, rfl, fun j q => ?_, fun e y1 y2 => ?_⟩
      · exact (jm_une_f (by decide)).trans (ho j q)
      · exact (jm_une_f (by decide)).trans (hc e y1 (by omega))
    · have w1 : jm_w (M 0 0 40 + d) = t + d := by rw [e40]; exact jm_wid (by omega) (by omega)
      have w2 : jm_w (24 - jm_w (8 * d)) = 24 - 8 * d := by rw [jm_wid (x := 8 * d) (by omega) (by omega)]; exact jm_wid (by omega) (by omega)
      have w3 : jm_w (d + 1) = d + 1 := jm_wid (by omega) (by omega)
      rw [w1, w2, w3]
      refine wp_T ⟨by omega, by omega⟩ ?_
      refine wp_si iM (jm_and_in _ _) (fun M7 u7 i7 => ?_)
      refine wp_e (jm_inL (by omega) (by omega)) (fun v e _ => ?_)
      rw [e]
      refine ih M7 (d + 1) i7 (by omega) (by omega) (fun f i k q => ?_) (fun j q => ?_) (fun e y1 y2 => ?_) (by omega)
      · rw [u7, jm_une_f q]
        exact kM f i k q
      · rw [u7, jm_une_k (by omega)]
        exact ho j q
      · rw [u7]
        by_cases q : e = d
        · rw [q, jm_ueq]
          rfl
        · rw [jm_une_k (by omega)]
          exact hc e y1 (by omega)
theorem d_sign (fu : Nat) (hfu : 4000 ≤ fu) (M : jm_M) (iM : bI bx2 M) (l1 : Int) : wp (fX12_sign fu M l1) (fun _ M1 => (∀ j : Int, j < M 0 0 40 → M1 34 0 j = M 34 0 j) ∧ (M 0 0 40 ≤ 96 → ∀ e : Int, 0 ≤ e → e < 4 → M1 34 0 (M 0 0 40 + e) = Sg l1 e)) := by
  have b7 : 0 ≤ M 0 0 40 ∧ M 0 0 40 ≤ 100 := iM 0 0 40
  unfold fX12_sign
  refine wp_si iM (bx2_in (show bx2 39 0 0 0 from jm_inL (by decide) (by decide))) (fun M1 u1 i1 => ?_)
  have e40 : M1 0 0 40 = M 0 0 40 := by rw [u1]; exact jm_une_k (by decide)
  have e34 : ∀ j : Int, M1 34 0 j = M 34 0 j := fun j => by rw [u1]; exact jm_une_f (by decide)
  refine wp_ite (fun c => ?_) (fun c => wp_ret ⟨fun j _ => e34 j, fun q => by exfalso; omega⟩)
  have z := d_sign_18 fu l1 (M 0 0 40) M1 ⟨by omega, by omega⟩ e40 fu M1 0 i1 (by omega) (by omega) Kp.rf (fun _ _ => rfl) (fun e y1 y2 => by exfalso; omega) (by omega)
  exact wp_mono z (fun _ M2 q => ⟨fun j y => (q.1 j y).trans (e34 j), fun _ => q.2⟩)
theorem q_sign (fu : Nat) (hfu : 4000 ≤ fu) (M N : jm_M) (h : IW M N) (l1 : Int) (h1 : jm_in l1) : PX (fX11_sign fu M l1) (fX12_sign fu N l1) True :=
  PX.of (p_sign fu hfu M N h.1 l1 h1) (c_sign fu hfu M h.1.1 l1) (wp_and (s_fX12_sign fu hfu N h.1.2.1 l1 h1) (d_sign fu hfu N h.1.2.1 l1)) fun r M1 s N1 a b _ => ⟨by
    obtain ⟨⟨-, k2, b⟩, b1, b2⟩ := b
    obtain ⟨k1, a1, a2⟩ := a
    have e7 : M 0 0 7 = N 0 0 40 := h.1.2.2.2.1.2.2.2.2.2.2
    rw [e7] at a1 a2
    refine ⟨fun j y1 y2 => ?_, fun c y1 y2 => ?_, ?_⟩
    · by_cases q : j < N 0 0 40
      · rw [a1 j q, b1 j q]
        exact h.2.1 j y1 q
      · have z : N 0 0 40 ≤ 96 ∧ j < N 0 0 40 + 4 := by omega
        have z1 := a2 z.1 (j - N 0 0 40) (by omega) (by omega)
        have z2 := b2 z.1 (j - N 0 0 40) (by omega) (by omega)
        rw [show N 0 0 40 + (j - N 0 0 40) = j by omega] at z1 z2
        rw [z1, z2]
    · rw [k2 0 0 17 (by unfold TV2 RC2; omega)] at y2
      rw [k1 8 c 12 ⟨by decide, by decide⟩, k2 30 0 c (by unfold TV2 RC2; omega)]
      exact h.2.2.1 c y1 y2
    · rw [k1 3 0 3 (by decide), k2 0 0 72 (by unfold TV2 RC2; omega)]
      exact h.2.2.2, fun z q => q z⟩
/-! unplan -/
theorem c_unplan (M : jm_M) (iM : bI bx1 M) (l1 : Int) (h1 : jm_in l1) : wp (fX11_unplan M l1) (fun r M1 => Kp (fun f i k => f ≠ 2 ∧ ¬ (f = 8 ∧ i = l1 ∧ k = 12)) M M1 ∧ (((0 ≤ l1 ∧ l1 < M 2 0 5 ∧ M 8 l1 12 ≠ 0) ∧ r = 1 ∧ M1 8 l1 12 = 0) ∨ (¬ (0 ≤ l1 ∧ l1 < M 2 0 5 ∧ M 8 l1 12 ≠ 0) ∧ r = 0 ∧ M1 8 l1 12 = M 8 l1 12))) := by
  have b5 : 0 ≤ M 2 0 5 ∧ M 2 0 5 ≤ 6 := iM 2 0 5
  unfold fX11_unplan
  refine wp_bp (s_fX2_has M iM l1 h1) (fun v h => ?_)
  refine wp_ite (fun c => wp_ret ⟨Kp.rf, Or.inr ⟨by omega, rfl, rfl⟩⟩) (fun c => ?_)
  refine wp_T ⟨by omega, by omega⟩ ?_
  refine wp_ite (fun c2 => wp_ret ⟨Kp.rf, Or.inr ⟨fun q => q.2.2 c2, rfl, rfl⟩⟩) (fun c2 => ?_)
  refine wp_T ⟨by omega, by omega⟩ ?_
  refine ⟨_, _, rfl, fun f i k q => ?_, Or.inl ⟨⟨by omega, by omega, c2⟩, rfl, ?_⟩⟩
  · exact (jm_une_f q.1).trans (jm_une q.2)
  · exact (jm_une_f (by decide)).trans jm_ueq
theorem d_unplan (fu : Nat) (hfu : 4000 ≤ fu) (M : jm_M) (iM : bI bx2 M) (l1 : Int) (h1 : jm_in l1) : wp (fX12_unplan fu M l1) (fun r M1 => Kp (fun f i k => ¬ (f = 0 ∧ k = 0) ∧ ¬ (f = 30 ∧ i = 0 ∧ k = l1)) M M1 ∧ (((0 ≤ l1 ∧ l1 < M 0 0 17 ∧ M 30 0 l1 ≠ 0) ∧ r = 1 ∧ M1 30 0 l1 = 0) ∨ (¬ (0 ≤ l1 ∧ l1 < M 0 0 17 ∧ M 30 0 l1 ≠ 0) ∧ r = 0 ∧ M1 30 0 l1 = M 30 0 l1))) := by
  have b5 : 0 ≤ M 0 0 17 ∧ M 0 0 17 ≤ 6 := iM 0 0 17
  unfold fX12_unplan
  refine wp_si iM (bx2_in (show bx2 39 0 0 0 from jm_inL (by decide) (by decide))) (fun M1 u1 i1 => ?_)
  have k1 : Kp (fun f i k => ¬ (f = 0 ∧ k = 0)) M M1 := fun f i k q => by
    rw [u1]
    exact jm_une (fun z => q ⟨z.1, z.2.2⟩)
  have e17 : M1 0 0 17 = M 0 0 17 := k1 0 0 17 (by decide)
  have e30 : M1 30 0 l1 = M 30 0 l1 := k1 30 0 l1 (fun z => absurd z.1 (by decide))
  refine wp_bp (s_fX12_isCar M1 i1 l1 h1) (fun v h => ?_)
  have no : ¬ (0 ≤ l1 ∧ l1 < M 0 0 17 ∧ M 30 0 l1 ≠ 0) → wp (gX12_unplan_27 fu M1 l1 0) (fun r M2 => Kp (fun f i k => ¬ (f = 0 ∧ k = 0) ∧ ¬ (f = 30 ∧ i = 0 ∧ k = l1)) M M2 ∧ (((0 ≤ l1 ∧ l1 < M 0 0 17 ∧ M 30 0 l1 ≠ 0) ∧ r = 1 ∧ M2 30 0 l1 = 0) ∨ (¬ (0 ≤ l1 ∧ l1 < M 0 0 17 ∧ M 30 0 l1 ≠ 0) ∧ r = 0 ∧ M2 30 0 l1 = M 30 0 l1))) := by
    intro hn
    unfold gX12_unplan_27
    refine wp_T rfl (wp_T (Or.inl rfl) (wp_ret ⟨fun f i k q => k1 f i k q.1, Or.inr ⟨hn, rfl, e30⟩⟩))
  refine wp_ite (fun c => no (by omega)) (fun c => ?_)
  refine wp_T ⟨by omega, by omega⟩ ?_
  refine wp_ite (fun c2 => no (fun q => q.2.2 (e30.symm.trans c2))) (fun c2 => ?_)
  unfold gX12_unplan_27
  refine wp_F (by decide) (wp_T ⟨by omega, by omega⟩ (wp_T (Or.inl rfl) ?_))
  refine wp_si i1 (show (0 : Int) ≤ 0 ∧ (0 : Int) ≤ 1 by omega) (fun M3 u3 i3 => ?_)
  refine wp_T (Or.inr rfl) (wp_ret ⟨fun f i k q => ?_, Or.inl ⟨⟨by omega, by omega, fun z => c2 (e30.trans z)⟩, rfl, ?_⟩⟩)
  · rw [u3, jm_une q.2]
    exact k1 f i k q.1
  · rw [u3]; exact jm_ueq
theorem q_unplan (fu : Nat) (hfu : 4000 ≤ fu) (M N : jm_M) (h : IW M N) (l1 : Int) (h1 : jm_in l1) : PX (fX11_unplan M l1) (fX12_unplan fu N l1) True :=
  PX.of (p_unplan fu hfu M N h.1 l1 h1) (c_unplan M h.1.1 l1 h1) (d_unplan fu hfu N h.1.2.1 l1 h1) fun r M1 s N1 a b _ => by
    obtain ⟨k1, a⟩ := a
    obtain ⟨k2, b⟩ := b
    have e5 : M 2 0 5 = N 0 0 17 := h.1.2.2.2.1.2.2.1
    have b5 : 0 ≤ N 0 0 17 ∧ N 0 0 17 ≤ 6 := h.1.2.1 0 0 17
    have ef : 0 ≤ l1 → l1 < N 0 0 17 → M 8 l1 12 = N 30 0 l1 := h.2.2.1 l1
    have k17 : N1 0 0 17 = N 0 0 17 := k2 0 0 17 ⟨by decide, fun z => absurd z.1 (by decide)⟩
    have k40 : N1 0 0 40 = N 0 0 40 := k2 0 0 40 ⟨by decide, fun z => absurd z.1 (by decide)⟩
    have es : r = s := by
      by_cases q : 0 ≤ l1 ∧ l1 < N 0 0 17
      · have := ef q.1 q.2
        omega
      · omega
    have ex : 0 ≤ l1 → l1 < N 0 0 17 → M1 8 l1 12 = N1 30 0 l1 := fun y1 y2 => by
      have := ef y1 y2
      omega
    refine ⟨⟨fun j y1 y2 => ?_, fun c y1 y2 => ?_, ?_⟩, fun _ _ => es⟩
    · rw [k1 12 0 j ⟨by decide, fun z => absurd z.1 (by decide)⟩, k2 34 0 j ⟨fun z => absurd z.1 (by decide), fun z => absurd z.1 (by decide)⟩]
      exact h.2.1 j y1 (by omega)
    · rw [k17] at y2
      by_cases q : c = l1
      · rw [q] at y1 y2 ⊢
        exact ex y1 y2
      · rw [k1 8 c 12 ⟨by decide, fun z => q z.2.1⟩, k2 30 0 c ⟨fun z => absurd z.1 (by decide), fun z => q z.2.2⟩]
        exact h.2.2.1 c y1 y2
    · rw [k1 3 0 3 ⟨by decide, fun z => absurd z.1 (by decide)⟩, k2 0 0 72 ⟨by decide, fun z => absurd z.1 (by decide)⟩]
      exact h.2.2.2
/-! plan -/
theorem c_take (M : jm_M) (iM : bI bx1 M) : wp (fX11_takeTape M) (fun r M1 => r = M 0 0 7 ∧ M1 = jm_u M 0 0 7 0) := by
  unfold fX11_takeTape
  refine wp_e (bx1_in (iM 0 0 7)) (fun v e _ => ?_)
  exact ⟨v, _, rfl, e, rfl⟩
theorem c_tape0 {M : jm_M} (iM : bI bx1 M) : bI bx1 (jm_u M 0 0 7 0) ∧ Kp (fun f _ k => ¬ (f = 0 ∧ k = 7)) M (jm_u M 0 0 7 0) :=
  ⟨bI_u iM (show (0 : Int) ≤ 0 ∧ (0 : Int) ≤ 100 by omega), fun f i k q => jm_une (fun z => q ⟨z.1, z.2.2⟩)⟩
theorem c_plan (fu : Nat) (hfu : 4000 ≤ fu) (M : jm_M) (iM : bI bx1 M) (l1 : Int) (h1 : jm_in l1) (cv : Int) (hcv : -1 ≤ cv ∧ cv ≤ 60) (hk : wp (fX3_firstWrong_a12 fu (jm_u M 0 0 7 0) (M 0 0 7) ((jm_u M 0 0 7 0) 0 0 10) 1) (fun v _ => v = cv)) : wp (fX11_plan fu M l1) (fun r M1 => M1 3 0 3 = M 3 0 3 ∧ (∀ c : Int, c ≠ l1 → M1 8 c 12 = M 8 c 12) ∧ ((¬ (0 ≤ l1 ∧ l1 < M 2 0 5) ∧ r = -100 ∧ M1 8 l1 12 = M 8 l1 12) ∨ ((0 ≤ l1 ∧ l1 < M 2 0 5) ∧ cv = -1 ∧ r = 1 ∧ M1 8 l1 12 = 1) ∨ ((0 ≤ l1 ∧ l1 < M 2 0 5) ∧ cv ≠ -1 ∧ r = -1 - cv ∧ M1 8 l1 12 = M 8 l1 12))) := by
  have b5 : 0 ≤ M 2 0 5 ∧ M 2 0 5 ≤ 6 := iM 2 0 5
  unfold fX11_plan
  refine wp_b (c_take M iM) (fun v1 M2 h => ?_)
  obtain ⟨rfl, rfl⟩ := h
  obtain ⟨i2, k2⟩ := c_tape0 iM
  have b7 : 0 ≤ M 0 0 7 ∧ M 0 0 7 ≤ 100 := iM 0 0 7
  generalize hM2 : jm_u M 0 0 7 0 = M2 at *
  have e5 : M2 2 0 5 = M 2 0 5 := k2 2 0 5 (by decide)
  have e3 : M2 3 0 3 = M 3 0 3 := k2 3 0 3 (by decide)
  have e8 : ∀ c : Int, M2 8 c 12 = M 8 c 12 := fun c => k2 8 c 12 (fun z => absurd z.1 (by decide))
  refine wp_bp (s_fX2_has M2 i2 l1 h1) (fun v4 h4 => ?_)
  refine wp_ite (fun c => wp_ret ⟨e3, fun c _ => e8 c, Or.inl ⟨by omega, rfl, e8 l1⟩⟩) (fun c => ?_)
  have b10 : 0 ≤ M2 0 0 10 ∧ M2 0 0 10 ≤ 16 := i2 0 0 10
  refine wp_T ⟨by omega, by omega⟩ ?_
  refine wp_b (wp_and (s_fX3_firstWrong_a12 fu hfu M2 i2 (M 0 0 7) (M2 0 0 10) 1 b7 b10 ⟨by omega, by omega⟩) hk) (fun v9 M10 h => ?_)
  obtain ⟨⟨i10, k10, -⟩, ev⟩ := h
  have f3 : M10 3 0 3 = M 3 0 3 := (k10 3 0 3 (by unfold TQ; omega)).trans e3
  have f8 : ∀ c : Int, M10 8 c 12 = M 8 c 12 := fun c => (k10 8 c 12 (by unfold TQ; omega)).trans (e8 c)
  have c10 : 0 ≤ M10 0 0 10 ∧ M10 0 0 10 ≤ 16 := i10 0 0 10
  have c11 : 0 ≤ M10 8 l1 11 ∧ M10 8 l1 11 ≤ 16 := i10 8 l1 11
  refine wp_ite (fun c2 => ?_) (fun c2 => ?_)
  · refine wp_T ⟨by omega, by omega⟩ (wp_T ⟨by omega, by omega⟩ (wp_T ⟨by omega, by omega⟩ (wp_T ⟨by omega, by omega⟩ ?_)))
    refine wp_si i10 (show 0 ≤ M10 0 0 10 ∧ M10 0 0 10 ≤ 16 from c10) (fun M17 u17 i17 => ?_)
    refine wp_T ⟨by omega, by omega⟩ ?_
    refine ⟨_, _, rfl, ?_, fun c q => ?_, Or.inr (Or.inl ⟨by omega, by omega, rfl, ?_⟩)⟩
    · refine (jm_une_f (by decide)).trans ((jm_une_f (by decide)).trans ((jm_une_f (by decide)).trans ?_))
      rw [u17, jm_une_f (by decide)]
      exact f3
    · refine (jm_une_f (by decide)).trans ((jm_une_f (by decide)).trans ((jm_une_i q).trans ?_))
      rw [u17, jm_une_i q]
      exact f8 c
    · exact (jm_une_f (by decide)).trans ((jm_une_f (by decide)).trans jm_ueq)
  · have w : jm_w ((-1) - v9) = -1 - cv := by rw [ev]; exact jm_wid (by omega) (by omega)
    rw [w]
    exact wp_ret ⟨f3, fun c _ => f8 c, Or.inr (Or.inr ⟨by omega, by omega, rfl, f8 l1⟩)⟩
theorem d_plan_38 (fu : Nat) (x l3 t : Int) (hx : 0 ≤ x ∧ x ≤ 5) (ht : t ≤ 100) : ∀ (n : Nat) (M : jm_M) (l4 : Int), bI bx2 M → M 36 0 16 = t → 0 ≤ l4 → l4 ≤ t → t - l4 < (n : Int) → wp (fX12_plan_38 fu n M x 16 l3 l4) (fun _ M1 => M1 30 0 x = 1) := by
  intro n
  induction n with
  | zero => intro M l4 _ _ _ h1 hm; exfalso; omega
  | succ n ih =>
    intro M l4 iM e16 h0 h1 hm
    show wp (gX12_plan_38 fu (fX12_plan_38 fu n) M x 16 l3 l4) _
    unfold gX12_plan_38
    refine wp_T ⟨by omega, by omega⟩ ?_
    refine wp_ite (fun c => ?_) (fun c => ?_)
    · refine wp_T ⟨by omega, by omega⟩ ?_
      refine wp_T ⟨by omega, by omega⟩ ?_
      refine wp_si iM (show 0 ≤ M 36 0 16 ∧ M 36 0 16 ≤ 100 by omega) (fun M7 u7 i7 => ?_)
      refine wp_T ⟨by omega, by omega⟩ ?_
      refine wp_T (by omega) ?_
      refine wp_si i7 (show (0 : Int) ≤ 1 ∧ (1 : Int) ≤ 1 by omega) (fun M9 u9 i9 => ?_)
      exact wp_ret (by rw [u9]; exact jm_ueq)
    · have w1 : jm_w (100 * 16) = 1600 := by decide
      have w2 : jm_w (jm_w (100 * 16) + l4) = 1600 + l4 := by rw [w1]; exact jm_wid (by omega) (by omega)
      have w3 : jm_w (100 * x) = 100 * x := jm_wid (by omega) (by omega)
      have w4 : jm_w (jm_w (100 * x) + l4) = 100 * x + l4 := by rw [w3]; exact jm_wid (by omega) (by omega)
      have w5 : jm_w (l4 + 1) = l4 + 1 := jm_wid (by omega) (by omega)
      rw [w2, w4]
      refine wp_T ⟨by omega, by omega⟩ ?_
      refine wp_T ⟨by omega, by omega⟩ ?_
      refine wp_si iM (iM 35 0 _) (fun M14 u14 i14 => ?_)
      refine wp_e (jm_w_in _) (fun v e _ => ?_)
      rw [e, w5]
      exact ih M14 (l4 + 1) i14 (by rw [u14, jm_une_f (by decide)]; exact e16) (by omega) (by omega) (by omega)
theorem d_first {N : jm_M} (iN : bI bx2 N) : bI bx2 (jm_u N 0 0 0 0) ∧ Kp (fun f _ k => ¬ (f = 0 ∧ k = 0)) N (jm_u N 0 0 0 0) :=
  ⟨bI_u iN (bx2_in (show bx2 39 0 0 0 from jm_inL (by decide) (by decide))), fun f i k q => jm_une (fun z => q ⟨z.1, z.2.2⟩)⟩
theorem d_plan (fu : Nat) (hfu : 4000 ≤ fu) (N : jm_M) (iN : bI bx2 N) (l1 : Int) (h1 : jm_in l1) (cv : Int) (hcv : -1 ≤ cv ∧ cv ≤ 60) (hk : wp (fX12_reads fu (jm_u N 0 0 0 0) 16 1) (fun v _ => v = if cv = -1 then 1 else -1 - cv)) : wp (fX12_plan fu N l1) (fun r N1 => N1 0 0 72 = N 0 0 72 ∧ (∀ c : Int, c ≠ l1 → N1 30 0 c = N 30 0 c) ∧ ((¬ (0 ≤ l1 ∧ l1 < N 0 0 17) ∧ r = -100 ∧ N1 30 0 l1 = N 30 0 l1) ∨ ((0 ≤ l1 ∧ l1 < N 0 0 17) ∧ cv = -1 ∧ r = 1 ∧ N1 30 0 l1 = 1) ∨ ((0 ≤ l1 ∧ l1 < N 0 0 17) ∧ cv ≠ -1 ∧ r = -1 - cv ∧ N1 30 0 l1 = N 30 0 l1))) := by
  have b17 : 0 ≤ N 0 0 17 ∧ N 0 0 17 ≤ 6 := iN 0 0 17
  unfold fX12_plan
  obtain ⟨i2, k2⟩ := d_first iN
  refine wp_si iN (bx2_in (show bx2 39 0 0 0 from jm_inL (by decide) (by decide))) (fun N2 u2 _ => ?_)
  rw [← u2] at i2 k2 hk
  have e17 : N2 0 0 17 = N 0 0 17 := k2 0 0 17 (by decide)
  have e72 : N2 0 0 72 = N 0 0 72 := k2 0 0 72 (by decide)
  have e30 : ∀ c : Int, N2 30 0 c = N 30 0 c := fun c => k2 30 0 c (fun z => absurd z.1 (by decide))
  refine wp_bp (s_fX12_isCar N2 i2 l1 h1) (fun v2 h2 => ?_)
  refine wp_ite (fun c => ?_) (fun c => ?_)
  · refine ⟨_, _, rfl, ?_, fun c _ => ?_, Or.inl ⟨by omega, rfl, ?_⟩⟩
    · exact (jm_une_k (by decide)).trans e72
    · exact (jm_une_f (by decide)).trans (e30 c)
    · exact (jm_une_f (by decide)).trans (e30 l1)
  · refine wp_b (wp_and (s_reads fu hfu N2 i2 16 1 ⟨by omega, by omega⟩) hk) (fun v7 M8 h => ?_)
    obtain ⟨⟨i8, k8, -⟩, ev⟩ := h
    have f72 : M8 0 0 72 = N 0 0 72 := (k8 0 0 72 (by unfold TRD; omega)).trans e72
    have f30 : ∀ c : Int, M8 30 0 c = N 30 0 c := fun c => (k8 30 0 c (by unfold TRD; omega)).trans (e30 c)
    by_cases q : cv = -1
    · rw [if_pos q] at ev
      refine wp_F (by omega) ?_
      have b16 : 0 ≤ M8 36 0 16 ∧ M8 36 0 16 ≤ 100 := i8 36 0 16
      refine wp_mono (wp_and (s_plan_38 fu M8 i8 l1 v7 ⟨by omega, by omega⟩ fu M8 0 i8 Kp.rf (fun _ _ => rfl) (fun t z1 z2 => by exfalso; omega) (by omega) (by omega) (by omega)) (d_plan_38 fu l1 v7 (M8 36 0 16) ⟨by omega, by omega⟩ b16.2 fu M8 0 i8 rfl (by omega) b16.1 (by omega))) (fun r M1 h => ?_)
      obtain ⟨⟨hr, -, k1, -, -, g30, -⟩, g1⟩ := h
      exact ⟨(k1 0 0 72 (by decide)).trans f72, fun c y => (g30 c y).trans (f30 c), Or.inr (Or.inl ⟨by omega, q, hr.trans ev, g1⟩)⟩
    · rw [if_neg q] at ev
      refine wp_T (by omega) (wp_ret ⟨f72, fun c _ => f30 c, Or.inr (Or.inr ⟨by omega, q, ev, f30 l1⟩)⟩)
theorem t_start {M N : jm_M} (h : IW M N) : (jm_u N 0 0 0 0) 0 0 40 = M 0 0 7 ∧ ∀ j : Int, 0 ≤ j → j < M 0 0 7 → (jm_u M 0 0 7 0) 12 0 j = (jm_u N 0 0 0 0) 34 0 j := by
  have e7 : M 0 0 7 = N 0 0 40 := h.1.2.2.2.1.2.2.2.2.2.2
  refine ⟨(jm_une_k (by decide)).trans e7.symm, fun j y1 y2 => ?_⟩
  rw [jm_une_f (by decide), jm_une_f (by decide)]
  exact h.2.1 j y1 (by omega)
theorem q_plan (fu : Nat) (hfu : 4000 ≤ fu) (M N : jm_M) (h : IW M N) (l1 : Int) (h1 : jm_in l1) : PX (fX11_plan fu M l1) (fX12_plan fu N l1) True := by
  obtain ⟨i1, -⟩ := c_tape0 h.1.1
  obtain ⟨i2, -⟩ := d_first h.1.2.1
  obtain ⟨t1, t2⟩ := t_start h
  obtain ⟨cv, z1, z2, hk1, hk2⟩ := k_text fu hfu (jm_u N 0 0 0 0) (jm_u M 0 0 7 0) i2 i1 16 ((jm_u M 0 0 7 0) 0 0 10) (M 0 0 7) 1 ⟨by omega, by omega⟩ (i1 0 0 10) (Or.inr rfl) t1 t2
  refine PX.of (p_plan fu hfu M N h.1 l1 h1) (c_plan fu hfu M h.1.1 l1 h1 cv ⟨z1, z2⟩ hk1) (wp_and (s_fX12_plan fu hfu N h.1.2.1 h.1.2.2.1 l1 h1) (d_plan fu hfu N h.1.2.1 l1 h1 cv ⟨z1, z2⟩ hk2)) fun r M1 s N1 a b _ => ?_
  obtain ⟨a3, a8, a⟩ := a
  obtain ⟨⟨-, k2, e40, -⟩, b72, b30, b⟩ := b
  have e5 : M 2 0 5 = N 0 0 17 := h.1.2.2.2.1.2.2.1
  have k17 : N1 0 0 17 = N 0 0 17 := k2 0 0 17 (by unfold TPN; omega)
  have ef : 0 ≤ l1 → l1 < N 0 0 17 → M 8 l1 12 = N 30 0 l1 := h.2.2.1 l1
  have ex : 0 ≤ l1 → l1 < N 0 0 17 → M1 8 l1 12 = N1 30 0 l1 := fun y1 y2 => by
    have := ef y1 y2
    omega
  refine ⟨⟨fun j y1 y2 => by exfalso; omega, fun c y1 y2 => ?_, ?_⟩, fun _ _ => by omega⟩
  · rw [k17] at y2
    by_cases q : c = l1
    · rw [q] at y1 y2 ⊢
      exact ex y1 y2
    · rw [a8 c q, b30 c q]
      exact h.2.2.1 c y1 y2
  · rw [a3, b72]
    exact h.2.2.2
/-! rule -/
theorem c_rule (fu : Nat) (hfu : 4000 ≤ fu) (M : jm_M) (iM : bI bx1 M) (l1 : Int) (h1 : jm_in l1) (cv : Int) (hcv : -1 ≤ cv ∧ cv ≤ 60) (hk : wp (fX3_firstWrong_a12 fu (jm_u M 0 0 7 0) (M 0 0 7) ((jm_u M 0 0 7 0) 0 0 10) 0) (fun v _ => v = cv)) : wp (fX11_rule fu M l1) (fun r M1 => (∀ c : Int, M1 8 c 12 = M 8 c 12) ∧ ((¬ (0 ≤ l1 ∧ l1 ≤ 99 ∧ M 3 0 3 < 10) ∧ r = -100 ∧ M1 3 0 3 = M 3 0 3) ∨ ((0 ≤ l1 ∧ l1 ≤ 99 ∧ M 3 0 3 < 10) ∧ cv = -1 ∧ r = M 3 0 3 + 1 ∧ M1 3 0 3 = M 3 0 3 + 1) ∨ ((0 ≤ l1 ∧ l1 ≤ 99 ∧ M 3 0 3 < 10) ∧ cv ≠ -1 ∧ r = -1 - cv ∧ M1 3 0 3 = M 3 0 3))) := by
  have b3 : 0 ≤ M 3 0 3 ∧ M 3 0 3 ≤ 10 := iM 3 0 3
  unfold fX11_rule
  refine wp_b (c_take M iM) (fun v1 M2 h => ?_)
  obtain ⟨rfl, rfl⟩ := h
  obtain ⟨i2, k2⟩ := c_tape0 iM
  have b7 : 0 ≤ M 0 0 7 ∧ M 0 0 7 ≤ 100 := iM 0 0 7
  generalize hM2 : jm_u M 0 0 7 0 = M2 at *
  have e3 : M2 3 0 3 = M 3 0 3 := k2 3 0 3 (by decide)
  have e8 : ∀ c : Int, M2 8 c 12 = M 8 c 12 := fun c => k2 8 c 12 (fun z => absurd z.1 (by decide))
  refine wp_bp (s_fX11_isDay M2 i2 l1 h1) (fun v4 h4 => ?_)
  refine wp_ite (fun c => wp_ret ⟨e8, Or.inl ⟨by omega, rfl, e3⟩⟩) (fun c => ?_)
  refine wp_bp (x_isIndex M2 (M2 3 0 3) 10) (fun v5 h5 => ?_)
  refine wp_ite (fun c2 => wp_ret ⟨e8, Or.inl ⟨by omega, rfl, e3⟩⟩) (fun c2 => ?_)
  have b10 : 0 ≤ M2 0 0 10 ∧ M2 0 0 10 ≤ 16 := i2 0 0 10
  refine wp_T ⟨by omega, by omega⟩ ?_
  refine wp_b (wp_and (s_fX3_firstWrong_a12 fu hfu M2 i2 (M 0 0 7) (M2 0 0 10) 0 b7 b10 ⟨by omega, by omega⟩) hk) (fun v9 M10 h => ?_)
  obtain ⟨⟨i10, k10, -⟩, ev⟩ := h
  have f3 : M10 3 0 3 = M 3 0 3 := (k10 3 0 3 (by unfold TQ; omega)).trans e3
  have f8 : ∀ c : Int, M10 8 c 12 = M 8 c 12 := fun c => (k10 8 c 12 (by unfold TQ; omega)).trans (e8 c)
  have c10 : 0 ≤ M10 0 0 10 ∧ M10 0 0 10 ≤ 16 := i10 0 0 10
  refine wp_ite (fun c3 => ?_) (fun c3 => ?_)
  · refine wp_T ⟨by omega, by omega⟩ ?_
    have tk : wp (fX0_takeRule M10 (M10 0 0 10) l1) (fun r M1 => (∀ c : Int, M1 8 c 12 = M 8 c 12) ∧ M1 3 0 3 = M 3 0 3 + 1) := by
      have c48 : 0 ≤ M10 48 0 (M10 3 0 3) ∧ M10 48 0 (M10 3 0 3) ≤ 16 := i10 48 0 _
      unfold fX0_takeRule
      refine wp_bp (x_isIndex M10 (M10 3 0 3) 10) (fun v6 h6 => ?_)
      refine wp_F (by omega) (wp_T ⟨by omega, by omega⟩ (wp_T ⟨by omega, by omega⟩ (wp_T ⟨by omega, by omega⟩ ?_)))
      refine wp_si i10 (show 0 ≤ M10 0 0 10 ∧ M10 0 0 10 ≤ 16 from c10) (fun M11 u11 i11 => ?_)
      have e11 : M11 3 0 3 = M 3 0 3 := by rw [u11, jm_une_f (by decide)]; exact f3
      refine wp_T ⟨by omega, by omega⟩ ?_
      refine wp_si i11 (bx1_in (show bx1 13 0 0 l1 from h1)) (fun M14 u14 i14 => ?_)
      have e14 : M14 3 0 3 = M 3 0 3 := by rw [u14, jm_une_f (by decide)]; exact e11
      rw [e14, jm_wid (x := M 3 0 3 + 1) (by omega) (by omega)]
      refine ⟨_, _, rfl, fun c => ?_, jm_ueq⟩
      refine (jm_une_f (by decide)).trans ?_
      rw [u14, jm_une_f (by decide), u11, jm_une_f (by decide)]
      exact f8 c
    refine wp_b tk (fun v19 M20 h => ?_)
    obtain ⟨g8, g3⟩ := h
    have g : (jm_u M20 0 0 10 v19) 3 0 3 = M 3 0 3 + 1 := (jm_une_f (by decide)).trans g3
    exact ⟨_, _, rfl, fun c => (jm_une_f (by decide)).trans (g8 c), Or.inr (Or.inl ⟨by omega, by omega, g, g⟩)⟩
  · have w : jm_w ((-1) - v9) = -1 - cv := by rw [ev]; exact jm_wid (by omega) (by omega)
    rw [w]
    exact wp_ret ⟨f8, Or.inr (Or.inr ⟨by omega, by omega, rfl, f3⟩)⟩
theorem d_rule (fu : Nat) (hfu : 4000 ≤ fu) (N : jm_M) (iN : bI bx2 N) (l1 : Int) (h1 : jm_in l1) (cv : Int) (hcv : -1 ≤ cv ∧ cv ≤ 60) (hk : N 0 0 72 < 10 → wp (fX12_reads fu (jm_u N 0 0 0 0) (6 + N 0 0 72) 0) (fun v _ => v = if cv = -1 then 1 else -1 - cv)) : wp (fX12_rule fu N l1) (fun r N1 => (∀ c : Int, N1 30 0 c = N 30 0 c) ∧ ((¬ (0 ≤ l1 ∧ l1 ≤ 99 ∧ N 0 0 72 < 10) ∧ r = -100 ∧ N1 0 0 72 = N 0 0 72) ∨ ((0 ≤ l1 ∧ l1 ≤ 99 ∧ N 0 0 72 < 10) ∧ cv = -1 ∧ r = N 0 0 72 + 1 ∧ N1 0 0 72 = N 0 0 72 + 1) ∨ ((0 ≤ l1 ∧ l1 ≤ 99 ∧ N 0 0 72 < 10) ∧ cv ≠ -1 ∧ r = -1 - cv ∧ N1 0 0 72 = N 0 0 72))) := by
  have b72 : 0 ≤ N 0 0 72 ∧ N 0 0 72 ≤ 10 := iN 0 0 72
  unfold fX12_rule
  obtain ⟨i2, k2⟩ := d_first iN
  refine wp_si iN (bx2_in (show bx2 39 0 0 0 from jm_inL (by decide) (by decide))) (fun N2 u2 _ => ?_)
  rw [← u2] at i2 k2 hk
  have e72 : N2 0 0 72 = N 0 0 72 := k2 0 0 72 (by decide)
  have e30 : ∀ c : Int, N2 30 0 c = N 30 0 c := fun c => k2 30 0 c (fun z => absurd z.1 (by decide))
  refine wp_bp (s_fX12_isDay N2 i2 l1 h1) (fun v2 h2 => ?_)
  refine wp_ite (fun c => ?_) (fun c => ?_)
  · exact ⟨_, _, rfl, fun c => (jm_une_f (by decide)).trans (e30 c), Or.inl ⟨by omega, rfl, (jm_une_k (by decide)).trans e72⟩⟩
  refine wp_ite (fun c2 => ?_) (fun c2 => ?_)
  · exact ⟨_, _, rfl, fun c => (jm_une_f (by decide)).trans (e30 c), Or.inl ⟨by omega, rfl, (jm_une_k (by decide)).trans e72⟩⟩
  have w6 : jm_w (6 + N2 0 0 72) = 6 + N 0 0 72 := by rw [e72]; exact jm_wid (by omega) (by omega)
  rw [w6]
  refine wp_b (wp_and (s_reads fu hfu N2 i2 (6 + N 0 0 72) 0 ⟨by omega, by omega⟩) (hk (by omega))) (fun v7 M8 h => ?_)
  obtain ⟨⟨i8, k8, -⟩, ev⟩ := h
  have f72 : M8 0 0 72 = N 0 0 72 := (k8 0 0 72 (by unfold TRD; omega)).trans e72
  have f30 : ∀ c : Int, M8 30 0 c = N 30 0 c := fun c => (k8 30 0 c (by unfold TRD; omega)).trans (e30 c)
  by_cases q : cv = -1
  · rw [if_pos q] at ev
    refine wp_T (by omega) (wp_T ⟨by omega, by omega⟩ ?_)
    refine wp_si i8 (bx2_in (show bx2 39 0 0 l1 from h1)) (fun M17 u17 i17 => ?_)
    have e17 : M17 0 0 72 = N 0 0 72 := by rw [u17, jm_une_f (by decide)]; exact f72
    rw [e17, jm_wid (x := N 0 0 72 + 1) (by omega) (by omega)]
    refine ⟨_, _, rfl, fun c => ?_, Or.inr (Or.inl ⟨by omega, q, jm_ueq, jm_ueq⟩)⟩
    refine (jm_une_f (by decide)).trans ?_
    rw [u17, jm_une_f (by decide)]
    exact f30 c
  · rw [if_neg q] at ev
    exact wp_F (by omega) (wp_ret ⟨f30, Or.inr (Or.inr ⟨by omega, q, ev, f72⟩)⟩)
theorem q_rule (fu : Nat) (hfu : 4000 ≤ fu) (M N : jm_M) (h : IW M N) (l1 : Int) (h1 : jm_in l1) : PX (fX11_rule fu M l1) (fX12_rule fu N l1) True := by
  obtain ⟨i1, -⟩ := c_tape0 h.1.1
  obtain ⟨i2, -⟩ := d_first h.1.2.1
  obtain ⟨t1, t2⟩ := t_start h
  have b72 : 0 ≤ N 0 0 72 ∧ N 0 0 72 ≤ 10 := h.1.2.1 0 0 72
  have e3 : M 3 0 3 = N 0 0 72 := h.2.2.2
  obtain ⟨cv, z1, z2, hk1, hk2⟩ := k_text fu hfu (jm_u N 0 0 0 0) (jm_u M 0 0 7 0) i2 i1 (6 + N 0 0 72) ((jm_u M 0 0 7 0) 0 0 10) (M 0 0 7) 0 ⟨by omega, by omega⟩ (i1 0 0 10) (Or.inl rfl) t1 t2
  refine PX.of (p_rule fu hfu M N h.1 l1 h1) (c_rule fu hfu M h.1.1 l1 h1 cv ⟨z1, z2⟩ hk1) (wp_and (s_fX12_rule fu hfu N h.1.2.1 h.1.2.2.1 l1 h1) (d_rule fu hfu N h.1.2.1 l1 h1 cv ⟨z1, z2⟩ (fun _ => hk2))) fun r M1 s N1 a b _ => ?_
  obtain ⟨a8, a⟩ := a
  obtain ⟨⟨-, k2, e40, -⟩, b30, b⟩ := b
  have k17 : N1 0 0 17 = N 0 0 17 := k2 0 0 17 (by unfold TPN; omega)
  refine ⟨⟨fun j y1 y2 => by exfalso; omega, fun c y1 y2 => ?_, by omega⟩, fun _ _ => by omega⟩
  rw [k17] at y2
  rw [a8 c, b30 c]
  exact h.2.2.1 c y1 y2
/-! car -/
theorem c_forget (M : jm_M) (iM : bI bx1 M) (r0 : Int) (hr : 0 ≤ r0 ∧ r0 ≤ 5) : wp (fX1_forget M r0) (fun _ M1 => M1 8 r0 12 = 0 ∧ (∀ c : Int, c ≠ r0 → M1 8 c 12 = M 8 c 12)) := by
  unfold fX1_forget
  refine ⟨_, _, rfl, ?_, fun c q => ?_⟩
  · exact (jm_une_k (by decide)).trans jm_ueq
  · exact (jm_une_i q).trans ((jm_une_i q).trans ((jm_une_f (by decide)).trans ((jm_une_f (by decide)).trans ((jm_une_f (by decide)).trans (jm_une_f (by decide))))))
theorem c_car (M : jm_M) (iM : bI bx1 M) (l1 l2 l3 l4 l5 l6 : Int) (h1 : jm_in l1) (h2 : jm_in l2) (h3 : jm_in l3) (h4 : jm_in l4) (h5 : jm_in l5) (h6 : jm_in l6) : wp (fX11_car M l1 l2 l3 l4 l5 l6) (fun _ M1 => M1 = M ∨ (M1 8 (M 2 0 5) 12 = 0 ∧ (∀ c : Int, c ≠ M 2 0 5 → M1 8 c 12 = M 8 c 12))) := by
  have b5 : 0 ≤ M 2 0 5 ∧ M 2 0 5 ≤ 6 := iM 2 0 5
  unfold fX11_car
  refine wp_bp (s_fX11_isWithin M iM l1 (-2000) 2000 h1 (jm_inL (by decide) (by decide)) (jm_inL (by decide) (by decide))) (fun v1 q1 => ?_)
  refine wp_ite (fun c => wp_ret (Or.inl rfl)) (fun c1 => ?_)
  refine wp_bp (s_fX11_isWithin M iM l2 1 200 h2 (jm_inL (by decide) (by decide)) (jm_inL (by decide) (by decide))) (fun v2 q2 => ?_)
  refine wp_ite (fun c => wp_ret (Or.inl rfl)) (fun c2 => ?_)
  refine wp_bp (s_fX11_isWithin M iM l3 1 9 h3 (jm_inL (by decide) (by decide)) (jm_inL (by decide) (by decide))) (fun v3 q3 => ?_)
  refine wp_ite (fun c => wp_ret (Or.inl rfl)) (fun c3 => ?_)
  refine wp_bp (x_isIndex M l4 4) (fun v4 q4 => ?_)
  refine wp_ite (fun c => wp_ret (Or.inl rfl)) (fun c4 => ?_)
  refine wp_bp (x_isIndex M l5 2) (fun v5 q5 => ?_)
  refine wp_ite (fun c => wp_ret (Or.inl rfl)) (fun c5 => ?_)
  refine wp_bp (s_fX11_isWithin M iM l6 0 l2 h6 (jm_inL (by decide) (by decide)) h2) (fun v6 q6 => ?_)
  refine wp_ite (fun c => wp_ret (Or.inl rfl)) (fun c6 => ?_)
  refine wp_bp (x_isIndex M (M 2 0 5) 6) (fun v7 q7 => ?_)
  refine wp_ite (fun c => wp_ret (Or.inl rfl)) (fun c7 => ?_)
  refine wp_T ⟨by omega, by omega⟩ ?_
  refine wp_b (c_forget M iM (M 2 0 5) ⟨by omega, by omega⟩) (fun v32 M33 h => ?_)
  obtain ⟨g1, g2⟩ := h
  refine ⟨_, _, rfl, Or.inr ⟨?_, fun c q => ?_⟩⟩
  · exact (jm_une_f (by decide)).trans ((jm_une_f (by decide)).trans ((jm_une_k (by decide)).trans ((jm_une_k (by decide)).trans ((jm_une_k (by decide)).trans ((jm_une_k (by decide)).trans ((jm_une_k (by decide)).trans ((jm_une_k (by decide)).trans g1)))))))
  · exact (jm_une_f (by decide)).trans ((jm_une_f (by decide)).trans ((jm_une_k (by decide)).trans ((jm_une_k (by decide)).trans ((jm_une_k (by decide)).trans ((jm_une_k (by decide)).trans ((jm_une_k (by decide)).trans ((jm_une_k (by decide)).trans (g2 c q))))))))
theorem q_car (M N : jm_M) (h : IW M N) (l1 l2 l3 l4 l5 l6 : Int) (h1 : jm_in l1) (h2 : jm_in l2) (h3 : jm_in l3) (h4 : jm_in l4) (h5 : jm_in l5) (h6 : jm_in l6) : PX (fX11_car M l1 l2 l3 l4 l5 l6) (fX12_car N l1 l2 l3 l4 l5 l6) True :=
  PX.of (p_car M N h.1 l1 l2 l3 l4 l5 l6 h1 h2 h3 h4 h5 h6) (wp_and (s_fX11_car M h.1.1 l1 l2 l3 l4 l5 l6 h1 h2 h3 h4 h5 h6) (c_car M h.1.1 l1 l2 l3 l4 l5 l6 h1 h2 h3 h4 h5 h6)) (s_fX12_car N h.1.2.1 l1 l2 l3 l4 l5 l6 h1 h2 h3 h4 h5 h6) fun r M1 s N1 a b _ => by
    obtain ⟨⟨-, a⟩, a'⟩ := a
    obtain ⟨-, b⟩ := b
    have e3 : M 2 0 5 = N 0 0 17 := h.1.2.2.2.1.2.2.1
    have b17 : 0 ≤ N 0 0 17 ∧ N 0 0 17 ≤ 6 := h.1.2.1 0 0 17
    rw [e3] at a a'
    refine ⟨?_, fun z q => q z⟩
    rcases a with ⟨c1, ra, k1⟩ | ⟨c1, ra, a1, a2, a3, a4, a5, k1⟩ <;> rcases b with ⟨c2, rb, k2⟩ | ⟨c2, rb, b1, b2, b3, b4, b5, k2⟩
    · exact h.2.kp (by rw [k1]; exact Kp.rf) (k2.weak (fun f i k q => by unfold KX2 at q; rcases q with ⟨rfl, ⟨rfl, rfl | rfl | rfl⟩ | rfl | rfl⟩ <;> omega))
    · exact absurd c2 c1
    · exact absurd c1 c2
    · have hf : M1 8 (N 0 0 17) 12 = 0 ∧ (∀ c : Int, c ≠ N 0 0 17 → M1 8 c 12 = M 8 c 12) := by
        rcases a' with e | e
        · rw [e] at a1
          exfalso
          omega
        · exact e
      refine ⟨fun j y1 y2 => ?_, fun c y1 y2 => ?_, ?_⟩
      · rw [k1 12 0 j (by unfold TCa RC1; omega), k2 34 0 j (by unfold TCb; omega)]
        rw [k2 0 0 40 (by unfold TCb; omega)] at y2
        exact h.2.1 j y1 y2
      · rw [b1] at y2
        by_cases q : c = N 0 0 17
        · rw [q]
          exact hf.1.trans b5.symm
        · rw [hf.2 c q, k2 30 0 c (by unfold TCb; omega)]
          exact h.2.2.1 c y1 (by omega)
      · rw [k1 3 0 3 (by unfold TCa RC1; omega), k2 0 0 72 (by unfold TCb; omega)]
        exact h.2.2.2
/-! track -/
theorem c_track (fu : Nat) (hfu : 4000 ≤ fu) (M : jm_M) (iM : bI bx1 M) (l1 l2 : Int) : wp (fX11_track fu M l1 l2) (fun _ M1 => (2 ≤ l1 ∧ l1 ≤ 5 ∧ 1 ≤ l2 ∧ l2 ≤ 12) → (M1 3 0 3 = 0 ∧ ∀ j : Int, M1 12 0 j = M 12 0 j)) := by
  unfold fX11_track
  refine wp_ite (fun c => wp_ret (fun q => by exfalso; omega)) (fun c1 => ?_)
  refine wp_ite (fun c => wp_ret (fun q => by exfalso; omega)) (fun c2 => ?_)
  refine wp_ite (fun c => wp_ret (fun q => by exfalso; omega)) (fun c3 => ?_)
  refine wp_ite (fun c4 => ?_) (fun c => wp_ret (fun q => by exfalso; omega))
  have lay : wp (fX9_layAnew fu M l1 l2) (fun _ M1 => ∀ j : Int, M1 12 0 j = M 12 0 j) := by
    unfold fX9_layAnew
    refine wp_si iM (show 2 ≤ l1 ∧ l1 ≤ 5 by omega) (fun M1 u1 i1 => ?_)
    refine wp_si i1 (show 1 ≤ l2 ∧ l2 ≤ 12 by omega) (fun M2 u2 i2 => ?_)
    refine wp_mono (s_layAnew_12 fu M2 fu M2 0 i2 Kp.rf (by omega) (by omega) (by omega)) (fun r M3 h j => ?_)
    rw [h.2.1 12 0 j (by omega), u2, jm_une_f (by decide), u1]
    exact jm_une_f (by decide)
  refine wp_b lay (fun v5 M6 h => ?_)
  refine ⟨_, _, rfl, fun _ => ⟨?_, fun j => ?_⟩⟩
  · exact (jm_une_f (by decide)).trans jm_ueq
  · exact (jm_une_f (by decide)).trans ((jm_une_f (by decide)).trans ((jm_une_f (by decide)).trans ((jm_une_f (by decide)).trans (h j))))
theorem q_track (fu : Nat) (hfu : 4000 ≤ fu) (M N : jm_M) (h : IW M N) (l1 l2 : Int) (h1 : jm_in l1) (h2 : jm_in l2) : PX (fX11_track fu M l1 l2) (fX12_track fu N l1 l2) True :=
  PX.of (p_track fu hfu M N h.1 l1 l2 h1 h2) (wp_and (s_fX11_track fu hfu M h.1.1 l1 l2 h1 h2) (c_track fu hfu M h.1.1 l1 l2)) (s_fX12_track fu hfu N h.1.2.1 l1 l2 h1 h2) fun r M1 s N1 a b _ => by
    obtain ⟨⟨-, a⟩, a'⟩ := a
    obtain ⟨-, b⟩ := b
    refine ⟨?_, fun z q => q z⟩
    have b17 : 0 ≤ N 0 0 17 ∧ N 0 0 17 ≤ 6 := h.1.2.1 0 0 17
    rcases a with ⟨c1, ra, a1, a2, a3, a4, a5, a6, k1⟩ | ⟨c1, ra, k1⟩ <;> rcases b with ⟨c2, rb, b1, b2, b3, b4, b5, b6, b7, b8, k2⟩ | ⟨c2, rb, k2⟩
    · obtain ⟨e1, e2⟩ := a' c1
      exact ⟨fun j y1 y2 => by
        rw [e2 j, k2 34 0 j (by unfold TKb; omega)]
        rw [k2 0 0 40 (by unfold TKb; omega)] at y2
        exact h.2.1 j y1 y2, fun c y1 y2 => by rw [b3] at y2; exfalso; omega, e1.trans b7.symm⟩
    · exact absurd c1 c2
    · exact absurd c2 c1
    · exact h.2.kp (by rw [k1]; exact Kp.rf) (k2.weak (fun f i k q => by unfold KX2 at q; rcases q with ⟨rfl, ⟨rfl, rfl | rfl | rfl⟩ | rfl | rfl⟩ <;> omega))
