/-! the race tried: both sides -/
theorem TDp.kz {M N M1 N1 : jm_M} (h : TDp M N) (z : ∀ c : Int, 0 ≤ c → c < N 0 0 17 → M 8 c 13 = 0 ∧ M1 8 c 13 = 0) (b17 : N 0 0 17 ≤ 6) (k1 : Kp TPM M M1) (k2 : Kp C2p N N1) : TDp M1 N1 := by
  intro c y1 y2
  rw [k2 0 0 17 (by unfold C2p; omega)] at y2
  obtain ⟨a, b⟩ := h c y1 y2
  obtain ⟨z1, z2⟩ := z c y1 y2
  have st : stT M c = c + 12 := by unfold stT; exact if_pos z1
  have st1 : stT M1 c = c + 12 := by unfold stT; exact if_pos z2
  rw [st] at a b
  rw [st1, k1 10 (c + 12) 3 (by unfold TPM; omega), k2 26 0 c (by unfold C2p; omega)]
  refine ⟨a, fun j y3 y4 => ?_⟩
  rw [k1 19 (c + 12) (3 * j) (by unfold TPM; omega), k1 19 (c + 12) (3 * j + 1) (by unfold TPM; omega), k1 19 (c + 12) (3 * j + 2) (by unfold TPM; omega), k2 27 0 (5 * c + j) (by unfold C2p; omega), k2 28 0 (5 * c + j) (by unfold C2p; omega), k2 29 0 (5 * c + j) (by unfold C2p; omega)]
  exact b j y3 y4
theorem TCAR.kz {M N M1 N1 : jm_M} (h : TCAR M N) (iN : bI bx2 N) (e13 : ∀ c : Int, 0 ≤ c → c < N 0 0 17 → M1 8 c 13 = M 8 c 13) (k1 : Kp TPM M M1) (k2 : Kp C2c N N1) : TCAR M1 N1 := by
  intro c y1 y2
  have b17 : 0 ≤ N 0 0 17 ∧ N 0 0 17 ≤ 6 := iN 0 0 17
  rw [k2 0 0 17 (by unfold C2c; omega)] at y2
  obtain ⟨⟨a0, a1, a2, a3, a4, a5⟩, ⟨b0, b1⟩, tx⟩ := h c y1 y2
  refine ⟨⟨?_, ?_, ?_, ?_, ?_, ?_⟩, ⟨?_, ?_⟩, fun y => ?_⟩
  · rw [k1 8 c 0 (by unfold TPM; omega), k2 13 0 c (by unfold C2c; omega)]; exact a0
  · rw [k1 8 c 1 (by unfold TPM; omega), k2 14 0 c (by unfold C2c; omega)]; exact a1
  · rw [k1 8 c 2 (by unfold TPM; omega), k2 15 0 c (by unfold C2c; omega)]; exact a2
  · rw [k1 8 c 3 (by unfold TPM; omega), k2 16 0 c (by unfold C2c; omega)]; exact a3
  · rw [k1 8 c 4 (by unfold TPM; omega), k2 17 0 c (by unfold C2c; omega)]; exact a4
  · rw [k1 8 c 5 (by unfold TPM; omega), k2 18 0 c (by unfold C2c; omega)]; exact a5
  · rw [k1 8 c 12 (by unfold TPM; omega), k2 30 0 c (by unfold C2c; omega)]; exact b0
  · rw [e13 c y1 y2, k2 60 0 c (by unfold C2c; omega)]; exact b1
  · rw [k2 30 0 c (by unfold C2c; omega)] at y
    rw [k1 8 c 11 (by unfold TPM; omega), k2 36 0 c (by unfold C2c; omega)]
    have b36 : N 36 0 c ≤ 100 := (iN 36 0 c).2
    exact (tx y).kk (fun f k q => k1 f _ k (by unfold CTX at q; unfold TPM; omega)) (fun k q1 q2 => k2 35 0 k (by unfold C2c; omega))
theorem IT.z {M N : jm_M} (h : IT M N) (b17 : N 0 0 17 ≤ 6) : ∀ c : Int, 0 ≤ c → c < N 0 0 17 → M 8 c 13 = 0 := fun c y1 y2 => (h.1.2.2.1 c y1 y2).2.1.2.trans (h.2 c y1 (by omega))
theorem IT.tam {M N M1 N1 : jm_M} (h : IT M N) (iN : bI bx2 N) (k1 : Kp TPM M M1) (z1 : ∀ c : Int, 0 ≤ c → c < N 0 0 17 → M1 8 c 13 = 0) (k2 : Kp RL2 N N1) : IT M1 N1 := by
  have b17 : 0 ≤ N 0 0 17 ∧ N 0 0 17 ≤ 6 := iN 0 0 17
  have z := h.z b17.2
  obtain ⟨⟨⟨t1, t2, t3, t4, t5⟩, t6, t7, t8⟩, h60⟩ := h
  exact ⟨⟨⟨t1.kk (fun f i k y => k1 f i k (by unfold C1r at y; unfold TPM; omega)) (fun f i k y => k2 f i k (Or.inl y)), t2.kk (fun f i k y => k1 f i k (by unfold C1f at y; unfold TPM; omega)) (fun f i k y => k2 f i k (Or.inr (Or.inl y))), t3.kk b17.2 (fun f i k y => k1 f i k (by unfold C1s at y; unfold TPM; omega)) (fun f i k y => k2 f i k (Or.inr (Or.inr (Or.inl y)))), t4.kz (fun c y1 y2 => ⟨z c y1 y2, z1 c y1 y2⟩) b17.2 k1 (fun f i k y => k2 f i k (Or.inr (Or.inr (Or.inr (Or.inl y))))), t5.kk b17.2 (fun f i k y => k1 f i k (by unfold C1o at y; unfold TPM; omega)) (fun f i k y => k2 f i k (Or.inr (Or.inr (Or.inr (Or.inr (Or.inl y))))))⟩, t6.kk (fun f i k y => k1 f i k (by unfold C1n at y; unfold TPM; omega)) (fun f i k y => k2 f i k (Or.inr (Or.inr (Or.inr (Or.inr (Or.inr (Or.inl y))))))), t7.kz iN (fun c y1 y2 => (z1 c y1 y2).trans (z c y1 y2).symm) k1 (fun f i k y => k2 f i k (Or.inr (Or.inr (Or.inr (Or.inr (Or.inr (Or.inr (Or.inl y)))))))), t8.kk (fun f i k y => k2 f i k (Or.inr (Or.inr (Or.inr (Or.inr (Or.inr (Or.inr (Or.inr y))))))))⟩, fun c y1 y2 => (k2 60 0 c (by unfold RL2 C2c; omega)).trans (h60 c y1 y2)⟩
theorem TXD.tam {M M1 : jm_M} (h : TXD M) (k : Kp TPM M M1) : TXD M1 := h.kp (k.weak (fun f i j y => by unfold XD at y; unfold TPM; omega))
theorem TXD.ta {M M1 : jm_M} (h : TXD M) (k : Kp TA M M1) : TXD M1 := h.kp (k.weak (fun f i j y => by unfold XD at y; unfold TA; omega))
theorem TXD.tp {M M1 : jm_M} (h : TXD M) (k : Kp TP M M1) : TXD M1 := h.kp (k.weak (fun f i j y => by unfold XD at y; unfold TP; omega))
theorem ZS.zero {a b : Int} {M M1 : jm_M} (h : ZS a b M M1) {n : Int} (z : ∀ c : Int, 0 ≤ c → c < n → M 8 c 13 = 0) : ∀ c : Int, 0 ≤ c → c < n → M1 8 c 13 = 0 := fun c y1 y2 => by
  have zc := z c y1 y2
  by_cases qa : c = a
  · rcases h.2.1 with e | e
    · rw [qa, e, ← qa]; exact zc
    · rw [qa]; exact e
  by_cases qb : c = b
  · rcases h.2.2 with e | e
    · rw [qb, e, ← qb]; exact zc
    · rw [qb]; exact e
  · rw [h.1 8 c 13 ⟨rfl, by omega⟩]; exact zc
theorem CA.g7 {fu : Nat} {M N M1 N1 : jm_M} (h : CA fu M N) (iN : bI bx2 N) (g : G7 M M1) (k2 : Kp RL2 N N1) : CA fu M1 N1 := by
  rcases g with g | g
  · exact CA.zero g
  · exact h.keep iN g k2
theorem rl_best (fu : Nat) {N : jm_M} (iN : bI bx2 N) (l1 l2 l3 : Int) (h1 : jm_in l1) (h2 : jm_in l2) (h3 : jm_in l3) (h60 : ∀ c : Int, 0 ≤ c → c < 6 → N 60 0 c = 0) : pw (fX12_best fu N l1 l2 l3) (Kp RLX N) := by
  have b17 : 0 ≤ N 0 0 17 ∧ N 0 0 17 ≤ 6 := iN 0 0 17
  unfold fX12_best
  refine pw_sv (fun N1 u1 => ?_)
  have i1 : bI bx2 N1 := by rw [u1]; exact (d_first iN).1
  have k1 : Kp RLX N N1 := by rw [u1]; exact RLX.u0 (Or.inl rfl)
  have e17 : N1 0 0 17 = N 0 0 17 := by rw [u1]; exact jm_une_k (by decide)
  refine pw_at (s_fX12_isAsked N1 i1 l1 l2 l3 h1 h2 h3) (fun v2 N3 q => ?_)
  obtain ⟨eq, q⟩ := q
  rw [eq]
  refine pw_i (fun _ => pw_ret k1) (fun ne => ?_)
  have c : 0 ≤ l1 ∧ l1 < 6 := by omega
  refine pw_b (rl_bests fu l1 l2 l3 c (by rw [u1, jm_une_f (by decide)]; exact h60 l1 c.1 c.2)) (fun v6 N7 h7 => ?_)
  have k7 : Kp RLX N N7 := k1.tr h7 (fun _ _ _ y => y)
  exact pw_ite (pw_ret k7) (pw_s (P := Kp RLX N) (k7.tr (RLX.u0 (Or.inr rfl)) (fun _ _ _ y => y)) (fun N10 h10 => rn_fX12_best_37 RLX.cl fu fu l2 0 h10))
theorem rl_gain (fu : Nat) {N : jm_M} (iN : bI bx2 N) (l1 l2 l3 : Int) (h1 : jm_in l1) (h2 : jm_in l2) (h3 : jm_in l3) (h60 : ∀ c : Int, 0 ≤ c → c < 6 → N 60 0 c = 0) : pw (fX12_gain fu N l1 l2 l3) (Kp RLX N) := by
  have b17 : 0 ≤ N 0 0 17 ∧ N 0 0 17 ≤ 6 := iN 0 0 17
  unfold fX12_gain
  refine pw_sv (fun N1 u1 => ?_)
  have i1 : bI bx2 N1 := by rw [u1]; exact (d_first iN).1
  have k1 : Kp RLX N N1 := by rw [u1]; exact RLX.u0 (Or.inl rfl)
  have e17 : N1 0 0 17 = N 0 0 17 := by rw [u1]; exact jm_une_k (by decide)
  refine pw_at (s_fX12_isAsked N1 i1 l1 l2 l3 h1 h2 h3) (fun v2 N3 q => ?_)
  obtain ⟨eq, q⟩ := q
  rw [eq]
  refine pw_i (fun _ => pw_ret k1) (fun ne => ?_)
  have c : 0 ≤ l1 ∧ l1 < 6 := by omega
  refine pw_b (rl_bests fu l1 l2 l3 c (by rw [u1, jm_une_f (by decide)]; exact h60 l1 c.1 c.2)) (fun v6 N7 h7 => ?_)
  have k7 : Kp RLX N N7 := k1.tr h7 (fun _ _ _ y => y)
  exact pw_ite (pw_ret k7) (pw_ite (rn_gX12_gain_45 RLX.cl fu l1 l3 _ k7) (rn_gX12_gain_45 RLX.cl fu l1 l3 _ k7))
theorem t_best (fu : Nat) (hfu : 4000 ≤ fu) (M N : jm_M) (iv : IW M N) (it : IT M N) (ca : CA fu M N) (tx : TXD M) (l1 l2 l3 : Int) (h1 : jm_in l1) (h2 : jm_in l2) (h3 : jm_in l3) : J2 (fX11_best fu M l1 l2 l3) (fX12_best fu N l1 l2 l3) (fun _ M1 _ N1 => (IT M1 N1 ∧ CA fu M1 N1) ∧ TXD M1) := by
  have iM := iv.1.1
  have iN := iv.1.2.1
  have b17 : 0 ≤ N 0 0 17 ∧ N 0 0 17 ≤ 6 := iN 0 0 17
  obtain ⟨v, M1, e1, -, k1, -⟩ := s_fX11_best fu hfu M iM l1 l2 l3 h1 h2 h3
  obtain ⟨w, N1, e2, -⟩ := s_fX12_best fu hfu N iN l1 l2 l3 h1 h2 h3 iv.1.2.2.1
  have k2 := RLX.rl (rl_best fu iN l1 l2 l3 h1 h2 h3 it.2 w N1 e2)
  exact ⟨v, M1, w, N1, e1, e2, ⟨it.tam iN k1 ((zs_best fu l1 l2 l3 v M1 e1).zero (it.z b17.2)) k2, ca.g7 iN (g7_best fu l1 l2 l3 v M1 e1) k2⟩, tx.tam k1⟩
theorem t_settle (fu : Nat) (hfu : 4000 ≤ fu) (M N : jm_M) (iv : IW M N) (it : IT M N) (ca : CA fu M N) (tx : TXD M) (l1 l2 l3 : Int) (h1 : jm_in l1) (h2 : jm_in l2) (h3 : jm_in l3) : J2 (fX11_settle fu M l1 l2 l3) (fX12_settle fu N l1 l2 l3) (fun _ M1 _ N1 => (IT M1 N1 ∧ CA fu M1 N1) ∧ TXD M1) := by
  have iM := iv.1.1
  have iN := iv.1.2.1
  have b17 : 0 ≤ N 0 0 17 ∧ N 0 0 17 ≤ 6 := iN 0 0 17
  obtain ⟨v, M1, e1, -, k1, -⟩ := s_fX11_settle fu hfu M iM l1 l2 l3 h1 h2 h3
  obtain ⟨w, N1, e2, -⟩ := s_fX12_settle fu hfu N iN l1 l2 l3 h1 h2 h3 iv.1.2.2.1
  have k2 := RLX.rl (rl_settle fu l1 l2 l3 it.2 w N1 e2)
  exact ⟨v, M1, w, N1, e1, e2, ⟨it.tam iN (k1.weak tt_TPM_TAM) ((zs_settle fu l1 l2 l3 v M1 e1).zero (it.z b17.2)) k2, ca.g7 iN (g7_settle fu l1 l2 l3 v M1 e1) k2⟩, tx.tam (k1.weak tt_TPM_TAM)⟩
/-- cars untouched -/
def Q8 (M0 M : jm_M) : Prop := ∀ i k : Int, M 8 i k = M0 8 i k
theorem Q8.c1 {M0 : jm_M} : CL1 (Q8 M0) := fun M f i k v hf h i2 k2 => (jm_une_f (by omega)).trans (h i2 k2)
theorem Q8.c2 {M0 : jm_M} : CL2 (Q8 M0) := fun M f i k v hf h i2 k2 => (jm_une_f (by omega)).trans (h i2 k2)
theorem q8_run {M0 M : jm_M} (fu : Nat) (h : Q8 M0 M) : pw (fX2_run fu M) (Q8 M0) := by
  unfold fX2_run
  exact pw_s (P := Q8 M0) (fun i k => (jm_une_f (by decide)).trans (h i k)) (fun M1 h1 => pw_s (P := Q8 M0) (fun i k => (jm_une_f (by decide)).trans (h1 i k)) (fun M2 h2 => pw_b (ra_fJ7_fill_53178_a34_w1 Q8.c1 fu 0 h2) (fun v3 M4 h4 => ra_fX2_run_20 Q8.c1 fu fu 0 h4)))
theorem q8_reckon {M0 M : jm_M} (fu : Nat) (h : Q8 M0 M) : pw (fX2_reckon fu M) (Q8 M0) := by
  unfold fX2_reckon
  exact pw_ite (pw_b (q8_run fu h) (fun v M1 h1 => pw_s (P := Q8 M0) (fun i k => (jm_une_f (by decide)).trans (h1 i k)) (fun M5 h5 => pw_ret h5))) (pw_ret h)
theorem zs_gain (fu : Nat) (l1 l2 l3 : Int) {M : jm_M} : pw (fX11_gain fu M l1 l2 l3) (ZS l1 l1 M) := by
  unfold fX11_gain
  refine pw_b (sm_has l1) (fun v1 M2 e2 => ?_)
  rw [e2]
  refine pw_ite (pw_ret (ZS.rf rfl)) (pw_b (sm_within l2 0 2) (fun v5 M6 e6 => ?_))
  rw [e6]
  refine pw_ite (pw_ret (ZS.rf rfl)) (pw_b (sm_day l3) (fun v9 M10 e10 => ?_))
  rw [e10]
  refine pw_ite (pw_ret (ZS.rf rfl)) (pw_b (q8_reckon (M0 := M) fu (fun _ _ => rfl)) (fun v13 M14 h14 => pw_b (rb_fX5_reckonFor Q8.c2 fu l3 h14) (fun v15 M16 h16 => pw_b (rb_fX5_placeAmong Q8.c2 fu l1 (-1) h16) (fun v17 M18 h18 => pw_b (z8_search fu l1 l2 l3) (fun v20 M21 h21 => ?_)))))
  have z : ZS l1 l1 M M21 := ⟨fun f i k y => (h21.1 f i k y).trans (by rw [y.1]; exact h18 i k), by rw [← h18 l1 13]; exact h21.2.1, by rw [← h18 l1 13]; exact h21.2.2⟩
  have cl : CL2 (ZS l1 l1 M) := fun M' f i k v hf q => ⟨K8.u q.1 (by unfold K8; omega), by rw [jm_une_f (by omega)]; exact q.2.1, by rw [jm_une_f (by omega)]; exact q.2.2⟩
  exact pw_ite (pw_ret z) (pw_ite (rb_gX11_gain_88 cl fu _ z) (rb_gX11_gain_88 cl fu _ z))
theorem kk_gain (fu : Nat) (hfu : 4000 ≤ fu) {M N : jm_M} (iM : bI bx1 M) (iN : bI bx2 N) (tl : TLD M N) (ca : CA fu M N) (l1 l2 l3 : Int) (h1 : jm_in l1) (h2 : jm_in l2) (h3 : jm_in l3) : wp (fX11_gain fu M l1 l2 l3) (fun _ M1 => CA fu M1 N) := by
  have b5 : 0 ≤ M 2 0 5 ∧ M 2 0 5 ≤ 6 := iM 2 0 5
  unfold fX11_gain
  refine wp_bp (s_fX2_has M iM l1 h1) (fun v1 g1 => wp_ite (fun _ => wp_ret ca) (fun z1 => ?_))
  refine wp_bp (s_fX11_isWithin M iM l2 0 2 h2 (jm_inL (by decide) (by decide)) (jm_inL (by decide) (by decide))) (fun v2 g2 => wp_ite (fun _ => wp_ret ca) (fun z2 => ?_))
  refine wp_bp (s_fX11_isDay M iM l3 h3) (fun v3 g3 => wp_ite (fun _ => wp_ret ca) (fun z3 => ?_))
  refine wp_b (k_reckon fu hfu iM iN tl ca) (fun v9 M14 q => ?_)
  obtain ⟨i14, k14, -, c14⟩ := q
  refine wp_b (s_fX5_reckonFor fu hfu M14 i14 l3 ⟨by omega, by omega⟩) (fun v15 M16 q => ?_)
  obtain ⟨i16, k16, -⟩ := q
  have c16 : CA fu M16 N := c14.keep iN (CR7.tj k16) Kp.rf
  refine wp_bp (s_fX5_placeAmong fu hfu M16 i16 l1 (-1) ⟨by omega, by omega⟩ (jm_inL (by decide) (by decide))) (fun v17 g17 => ?_)
  refine wp_b (wp_pw (s_fX10_search fu hfu M16 i16 l1 l2 l3 ⟨by omega, by omega⟩ ⟨by omega, by omega⟩ ⟨by omega, by omega⟩) (g7_search fu l1 l2 l3 (Or.inr Kp.rf))) (fun v20 M21 q => ?_)
  have c21 : CA fu M21 N := c16.g7 iN q.2 Kp.rf
  refine wp_ite (fun _ => wp_ret c21) (fun _ => ?_)
  have g : ∀ s0 : Int, wp (gX11_gain_88 fu M21 s0) (fun _ M1 => CA fu M1 N) := fun s0 => ⟨_, _, rfl, c21⟩
  exact wp_ite (fun _ => g _) (fun _ => g _)
theorem t_gain (fu : Nat) (hfu : 4000 ≤ fu) (M N : jm_M) (iv : IW M N) (it : IT M N) (ca : CA fu M N) (tx : TXD M) (l1 l2 l3 : Int) (h1 : jm_in l1) (h2 : jm_in l2) (h3 : jm_in l3) : J2 (fX11_gain fu M l1 l2 l3) (fX12_gain fu N l1 l2 l3) (fun _ M1 _ N1 => (IT M1 N1 ∧ CA fu M1 N1) ∧ TXD M1) := by
  have iM := iv.1.1
  have iN := iv.1.2.1
  have b17 : 0 ≤ N 0 0 17 ∧ N 0 0 17 ≤ 6 := iN 0 0 17
  obtain ⟨v, M1, e1, ⟨-, k1, -⟩, c1⟩ := wp_and (s_fX11_gain fu hfu M iM l1 l2 l3 h1 h2 h3) (kk_gain fu hfu iM iN it.1 ca l1 l2 l3 h1 h2 h3)
  obtain ⟨w, N1, e2, -⟩ := s_fX12_gain fu hfu N iN l1 l2 l3 h1 h2 h3 iv.1.2.2.1
  have k2 := RLX.rl (rl_gain fu iN l1 l2 l3 h1 h2 h3 it.2 w N1 e2)
  exact ⟨v, M1, w, N1, e1, e2, ⟨it.tam iN (k1.weak tt_TPM_TAM) ((zs_gain fu l1 l2 l3 v M1 e1).zero (it.z b17.2)) k2, c1.keep iN Kp.rf k2⟩, tx.tam (k1.weak tt_TPM_TAM)⟩
/-- move: the stop's lap put back -/
theorem cc_move (fu : Nat) (hfu : 4000 ≤ fu) (M : jm_M) (iM : bI bx1 M) (l1 l2 l3 l4 : Int) (h1 : jm_in l1) (h2 : jm_in l2) (h3 : jm_in l3) (h4 : jm_in l4) : wp (fX11_move fu M l1 l2 l3 l4) (fun _ M1 => M1 = M ∨ (Kp TA M M1 ∧ M1 2 0 7 = 0)) := by
  have b5 : 0 ≤ M 2 0 5 ∧ M 2 0 5 ≤ 6 := iM 2 0 5
  have b11 : 1 ≤ M 1 0 1 ∧ M 1 0 1 ≤ 12 := iM 1 0 1
  have no : ∀ v : Int, wp (some (v, M)) (fun _ M1 => M1 = M ∨ (Kp TA M M1 ∧ M1 2 0 7 = 0)) := fun v => wp_ret (Or.inl rfl)
  unfold fX11_move
  refine wp_bp (s_fX2_has M iM l1 h1) (fun v1 g1 => wp_ite (fun _ => no _) (fun z1 => wp_T ⟨by omega, by omega⟩ ?_))
  refine wp_bp (x_isIndex M l2 (M 10 (l1 + 12) 3)) (fun v7 g7 => wp_ite (fun _ => no _) (fun z2 => ?_))
  have w2 : jm_w (M 1 0 1 - 2) = M 1 0 1 - 2 := jm_wid (by omega) (by omega)
  rw [w2]
  refine wp_bp (s_fX11_isWithin M iM l3 0 (M 1 0 1 - 2) h3 (jm_inL (by decide) (by decide)) (jm_inL (by omega) (by omega))) (fun v12 g12 => wp_ite (fun _ => no _) (fun z3 => ?_))
  refine wp_bp (s_fX11_isDay M iM l4 h4) (fun v16 g16 => wp_ite (fun _ => no _) (fun z4 => wp_T ⟨by omega, by omega⟩ ?_))
  have hw : wid1 (l1 + 12) = 3 := by
    unfold wid1
    rw [if_neg (by omega), if_pos (by omega)]
  have hi : 0 ≤ l2 ∧ l2 < M 10 (l1 + 12) 3 := ⟨by omega, by omega⟩
  refine wp_bp (cell_in iM (r := l1 + 12) (i := l2) (k := 0) (w := 3) (a := l2 * 3) ⟨by omega, by omega⟩ hw hi ⟨by decide, by decide⟩ (Int.add_zero _)) (fun v21 g21 => ?_)
  have bw : M 10 (l1 + 12) 1 = wid1 (l1 + 12) := iM 10 (l1 + 12) 1
  have bs : 0 ≤ M 10 (l1 + 12) 3 ∧ M 10 (l1 + 12) 3 ≤ lim1 (l1 + 12) := iM 10 (l1 + 12) 3
  have p1 := c_put (v := l3) bw bs ⟨by omega, by omega⟩ hw hi (show 0 ≤ (0 : Int) ∧ (0 : Int) < 3 by decide) (show l2 * 3 + 0 = l2 * 3 from Int.add_zero _)
  rw [p1, jm_bsm]
  obtain ⟨M25, u25⟩ : ∃ M25 : jm_M, M25 = jm_u M 19 (l1 + 12) (l2 * 3) l3 := ⟨_, rfl⟩
  rw [← u25]
  have i25 : bI bx1 M25 := by rw [u25]; exact bI_u iM h3
  refine wp_b (wp_pw (s_fX2_run fu hfu M25 i25) (r7_run fu)) (fun v26 M27 q => ?_)
  obtain ⟨⟨i27, k27, -⟩, f27⟩ := q
  refine wp_b (s_fX5_reckonFor fu hfu M27 i27 l4 ⟨by omega, by omega⟩) (fun v28 M29 q => ?_)
  obtain ⟨i29, k29, -⟩ := q
  have e10 : ∀ k : Int, M29 10 (l1 + 12) k = M 10 (l1 + 12) k := fun k => by
    rw [k29 10 (l1 + 12) k (by unfold TJ; omega), k27 10 (l1 + 12) k (by unfold TA; omega), u25]
    exact jm_une_f (by decide)
  have p2 := c_put (M := M29) (v := v21) (by rw [e10]; exact bw) (by rw [e10]; exact bs) ⟨by omega, by omega⟩ hw (by rw [e10]; exact hi) (show 0 ≤ (0 : Int) ∧ (0 : Int) < 3 by decide) (show l2 * 3 + 0 = l2 * 3 from Int.add_zero _)
  rw [p2, jm_bsm]
  obtain ⟨M31, u31⟩ : ∃ M31 : jm_M, M31 = jm_u M29 19 (l1 + 12) (l2 * 3) v21 := ⟨_, rfl⟩
  rw [← u31]
  have i31 : bI bx1 M31 := by rw [u31]; exact bI_u i29 (by rw [g21]; exact iM 19 (l1 + 12) (l2 * 3))
  have kk : Kp TA M M31 ∧ M31 2 0 7 = 0 := by
    refine ⟨fun f i k y => ?_, ?_⟩
    · rw [u31]
      by_cases q : f = 19 ∧ i = l1 + 12 ∧ k = l2 * 3
      · obtain ⟨rfl, rfl, rfl⟩ := q
        rw [jm_ueq]
        exact g21
      · rw [jm_une q, k29 f i k (tt_TA_TJ f i k y), k27 f i k y, u25]
        exact jm_une q
    · rw [u31, jm_une_f (by decide), k29 2 0 7 (by unfold TJ; omega)]
      exact f27
  refine wp_bp (s_fX5_placeAmong fu hfu M31 i31 l1 (-1) ⟨by omega, by omega⟩ (jm_inL (by decide) (by decide))) (fun v32 g32 => ?_)
  exact wp_ite (fun _ => wp_ret (Or.inr kk)) (fun _ => wp_ret (Or.inr kk))
theorem rl_move (fu : Nat) {N : jm_M} (l1 l2 l3 l4 : Int) : pw (fX12_move fu N l1 l2 l3 l4) (Kp RLX N) := by
  unfold fX12_move
  refine pw_sv (fun N1 u1 => ?_)
  have k1 : Kp RLX N N1 := by rw [u1]; exact RLX.u0 (Or.inl rfl)
  refine pw_b (sn_isCar l1) (fun v2 N3 e3 => ?_)
  rw [e3]
  refine pw_ite (pw_ret k1) (pw_ite (pw_b (P := fun N9 => N9 = N1) (sn_fX12_in l2 0 _ (show SM N1 N1 from rfl)) (fun v8 N9 e9 => ?_)) pw_none)
  rw [e9]
  refine pw_ite (pw_ret k1) (pw_b (P := fun N9 => N9 = N1) (sn_fX12_isStopLap l3 (show SM N1 N1 from rfl)) (fun v12 N13 e13 => ?_))
  rw [e13]
  refine pw_ite (pw_ret k1) (pw_b (sn_isDay l4) (fun v16 N17 e17 => ?_))
  rw [e17]
  refine pw_ite (pw_ret k1) (pw_e (fun v20 => pw_ite (pw_ev (fun v24 e24 => pw_ite (pw_sv (fun N27 u27 => pw_b (rn_fX12_judges (G := Kp RLX N27) RLX.cl fu l4 Kp.rf) (fun v28 N29 h29 => pw_ite (pw_sv (fun N31 u31 => pw_b (P := fun N33 => N33 = N31) (sn_fX12_placeOf fu l1 0 (show SM N31 N31 from rfl)) (fun v32 N33 e33 => ?_))) pw_none))) pw_none)) pw_none))
  rw [e33]
  have k31 : Kp RLX N N31 := fun f i k y => by
    obtain ⟨i0, -⟩ := id y
    subst i0
    by_cases q : f = 27 ∧ k = v20
    · obtain ⟨rfl, rfl⟩ := q
      rw [u31, jm_ueq, e24]
      exact k1 27 0 k y
    · rw [u31, jm_une (by omega), h29 f 0 k y, u27, jm_une (by omega)]
      exact k1 f 0 k y
  exact pw_ite (pw_ret k31) (pw_ret k31)
theorem t_move (fu : Nat) (hfu : 4000 ≤ fu) (M N : jm_M) (iv : IW M N) (it : IT M N) (ca : CA fu M N) (tx : TXD M) (l1 l2 l3 l4 : Int) (h1 : jm_in l1) (h2 : jm_in l2) (h3 : jm_in l3) (h4 : jm_in l4) : J2 (fX11_move fu M l1 l2 l3 l4) (fX12_move fu N l1 l2 l3 l4) (fun _ M1 _ N1 => (IT M1 N1 ∧ CA fu M1 N1) ∧ TXD M1) := by
  have iM := iv.1.1
  have iN := iv.1.2.1
  obtain ⟨v, M1, e1, a⟩ := cc_move fu hfu M iM l1 l2 l3 l4 h1 h2 h3 h4
  obtain ⟨w, N1, e2, -⟩ := s_fX12_move fu hfu N iN l1 l2 l3 l4 h1 h2 h3 h4 iv.1.2.2.1
  have k2 := RLX.rl (rl_move fu l1 l2 l3 l4 w N1 e2)
  refine ⟨v, M1, w, N1, e1, e2, ?_⟩
  rcases a with a | ⟨a1, a2⟩
  · rw [a]
    exact ⟨⟨it.keep iN Kp.rf (fun _ _ _ _ _ _ _ => rfl) k2, ca.keep iN Kp.rf k2⟩, tx⟩
  · exact ⟨⟨it.ta iN a1 k2, CA.zero a2⟩, tx.ta a1⟩
