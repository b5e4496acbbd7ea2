/-! all calls: what both hold of one another from call to call -/
def IX (M N : jm_M) : Prop := IW M N ∧ IT M N ∧ CA 4000 M N ∧ TXD M ∧ IR M N
def PY (x y : jm_R) (same : Prop) : Prop := ∃ (r : Int) (M1 : jm_M) (s : Int) (N1 : jm_M), x = some (r, M1) ∧ y = some (s, N1) ∧ IX M1 N1 ∧ (same → r = s)
theorem J2.at {x y : jm_R} {Q : Int → jm_M → Int → jm_M → Prop} {r s : Int} {M1 N1 : jm_M} (h : J2 x y Q) (e1 : x = some (r, M1)) (e2 : y = some (s, N1)) : Q r M1 s N1 := by
  obtain ⟨v, M2, w, N2, f1, f2, q⟩ := h
  rw [e1] at f1
  rw [e2] at f2
  obtain ⟨rfl, rfl⟩ := Prod.mk.inj (Option.some.inj f1)
  obtain ⟨rfl, rfl⟩ := Prod.mk.inj (Option.some.inj f2)
  exact q
theorem PY.of {x y : jm_R} {same : Prop} (q : PX x y same) (t : J2 x y (fun _ M1 _ N1 => IT M1 N1 ∧ CA 4000 M1 N1)) (k : pw x TXD) (z : J2 x y (fun _ M1 _ N1 => IR M1 N1)) : PY x y same := by
  obtain ⟨r, M1, s, N1, e1, e2, iw, a⟩ := q
  obtain ⟨t1, t2⟩ := t.at e1 e2
  exact ⟨r, M1, s, N1, e1, e2, ⟨iw, t1, t2, k r M1 e1, z.at e1 e2⟩, a⟩
theorem PY.of2 {x y : jm_R} {same : Prop} (q : PX x y same) (t : J2 x y (fun _ M1 _ N1 => (IT M1 N1 ∧ CA 4000 M1 N1) ∧ TXD M1)) (z : J2 x y (fun _ M1 _ N1 => IR M1 N1)) : PY x y same := by
  obtain ⟨r, M1, s, N1, e1, e2, iw, a⟩ := q
  obtain ⟨⟨t1, t2⟩, t3⟩ := t.at e1 e2
  exact ⟨r, M1, s, N1, e1, e2, ⟨iw, t1, t2, t3, z.at e1 e2⟩, a⟩
theorem PY.and {x y : jm_R} {same : Prop} (p : PY x y same) (h : J2 x y (fun v _ w _ => v = w)) : PY x y True := by
  obtain ⟨r, M1, s, N1, e1, e2, ix, -⟩ := p
  exact ⟨r, M1, s, N1, e1, e2, ix, fun _ => h.at e1 e2⟩

theorem uu_sector (M N : jm_M) (h : IX M N) (l1 l2 l3 : Int) (h1 : jm_in l1) (h2 : jm_in l2) (h3 : jm_in l3) : PY (fX11_sector M l1 l2 l3) (fX12_sector N l1 l2 l3) True := by
  exact PY.of (q_sector M N h.1 l1 l2 l3 h1 h2 h3) (t_sector 4000 (by decide) M N h.1 h.2.1 h.2.2.1 l1 l2 l3 h1 h2 h3) (fun v M1 e => h.2.2.2.1.kp (xd_fX11_sector l1 l2 l3 Kp.rf v M1 e)) (r_sector 4000 (by decide) M N h.1 h.2.1 h.2.2.2.1 h.2.2.2.2 l1 l2 l3 h1 h2 h3)
theorem uu_rain (M N : jm_M) (h : IX M N) (l1 l2 l3 : Int) (h1 : jm_in l1) (h2 : jm_in l2) (h3 : jm_in l3) : PY (fX11_rain M l1 l2 l3) (fX12_rain N l1 l2 l3) True := by
  exact PY.of (q_rain M N h.1 l1 l2 l3 h1 h2 h3) (t_rain 4000 (by decide) M N h.1 h.2.1 h.2.2.1 l1 l2 l3 h1 h2 h3) (fun v M1 e => h.2.2.2.1.kp (xd_fX11_rain l1 l2 l3 Kp.rf v M1 e)) (r_rain 4000 (by decide) M N h.1 h.2.1 h.2.2.2.1 h.2.2.2.2 l1 l2 l3 h1 h2 h3)
theorem uu_flag (fu : Nat) (hfu : fu = 4000) (M N : jm_M) (h : IX M N) (l1 l2 l3 l4 : Int) (h1 : jm_in l1) (h2 : jm_in l2) (h3 : jm_in l3) (h4 : jm_in l4) : PY (fX11_flag fu M l1 l2 l3 l4) (fX12_flag fu N l1 l2 l3 l4) True := by
  subst hfu
  exact PY.of (q_flag 4000 (by decide) M N h.1 l1 l2 l3 l4 h1 h2 h3 h4) (t_flag 4000 (by decide) M N h.1 h.2.1 h.2.2.1 l1 l2 l3 l4 h1 h2 h3 h4) (fun v M1 e => h.2.2.2.1.kp (xd_fX11_flag 4000 l1 l2 l3 l4 Kp.rf v M1 e)) (r_flag 4000 (by decide) M N h.1 h.2.1 h.2.2.2.1 h.2.2.2.2 l1 l2 l3 l4 h1 h2 h3 h4)
theorem uu_finding (fu : Nat) (hfu : fu = 4000) (M N : jm_M) (h : IX M N) (l1 l2 l3 l4 : Int) (h1 : jm_in l1) (h2 : jm_in l2) (h3 : jm_in l3) (h4 : jm_in l4) : PY (fX11_finding fu M l1 l2 l3 l4) (fX12_finding fu N l1 l2 l3 l4) True := by
  subst hfu
  exact PY.of (q_finding 4000 (by decide) M N h.1 l1 l2 l3 l4 h1 h2 h3 h4) (t_finding 4000 (by decide) M N h.1 h.2.1 h.2.2.1 l1 l2 l3 l4 h1 h2 h3 h4) (fun v M1 e => h.2.2.2.1.kp (xd_fX11_finding 4000 l1 l2 l3 l4 Kp.rf v M1 e)) (r_finding 4000 (by decide) M N h.1 h.2.1 h.2.2.2.1 h.2.2.2.2 l1 l2 l3 l4 h1 h2 h3 h4)
theorem uu_of (fu : Nat) (hfu : fu = 4000) (M N : jm_M) (h : IX M N) (l1 l2 : Int) (h1 : jm_in l1) (h2 : jm_in l2) : PY (fX11_of fu M l1 l2) (fX12_of fu N l1 l2) False := by
  subst hfu
  exact PY.of (q_of 4000 (by decide) M N h.1 l1 l2 h1 h2) (t_of 4000 (by decide) M N h.1 h.2.1 h.2.2.1 l1 l2 h1 h2) (pw_wp (s_fX11_of 4000 (by decide) M h.1.1.1 l1 l2 h1 h2) (fun v M1 q => h.2.2.2.1.ta q.2.1)) (r_of 4000 (by decide) M N h.1 h.2.1 h.2.2.2.1 h.2.2.2.2 l1 l2 h1 h2)
theorem uu_led (fu : Nat) (hfu : fu = 4000) (M N : jm_M) (h : IX M N) (l1 l2 : Int) (h1 : jm_in l1) (h2 : jm_in l2) : PY (fX11_led fu M l1 l2) (fX12_led fu N l1 l2) True := by
  subst hfu
  exact (PY.of (q_led 4000 (by decide) M N h.1 l1 l2 h1 h2) (t_led 4000 (by decide) M N h.1 h.2.1 h.2.2.1 l1 l2 h1 h2) (pw_wp (s_fX11_led 4000 (by decide) M h.1.1.1 l1 l2 h1 h2) (fun v M1 q => h.2.2.2.1.ta q.2.1)) (r_led 4000 (by decide) M N h.1 h.2.1 h.2.2.2.1 h.2.2.2.2 l1 l2 h1 h2)).and (a_led 4000 (by decide) M N h.1 h.2.1 h.2.2.1 l1 l2 h1 h2)
theorem uu_at (fu : Nat) (hfu : fu = 4000) (M N : jm_M) (h : IX M N) (l1 l2 l3 : Int) (h1 : jm_in l1) (h2 : jm_in l2) (h3 : jm_in l3) : PY (fX11_at fu M l1 l2 l3) (fX12_at fu N l1 l2 l3) True := by
  subst hfu
  exact (PY.of (q_at 4000 (by decide) M N h.1 l1 l2 l3 h1 h2 h3) (t_at 4000 (by decide) M N h.1 h.2.1 h.2.2.1 l1 l2 l3 h1 h2 h3) (pw_wp (s_fX11_at 4000 (by decide) M h.1.1.1 l1 l2 l3 h1 h2 h3) (fun v M1 q => h.2.2.2.1.ta q.2.1)) (r_at 4000 (by decide) M N h.1 h.2.1 h.2.2.2.1 h.2.2.2.2 l1 l2 l3 h1 h2 h3)).and (a_at 4000 (by decide) M N h.1 h.2.1 h.2.2.1 l1 l2 l3 h1 h2 h3)
theorem uu_waited (fu : Nat) (hfu : fu = 4000) (M N : jm_M) (h : IX M N) (l1 : Int) (h1 : jm_in l1) : PY (fX11_waited fu M l1) (fX12_waited fu N l1) True := by
  subst hfu
  exact (PY.of (q_waited 4000 (by decide) M N h.1 l1 h1) (t_waited 4000 (by decide) M N h.1 h.2.1 h.2.2.1 l1 h1) (pw_wp (s_fX11_waited 4000 (by decide) M h.1.1.1 l1 h1) (fun v M1 q => h.2.2.2.1.ta q.2.1)) (r_waited 4000 (by decide) M N h.1 h.2.1 h.2.2.2.1 h.2.2.2.2 l1 h1)).and (a_waited 4000 (by decide) M N h.1 h.2.1 h.2.2.1 l1 h1)
theorem uu_leads (fu : Nat) (hfu : fu = 4000) (M N : jm_M) (h : IX M N) : PY (fX11_leads fu M ) (fX12_leads fu N ) True := by
  subst hfu
  exact (PY.of (q_leads 4000 (by decide) M N h.1 ) (t_leads 4000 (by decide) M N h.1 h.2.1 h.2.2.1 ) (pw_wp (s_fX11_leads 4000 (by decide) M h.1.1.1 ) (fun v M1 q => h.2.2.2.1.ta q.2.1)) (r_leads 4000 (by decide) M N h.1 h.2.1 h.2.2.2.1 h.2.2.2.2 )).and (a_leads 4000 (by decide) M N h.1 h.2.1 h.2.2.1 )
theorem uu_seconds (fu : Nat) (hfu : fu = 4000) (M N : jm_M) (h : IX M N) (l1 l2 : Int) (h1 : jm_in l1) (h2 : jm_in l2) : PY (fX11_seconds fu M l1 l2) (fX12_seconds fu N l1 l2) True := by
  subst hfu
  exact (PY.of (q_seconds 4000 (by decide) M N h.1 l1 l2 h1 h2) (t_seconds 4000 (by decide) M N h.1 h.2.1 h.2.2.1 l1 l2 h1 h2) (pw_wp (s_fX11_seconds 4000 (by decide) M h.1.1.1 l1 l2 h1 h2) (fun v M1 q => h.2.2.2.1.ta q.2.1)) (r_seconds 4000 (by decide) M N h.1 h.2.1 h.2.2.2.1 h.2.2.2.2 l1 l2 h1 h2)).and (a_seconds 4000 (by decide) M N h.1 h.2.1 h.2.2.1 h.2.2.2.2 l1 l2 h1 h2)
theorem uu_place (fu : Nat) (hfu : fu = 4000) (M N : jm_M) (h : IX M N) (l1 l2 : Int) (h1 : jm_in l1) (h2 : jm_in l2) : PY (fX11_place fu M l1 l2) (fX12_place fu N l1 l2) True := by
  subst hfu
  exact (PY.of (q_place 4000 (by decide) M N h.1 l1 l2 h1 h2) (t_place 4000 (by decide) M N h.1 h.2.1 h.2.2.1 l1 l2 h1 h2) (pw_wp (s_fX11_place 4000 (by decide) M h.1.1.1 l1 l2 h1 h2) (fun v M1 q => h.2.2.2.1.ta q.2.1)) (r_place 4000 (by decide) M N h.1 h.2.1 h.2.2.2.1 h.2.2.2.2 l1 l2 h1 h2)).and (a_place 4000 (by decide) M N h.1 h.2.1 h.2.2.1 h.2.2.2.2 l1 l2 h1 h2)
theorem uu_sum (fu : Nat) (hfu : fu = 4000) (M N : jm_M) (h : IX M N) (l1 l2 : Int) (h1 : jm_in l1) (h2 : jm_in l2) : PY (fX11_sum fu M l1 l2) (fX12_sum fu N l1 l2) False := by
  subst hfu
  exact PY.of (q_sum 4000 (by decide) M N h.1 l1 l2 h1 h2) (t_sum 4000 (by decide) M N h.1 h.2.1 h.2.2.1 l1 l2 h1 h2) (pw_wp (s_fX11_sum 4000 (by decide) M h.1.1.1 l1 l2 h1 h2) (fun v M1 q => h.2.2.2.1.ta q.2.1)) (r_sum 4000 (by decide) M N h.1 h.2.1 h.2.2.2.1 h.2.2.2.2 l1 l2 h1 h2)
theorem uu_within (fu : Nat) (hfu : fu = 4000) (M N : jm_M) (h : IX M N) (l1 l2 : Int) (h1 : jm_in l1) (h2 : jm_in l2) : PY (fX11_within fu M l1 l2) (fX12_within fu N l1 l2) True := by
  subst hfu
  exact (PY.of (q_within 4000 (by decide) M N h.1 l1 l2 h1 h2) (t_within 4000 (by decide) M N h.1 h.2.1 h.2.2.1 l1 l2 h1 h2) (pw_wp (s_fX11_within 4000 (by decide) M h.1.1.1 l1 l2 h1 h2) (fun v M1 q => h.2.2.2.1.ta q.2.1)) (r_within 4000 (by decide) M N h.1 h.2.1 h.2.2.2.1 h.2.2.2.2 l1 l2 h1 h2)).and (a_within 4000 (by decide) M N h.1 h.2.1 h.2.2.1 h.2.2.2.2 l1 l2 h1 h2)
theorem uu_result (fu : Nat) (hfu : fu = 4000) (M N : jm_M) (h : IX M N) (l1 : Int) (h1 : jm_in l1) : PY (fX11_result fu M l1) (fX12_result fu N l1) True := by
  subst hfu
  exact (PY.of (q_result 4000 (by decide) M N h.1 l1 h1) (t_result 4000 (by decide) M N h.1 h.2.1 h.2.2.1 l1 h1) (pw_wp (s_fX11_result 4000 (by decide) M h.1.1.1 l1 h1) (fun v M1 q => h.2.2.2.1.tp q.2.1)) (r_result 4000 (by decide) M N h.1 h.2.1 h.2.2.2.1 h.2.2.2.2 l1 h1)).and (a_result 4000 (by decide) M N h.1 h.2.1 h.2.2.1 h.2.2.2.2 l1 h1)
theorem uu_best (fu : Nat) (hfu : fu = 4000) (M N : jm_M) (h : IX M N) (l1 l2 l3 : Int) (h1 : jm_in l1) (h2 : jm_in l2) (h3 : jm_in l3) : PY (fX11_best fu M l1 l2 l3) (fX12_best fu N l1 l2 l3) True := by
  subst hfu
  exact (PY.of2 (q_best 4000 (by decide) M N h.1 l1 l2 l3 h1 h2 h3) (t_best 4000 (by decide) M N h.1 h.2.1 h.2.2.1 h.2.2.2.1 l1 l2 l3 h1 h2 h3) (r_best 4000 (by decide) M N h.1 h.2.1 h.2.2.2.1 h.2.2.2.2 l1 l2 l3 h1 h2 h3)).and (a_best 4000 (by decide) M N h.1 h.2.1 h.2.2.1 h.2.2.2.2 l1 l2 l3 h1 h2 h3)
theorem uu_gain (fu : Nat) (hfu : fu = 4000) (M N : jm_M) (h : IX M N) (l1 l2 l3 : Int) (h1 : jm_in l1) (h2 : jm_in l2) (h3 : jm_in l3) : PY (fX11_gain fu M l1 l2 l3) (fX12_gain fu N l1 l2 l3) True := by
  subst hfu
  exact (PY.of2 (q_gain 4000 (by decide) M N h.1 l1 l2 l3 h1 h2 h3) (t_gain 4000 (by decide) M N h.1 h.2.1 h.2.2.1 h.2.2.2.1 l1 l2 l3 h1 h2 h3) (r_gain 4000 (by decide) M N h.1 h.2.1 h.2.2.2.1 h.2.2.2.2 l1 l2 l3 h1 h2 h3)).and (a_gain 4000 (by decide) M N h.1 h.2.1 h.2.2.1 h.2.2.2.2 l1 l2 l3 h1 h2 h3)
theorem uu_settle (fu : Nat) (hfu : fu = 4000) (M N : jm_M) (h : IX M N) (l1 l2 l3 : Int) (h1 : jm_in l1) (h2 : jm_in l2) (h3 : jm_in l3) : PY (fX11_settle fu M l1 l2 l3) (fX12_settle fu N l1 l2 l3) False := by
  subst hfu
  exact PY.of2 (q_settle 4000 (by decide) M N h.1 l1 l2 l3 h1 h2 h3) (t_settle 4000 (by decide) M N h.1 h.2.1 h.2.2.1 h.2.2.2.1 l1 l2 l3 h1 h2 h3) (r_settle 4000 (by decide) M N h.1 h.2.1 h.2.2.2.1 h.2.2.2.2 l1 l2 l3 h1 h2 h3)
theorem uu_known (fu : Nat) (hfu : fu = 4000) (M N : jm_M) (h : IX M N) (l1 l2 l3 l4 : Int) (h1 : jm_in l1) (h2 : jm_in l2) (h3 : jm_in l3) (h4 : jm_in l4) : PY (fX11_known fu M l1 l2 l3 l4) (fX12_known fu N l1 l2 l3 l4) True := by
  subst hfu
  exact (PY.of (q_known 4000 (by decide) M N h.1 l1 l2 l3 l4 h1 h2 h3 h4) (t_knownn 4000 (by decide) M N h.1 h.2.1 h.2.2.1 l1 l2 l3 l4 h1 h2 h3 h4) (pw_wp (s_fX11_known 4000 (by decide) M h.1.1.1 l1 l2 l3 l4 h1 h2 h3 h4) (fun v M1 q => h.2.2.2.1.ta q.2.1)) (r_knownn 4000 (by decide) M N h.1 h.2.1 h.2.2.2.1 h.2.2.2.2 l1 l2 l3 l4 h1 h2 h3 h4)).and (a_known 4000 (by decide) M N h.1 h.2.1 h.2.2.1 h.2.2.2.2 l1 l2 l3 l4 h1 h2 h3 h4)
theorem uu_ahead (fu : Nat) (hfu : fu = 4000) (M N : jm_M) (h : IX M N) (l1 l2 l3 l4 : Int) (h1 : jm_in l1) (h2 : jm_in l2) (h3 : jm_in l3) (h4 : jm_in l4) : PY (fX11_ahead fu M l1 l2 l3 l4) (fX12_ahead fu N l1 l2 l3 l4) True := by
  subst hfu
  exact (PY.of (q_ahead 4000 (by decide) M N h.1 l1 l2 l3 l4 h1 h2 h3 h4) (t_ahead 4000 (by decide) M N h.1 h.2.1 h.2.2.1 l1 l2 l3 l4 h1 h2 h3 h4) (pw_wp (s_fX11_ahead 4000 (by decide) M h.1.1.1 l1 l2 l3 l4 h1 h2 h3 h4) (fun v M1 q => h.2.2.2.1.ta q.2.1)) (r_ahead 4000 (by decide) M N h.1 h.2.1 h.2.2.2.1 h.2.2.2.2 l1 l2 l3 l4 h1 h2 h3 h4)).and (a_ahead 4000 (by decide) M N h.1 h.2.1 h.2.2.1 h.2.2.2.2 l1 l2 l3 l4 h1 h2 h3 h4)
theorem uu_wall (fu : Nat) (hfu : fu = 4000) (M N : jm_M) (h : IX M N) (l1 l2 : Int) (h1 : jm_in l1) (h2 : jm_in l2) : PY (fX11_wall fu M l1 l2) (fX12_wall fu N l1 l2) True := by
  subst hfu
  exact (PY.of (q_wall 4000 (by decide) M N h.1 l1 l2 h1 h2) (t_wall 4000 (by decide) M N h.1 h.2.1 h.2.2.1 l1 l2 h1 h2) (pw_wp (s_fX11_wall 4000 (by decide) M h.1.1.1 l1 l2 h1 h2) (fun v M1 q => h.2.2.2.1.ta q.2.1)) (r_wall 4000 (by decide) M N h.1 h.2.1 h.2.2.2.1 h.2.2.2.2 l1 l2 h1 h2)).and (a_wall 4000 (by decide) M N h.1 h.2.1 h.2.2.1 h.2.2.2.2 l1 l2 h1 h2)
theorem uu_why (fu : Nat) (hfu : fu = 4000) (M N : jm_M) (h : IX M N) (l1 l2 : Int) (h1 : jm_in l1) (h2 : jm_in l2) : PY (fX11_why fu M l1 l2) (fX12_why fu N l1 l2) True := by
  subst hfu
  exact (PY.of (q_why 4000 (by decide) M N h.1 l1 l2 h1 h2) (t_why 4000 (by decide) M N h.1 h.2.1 h.2.2.1 l1 l2 h1 h2) (pw_wp (s_fX11_why 4000 (by decide) M h.1.1.1 l1 l2 h1 h2) (fun v M1 q => h.2.2.2.1.ta q.2.1)) (r_why 4000 (by decide) M N h.1 h.2.1 h.2.2.2.1 h.2.2.2.2 l1 l2 h1 h2)).and (a_why 4000 (by decide) M N h.1 h.2.1 h.2.2.1 l1 l2 h1 h2)
theorem uu_tyre (M N : jm_M) (h : IX M N) (l1 l2 l3 : Int) (h1 : jm_in l1) (h2 : jm_in l2) (h3 : jm_in l3) : PY (fX11_tyre M l1 l2 l3) (fX12_tyre N l1 l2 l3) True := by
  exact PY.of (q_tyre M N h.1 l1 l2 l3 h1 h2 h3) (t_tyre 4000 (by decide) M N h.1 h.2.1 h.2.2.1 l1 l2 l3 h1 h2 h3) (fun v M1 e => h.2.2.2.1.kp (xd_fX11_tyre l1 l2 l3 Kp.rf v M1 e)) (r_tyre 4000 (by decide) M N h.1 h.2.1 h.2.2.2.1 h.2.2.2.2 l1 l2 l3 h1 h2 h3)
theorem uu_order (fu : Nat) (hfu : fu = 4000) (M N : jm_M) (h : IX M N) (l1 l2 l3 l4 : Int) (h1 : jm_in l1) (h2 : jm_in l2) (h3 : jm_in l3) (h4 : jm_in l4) : PY (fX11_order fu M l1 l2 l3 l4) (fX12_order fu N l1 l2 l3 l4) True := by
  subst hfu
  exact PY.of (q_order 4000 (by decide) M N h.1 l1 l2 l3 l4 h1 h2 h3 h4) (t_order 4000 (by decide) M N h.1 h.2.1 h.2.2.1 l1 l2 l3 l4 h1 h2 h3 h4) (fun v M1 e => h.2.2.2.1.kp (xd_fX11_order 4000 l1 l2 l3 l4 Kp.rf v M1 e)) (r_order 4000 (by decide) M N h.1 h.2.1 h.2.2.2.1 h.2.2.2.2 l1 l2 l3 l4 h1 h2 h3 h4)
theorem uu_stop (M N : jm_M) (h : IX M N) (l1 l2 l3 l4 : Int) (h1 : jm_in l1) (h2 : jm_in l2) (h3 : jm_in l3) (h4 : jm_in l4) : PY (fX11_stop M l1 l2 l3 l4) (fX12_stop N l1 l2 l3 l4) True := by
  exact PY.of (q_stop M N h.1 l1 l2 l3 l4 h1 h2 h3 h4) (t_stop 4000 (by decide) M N h.1 h.2.1 h.2.2.1 l1 l2 l3 l4 h1 h2 h3 h4) (fun v M1 e => h.2.2.2.1.kp (xd_fX11_stop l1 l2 l3 l4 Kp.rf v M1 e)) (r_stop 4000 (by decide) M N h.1 h.2.1 h.2.2.2.1 h.2.2.2.2 l1 l2 l3 l4 h1 h2 h3 h4)
theorem uu_drop (fu : Nat) (hfu : fu = 4000) (M N : jm_M) (h : IX M N) (l1 l2 : Int) (h1 : jm_in l1) (h2 : jm_in l2) : PY (fX11_drop fu M l1 l2) (fX12_drop fu N l1 l2) True := by
  subst hfu
  exact PY.of (q_drop 4000 (by decide) M N h.1 l1 l2 h1 h2) (t_drop 4000 (by decide) M N h.1 h.2.1 h.2.2.1 l1 l2 h1 h2) (fun v M1 e => h.2.2.2.1.kp (xd_fX11_drop 4000 l1 l2 Kp.rf v M1 e)) (r_drop 4000 (by decide) M N h.1 h.2.1 h.2.2.2.1 h.2.2.2.2 l1 l2 h1 h2)
theorem uu_option (fu : Nat) (hfu : fu = 4000) (M N : jm_M) (h : IX M N) (l1 l2 l3 : Int) (h1 : jm_in l1) (h2 : jm_in l2) (h3 : jm_in l3) : PY (fX11_option M l1 l2 l3) (fX12_option fu N l1 l2 l3) True := by
  subst hfu
  exact PY.of (q_option 4000 (by decide) M N h.1 l1 l2 l3 h1 h2 h3) (t_option 4000 (by decide) M N h.1 h.2.1 h.2.2.1 l1 l2 l3 h1 h2 h3) (fun v M1 e => h.2.2.2.1.kp (xd_fX11_option l1 l2 l3 Kp.rf v M1 e)) (r_option 4000 (by decide) M N h.1 h.2.1 h.2.2.2.1 h.2.2.2.2 l1 l2 l3 h1 h2 h3)
theorem uu_set (fu : Nat) (hfu : fu = 4000) (M N : jm_M) (h : IX M N) (l1 l2 : Int) (h1 : jm_in l1) (h2 : jm_in l2) : PY (fX11_set M l1 l2) (fX12_set fu N l1 l2) True := by
  subst hfu
  exact PY.of (q_set 4000 (by decide) M N h.1 l1 l2 h1 h2) (t_setn 4000 (by decide) M N h.1 h.2.1 h.2.2.1 l1 l2 h1 h2) (fun v M1 e => h.2.2.2.1.kp (xd_fX11_set l1 l2 Kp.rf v M1 e)) (r_setn 4000 (by decide) M N h.1 h.2.1 h.2.2.2.1 h.2.2.2.2 l1 l2 h1 h2)
theorem uu_tyres (M N : jm_M) (h : IX M N) (l1 l2 l3 : Int) (h1 : jm_in l1) (h2 : jm_in l2) (h3 : jm_in l3) : PY (fX11_tyres M l1 l2 l3) (fX12_tyres N l1 l2 l3) True := by
  exact PY.of (q_tyres M N h.1 l1 l2 l3 h1 h2 h3) (t_tyres 4000 (by decide) M N h.1 h.2.1 h.2.2.1 l1 l2 l3 h1 h2 h3) (fun v M1 e => h.2.2.2.1.kp (xd_fX11_tyres l1 l2 l3 Kp.rf v M1 e)) (r_tyres 4000 (by decide) M N h.1 h.2.1 h.2.2.2.1 h.2.2.2.2 l1 l2 l3 h1 h2 h3)
theorem uu_move (fu : Nat) (hfu : fu = 4000) (M N : jm_M) (h : IX M N) (l1 l2 l3 l4 : Int) (h1 : jm_in l1) (h2 : jm_in l2) (h3 : jm_in l3) (h4 : jm_in l4) : PY (fX11_move fu M l1 l2 l3 l4) (fX12_move fu N l1 l2 l3 l4) True := by
  subst hfu
  exact (PY.of2 (q_move 4000 (by decide) M N h.1 l1 l2 l3 l4 h1 h2 h3 h4) (t_move 4000 (by decide) M N h.1 h.2.1 h.2.2.1 h.2.2.2.1 l1 l2 l3 l4 h1 h2 h3 h4) (r_move 4000 (by decide) M N h.1 h.2.1 h.2.2.2.1 h.2.2.2.2 l1 l2 l3 l4 h1 h2 h3 h4)).and (a_move 4000 (by decide) M N h.1 h.2.1 h.2.2.1 h.2.2.2.2 l1 l2 l3 l4 h1 h2 h3 h4)
theorem uu_count (fu : Nat) (hfu : fu = 4000) (M N : jm_M) (h : IX M N) (l1 : Int) (h1 : jm_in l1) : PY (fX11_count fu M l1) (fX12_count fu N l1) False := by
  subst hfu
  exact PY.of (q_count 4000 (by decide) M N h.1 l1 h1) (t_count 4000 (by decide) M N h.1 h.2.1 h.2.2.1 l1 h1) (pw_wp (s_fX11_count 4000 (by decide) M h.1.1.1 l1 h1) (fun v M1 q => by rw [q.1]; exact h.2.2.2.1)) (r_count 4000 (by decide) M N h.1 h.2.1 h.2.2.2.1 h.2.2.2.2 l1 h1)
theorem uu_row (M N : jm_M) (h : IX M N) (l1 : Int) (h1 : jm_in l1) : PY (fX11_row M l1) (fX12_row N l1) False := by
  exact PY.of (q_row M N h.1 l1 h1) (t_row 4000 (by decide) M N h.1 h.2.1 h.2.2.1 l1 h1) (pw_wp (s_fX11_row M h.1.1.1 l1 h1) (fun v M1 q => by rw [q.1]; exact h.2.2.2.1)) (r_row 4000 (by decide) M N h.1 h.2.1 h.2.2.2.1 h.2.2.2.2 l1 h1)
theorem uu_lost (M N : jm_M) (h : IX M N) (l1 l2 : Int) (h1 : jm_in l1) (h2 : 0 ≤ l2 ∧ l2 ≤ 1) : PY (fX11_lost M l1 l2) (fX12_lost N l1 l2) True := by
  exact PY.of (q_lost M N h.1 l1 l2 h1 h2) (t_lost 4000 (by decide) M N h.1 h.2.1 h.2.2.1 l1 l2 h1 h2) (fun v M1 e => h.2.2.2.1.kp (xd_fX11_lost l1 l2 Kp.rf v M1 e)) (r_lost 4000 (by decide) M N h.1 h.2.1 h.2.2.2.1 h.2.2.2.2 l1 l2 h1 h2)
theorem uu_clear (fu : Nat) (hfu : fu = 4000) (M N : jm_M) (h : IX M N) : PY (fX11_clear fu M) (fX12_clear fu N) True := by
  subst hfu
  exact PY.of (q_clear 4000 (by decide) M N h.1 ) (t_clear 4000 (by decide) M N h.1 h.2.1 h.2.2.1 ) (fun v M1 e => h.2.2.2.1.kp (xd_fX11_clear 4000  Kp.rf v M1 e)) (r_clear 4000 (by decide) M N h.1 h.2.1 h.2.2.2.1 h.2.2.2.2 )
theorem uu_end (M N : jm_M) (h : IX M N) (l1 : Int) (h1 : jm_in l1) : PY (fX11_end M l1) (fX12_end N l1) True := by
  exact PY.of (q_end M N h.1 l1 h1) (t_end 4000 (by decide) M N h.1 h.2.1 h.2.2.1 l1 h1) (fun v M1 e => h.2.2.2.1.kp (xd_fX11_end l1 Kp.rf v M1 e)) (r_end 4000 (by decide) M N h.1 h.2.1 h.2.2.2.1 h.2.2.2.2 l1 h1)
theorem uu_sign (fu : Nat) (hfu : fu = 4000) (M N : jm_M) (h : IX M N) (l1 : Int) (h1 : jm_in l1) : PY (fX11_sign fu M l1) (fX12_sign fu N l1) True := by
  subst hfu
  exact PY.of (q_sign 4000 (by decide) M N h.1 l1 h1) (t_sign 4000 (by decide) M N h.1 h.2.1 h.2.2.1 l1 h1) (fun v M1 e => h.2.2.2.1.kp (xd_fX11_sign 4000 l1 Kp.rf v M1 e)) (r_sign 4000 (by decide) M N h.1 h.2.1 h.2.2.2.1 h.2.2.2.2 l1 h1)
theorem uu_unplan (fu : Nat) (hfu : fu = 4000) (M N : jm_M) (h : IX M N) (l1 : Int) (h1 : jm_in l1) : PY (fX11_unplan M l1) (fX12_unplan fu N l1) True := by
  subst hfu
  exact PY.of (q_unplan 4000 (by decide) M N h.1 l1 h1) (t_unplan 4000 (by decide) M N h.1 h.2.1 h.2.2.1 l1 h1) (fun v M1 e => h.2.2.2.1.kp (xd_fX11_unplan l1 Kp.rf v M1 e)) (r_unplan 4000 (by decide) M N h.1 h.2.1 h.2.2.2.1 h.2.2.2.2 l1 h1)
theorem uu_plan (fu : Nat) (hfu : fu = 4000) (M N : jm_M) (h : IX M N) (l1 : Int) (h1 : jm_in l1) : PY (fX11_plan fu M l1) (fX12_plan fu N l1) True := by
  subst hfu
  exact PY.of2 (q_plan 4000 (by decide) M N h.1 l1 h1) (t_plan 4000 (by decide) M N h.1 h.2.1 h.2.2.1 h.2.2.2.1 l1 h1) (r_plan 4000 (by decide) M N h.1 h.2.1 h.2.2.2.1 h.2.2.2.2 l1 h1)
theorem uu_rule (fu : Nat) (hfu : fu = 4000) (M N : jm_M) (h : IX M N) (l1 : Int) (h1 : jm_in l1) : PY (fX11_rule fu M l1) (fX12_rule fu N l1) True := by
  subst hfu
  exact PY.of2 (q_rule 4000 (by decide) M N h.1 l1 h1) (t_rule 4000 (by decide) M N h.1 h.2.1 h.2.2.1 h.2.2.2.1 l1 h1) (r_rule 4000 (by decide) M N h.1 h.2.1 h.2.2.2.1 h.2.2.2.2 l1 h1)
theorem uu_car (M N : jm_M) (h : IX M N) (l1 l2 l3 l4 l5 l6 : Int) (h1 : jm_in l1) (h2 : jm_in l2) (h3 : jm_in l3) (h4 : jm_in l4) (h5 : jm_in l5) (h6 : jm_in l6) : PY (fX11_car M l1 l2 l3 l4 l5 l6) (fX12_car N l1 l2 l3 l4 l5 l6) True := by
  exact PY.of (q_car M N h.1 l1 l2 l3 l4 l5 l6 h1 h2 h3 h4 h5 h6) (t_car 4000 (by decide) M N h.1 h.2.1 h.2.2.1 l1 l2 l3 l4 l5 l6 h1 h2 h3 h4 h5 h6) (fun v M1 e => h.2.2.2.1.kp (xd_fX11_car l1 l2 l3 l4 l5 l6 Kp.rf v M1 e)) (r_car 4000 (by decide) M N h.1 h.2.1 h.2.2.2.1 h.2.2.2.2 l1 l2 l3 l4 l5 l6 h1 h2 h3 h4 h5 h6)
theorem uu_track (fu : Nat) (hfu : fu = 4000) (M N : jm_M) (h : IX M N) (l1 l2 : Int) (h1 : jm_in l1) (h2 : jm_in l2) : PY (fX11_track fu M l1 l2) (fX12_track fu N l1 l2) True := by
  subst hfu
  exact PY.of (q_track 4000 (by decide) M N h.1 l1 l2 h1 h2) (t_track 4000 (by decide) M N h.1 h.2.1 h.2.2.1 l1 l2 h1 h2) (fun v M1 e => h.2.2.2.1.kp (xd_fX11_track 4000 l1 l2 Kp.rf v M1 e)) (r_track 4000 (by decide) M N h.1 h.2.1 h.2.2.2.1 h.2.2.2.2 l1 l2 h1 h2)
