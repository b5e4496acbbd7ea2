/-! a car goes on: both at once -/
theorem j_go (fu : Nat) (hfu : 4000 ≤ fu) (M N : jm_M) (iM : bI bx1 M) (iN : bI bx2 N) (tl : TLD M N) (run : RUN M N) (c : Int) (hc : 0 ≤ c ∧ c < N 0 0 17) (h39 : N 39 0 c = 0) (hT : N 0 0 70 ≤ 360) : J2 (fX2_goOn fu M c c c) (fX12_goes fu N c (N 41 0 c)) (fun _ M1 _ N1 => GO M N c M1 N1) := by
  obtain ⟨⟨t1, t2, t3, t4, t5⟩, ⟨⟨s0, s1, s5⟩, n8, n24, nl⟩, tc, lim⟩ := id tl
  obtain ⟨⟨u6, u70⟩, ub, rt, hr⟩ := id run
  obtain ⟨⟨⟨a0, a1, a3, a4⟩, ⟨a5, a6, a7, a8, a9, a10, a11, a12, a13, a14⟩, ag, te, ln⟩, i0, im, ia, iei, ir⟩ := hr c hc.1 hc.2
  obtain ⟨on, e4243, gsn, fl⟩ := ir h39
  have b17 : 0 ≤ N 0 0 17 ∧ N 0 0 17 ≤ 6 := iN 0 0 17
  have bs : 2 ≤ N 0 0 1 ∧ N 0 0 1 ≤ 5 := iN 0 0 1
  have bn : 1 ≤ N 0 0 2 ∧ N 0 0 2 ≤ 12 := iN 0 0 2
  have b19 : 0 ≤ N 19 0 c ∧ N 19 0 c ≤ 4 := iN 19 0 c
  have b42 : 0 ≤ N 42 0 c ∧ N 42 0 c ≤ 60 := iN 42 0 c
  have hc6 : 0 ≤ c ∧ c < 6 := ⟨hc.1, by omega⟩
  obtain ⟨lm, ll, lg⟩ := line_ls (g := N 42 0 c) bs ⟨b42.1, gsn⟩ bn
  obtain ⟨-, -, p3, p4⟩ := line_last (s := N 0 0 1) (n := N 0 0 2) bs bn
  obtain ⟨-, -, -, lcar⟩ := id lim
  obtain ⟨-, -, lc1, lc2, lc3, lc4, -⟩ := (lcar c hc.1 hc.2).1
  obtain ⟨i, hi⟩ : ∃ i : Int, i = jm_mod (N 42 0 c) (N 0 0 1) := ⟨_, rfl⟩
  rw [← hi] at lm lg
  have hi5 : 0 ≤ i ∧ i < 5 := ⟨lm.1, by omega⟩
  have bb : 20000 ≤ BB N ∧ BB N ≤ 144020000 := by
    unfold BB
    omega
  have w42 : jm_w (N 42 0 c + 1) = N 42 0 c + 1 := jm_wid (by omega) (by omega)
  have age := ia _ on.1 on.2
  unfold fX2_goOn fX12_goes
  refine J2.rT hc6 (J2.re (J2.rT (by omega) (J2.re' hi.symm (J2.rT hc6 (J2.rT hc6 (J2.rs (fun N2 u2 => ?_)))))))
  rw [w42] at u2
  refine J2.le' a1 (J2.lq (c_sectorOf M (N 42 0 c) (by omega)) (fun v4 e4 => ?_))
  rw [s0, ← hi] at e4
  rw [e4]
  refine J2.le' a0 ?_
  have j2 : bI bx2 N2 := by rw [u2]; exact bI_u iN (show 0 ≤ N 42 0 c + 1 ∧ N 42 0 c + 1 ≤ 60 by omega)
  have o2 : ∀ (f : Nat) (j k : Int), ¬ (f = 42 ∧ j = 0 ∧ k = c) → N2 f j k = N f j k := fun f j k y => by rw [u2]; exact jm_une y
  have tl2 : TLD M N2 := tl.kp Kp.rf (fun f j k y => o2 f j k (by unfold TD2 at y; omega))
  obtain ⟨⟨-, -, -, -, z5⟩, ⟨⟨z0, -, -⟩, z8, -, -⟩, -, -⟩ := id tl2
  refine J2.bb (j_hear fu hfu M N2 iM j2 z5 z8 z0 c (N 42 0 c) ⟨hc.1, by rw [o2 0 0 17 (by omega)]; exact hc.2⟩ (by rw [o2 47 0 c (by omega)]; exact a13) (by rw [o2 48 0 c (by omega)]; exact a14) (by rw [o2 47 0 c (by omega)]; exact im)) (fun v10 M3 v13 N3 qo => ?_)
  obtain ⟨i3, j3, k3, m3, q13, q14, qm⟩ := qo
  have o3 : ∀ (f : Nat) (j k : Int), ¬ (f = 9 ∧ j = c ∧ (k = 13 ∨ k = 14)) → M3 f j k = M f j k := fun f j k y => k3 f j k y
  have p3n : ∀ (f : Nat) (j k : Int), ¬ ((f = 42 ∨ f = 47 ∨ f = 48) ∧ j = 0 ∧ k = c) → N3 f j k = N f j k := fun f j k y => by
    rw [m3 f j k (by unfold KO2; omega)]
    exact o2 f j k (by omega)
  have c1 : M3 9 c 1 = N 42 0 c := by rw [o3 9 c 1 (by omega)]; exact a1
  refine J2.ls (fun M4 u4 => ?_)
  rw [c1, w42] at u4
  have i4 : bI bx1 M4 := by rw [u4]; exact bI_u i3 (show 0 ≤ N 42 0 c + 1 ∧ N 42 0 c + 1 ≤ 361 by omega)
  have o4 : ∀ (f : Nat) (j k : Int), ¬ (f = 9 ∧ j = c ∧ (k = 1 ∨ k = 13 ∨ k = 14)) → M4 f j k = M f j k := fun f j k y => by
    rw [u4, jm_une (by omega)]
    exact o3 f j k (by omega)
  have e49 : M4 9 c 9 = N 45 0 c := by rw [o4 9 c 9 (by omega)]; exact a9
  have e46 : M4 9 c 6 = N 50 0 c := by rw [o4 9 c 6 (by omega)]; exact a6
  rw [e49]
  refine J2.lq (cell_in i4 (r := c) (i := N 45 0 c) (k := 0) (w := 2) (a := 2 * N 45 0 c) ⟨hc.1, by omega⟩ (wid1_0 hc6.2) ⟨on.1, by rw [o4 10 c 3 (by omega), (t3 c hc.1 hc.2).1]; exact on.2⟩ ⟨by decide, by decide⟩ (by omega)) (fun v5 e5 => ?_)
  have e5' : v5 = N 20 0 (4 * c + N 45 0 c) := by
    rw [e5, o4 19 c (2 * N 45 0 c) (by omega)]
    exact ((t3 c hc.1 hc.2).2 _ on.1 on.2).1
  rw [e5']
  refine J2.ls (fun M5 u5 => ?_)
  rw [e46] at u5
  have ix : jm_w (jm_w (4 * c) + N 45 0 c) = 4 * c + N 45 0 c := by rw [jm_wid (x := 4 * c) (by omega) (by omega)]; exact jm_wid (by omega) (by omega)
  have n45 : N3 45 0 c = N 45 0 c := p3n 45 0 c (by omega)
  rw [n45, ix]
  refine J2.rT hc6 (J2.rT hc6 (J2.rT ⟨by omega, by omega⟩ (J2.rT hc6 (J2.rs (fun N4 v4' => ?_)))))
  rw [p3n 50 0 c (by omega), p3n 20 0 (4 * c + N 45 0 c) (by omega)] at v4'
  have i5 : bI bx1 M5 := by rw [u5]; exact bI_u i4 (jm_or_in _ _)
  have j4 : bI bx2 N4 := by rw [v4']; exact bI_u j3 (jm_or_in _ _)
  have o5 : ∀ (f : Nat) (j k : Int), ¬ (f = 9 ∧ j = c ∧ (k = 1 ∨ k = 6 ∨ k = 13 ∨ k = 14)) → M5 f j k = M f j k := fun f j k y => by
    rw [u5, jm_une (by omega)]
    exact o4 f j k (by omega)
  have p4n : ∀ (f : Nat) (j k : Int), ¬ ((f = 42 ∨ f = 47 ∨ f = 48 ∨ f = 50) ∧ j = 0 ∧ k = c) → N4 f j k = N f j k := fun f j k y => by
    rw [v4', jm_une (by omega)]
    exact p3n f j k (by omega)
  have e513 : M5 9 c 13 = N3 47 0 c := by rw [u5, jm_une (by omega), u4, jm_une (by omega)]; exact q13
  have e514 : M5 9 c 14 = N3 48 0 c := by rw [u5, jm_une (by omega), u4, jm_une (by omega)]; exact q14
  have n447 : N4 47 0 c = N3 47 0 c := by rw [v4']; exact jm_une_f (by decide)
  have n448 : N4 48 0 c = N3 48 0 c := by rw [v4']; exact jm_une_f (by decide)
  have n442 : N4 42 0 c = N 42 0 c + 1 := by
    rw [v4', jm_une_f (by decide), m3 42 0 c (by unfold KO2; omega), u2]
    exact jm_ueq
  obtain ⟨x, hx⟩ : ∃ x : Int, x = N 15 0 c - N3 47 0 c := ⟨_, rfl⟩
  have xb : 0 ≤ x ∧ x ≤ 10 := ⟨by omega, by omega⟩
  have wx : jm_w x = x := jm_wid (by omega) (by omega)
  have lx : jm_w (M5 8 c 2 - M5 9 c 13) = x := by
    rw [o5 8 c 2 (by omega), (tc c hc.1 hc.2).1.2.2.1, e513, ← hx]
    exact wx
  have rx : jm_w (N4 15 0 c - N4 47 0 c) = x := by
    rw [p4n 15 0 c (by omega), n447, ← hx]
    exact wx
  refine J2.rT hc6 (J2.rT hc6 (J2.re' rx (J2.rT hc6 (J2.le' lx ?_))))
  have e58 : M5 9 c 8 = N 44 0 c := by rw [o5 9 c 8 (by omega)]; exact a8
  have n444 : N4 44 0 c = N 44 0 c := p4n 44 0 c (by omega)
  rw [e58, n444]
  by_cases fuel : x ≤ N 44 0 c
  · refine J2.lT fuel (J2.rT fuel (J2.ls (fun M6 u6' => J2.rT hc6 (J2.rT hc6 (J2.rs (fun N5 v5' => ?_))))))
    have wf : jm_w (N 44 0 c - x) = N 44 0 c - x := jm_wid (by omega) (by omega)
    rw [wf] at u6' v5'
    have i6 : bI bx1 M6 := by rw [u6']; exact bI_u i5 (jm_inL (by omega) (by omega))
    have j5 : bI bx2 N5 := by rw [v5']; exact bI_u j4 (jm_inL (by omega) (by omega))
    have o6 : ∀ (f : Nat) (j k : Int), ¬ (f = 9 ∧ j = c ∧ (k = 1 ∨ k = 6 ∨ k = 8 ∨ k = 13 ∨ k = 14)) → M6 f j k = M f j k := fun f j k y => by
      rw [u6', jm_une (by omega)]
      exact o5 f j k (by omega)
    have p5n : ∀ (f : Nat) (j k : Int), ¬ ((f = 42 ∨ f = 50 ∨ f = 47 ∨ f = 48 ∨ f = 44) ∧ j = 0 ∧ k = c) → N5 f j k = N f j k := fun f j k y => by
      rw [v5', jm_une (by omega)]
      exact p4n f j k (by omega)
    have tl5 : TLD M6 N5 := tl.kp (fun f j k y => o6 f j k (by unfold TD1 at y; omega)) (fun f j k y => p5n f j k (by unfold TD2 at y; omega))
    have f1 : M6 9 c 1 = N 42 0 c + 1 := by
      rw [u6', jm_une (by omega), u5, jm_une (by omega), u4]
      exact jm_ueq
    have g1 : N5 42 0 c = N 42 0 c + 1 := by
      rw [v5', jm_une_f (by decide)]
      exact n442
    have f6 : M6 9 c 6 = N5 50 0 c := by rw [u6', jm_une (by omega), u5, jm_ueq, v5', jm_une_f (by decide), v4', jm_ueq]
    have f13 : M6 9 c 13 = N5 47 0 c := by rw [u6', jm_une (by omega), e513, v5', jm_une_f (by decide), n447]
    have f14 : M6 9 c 14 = N5 48 0 c := by rw [u6', jm_une (by omega), e514, v5', jm_une_f (by decide), n448]
    have f8 : M6 9 c 8 = N5 44 0 c := by rw [u6', jm_ueq, v5', jm_ueq]
    have md5 : N5 47 0 c = N3 47 0 c := by
      rw [v5', jm_une_f (by decide)]
      exact n447
    have emd : -1 ≤ N5 47 0 c ∧ N5 47 0 c ≤ 1 := by rw [md5]; exact qm
    have fx : N5 44 0 c = N 44 0 c - x := by rw [v5']; exact jm_ueq
    have efl : 0 ≤ N5 44 0 c ∧ N5 44 0 c ≤ N 14 0 c := ⟨by omega, by omega⟩
    have hlim5 : LIM N5 := tl5.2.2.2
    have hc5 : 0 ≤ c ∧ c < N5 0 0 17 := ⟨hc.1, by rw [p5n 0 0 17 (by omega)]; exact hc.2⟩
    have e29o : M6 29 c (N 45 0 c) = N 46 0 (4 * c + N 45 0 c) := by
      rw [o6 29 c (N 45 0 c) (by omega)]
      exact ag _ on.1 on.2
    have n545 : N5 45 0 c = N 45 0 c := p5n 45 0 c (by omega)
    have n546 : N5 46 0 (4 * c + N 45 0 c) = N 46 0 (4 * c + N 45 0 c) := p5n 46 0 _ (by omega)
    have on5 : 0 ≤ N5 45 0 c ∧ N5 45 0 c < N5 19 0 c := by
      rw [n545, p5n 19 0 c (by omega)]
      exact on
    have el5 : M6 14 0 i = N5 1 0 i := (tl5.2.1.2.2.2 i hi5.1 hi5.2).1
    have e69 : M6 9 c 9 = N 45 0 c := by rw [o6 9 c 9 (by omega)]; exact a9
    obtain ⟨sl, Mx, sw, Nx, ex, ey, qx, qy, qz, q01⟩ := j_slow fu hfu M6 N5 i6 j5 tl5.1.2.1 (N 41 0 c)
    rw [qx] at ex
    rw [qy, ← qz] at ey
    have hs : J2 (fX9_slowAt fu M6 (N 41 0 c)) (fX12_isSlow fu N5 (N 41 0 c)) (fun v M1 w N1 => M1 = M6 ∧ N1 = N5 ∧ (v = sl ∧ w = sl)) := ⟨sl, M6, sl, N5, ex, ey, rfl, rfl, rfl, rfl⟩
    refine J2.bq hs (fun v28 w28 q28 => ?_)
    rw [q28.1, q28.2]
    rcases q01 with z | z
    · rw [z] at ey ⊢
      refine J2.lT rfl ?_
      have fa := (j_free fu hfu M6 N5 i6 j5 tl5.1.1 tl5.1.2.2.1 tl5.2.1.2.2.1 tl5.2.1.2.1 c i (N 41 0 c) hc5 hi5 el5 (tl5.2.2.1 c hc5.1 hc5.2).1.1 (e69.trans n545.symm) on5 (by rw [n545, n546]; exact e29o) f8 f13).ar (b_free fu hfu N5 j5 hlim5 tl5.1.1.wetb c i (N 41 0 c) hc5 hi5 on5 (by rw [n545, n546]; exact ⟨age.1, by omega⟩) ⟨efl.1, by omega⟩ emd)
      refine J2.bb fa (fun v32 Ma v39 Na q => ?_)
      obtain ⟨⟨qa, qb, qc⟩, -, qd⟩ := q
      rw [← qc] at qd
      rw [qa, qb, ← qc]
      refine J2.lT rfl (J2.lb (c_wear M6 i6 c (by rw [e69]; exact ⟨on.1, by omega⟩)) (fun v36 M7 u7 => ?_))
      rw [e69, e29o, f13] at u7
      have i7 : bI bx1 M7 := by rw [u7]; exact bI_u i6 (jm_w_in _)
      have tl7 : TLD M7 N5 := tl5.kp (fun f j k y => by rw [u7]; exact jm_une (by unfold TD1 at y; omega)) Kp.rf
      exact j_go_rest fu hfu M N iN run c hc h39 hT i v32 0 (if N5 47 0 c = -1 then 2 else 1) hi qd M7 N5 i7 j5 tl7 (Or.inl rfl) ey (fun f j k y1 y2 => by rw [u7, jm_une y2]; exact o6 f j k y1) p5n ⟨by rw [u7, jm_une_f (by decide)]; exact f1, g1⟩ (by rw [u7, jm_une_f (by decide)]; exact f6) (by rw [u7, jm_une_f (by decide)]; exact f13) (by rw [u7, jm_une_f (by decide)]; exact f14) (by rw [u7, jm_une_f (by decide)]; exact f8) emd efl ⟨fun _ => ⟨fun y => if_pos y, fun y => if_neg y⟩, fun y => absurd y (by decide)⟩ (by rw [u7]; exact jm_ueq)
    · rw [z] at ey ⊢
      refine J2.lF (by decide) ?_
      have rs : ∀ o : Int, 0 ≤ o → o < N5 0 0 17 → M6 9 o 1 = N5 42 0 o ∧ M6 9 o 3 = N5 39 0 o := fun o y1 y2 => by
        rw [p5n 0 0 17 (by omega)] at y2
        have hro := (hr o y1 y2).1.1
        by_cases q : o = c
        · rw [q, f1, g1, o6 9 c 3 (by omega), p5n 39 0 c (by omega)]
          exact ⟨rfl, a3⟩
        · rw [o6 9 o 1 (by omega), p5n 42 0 o (by omega), o6 9 o 3 (by omega), p5n 39 0 o (by omega)]
          exact ⟨hro.2.1, hro.2.2.1⟩
      have fa := (j_slowT fu hfu M6 N5 j5 tl5.2.1.1.2.2 rs c i (N 41 0 c) hc5 hi5 el5).ar (b_slowT fu hfu N5 j5 hlim5 c i (N 41 0 c) hc5 hi5)
      refine J2.bb fa (fun v32 Ma v39 Na q => ?_)
      obtain ⟨⟨qa, qb, qc⟩, -, qd⟩ := q
      rw [← qc] at qd
      rw [qa, qb, ← qc]
      refine J2.lF (by decide) ?_
      exact j_go_rest fu hfu M N iN run c hc h39 hT i v32 1 0 hi qd M6 N5 i6 j5 tl5 (Or.inr rfl) ey (fun f j k y1 _ => o6 f j k y1) p5n ⟨f1, g1⟩ f6 f13 f14 f8 emd efl ⟨fun y => absurd y (by decide), fun _ => rfl⟩ (by rw [e29o, Int.add_zero]; exact (jm_wid (by omega) (by omega)).symm)
  · refine J2.lF fuel (J2.rF fuel (J2.lb (c_rest M5 c 2 (N 41 0 c)) (fun v44 M7 u7 => J2.rT hc6 (J2.rs (fun N5 v5' => J2.rT hc6 (J2.rs (fun N6 v6 => J2.ret ?_)))))))
    have i7 : bI bx1 M7 := by rw [u7]; exact bI_u (bI_u i5 (jm_inL (by decide) (by decide))) (jm_inL (by omega) (by omega))
    have j6 : bI bx2 N6 := by rw [v6, v5']; exact bI_u (bI_u j4 (jm_inL (by decide) (by decide))) (jm_inL (by omega) (by omega))
    have o7 : ∀ (f : Nat) (j k : Int), ¬ (f = 9 ∧ j = c ∧ (k = 1 ∨ k = 6 ∨ k = 13 ∨ k = 14 ∨ k = 3 ∨ k = 4)) → M7 f j k = M f j k := fun f j k y => by
      rw [u7, jm_une (by omega), jm_une (by omega)]
      exact o5 f j k (by omega)
    have p6n : ∀ (f : Nat) (j k : Int), ¬ ((f = 42 ∨ f = 47 ∨ f = 48 ∨ f = 50 ∨ f = 39 ∨ f = 40) ∧ j = 0 ∧ k = c) → N6 f j k = N f j k := fun f j k y => by
      rw [v6, jm_une (by omega), v5', jm_une (by omega)]
      exact p4n f j k (by omega)
    have fM : Kp (KG1 c) M M7 := fun f j k y => o7 f j k (by unfold KG1 at y; omega)
    have fN : Kp (KG2 c) N N6 := fun f j k y => p6n f j k (by unfold KG2 at y; omega)
    have n39 : N6 39 0 c = 2 := by
      rw [v6, jm_une_f (by decide), v5']
      exact jm_ueq
    have n42 : N6 42 0 c = N 42 0 c + 1 := by
      rw [v6, jm_une_f (by decide), v5', jm_une_f (by decide)]
      exact n442
    have n47 : N6 47 0 c = N3 47 0 c := by
      rw [v6, jm_une_f (by decide), v5', jm_une_f (by decide)]
      exact n447
    have n48 : N6 48 0 c = N3 48 0 c := by
      rw [v6, jm_une_f (by decide), v5', jm_une_f (by decide)]
      exact n448
    have n70 : N6 0 0 70 = N 0 0 70 := p6n 0 0 70 (by omega)
    have bbq : BB N6 = BB N := by unfold BB; rw [n70]
    have m7 : ∀ k : Int, k ≠ 3 → k ≠ 4 → M7 9 c k = M5 9 c k := fun k y1 y2 => by
      rw [u7, jm_une (by omega), jm_une (by omega)]
    have same : ∀ (k : Int) (f : Nat), ¬ (k = 1 ∨ k = 6 ∨ k = 13 ∨ k = 14 ∨ k = 3 ∨ k = 4) → ¬ (f = 42 ∨ f = 47 ∨ f = 48 ∨ f = 50 ∨ f = 39 ∨ f = 40) → M 9 c k = N f 0 c → M7 9 c k = N6 f 0 c := fun k f y1 y2 y3 => by
      rw [o7 9 c k (by omega), p6n f 0 c (by omega)]
      exact y3
    have rc : RUNc M7 N6 c ∧ INVc N6 c := by
      refine ⟨⟨⟨same 0 41 (by omega) (by omega) a0, ?_, ?_, fun y => ?_⟩, ⟨same 5 49 (by omega) (by omega) a5, ?_, same 7 51 (by omega) (by omega) a7, same 8 44 (by omega) (by omega) a8, same 9 45 (by omega) (by omega) a9, same 10 52 (by omega) (by omega) a10, same 11 53 (by omega) (by omega) a11, same 12 54 (by omega) (by omega) a12, ?_, ?_⟩, fun j y1 y2 => ?_, fun j y1 y2 => ?_, fun l y1 y2 => ?_⟩, ?_, ?_, fun j y1 y2 => ?_, fun j y1 y2 y3 => ?_, fun y => ?_⟩
      · rw [m7 1 (by decide) (by decide), u5, jm_une (by omega), u4, jm_ueq, n42]
      · rw [u7, jm_une (by omega), jm_ueq, n39]
      · rw [n39] at y
        exact absurd y (by decide)
      · rw [m7 6 (by decide) (by decide), u5, jm_ueq, v6, jm_une_f (by decide), v5', jm_une_f (by decide), v4', jm_ueq]
      · rw [m7 13 (by decide) (by decide), e513, n47]
      · rw [m7 14 (by decide) (by decide), e514, n48]
      · rw [p6n 19 0 c (by omega)] at y2
        rw [o7 29 c j (by omega), p6n 46 0 (4 * c + j) (by omega)]
        exact ag j y1 y2
      · rw [o7 32 c j (by omega), o7 33 c j (by omega), p6n 56 0 (5 * c + j) (by omega), p6n 57 0 (5 * c + j) (by omega)]
        exact te j y1 y2
      · rw [o7 31 c l (by omega), p6n 59 0 (12 * c + l) (by omega)]
        exact ln l y1 y2
      · rw [p6n 41 0 c (by omega), bbq]
        exact i0
      · rw [n47]
        exact qm
      · rw [p6n 19 0 c (by omega)] at y2
        rw [p6n 46 0 (4 * c + j) (by omega), n70]
        exact ia j y1 y2
      · rw [p6n 56 0 (5 * c + j) (by omega)] at y3
        rw [p6n 57 0 (5 * c + j) (by omega), bbq]
        exact iei j y1 y2 y3
      · rw [n39] at y
        exact absurd y (by decide)
    refine ⟨⟨i7, j6⟩, tl.kp (fun f j k y => o7 f j k (by unfold TD1 at y; omega)) (fun f j k y => p6n f j k (by unfold TD2 at y; omega)), run_fin run fM fN b17.2 (fun o => (iN 19 0 o).2) (by omega) (by rw [o7 2 0 6 (by omega), n70]; exact u6) (fun t y1 y2 => ?_) rc ?_, fM, fN, n42, by omega, Or.inr (Or.inr n39), by rw [p6n 41 0 c (by omega)]; exact Int.le_refl _, Or.inl ⟨p6n 43 0 c (by omega), fun k => p6n 55 0 k (by omega)⟩⟩
    · rw [o7 34 0 t (by omega), p6n 58 0 t (by omega), bbq]
      exact ub t y1 y2
    · rw [o7 9 c 2 (by omega), p6n 43 0 c (by omega)]
      refine ⟨(rt c hc.1 hc.2).1, fun g y1 y2 => ?_⟩
      rw [p6n 55 0 (60 * c + g) (by omega), o7 30 c g (by omega)]
      exact (rt c hc.1 hc.2).2 g y1 y2
