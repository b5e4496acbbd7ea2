/-! at the box -/
def KB1 (c : Int) (f : Nat) (i k : Int) : Prop := ¬ (f = 9 ∧ i = c ∧ (k = 0 ∨ k = 5 ∨ k = 8 ∨ k = 9 ∨ k = 12)) ∧ ¬ (f = 34 ∧ i = 0)
def KB2 (c : Int) (f : Nat) (i k : Int) : Prop := ¬ ((f = 41 ∨ f = 44 ∨ f = 45 ∨ f = 49 ∨ f = 54) ∧ i = 0 ∧ k = c) ∧ ¬ (f = 58 ∧ i = 0)
def QB (M0 N0 : jm_M) (c set put comes : Int) (M N : jm_M) : Prop := (bI bx1 M ∧ bI bx2 N ∧ Kp (KB1 c) M0 M ∧ Kp (KB2 c) N0 N) ∧ (M 9 c 0 = N 41 0 c ∧ M 9 c 5 = N 49 0 c ∧ M 9 c 8 = N 44 0 c ∧ M 9 c 9 = N 45 0 c ∧ M 9 c 12 = N 54 0 c ∧ (∀ t : Int, 0 ≤ t → t < 4 → M 34 0 t = N 58 0 t)) ∧ (N 45 0 c = N0 45 0 c ∨ (N 45 0 c = set ∧ 0 ≤ set ∧ set < N0 19 0 c)) ∧ ∃ chg fills : Int, (chg = 0 ∨ chg = N0 5 0 4) ∧ fills = jm_min put (jm_w (N0 14 0 c - N0 44 0 c)) ∧ N 41 0 c = jm_w (jm_w (jm_max comes (N0 58 0 (N0 16 0 c)) + chg) + jm_w (N0 5 0 5 * fills)) ∧ N 44 0 c = jm_w (N0 44 0 c + fills) ∧ (∀ t : Int, t ≠ N0 16 0 c → N 58 0 t = N0 58 0 t) ∧ N 58 0 (N0 16 0 c) = N 41 0 c
theorem c_free (M : jm_M) (t : Int) (ht : 0 ≤ t ∧ t < 4) : wp (fX2_freeFrom M t) (fun v M1 => M1 = M ∧ v = M 34 0 t) := by
  unfold fX2_freeFrom
  refine wp_bp (x_isIndex M t 4) (fun v z => wp_F (by omega) (wp_T ht (wp_ret ⟨rfl, rfl⟩)))
theorem j_box (fu : Nat) (M0 N0 : jm_M) (i0 : bI bx1 M0) (j0 : bI bx2 N0) (n8 : ∀ k : Int, 0 ≤ k → k < 8 → M0 18 0 k = N0 5 0 k) (c e set p1 p2 : Int) (hc : 0 ≤ c ∧ c < N0 0 0 17) (hset : -1 ≤ set ∧ set ≤ 3) (et : M0 8 c 3 = N0 16 0 c) (ek : M0 8 c 1 = N0 14 0 c) (bf : ∀ t : Int, 0 ≤ t → t < 4 → M0 34 0 t = N0 58 0 t) (ez : M0 10 c 3 = N0 19 0 c) (e9 : M0 9 c 9 = N0 45 0 c) (e8 : M0 9 c 8 = N0 44 0 c) (e12 : M0 9 c 12 = N0 54 0 c) (e5 : M0 9 c 5 = N0 49 0 c) (hp : jm_min p1 (jm_w (N0 14 0 c - N0 44 0 c)) = jm_min p2 (jm_w (N0 14 0 c - N0 44 0 c))) : J2 (fX2_atBox fu M0 c c e set p1) (fX12_boxes fu N0 c set p2 (jm_w (e + N0 5 0 3))) (fun _ M _ N => QB M0 N0 c set p2 (jm_w (e + N0 5 0 3)) M N) := by
  have b17 : 0 ≤ N0 0 0 17 ∧ N0 0 0 17 ≤ 6 := j0 0 0 17
  have b16 : 0 ≤ N0 16 0 c ∧ N0 16 0 c ≤ 3 := j0 16 0 c
  have b19 : 0 ≤ N0 19 0 c ∧ N0 19 0 c ≤ 4 := j0 19 0 c
  have hc6 : 0 ≤ c ∧ c < 6 := ⟨hc.1, by omega⟩
  have ht : 0 ≤ N0 16 0 c ∧ N0 16 0 c < 4 := ⟨b16.1, by omega⟩
  generalize hT : N0 16 0 c = T at *
  generalize hC : jm_w (e + N0 5 0 3) = C at *
  unfold fX2_atBox fX12_boxes
  rw [et, hT]
  refine J2.lT (by decide) (J2.le ?_)
  rw [n8 3 (by decide) (by decide), hC]
  refine J2.lq (c_free M0 T ht) (fun v6 z6 => ?_)
  have z6 : v6 = N0 58 0 T := z6.trans (bf T ht.1 ht.2)
  subst z6
  generalize hF : jm_max C (N0 58 0 T) = F
  refine J2.le ?_
  refine J2.rT hc6 (J2.rT ht (J2.re (J2.rT hc6 (J2.rT hc6 (J2.rs (fun N1 u1 => ?_))))))
  have k1 : ∀ (f : Nat) (i k : Int), ¬ (f = 54 ∧ i = 0 ∧ k = c) → N1 f i k = N0 f i k := fun f i k q => by rw [u1]; exact jm_une q
  have i1 : bI bx2 N1 := by rw [u1]; exact bI_u j0 (jm_w_in _)
  have e54 : N1 54 0 c = jm_w (N0 54 0 c + jm_w (F - C)) := by rw [u1]; exact jm_ueq
  -- the rest of the reference
  have rest : ∀ (ch : Int) (M1 : jm_M), ((ch = 0 ∧ M1 = M0) ∨ (ch = 1 ∧ M1 = jm_u M0 9 c 9 set ∧ 0 ≤ set ∧ set < N0 19 0 c)) → J2 (gX2_atBox_75 fu M1 c c p1 C F (if ch = 0 then 0 else N0 5 0 4)) (gX12_boxes_61 fu N1 c set p2 F ch) (fun _ M _ N => QB M0 N0 c set p2 C M N) := by
    intro ch M1 hch
    have m1 : ∀ (f : Nat) (i k : Int), ¬ (f = 9 ∧ i = c ∧ k = 9) → M1 f i k = M0 f i k := fun f i k q => by
      rcases hch with ⟨-, h⟩ | ⟨-, h, -⟩
      · rw [h]
      · rw [h]; exact jm_une q
    have iM1 : bI bx1 M1 := by
      rcases hch with ⟨-, h⟩ | ⟨-, h, -⟩
      · rw [h]; exact i0
      · rw [h]; exact bI_u i0 (jm_inL (by omega) (by omega))
    have m8 : M1 9 c 8 = N0 44 0 c := (m1 9 c 8 (by omega)).trans e8
    have mk : M1 8 c 1 = N0 14 0 c := (m1 8 c 1 (by omega)).trans ek
    unfold gX2_atBox_75 gX12_boxes_61
    rw [m8, mk]
    refine J2.le (J2.lT (by decide) ?_)
    refine J2.rT hc6 (J2.rT hc6 ?_)
    rw [k1 14 0 c (by omega), k1 44 0 c (by omega), m1 18 0 5 (by omega), n8 5 (by decide) (by decide)]
    rw [hp]
    generalize hZ : jm_min p2 (jm_w (N0 14 0 c - N0 44 0 c)) = Z
    refine J2.re ?_
    generalize hX : jm_w (N0 5 0 5 * Z) = X
    refine J2.le ?_
    refine J2.ls (fun M2 u2 => J2.ls (fun M3 u3 => J2.ls (fun M4 u4 => J2.ls (fun M5 u5 => ?_))))
    have t5 : M5 8 c 3 = T := by
      rw [u5, jm_une_f (by decide), u4, jm_une_f (by decide), u3, jm_une_f (by decide), u2, jm_une_f (by decide), m1 8 c 3 (by omega)]
      exact et
    rw [t5]
    refine J2.lq (x_isIndex M5 T 4) (fun v17 z17 => ?_)
    rw [t5]
    refine J2.lF (by omega) (J2.lT ht (J2.ls (fun M6 u6 => ?_)))
    -- the end: all cells beside each other
    have fin : ∀ (on chg l8 : Int), ((ch = 0 ∧ on = N0 45 0 c ∧ chg = 0) ∨ (ch = 1 ∧ on = set ∧ chg = N0 5 0 4)) → l8 = jm_w (jm_w (F + chg) + X) → J2 (some ((0 : Int), M6)) (gX12_boxes_132 fu N1 c Z l8 on c) (fun _ M _ N => QB M0 N0 c set p2 C M N) := by
      intro on chg l8 hon h8
      unfold gX12_boxes_132
      refine J2.rT hc6 (J2.rs (fun Na ua => J2.rT hc6 (J2.rT hc6 (J2.rs (fun Nb ub => J2.rT hc6 ?_)))))
      have tb : Nb 16 0 c = T := by rw [ub, jm_une_f (by decide), ua, jm_une_f (by decide), k1 16 0 c (by omega)]; exact hT
      rw [tb]
      refine J2.rT ht (J2.rs (fun Nc uc => J2.rT hc6 (J2.rs (fun Nd ud => J2.rT hc6 (J2.rT hc6 (J2.rs (fun Ne ue => J2.ret ?_)))))))
      have onr : -1 ≤ on ∧ on ≤ 3 := by
        have z45 : -1 ≤ N0 45 0 c ∧ N0 45 0 c ≤ 3 := j0 45 0 c
        omega
      have s0 : (if ch = 0 then (0 : Int) else N0 5 0 4) = chg := by
        rcases hon with ⟨h, -, h2⟩ | ⟨h, -, h2⟩
        · rw [if_pos h, h2]
        · rw [if_neg (by omega), h2]
      have nx : jm_w (F + jm_w ((if ch = 0 then (0 : Int) else N0 5 0 4) + X)) = l8 := by rw [s0, ww_3, h8]
      have q6 : M6 9 c 0 = l8 := by rw [u6, jm_une_f (by decide), u5, jm_ueq]; exact nx
      have qe : Ne 41 0 c = l8 := by rw [ue, jm_une_f (by decide), ud]; exact jm_ueq
      have bx : bI bx1 M6 ∧ bI bx2 Ne := by
        constructor
        · rw [u6, u5, u4, u3, u2]
          exact bI_u (bI_u (bI_u (bI_u (bI_u iM1 (jm_w_in _)) (jm_w_in _)) (jm_w_in _)) (jm_w_in _)) (jm_w_in _)
        · have h8i : jm_in l8 := by rw [h8]; exact jm_w_in _
          rw [ue, ud, uc, ub, ua]
          exact bI_u (bI_u (bI_u (bI_u (bI_u i1 (show -1 ≤ on ∧ on ≤ 3 from onr)) (jm_w_in _)) h8i) h8i) (jm_w_in _)
      refine ⟨⟨bx.1, bx.2, fun f i k q => ?_, fun f i k q => ?_⟩, ⟨q6.trans qe.symm, ?_, ?_, ?_, ?_, fun t y1 y2 => ?_⟩, ?_, chg, Z, ?_, hZ.symm, ?_, ?_, fun t y => ?_, ?_⟩
      · unfold KB1 at q
        rw [u6, jm_une (by omega), u5, jm_une (by omega), u4, jm_une (by omega), u3, jm_une (by omega), u2, jm_une (by omega)]
        exact m1 f i k (by omega)
      · unfold KB2 at q
        rw [ue, jm_une (by omega), ud, jm_une (by omega), uc, jm_une (by omega), ub, jm_une (by omega), ua, jm_une (by omega)]
        exact k1 f i k (by omega)
      · rw [u6, jm_une_f (by decide), u5, jm_une_k (by decide), u4, jm_ueq, u3, jm_une_k (by decide), u2, jm_une_k (by decide), m1 9 c 5 (by omega), e5, ue, jm_ueq, ud, jm_une_f (by decide), uc, jm_une_f (by decide), ub, jm_une_f (by decide), ua, jm_une_f (by decide), k1 49 0 c (by omega)]
      · rw [u6, jm_une_f (by decide), u5, jm_une_k (by decide), u4, jm_une_k (by decide), u3, jm_une_k (by decide), u2, jm_ueq, ue, jm_une_f (by decide), ud, jm_une_f (by decide), uc, jm_une_f (by decide), ub, jm_ueq, ua, jm_une_f (by decide), k1 44 0 c (by omega)]
      · rw [u6, jm_une_f (by decide), u5, jm_une_k (by decide), u4, jm_une_k (by decide), u3, jm_une_k (by decide), u2, jm_une_k (by decide), ue, jm_une_f (by decide), ud, jm_une_f (by decide), uc, jm_une_f (by decide), ub, jm_une_f (by decide), ua, jm_ueq]
        rcases hon with ⟨h, h2, -⟩ | ⟨h, h2, -⟩ <;> rcases hch with ⟨h3, h4⟩ | ⟨h3, h4, -⟩
        · rw [h4, h2]; exact e9
        · omega
        · omega
        · rw [h4, h2]; exact jm_ueq
      · rw [u6, jm_une_f (by decide), u5, jm_une_k (by decide), u4, jm_une_k (by decide), u3, jm_ueq, u2, jm_une_k (by decide), m1 9 c 12 (by omega), e12, ue, jm_une_f (by decide), ud, jm_une_f (by decide), uc, jm_une_f (by decide), ub, jm_une_f (by decide), ua, jm_une_f (by decide), e54]
      · have r58 : Ne 58 0 t = (jm_u Nb 58 0 T l8) 58 0 t := by rw [ue, jm_une_f (by decide), ud, jm_une_f (by decide), uc]
        rw [r58, u6]
        by_cases qt : t = T
        · rw [qt, jm_ueq, jm_ueq]
          exact nx
        · rw [jm_une_k qt, jm_une_k qt, u5, jm_une_f (by decide), u4, jm_une_f (by decide), u3, jm_une_f (by decide), u2, jm_une_f (by decide), m1 34 0 t (by omega), ub, jm_une_f (by decide), ua, jm_une_f (by decide), k1 58 0 t (by omega)]
          exact bf t y1 y2
      · have qo : Ne 45 0 c = on := by rw [ue, jm_une_f (by decide), ud, jm_une_f (by decide), uc, jm_une_f (by decide), ub, jm_une_f (by decide), ua]; exact jm_ueq
        rw [qo]
        rcases hon with ⟨h, h2, -⟩ | ⟨h, h2, -⟩
        · exact Or.inl h2
        · rcases hch with ⟨h3, -⟩ | ⟨-, -, h4, h5⟩
          · omega
          · exact Or.inr ⟨h2, h4, h5⟩
      · rcases hon with ⟨-, -, h⟩ | ⟨-, -, h⟩
        · exact Or.inl h
        · exact Or.inr h
      · rw [qe, h8, hT, hF, hX]
      · rw [ue, jm_une_f (by decide), ud, jm_une_f (by decide), uc, jm_une_f (by decide), ub, jm_ueq, ua, jm_une_f (by decide), k1 44 0 c (by omega)]
      · rw [hT] at y
        rw [ue, jm_une_f (by decide), ud, jm_une_f (by decide), uc, jm_une_k y, ub, jm_une_f (by decide), ua, jm_une_f (by decide), k1 58 0 t (by omega)]
      · rw [qe, hT, ue, jm_une_f (by decide), ud, jm_une_f (by decide), uc]
        exact jm_ueq
    have n45 : N1 45 0 c = N0 45 0 c := k1 45 0 c (by omega)
    have n55 : N1 5 0 5 = N0 5 0 5 := k1 5 0 5 (by omega)
    have n54 : N1 5 0 4 = N0 5 0 4 := k1 5 0 4 (by omega)
    rcases hch with ⟨rfl, -⟩ | ⟨rfl, -⟩
    · refine J2.rT rfl ?_
      unfold gX12_boxes_99
      rw [n55, hX]
      exact J2.rT (by decide) (J2.re (J2.rT rfl (J2.rT hc6 (fin _ 0 _ (Or.inl ⟨rfl, n45, rfl⟩) rfl))))
    · refine J2.rF (by decide) (J2.rT (by decide) ?_)
      rw [n54]
      unfold gX12_boxes_99
      rw [n55, hX]
      exact J2.rT (by decide) (J2.re (J2.rF (by decide) (fin _ (N0 5 0 4) _ (Or.inr ⟨rfl, rfl, rfl⟩) rfl)))
  have r0 := rest 0 M0 (Or.inl ⟨rfl, rfl⟩)
  rw [if_pos rfl] at r0
  refine J2.lq (x_isIndex M0 set (M0 10 c 3)) (fun v12 z12 => ?_)
  rw [ez] at z12
  have n19 : N1 19 0 c = N0 19 0 c := k1 19 0 c (by omega)
  have n45 : N1 45 0 c = N0 45 0 c := k1 45 0 c (by omega)
  rw [n19, n45]
  by_cases s1 : set < 0
  · exact J2.lT (by omega) (J2.rT s1 r0)
  · refine J2.rF s1 (J2.rT hc6 ?_)
    by_cases s2 : N0 19 0 c ≤ set
    · exact J2.lT (by omega) (J2.rT s2 r0)
    · refine J2.lF (by omega) (J2.rF s2 (J2.rT hc6 ?_))
      rw [e9]
      by_cases s3 : set = N0 45 0 c
      · exact J2.lT s3 (J2.rT s3 r0)
      · refine J2.lF s3 (J2.rF s3 (J2.lT (by decide) ?_))
        have r1 := rest 1 (jm_u M0 9 c 9 set) (Or.inr ⟨rfl, rfl, by omega, by omega⟩)
        rw [if_neg (by decide)] at r1
        refine J2.le' (a := N0 5 0 4) ?_ (J2.ls (fun M1 u1' => ?_))
        · rw [n8 4 (by decide) (by decide), Int.zero_add]
          exact jm_wid (j0 5 0 4).1 (j0 5 0 4).2
        · rw [u1']
          exact r1
