/-! numeral, thing, and all -/
theorem sx_same {u : Int} (hu : u = 0 ∨ u = 1) (c : Int) : jm_sx (u + 2) c = jm_sx u c := by
  rcases hu with rfl | rfl <;> rfl
theorem sim_num_7 (fu : Nat) (hfu : 4000 ≤ fu) (s : Int → Int) (hs : ∀ j : Int, jm_in (s j)) (l u r : Int) (hl : l ≤ 60) (hr : 0 ≤ r ∧ r ≤ 16) (N0 M0 : jm_M) {cmp : Int} {stk W C : List Int} (iN0 : bI bx2 N0) (hn9 : nn N0 ≤ 99) (hT0 : (∀ j : Int, 0 ≤ j → j < 100 → N0 34 0 j = s j) ∧ N0 0 0 43 = u + 2) (hcmp : cmp = 0 ∨ cmp = 1) (hCW : (C.length + W.length : Int) ≤ N0 0 0 41) : ∀ (n : Nat) (N M1 : jm_M) (l2 : Int) (m : Nat), N 0 0 41 = N0 0 0 41 + (m : Int) → PE l 0 N0 N → nn N = nn N0 → (∀ a : Nat, PH N0 N a a) → RunN fu s m (N0 0 0 41) M0 M1 → bI bx1 M1 → Kp (TS r) M0 M1 → AB r M1 2 cmp (m : Int) stk W (l2 :: C) → ((m = 1 ∧ 0 ≤ l2 ∧ l2 ≤ 9) ∨ (m = 2 ∧ 0 ≤ l2 ∧ l2 ≤ 99) ∨ (m = 3 ∧ 0 ≤ l2 ∧ l2 ≤ 999)) → 3 - (m : Int) < (n : Int) → wp (fX12_numeral_7 fu n N l l2 (N0 0 0 41)) (fun v N1 => v = 1 ∧ SOK fu s l u r 6 cmp stk W C N0 M0 N1) := by
  intro n
  induction n with
  | zero => intro N M1 l2 m _ _ _ _ _ _ _ _ hv hm; exfalso; omega
  | succ n ih =>
    intro N M1 l2 m em hp hn hph hrun i1 k1 hA hv hm
    show wp (gX12_numeral_7 fu (fX12_numeral_7 fu n) N l l2 (N0 0 0 41)) _
    unfold gX12_numeral_7
    have iN := hp.1
    have b0 : 0 ≤ N0 0 0 41 ∧ N0 0 0 41 ≤ 60 := iN0 0 0 41
    have b41 : 0 ≤ N 0 0 41 ∧ N 0 0 41 ≤ 60 := iN 0 0 41
    have aL := hp.2.2.2.1
    have hT := hp.tape hT0
    have eT : N 34 0 (N 0 0 41) = s (N 0 0 41) := hT.1 _ (by omega) (by omega)
    have w3 : jm_w (N0 0 0 41 + 3) = N0 0 0 41 + 3 := jm_wid (by omega) (by omega)
    obtain ⟨vk0, vk1, vk2, vk3, vk4, vk5, vk6⟩ := lvk_val
    have fin : (m = 3 ∨ (N 0 0 41 < l → ¬ (48 ≤ s (N 0 0 41) ∧ s (N 0 0 41) ≤ 57))) → wp (gX12_numeral_58 fu N l2 (N0 0 0 41)) (fun v N1 => v = 1 ∧ SOK fu s l u r 6 cmp stk W C N0 M0 N1) := by
      intro hend
      unfold gX12_numeral_58
      refine wp_b (x_marks2 (l := l) iN l2 (jm_inL (by omega) (by omega)) aL (by omega)) (fun v1 N2 h2 => ?_)
      obtain ⟨-, p2, e2, mk2, -, -⟩ := h2
      refine wp_F (by omega) (wp_ret ⟨rfl, m, M1, cmp, (m : Int), [], [l2], by rw [e2]; exact em, hrun, i1, k1, hA, fun x hx => absurd hx List.not_mem_nil, fun _ => rfl, hcmp, fun hlt => ⟨fun q => ?_, ?_⟩, ?_, ?_⟩)
      · rw [e2] at hlt q
        rcases hend with z | z
        · omega
        · exact z hlt ⟨q.1, q.2.1⟩
      · have := lv_any (s (N2 0 0 41))
        omega
      · refine ⟨?_, okl.one (Or.inl ⟨by omega, by omega⟩)⟩
        simp only [List.length_nil, List.length_cons]
        omega
      · have : MK N0 N2 ([] ++ [l2]) := MK.tr (MK.nil hn) hp mk2 p2
        unfold tot
        simp only [List.map_nil, List.reverse_cons, List.reverse_nil, List.nil_append, List.append_nil, List.map_cons]
        rw [er_num u (by omega)]
        exact this
    rw [w3]
    refine wp_ite (fun c => fin (Or.inl (by omega))) (fun c => ?_)
    refine wp_bp (x_isOf2 iN l 5 hl) (fun v3 h3 => ?_)
    rw [eT] at h3
    have hdg := is_dg (s (N 0 0 41))
    refine wp_ite (fun c2 => fin (Or.inr (fun hlt w => ?_))) (fun c2 => ?_)
    · rcases h3 with z | z
      · omega
      · exact z.2 ⟨hlt, hdg.mpr w⟩
    obtain ⟨hlt, hcv⟩ : N 0 0 41 < l ∧ (48 ≤ s (N 0 0 41) ∧ s (N 0 0 41) ≤ 57) := by
      rcases h3 with z | z
      · exact ⟨z.2.1, hdg.mp z.2.2⟩
      · exact absurd z.1 c2
    refine wp_T ⟨by omega, by omega⟩ ?_
    have wa : jm_w (10 * l2) = 10 * l2 := jm_wid (by omega) (by omega)
    have wb : jm_w (jm_w (10 * l2) + N 34 0 (N 0 0 41)) = 10 * l2 + s (N 0 0 41) := by rw [wa, eT]; exact jm_wid (by omega) (by omega)
    have wc : jm_w (jm_w (jm_w (10 * l2) + N 34 0 (N 0 0 41)) - 48) = 10 * l2 + s (N 0 0 41) - 48 := by rw [wb]; exact jm_wid (by omega) (by omega)
    refine wp_e (jm_w_in _) (fun v10 e10 _ => ?_)
    rw [wc] at e10
    obtain ⟨pa, ha, ea⟩ := PE_at iN hl hlt
    refine wp_si iN (by have := pa.1 0 0 41; rw [ea] at this; rw [jm_wid (by omega) (by omega)]; exact this) (fun N13 u13 i13 => ?_)
    rw [← u13] at pa ha ea
    have n13 : nn N13 = nn N := by
      unfold nn
      rw [u13, jm_une_f (by decide), jm_une_k (by decide)]
    obtain ⟨M2, run2, i2, k2, hA2⟩ := YT.run (y_digit2 (fu := fu) hfu hr i1 (hs (N 0 0 41)) hA (by omega) hcv (by omega) (by omega))
    have hrun2 := hrun.app (show RunN fu s 1 (N0 0 0 41 + (m : Int)) M1 M2 by rw [← em]; exact run2)
    exact ih N13 M2 v10 (m + 1) (by omega) ((hp.tr pa).slack (by omega)) (by omega) (fun a => PH.tr hp pa (hph a) (ha a)) hrun2 i2 (k1.trS k2) (by rw [e10]; exact hA2) (by omega) (by omega)
theorem sim_thing (fu : Nat) (hfu : 4000 ≤ fu) (s : Int → Int) (hs : ∀ j : Int, jm_in (s j)) (l u r : Int) (hl : l ≤ 60) (hr : 0 ≤ r ∧ r ≤ 16) (hu2 : u = 0 ∨ u = 1) (rc : Nat → jm_M → Int → jm_R) (d : Int) (hRC : RCh l rc d) (hS : SIM fu s l u r rc d) (N0 M0 : jm_M) {st cmp dg : Int} {stk W C : List Int} (pre : PRE s l u r 6 N0 M0 st cmp dg stk W C) (hd : 7 * (l - N0 0 0 41) + 7 - 6 ≤ d + 1) : wp (gX12_thing rc fu N0 l) (SR fu s l u r 6 cmp stk W C N0 M0) := by
  obtain ⟨⟨iN0, hN0l, hN0n⟩, hT0, ⟨iM0, hu, hAB⟩, ⟨hst, hcmp, hk2⟩, hWt, h58, hCW, hSt, hnu⟩ := id pre
  have b041 : 0 ≤ N0 0 0 41 ∧ N0 0 0 41 ≤ 60 := iN0 0 0 41
  have eT : N0 34 0 (N0 0 0 41) = s (N0 0 0 41) := hT0.1 _ (by omega) (by omega)
  obtain ⟨vk0, vk1, vk2, vk3, vk4, vk5, vk6⟩ := lvk_val
  refine wp_and (s_thing fu hfu l hl rc d hRC N0 iN0 hN0l hN0n hd) ?_
  unfold gX12_thing
  rw [hT0.2]
  refine wp_T ⟨by omega, by omega⟩ ?_
  refine wp_bp (x_isOf2 iN0 l (u + 2) hl) (fun v2 h2 => ?_)
  rw [eT, sx_same hu2] at h2
  refine wp_ite (fun c => ?_) (fun c => ?_)
  · have hnl : N0 0 0 41 < l → jm_sx u (s (N0 0 0 41)) < 0 := fun q => by
      have az := sx_az u (s (N0 0 0 41)) hu2
      rcases h2 with z | z
      · omega
      · by_cases w : 0 ≤ jm_sx u (s (N0 0 0 41))
        · exact absurd ⟨q, by have := az w; omega, w⟩ z.2
        · omega
    refine wp_bp (x_isSign2 iN0 l 40 hl) (fun v6 h6 => ?_)
    rw [eT] at h6
    refine wp_ite (fun c6 => ?_) (fun c6 => ?_)
    · refine wp_bp (x_isOf2 iN0 l 5 hl) (fun v10 h10 => ?_)
      rw [eT] at h10
      have hdg := is_dg (s (N0 0 0 41))
      refine wp_ite (fun c10 => wp_ret (Or.inr ⟨rfl, 0, M0, by omega, rfl, iM0, Kp.rf, ?_⟩)) (fun c10 => ?_)
      · by_cases hlt : N0 0 0 41 < l
        · refine Or.inr ⟨hlt, y_op_no hfu hr iM0 (hs _) hAB hst (fun w => ?_) (by rw [hu]; exact hnl hlt) (fun w => ?_) ?_⟩
          · rcases h10 with z | z
            · omega
            · exact z.2 ⟨hlt, hdg.mpr w⟩
          · rcases hst with z | z
            · rcases h58 z hlt with q | q
              · exact Or.inl q
              · exact absurd w q
            · exact Or.inr z
          · have := hnu rfl hlt
            omega
        · have := hAB.1.1
          exact Or.inl ⟨by omega, by omega, by omega⟩
      · obtain ⟨hlt, hcv⟩ : N0 0 0 41 < l ∧ (48 ≤ s (N0 0 0 41) ∧ s (N0 0 0 41) ≤ 57) := by
          rcases h10 with z | z
          · exact ⟨z.2.1, hdg.mp z.2.2⟩
          · exact absurd z.1 c10
        refine wp_b (P := fun v N1 => v = 1 ∧ SOK fu s l u r 6 cmp stk W C N0 M0 N1) ?_ (fun v14 N15 h15 => wp_F (by omega) (wp_ret (Or.inl ⟨rfl, h15.2⟩)))
        unfold fX12_numeral
        refine wp_e (bx2_in (iN0 0 0 41)) (fun v2 ev2 _ => ?_)
        rw [ev2]
        obtain ⟨f2, ef⟩ : ∃ f2, fu = f2 + 1 := ⟨fu - 1, by omega⟩
        have step : fX12_numeral_7 fu fu N0 l 0 (N0 0 0 41) = gX12_numeral_7 fu (fX12_numeral_7 fu f2) N0 l 0 (N0 0 0 41) := by
          conv => lhs; rw [ef]
          rw [ef]
          rfl
        rw [step]
        unfold gX12_numeral_7
        have w3 : jm_w (N0 0 0 41 + 3) = N0 0 0 41 + 3 := jm_wid (by omega) (by omega)
        rw [w3]
        refine wp_F (by omega) ?_
        refine wp_bp (x_isOf2 iN0 l 5 hl) (fun v3 h3 => ?_)
        rw [eT] at h3
        refine wp_F (fun q => ?_) ?_
        · rcases h3 with z | z
          · omega
          · exact z.2 ⟨hlt, hdg.mpr hcv⟩
        refine wp_T ⟨by omega, by omega⟩ ?_
        have wa : jm_w (10 * 0) = 0 := by decide
        have wc : jm_w (jm_w (jm_w (10 * 0) + N0 34 0 (N0 0 0 41)) - 48) = s (N0 0 0 41) - 48 := by
          rw [wa, eT, jm_wid (x := 0 + s (N0 0 0 41)) (by omega) (by omega), jm_wid (by omega) (by omega)]
          omega
        refine wp_e (jm_w_in _) (fun v10 e10 _ => ?_)
        rw [wc] at e10
        obtain ⟨pa, ha, ea⟩ := PE_at iN0 hl hlt
        refine wp_si iN0 (by have := pa.1 0 0 41; rw [ea] at this; rw [jm_wid (by omega) (by omega)]; exact this) (fun N13 u13 i13 => ?_)
        rw [← u13] at pa ha ea
        have n13 : nn N13 = nn N0 := by
          unfold nn
          rw [u13, jm_une_f (by decide), jm_une_k (by decide)]
        obtain ⟨M2, run2, i2, k2, hA2⟩ := YT.run (y_digit0 (fu := fu) hfu hr iM0 (hs (N0 0 0 41)) hAB hst (by omega) hcv)
        exact sim_num_7 fu hfu s hs l u r hl hr N0 M0 iN0 (by omega) hT0 hcmp hCW f2 N13 M2 v10 1 (by omega) (pa.slack (by omega)) (by omega) (fun a => ha a) run2 i2 k2 (by rw [e10]; exact hA2) (by omega) (by omega)
    · obtain ⟨hlt, hsx⟩ : N0 0 0 41 < l ∧ s (N0 0 0 41) = 40 := by
        rcases h6 with z | z
        · exact z.2
        · exact absurd z.1 c6
      obtain ⟨pa, ha, ea⟩ := PE_at iN0 hl hlt
      refine wp_si iN0 (by have := pa.1 0 0 41; rw [ea] at this; rw [jm_wid (by omega) (by omega)]; exact this) (fun N7 u7 i7 => ?_)
      rw [← u7] at pa ha ea
      have n7 := pa.2.2.2.2.2.1
      obtain ⟨M2, run2, i2, k2, hA2⟩ := YT.run (y_open (fu := fu) hfu hr iM0 (hs (N0 0 0 41)) hAB hst hcmp (by omega) (by omega) hsx (by rw [hu]; exact hnl hlt))
      obtain ⟨lu2, -⟩ := ltx_kp k2
      refine wp_b (hS 0 N7 M2 1 0 dg (cmp :: stk) (40 :: W) C (by decide) (by omega) ⟨⟨i7, by omega, by omega⟩, pa.tape hT0, ⟨i2, by rw [lu2]; exact hu, hA2⟩, ⟨Or.inr rfl, Or.inl rfl, fun _ => rfl⟩, fun _ x V e => by cases e; decide, fun q => absurd q (by decide), by simp only [List.length_cons]; omega, by simp only [List.length_cons]; omega, fun q => absurd q (by decide)⟩) (fun v8 N9 h8 => ?_)
      have p9 : PE l (-1) N0 N9 := (pa.tr h8.1.2.1).slack (by omega)
      have a9 := p9.2.2.1
      have a9l := p9.2.2.2.1
      have n9 := p9.2.2.2.2.2.1
      have hb8 := h8.1.1
      have iN9 : bI bx2 N9 := h8.1.2.1.1
      have b9 : 0 ≤ N9 0 0 41 ∧ N9 0 0 41 ≤ 60 := iN9 0 0 41
      refine wp_ite (fun c3 => wp_ret (Or.inr ⟨rfl, ?_⟩)) (fun c3 => ?_)
      · rcases h8.2 with q | ⟨-, n3, M3, e3, r3, i3, k3, z3⟩
        · omega
        · exact ⟨1 + n3, M3, by rw [e3, ea]; omega, run2.app (by rw [show N0 0 0 41 + ((1 : Nat) : Int) = N7 0 0 41 by omega]; exact r3), i3, k2.trS k3, z3⟩
      rcases h8.2 with ⟨hv8, n3, M3, cmp3, dg3, P3, Er3, e3, r3, i3, k3, hA3, hPl3, hc33, hc013, hnx3, hlen3, hmk3⟩ | q
      case inr => omega
      have hrun3 := run2.app (show RunN fu s n3 (N0 0 0 41 + ((1 : Nat) : Int)) M2 M3 by rw [show N0 0 0 41 + ((1 : Nat) : Int) = N7 0 0 41 by omega]; exact r3)
      have hT9 := p9.tape hT0
      have eT9 : N9 34 0 (N9 0 0 41) = s (N9 0 0 41) := hT9.1 _ (by omega) (by omega)
      have hPl : ∀ x ∈ P3, 1 ≤ lv x ∧ 0 ≤ x ∧ x ≤ 255 := fun x hx => by have := hPl3 x hx; omega
      refine wp_bp (x_isSign2 iN9 l 41 hl) (fun v24 h24 => ?_)
      rw [eT9] at h24
      refine wp_ite (fun c4 => wp_ret (Or.inr ⟨rfl, 1 + n3, M3, by rw [e3, ea]; omega, hrun3, i3, k2.trS k3, ?_⟩)) (fun c4 => ?_)
      · by_cases hlt9 : N9 0 0 41 < l
        · refine Or.inr ⟨hlt9, y_be_no hfu hr i3 (hs _) hA3 (by simp only [List.length_cons]; omega) (hnx3 hlt9).1 (fun _ => by simp) (fun w => ?_) (fun _ _ => ?_)⟩
          · rcases h24 with z | z
            · omega
            · exact absurd ⟨hlt9, w⟩ z.2
          · have := (hnx3 hlt9).2
            have q := lv_any (s (N9 0 0 41))
            omega
        · have := hA3.1.1
          exact Or.inl ⟨by omega, by omega, by omega⟩
      · obtain ⟨hlt9, hs41⟩ : N9 0 0 41 < l ∧ s (N9 0 0 41) = 41 := by
          rcases h24 with z | z
          · exact z.2
          · exact absurd z.1 c4
        obtain ⟨pb, hb, eb⟩ := PE_at iN9 hl hlt9
        refine wp_si iN9 (by have := pb.1 0 0 41; rw [eb] at this; rw [jm_wid (by omega) (by omega)]; exact this) (fun N29 u29 i29 => ?_)
        rw [← u29] at pb hb eb
        have hA3' := hA3
        have lA : (P3 ++ 40 :: W).length = P3.length + (W.length + 1) := by simp only [List.length_append, List.length_cons]
        obtain ⟨M4, run4, i4, k4, hA4⟩ := YT.run (y_close (fu := fu) hfu hr i3 (hs (N9 0 0 41)) hcmp hA3 hPl (by omega) (by simp only [List.length_append]; omega) (by omega) hs41)
        have hrun4 := hrun3.app (show RunN fu s 1 (N0 0 0 41 + ((1 + n3 : Nat) : Int)) M3 M4 by rw [show N0 0 0 41 + ((1 + n3 : Nat) : Int) = N9 0 0 41 by omega]; exact run4)
        have mk7 : MK N0 N7 [] := MK.nil (by unfold nn; rw [u7, jm_une_f (by decide), jm_une_k (by decide)])
        have mk29 : MK N9 N29 [] := MK.nil (by unfold nn; rw [u29, jm_une_f (by decide), jm_une_k (by decide)])
        have hmkA : MK N0 N29 (([] ++ (tot Er3 P3).map (er u)) ++ []) := MK.tr (MK.tr mk7 pa hmk3 h8.1.2.1) (pa.tr h8.1.2.1) mk29 pb
        have htot : (([] ++ (tot Er3 P3).map (er u)) ++ []) = (tot ((P3.map (fun x => 2000 + x)).reverse ++ Er3) []).map (er u) := by
          unfold tot
          simp only [List.map_append, List.reverse_append, List.reverse_reverse, List.append_assoc, List.append_nil, List.map_nil, List.nil_append]
        rw [htot] at hmkA
        refine wp_ret (Or.inl ⟨rfl, 1 + n3 + 1, M4, cmp, 0, [], (P3.map (fun x => 2000 + x)).reverse ++ Er3, by rw [eb, e3, ea]; omega, hrun4, i4, (k2.trS k3).trS k4, ?_, fun x hx => absurd hx List.not_mem_nil, fun _ => rfl, hcmp, fun _ => ⟨by omega, ?_⟩, ?_, hmkA⟩)
        · have := hA4
          simp only [List.append_assoc, List.nil_append] at this ⊢
          exact this
        · have := lv_any (s (N29 0 0 41))
          omega
        · refine ⟨?_, (okl.ops (fun x hx => (hPl x hx).1)).app hlen3.2⟩
          simp only [List.length_append, List.length_reverse, List.length_map, List.length_nil]
          omega
  · obtain ⟨hlt, hsp, hsx⟩ : N0 0 0 41 < l ∧ 0 < s (N0 0 0 41) ∧ 0 ≤ jm_sx u (s (N0 0 0 41)) := by
      rcases h2 with z | z
      · exact z.2
      · exact absurd z.1 c
    have az := sx_az u (s (N0 0 0 41)) hu2 hsx
    rw [hT0.2]
    refine wp_T ⟨by omega, by omega⟩ ?_
    refine wp_T ⟨by omega, by omega⟩ ?_
    rw [eT]
    refine wp_bp (M := N0) (P := fun v => v = jm_sx u (s (N0 0 0 41))) ⟨_, _, rfl, rfl, sx_same hu2 _⟩ (fun v34 h34 => ?_)
    have h12 := jm_sx_f u (s (N0 0 0 41))
    have ew : jm_w (-1 - v34) = -1 - v34 := jm_wid (by omega) (by omega)
    rw [ew]
    refine wp_b (x_marks2 (l := l) iN0 (-1 - v34) (jm_inL (by omega) (by omega)) hN0l (by omega)) (fun v37 N38 h38 => ?_)
    obtain ⟨-, p38, e38, mk38, n38, t38⟩ := h38
    have i38 := p38.1
    obtain ⟨pa, ha, ea⟩ := PE_at i38 hl (by omega)
    refine wp_si i38 (by have := pa.1 0 0 41; rw [ea] at this; rw [jm_wid (by omega) (by omega)]; exact this) (fun N40 u40 i40 => ?_)
    rw [← u40] at pa ha ea
    obtain ⟨M2, run2, i2, k2, hA2⟩ := YT.run (y_letter (fu := fu) hfu hr iM0 (hs (N0 0 0 41)) hAB hst (by omega) (by rw [hu]; exact hsx))
    have mk40 : MK N38 N40 [] := MK.nil (by unfold nn; rw [u40, jm_une_f (by decide), jm_une_k (by decide)])
    have hmkA : MK N0 N40 ([-1 - v34] ++ []) := MK.tr mk38 p38 mk40 pa
    refine wp_ret (Or.inl ⟨rfl, 1, M2, cmp, 0, [], [1000 + s (N0 0 0 41) - 97], by rw [ea, e38]; rfl, run2, i2, k2, hA2, fun x hx => absurd hx List.not_mem_nil, fun _ => rfl, hcmp, fun _ => ⟨by omega, ?_⟩, ⟨by simp, okl.one (Or.inr (Or.inl ⟨by omega, by omega, by rw [show 1000 + s (N0 0 0 41) - 97 - 1000 + 97 = s (N0 0 0 41) by omega]; exact hsx⟩))⟩, ?_⟩)
    · have := lv_any (s (N40 0 0 41))
      omega
    · unfold tot
      simp only [List.map_nil, List.reverse_cons, List.reverse_nil, List.nil_append, List.append_nil, List.map_cons]
      rw [er_let u az, ← h34]
      exact hmkA
theorem sim_fR (fu : Nat) (hfu : 4000 ≤ fu) (s : Int → Int) (hs : ∀ j : Int, jm_in (s j)) (l u r : Int) (hl : l ≤ 60) (hr : 0 ≤ r ∧ r ≤ 16) (hu2 : u = 0 ∨ u = 1) : ∀ d : Nat, SIM fu s l u r (fR fu d) d := by
  intro d
  induction d with
  | zero =>
    intro k N M st cmp dg stk W C hk hd pre
    have := pre.1.2.1
    exfalso; omega
  | succ d ih =>
    intro k N M st cmp dg stk W C hk hd pre
    have hk7 : k = 0 ∨ k = 1 ∨ k = 2 ∨ k = 3 ∨ k = 4 ∨ k = 5 ∨ k = 6 := by omega
    rcases hk7 with rfl | rfl | rfl | rfl | rfl | rfl | rfl
    · exact sim_some fu hfu s hs l u r hl hr (fR fu d) d ih N M pre (by omega)
    · exact sim_every fu hfu s hs l u r hl hr (fR fu d) d ih N M pre (by omega)
    · exact sim_compared fu hfu s hs l u r hl hr (fR fu d) d ih N M pre (by omega)
    · exact sim_total fu hfu s hs l u r hl hr (fR fu d) d ih N M pre (by omega)
    · exact sim_product fu hfu s hs l u r hl hr (fR fu d) d ih N M pre (by omega)
    · exact sim_unary fu hfu s hs l u r hl hr (fR fu d) d ih N M pre (by omega)
    · exact sim_thing fu hfu s hs l u r hl hr hu2 (fR fu d) d (s_fR fu hfu l hl d) ih N M pre (by omega)
