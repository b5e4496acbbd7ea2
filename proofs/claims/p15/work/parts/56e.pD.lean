/-! compared, unary, thing -/
theorem sim_compared (fu : Nat) (hfu : 4000 ≤ fu) (s : Int → Int) (hs : ∀ j : Int, jm_in (s j)) (l u r : Int) (hl : l ≤ 60) (hr : 0 ≤ r ∧ r ≤ 16) (rc : Nat → jm_M → Int → jm_R) (d : Int) (hS : SIM fu s l u r rc d) (N0 M0 : jm_M) {st cmp dg : Int} {stk W C : List Int} (pre : PRE s l u r 2 N0 M0 st cmp dg stk W C) (hd : 7 * (l - N0 0 0 41) + 7 - 2 ≤ d + 1) : wp (gX12_compared rc N0 l) (SR fu s l u r 2 cmp stk W C N0 M0) := by
  unfold gX12_compared
  obtain ⟨⟨iN0, hN0l, hN0n⟩, hT0, ⟨iM0, hu, hAB⟩, ⟨hst, hcmp, hk2⟩, hWt, h58, hCW, hSt, -⟩ := id pre
  have b041 : 0 ≤ N0 0 0 41 ∧ N0 0 0 41 ≤ 60 := iN0 0 0 41
  refine wp_b (hS 3 N0 M0 st cmp dg stk W C (by decide) (by omega) (pre.up 3 (by decide) (by decide) (by decide))) (fun v1 N h => ?_)
  have hPO := h.1
  have iN : bI bx2 N := hPO.2.1.1
  have b41 : 0 ≤ N 0 0 41 ∧ N 0 0 41 ≤ 60 := iN 0 0 41
  have hb := hPO.1
  have a1 := hPO.2.1.2.2.1
  have a1l := hPO.2.1.2.2.2.1
  have n2 := hPO.2.1.2.2.2.2.2.1
  refine wp_ite (fun c => wp_T (by omega) (wp_ret ⟨hPO, Or.inr ⟨c, ?_⟩⟩)) (fun c => ?_)
  · rcases h.2 with z | z
    · omega
    · exact z.2
  have hl2 : v1 = 1 := by omega
  have hok : SOK fu s l u r 3 cmp stk W C N0 M0 N := by
    rcases h.2 with z | z
    · exact z.2
    · omega
  obtain ⟨m, M1, cmp1, dg1, P, Er, e41, hrun, i1, k1, hA1, hPl, hc3, hc01, hnx, hlen, hmk⟩ := hok
  have hc1 : cmp1 = 0 := (hc3 (by decide)).trans (hk2 (by decide))
  obtain ⟨lu1, lu7⟩ := ltx_kp k1
  have hT := hPO.2.1.tape hT0
  have hlv := lv_is (s (N 0 0 41))
  obtain ⟨vk0, vk1, vk2, vk3, vk4, vk5, vk6⟩ := lvk_val
  have eT : N 34 0 (N 0 0 41) = s (N 0 0 41) := hT.1 _ (by omega) (by omega)
  refine wp_bp (x_isOf2 iN l 7 hl) (fun v2 h2 => ?_)
  rw [eT] at h2
  have hpm := is_cp (s (N 0 0 41))
  have hx : v2 ≠ 0 → N 0 0 41 < l ∧ (s (N 0 0 41) = 60 ∨ s (N 0 0 41) = 62 ∨ s (N 0 0 41) = 61) := fun q => by
    rcases h2 with z | z
    · exact ⟨z.2.1, hpm.mp z.2.2⟩
    · exact absurd z.1 q
  have hx0 : v2 = 0 → N 0 0 41 < l → ¬ (s (N 0 0 41) = 60 ∨ s (N 0 0 41) = 62 ∨ s (N 0 0 41) = 61) := fun q hlt w => by
    rcases h2 with z | z
    · omega
    · exact z.2 ⟨hlt, hpm.mpr w⟩
  refine wp_ite (fun c2 => wp_T (by omega) (wp_ret ⟨hPO, Or.inl ⟨hl2, m, M1, cmp1, dg1, P, Er, e41, hrun, i1, k1, hA1, fun x hx => ?_, fun q => absurd q (by decide), hc01, fun hlt => ⟨(hnx hlt).1, ?_⟩, hlen, hmk⟩⟩)) (fun c2 => ?_)
  · have := hPl x hx
    omega
  · have z := (hnx hlt).2
    have z2 := hx0 c2 hlt
    rw [vk3] at z
    rw [vk2]
    omega
  obtain ⟨hlt, hsx⟩ := hx c2
  have hlvs : lv (s (N 0 0 41)) = 3 := by omega
  obtain ⟨pa, ha, ea⟩ := PE_at iN hl hlt
  refine wp_T ⟨by omega, by omega⟩ ?_
  refine wp_e (iN 34 0 _) (fun v9 e9 _ => ?_)
  rw [eT] at e9
  refine wp_si iN (by have := pa.1 0 0 41; rw [ea] at this; rw [jm_wid (by omega) (by omega)]; exact this) (fun N7 u7 i7 => ?_)
  rw [← u7] at pa ha ea
  have n7 := pa.2.2.2.2.2.1
  have lenA : (P ++ W).length = P.length + W.length := List.length_append
  have hmi : (m : Int) = N 0 0 41 - N0 0 0 41 := by omega
  obtain ⟨M2, run2, i2, k2, hA2⟩ := YT.run (y_join hfu hr i1 (hs (N 0 0 41)) hA1 (by omega) (fun q => hc1) (fun x V e => by have := hWt (by decide) x V e; omega) (fun x hx => by have := hPl x hx; omega) (by simp only [List.length_append]; omega) (by omega))
  rw [if_pos hlvs] at hA2
  have hrun2 := hrun.app (show RunN fu s 1 (N0 0 0 41 + (m : Int)) M1 M2 by rw [← e41]; exact run2)
  have kk2 := k1.trS k2
  obtain ⟨lu2, -⟩ := ltx_kp kk2
  refine wp_b (hS 3 N7 M2 1 1 0 stk (s (N 0 0 41) :: W) ((P.map (fun x => 2000 + x)).reverse ++ (Er ++ C)) (by decide) (by omega) ⟨⟨i7, by omega, by omega⟩, pa.tape hT, ⟨i2, by rw [lu2]; exact hu, hA2⟩, ⟨Or.inr rfl, Or.inr rfl, fun q => absurd q (by decide)⟩, fun _ x V e => by cases e; omega, fun q => absurd q (by decide), by simp only [List.length_append, List.length_reverse, List.length_map, List.length_cons]; omega, by omega, fun q => absurd q (by decide)⟩) (fun v8 N9 h8 => ?_)
  have p9 : PE l (-1) N N9 := (pa.tr h8.1.2.1).slack (by omega)
  have a9 := p9.2.2.1
  have a9l := p9.2.2.2.1
  have n9 := p9.2.2.2.2.2.1
  have hb8 := h8.1.1
  refine wp_ite (fun c3 => wp_T (by omega) (wp_ret ⟨⟨hb8, (hPO.2.1.tr p9).slack (by omega), fun q => absurd c3 (by omega)⟩, Or.inr ⟨c3, ?_⟩⟩)) (fun c3 => ?_)
  · rcases h8.2 with q | ⟨-, n3, M3, e3, r3, i3, k3, z3⟩
    · omega
    · exact ⟨m + 1 + n3, M3, by rw [e3, ea]; omega, hrun2.app (by rw [show N0 0 0 41 + ((m + 1 : Nat) : Int) = N7 0 0 41 by omega]; exact r3), i3, kk2.trS k3, z3⟩
  rcases h8.2 with ⟨hv8, n3, M3, cmp3, dg3, P3, Er3, e3, r3, i3, k3, hA3, hPl3, hc33, hc013, hnx3, hlen3, hmk3⟩ | q
  case inr => omega
  have hp9 : PH N N9 1 2 := PH.tr pa h8.1.2.1 (ha 1) ((h8.1.2.2 (by omega)).up 1)
  refine wp_bp (x_act v9 ⟨by omega, by omega⟩) (fun v12 h12 => ?_)
  refine wp_b (x_marks2 (l := l) h8.1.2.1.1 v12 (jm_inL (by omega) (by omega)) a9l (by omega)) (fun v15 N16 h15 => ?_)
  obtain ⟨-, p16, e16, mk16, -, t16⟩ := h15
  have hp16 : PH N N16 1 1 := PH.tr p9 p16 hp9 (t16 2 1 (tk_bin (by omega) (by omega) (by omega)))
  have mk7 : MK N N7 [] := MK.nil (by unfold nn; rw [u7, jm_une_f (by decide), jm_une_k (by decide)])
  have hmkA : MK N0 N16 ((((tot Er P).map (er u) ++ []) ++ (tot Er3 P3).map (er u)) ++ [v12]) := MK.tr (MK.tr (MK.tr hmk hPO.2.1 mk7 pa) (hPO.2.1.tr pa) hmk3 h8.1.2.1) ((hPO.2.1.tr pa).tr h8.1.2.1) mk16 p16
  have htot : ((((tot Er P).map (er u) ++ []) ++ (tot Er3 P3).map (er u)) ++ [v12]) = (tot (Er3 ++ ((P.map (fun x => 2000 + x)).reverse ++ Er)) (P3 ++ [s (N 0 0 41)])).map (er u) := by
    unfold tot
    simp only [List.map_append, List.reverse_append, List.reverse_reverse, List.append_assoc, List.append_nil, List.map_cons, List.map_nil, List.nil_append]
    rw [er_op u (by omega), h12, e9]
  rw [htot] at hmkA
  refine wp_T (by omega) (wp_ret ⟨⟨by omega, (hPO.2.1.tr (p9.tr p16)).slack (by omega), fun _ => PH.tr hPO.2.1 (p9.tr p16) (hPO.2.2 hl2) hp16⟩, Or.inl ⟨hv8, m + 1 + n3, M3, cmp3, dg3, P3 ++ [s (N 0 0 41)], Er3 ++ ((P.map (fun x => 2000 + x)).reverse ++ Er), by rw [e16, e3, ea]; omega, hrun2.app (by rw [show N0 0 0 41 + ((m + 1 : Nat) : Int) = N7 0 0 41 by omega]; exact r3), i3, kk2.trS k3, ?_, fun x hx => ?_, fun q => absurd q (by decide), hc013, fun hlt3 => ⟨?_, ?_⟩, ?_, hmkA⟩⟩)
  · have := hA3
    simp only [List.append_assoc, List.cons_append, List.nil_append] at this ⊢
    exact this
  · rcases List.mem_append.mp hx with q | q
    · have := hPl3 x q
      omega
    · have q : x = s (N 0 0 41) := by simpa using q
      rw [q]
      omega
  · rw [e16] at hlt3 ⊢
    exact (hnx3 hlt3).1
  · rw [e16] at hlt3 ⊢
    have z := (hnx3 hlt3).2
    have z3 := hc33 (by decide)
    have hq := lv_any (s (N9 0 0 41))
    rw [vk3] at z
    rw [vk2]
    omega
  · refine ⟨?_, hlen3.2.app ((okl.ops (fun x hx => by have := hPl x hx; omega)).app hlen.2)⟩
    simp only [List.length_append, List.length_reverse, List.length_map, List.length_cons, List.length_nil]
    omega
theorem sim_unary (fu : Nat) (hfu : 4000 ≤ fu) (s : Int → Int) (hs : ∀ j : Int, jm_in (s j)) (l u r : Int) (hl : l ≤ 60) (hr : 0 ≤ r ∧ r ≤ 16) (rc : Nat → jm_M → Int → jm_R) (d : Int) (hS : SIM fu s l u r rc d) (N0 M0 : jm_M) {st cmp dg : Int} {stk W C : List Int} (pre : PRE s l u r 5 N0 M0 st cmp dg stk W C) (hd : 7 * (l - N0 0 0 41) + 7 - 5 ≤ d + 1) : wp (gX12_unary rc N0 l) (SR fu s l u r 5 cmp stk W C N0 M0) := by
  unfold gX12_unary
  obtain ⟨⟨iN0, hN0l, hN0n⟩, hT0, ⟨iM0, hu, hAB⟩, ⟨hst, hcmp, hk2⟩, hWt, h58, hCW, hSt, -⟩ := id pre
  have b041 : 0 ≤ N0 0 0 41 ∧ N0 0 0 41 ≤ 60 := iN0 0 0 41
  have eT : N0 34 0 (N0 0 0 41) = s (N0 0 0 41) := hT0.1 _ (by omega) (by omega)
  obtain ⟨vk0, vk1, vk2, vk3, vk4, vk5, vk6⟩ := lvk_val
  refine wp_bp (x_isOf2 iN0 l 4 hl) (fun v1 h1 => ?_)
  rw [eT] at h1
  have hun := is_un (s (N0 0 0 41))
  refine wp_ite (fun c => ?_) (fun c => ?_)
  · have hno : N0 0 0 41 < l → s (N0 0 0 41) ≠ 33 ∧ s (N0 0 0 41) ≠ 45 := fun q => by
      rcases h1 with z | z
      · omega
      · have := z.2
        refine ⟨fun w => this ⟨q, hun.mpr (Or.inl w)⟩, fun w => this ⟨q, hun.mpr (Or.inr w)⟩⟩
    refine wp_b (hS 6 N0 M0 st cmp dg stk W C (by decide) (by omega) ⟨⟨iN0, hN0l, hN0n⟩, hT0, ⟨iM0, hu, hAB⟩, ⟨hst, hcmp, fun q => absurd q (by decide)⟩, fun q => absurd q (by decide), h58, hCW, hSt, fun _ => hno⟩) (fun v5 N5 h5 => ?_)
    refine wp_T h5.1.1 (wp_ret ⟨h5.1, ?_⟩)
    rcases h5.2 with z | z
    · refine Or.inl ⟨z.1, ?_⟩
      obtain ⟨n, M1, cmp1, dg1, P, Er, q1, q2, q3, q4, q5, q6, q7, q8, q9, q10, q11⟩ := z.2
      exact ⟨n, M1, cmp1, dg1, P, Er, q1, q2, q3, q4, q5, fun x hx => by have := q6 x hx; omega, fun _ => q7 (by decide), q8, fun hq => ⟨(q9 hq).1, by have := (q9 hq).2; omega⟩, q10, q11⟩
    · exact Or.inr z
  · obtain ⟨hlt, hsx⟩ : N0 0 0 41 < l ∧ (s (N0 0 0 41) = 33 ∨ s (N0 0 0 41) = 45) := by
      rcases h1 with z | z
      · exact ⟨z.2.1, hun.mp z.2.2⟩
      · exact absurd z.1 c
    refine wp_T ⟨by omega, by omega⟩ ?_
    refine wp_e (iN0 34 0 _) (fun v11 e11 _ => ?_)
    rw [eT] at e11
    obtain ⟨pa, ha, ea⟩ := PE_at iN0 hl hlt
    refine wp_si iN0 (by have := pa.1 0 0 41; rw [ea] at this; rw [jm_wid (by omega) (by omega)]; exact this) (fun N7 u7 i7 => ?_)
    rw [← u7] at pa ha ea
    have n7 := pa.2.2.2.2.2.1
    have hnl : jm_sx (ltx M0) (s (N0 0 0 41)) < 0 := by
      have := sx_az (ltx M0) (s (N0 0 0 41)) (by unfold ltx; split; exact Or.inr rfl; exact Or.inl rfl)
      omega
    obtain ⟨M2, run2, i2, k2, hA2⟩ := YT.run (y_unary hfu hr iM0 (hs (N0 0 0 41)) hAB hst (by omega) hsx hnl)
    obtain ⟨lu2, -⟩ := ltx_kp k2
    obtain ⟨op, hop⟩ : ∃ op : Int, op = (if s (N0 0 0 41) = 45 then 126 else s (N0 0 0 41)) := ⟨_, rfl⟩
    rw [← hop] at hA2
    have hopl : lv op = 6 ∧ 0 ≤ op ∧ op ≤ 255 := by
      rcases hsx with e | e
      · rw [e, if_neg (by decide)] at hop; rw [hop]; decide
      · rw [e, if_pos rfl] at hop; rw [hop]; decide
    refine wp_b (hS 5 N7 M2 1 cmp dg stk (op :: W) C (by decide) (by omega) ⟨⟨i7, by omega, by omega⟩, pa.tape hT0, ⟨i2, by rw [lu2]; exact hu, hA2⟩, ⟨Or.inr rfl, hcmp, fun q => absurd q (by decide)⟩, fun q => absurd q (by decide), fun q => absurd q (by decide), by simp only [List.length_cons]; omega, by omega, fun q => absurd q (by decide)⟩) (fun v8 N9 h8 => ?_)
    have p9 : PE l (-1) N0 N9 := (pa.tr h8.1.2.1).slack (by omega)
    have a9 := p9.2.2.1
    have a9l := p9.2.2.2.1
    have n9 := p9.2.2.2.2.2.1
    have hb8 := h8.1.1
    refine wp_ite (fun c3 => wp_ret ⟨⟨Or.inl rfl, p9.slack (by omega), fun q => absurd q (by decide)⟩, Or.inr ⟨rfl, ?_⟩⟩) (fun c3 => ?_)
    · rcases h8.2 with q | ⟨-, n3, M3, e3, r3, i3, k3, z3⟩
      · omega
      · exact ⟨1 + n3, M3, by rw [e3, ea]; omega, run2.app (by rw [show N0 0 0 41 + ((1 : Nat) : Int) = N7 0 0 41 by omega]; exact r3), i3, k2.trS k3, z3⟩
    rcases h8.2 with ⟨hv8, n3, M3, cmp3, dg3, P3, Er3, e3, r3, i3, k3, hA3, hPl3, hc33, hc013, hnx3, hlen3, hmk3⟩ | q
    case inr => omega
    have hp16 : PH N0 N9 0 1 := PH.tr pa h8.1.2.1 (ha 0) (h8.1.2.2 (by omega))
    have mk7 : MK N0 N7 [] := MK.nil (by unfold nn; rw [u7, jm_une_f (by decide), jm_une_k (by decide)])
    have fin : ∀ (v20 v23 : Int) (N16 : jm_M), v20 = op - 200 → PE l 1 N9 N16 → N16 0 0 41 = N9 0 0 41 → MK N9 N16 [v20] → (∀ a b : Nat, tk v20 a = some b → PH N9 N16 a b) → SR fu s l u r 5 cmp stk W C N0 M0 1 N16 := by
      intro v20 v23 N16 h20 p16 e16 mk16 t16
      have hmkA : MK N0 N16 (([] ++ (tot Er3 P3).map (er u)) ++ [v20]) := MK.tr (MK.tr mk7 pa hmk3 h8.1.2.1) (pa.tr h8.1.2.1) mk16 p16
      have htot : (([] ++ (tot Er3 P3).map (er u)) ++ [v20]) = (tot Er3 (P3 ++ [op])).map (er u) := by
        unfold tot
        simp only [List.map_append, List.append_assoc, List.map_cons, List.map_nil, List.nil_append]
        rw [er_op u (by omega), h20]
      rw [htot] at hmkA
      have tk1 : tk v20 1 = some 1 := by
        rcases hsx with e | e
        · rw [e, if_neg (by decide)] at hop; rw [h20, hop]; decide
        · rw [e, if_pos rfl] at hop; rw [h20, hop]; decide
      refine ⟨⟨Or.inr rfl, (p9.tr p16).slack (by omega), fun _ => PH.tr p9 p16 hp16 (t16 1 1 tk1)⟩, Or.inl ⟨rfl, 1 + n3, M3, cmp3, dg3, P3 ++ [op], Er3, by rw [e16, e3, ea]; omega, run2.app (by rw [show N0 0 0 41 + ((1 : Nat) : Int) = N7 0 0 41 by omega]; exact r3), i3, k2.trS k3, ?_, fun x hx => ?_, hc33, hc013, by rw [e16]; exact hnx3, ?_, hmkA⟩⟩
      · have := hA3
        simp only [List.append_assoc, List.cons_append, List.nil_append] at this ⊢
        exact this
      · rcases List.mem_append.mp hx with q | q
        · exact hPl3 x q
        · have q : x = op := by simpa using q
          rw [q]
          omega
      · refine ⟨?_, hlen3.2⟩
        simp only [List.length_append, List.length_cons, List.length_nil]
        omega
    refine wp_ite (fun c4 => ?_) (fun c4 => ?_)
    · refine wp_bp (x_act 33 ⟨by decide, by decide⟩) (fun v20 h20 => ?_)
      refine wp_b (x_marks2 (l := l) h8.1.2.1.1 v20 (jm_inL (by omega) (by omega)) a9l (by omega)) (fun v23 N16 h15 => ?_)
      obtain ⟨-, p16, e16, mk16, -, t16⟩ := h15
      exact wp_ret (fin v20 v23 N16 (by rw [h20, hop, if_neg (by omega)]; omega) p16 e16 mk16 t16)
    · refine wp_bp (x_act 126 ⟨by decide, by decide⟩) (fun v20 h20 => ?_)
      refine wp_b (x_marks2 (l := l) h8.1.2.1.1 v20 (jm_inL (by omega) (by omega)) a9l (by omega)) (fun v23 N16 h15 => ?_)
      obtain ⟨-, p16, e16, mk16, -, t16⟩ := h15
      exact wp_ret (fin v20 v23 N16 (by rw [h20, hop, if_pos (by omega)]) p16 e16 mk16 t16)
