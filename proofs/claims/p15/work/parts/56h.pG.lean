/-! both readings: the acts and the lines of a plan -/
/-- no whole text yet -/
def NF (M : jm_M) : Prop := M 6 0 6 ≠ 7 ∧ M 6 0 6 ≠ 5 ∧ (M 6 0 6 = 4 → M 6 0 5 ≤ 0)
def TNO (fu : Nat) (s : Int → Int) (l r x : Int) (M : jm_M) (y : Int) : Prop := ∃ (n : Nat) (M1 : jm_M), y = x + (n : Int) ∧ RunN fu s n x M M1 ∧ bI bx1 M1 ∧ Kp (TI r) M M1 ∧ ((y = l ∧ NF M1) ∨ (y < l ∧ wp (fX3_takes fu M1 (s y)) YN))
def TOK (fu : Nat) (s : Int → Int) (r st x : Int) (M : jm_M) (y : Int) : Prop := ∃ (n : Nat) (M1 : jm_M) (cmp dg : Int) (C : List Int), y = x + (n : Int) ∧ RunN fu s n x M M1 ∧ bI bx1 M1 ∧ Kp (TI r) M M1 ∧ AB r M1 st cmp dg [] [] C ∧ (C.length : Int) ≤ y
theorem SNO.tno {fu : Nat} {s : Int → Int} {l r : Int} {N M N1 : jm_M} (h : SNO fu s l r N M N1) (hN : N1 0 0 41 ≤ l) : TNO fu s l r (N 0 0 41) M (N1 0 0 41) := by
  obtain ⟨n, M1, q1, q2, q3, q4, q5⟩ := h
  refine ⟨n, M1, q1, q2, q3, q4.toI, ?_⟩
  rcases q5 with z | z
  · exact Or.inl ⟨by omega, by omega, by omega, fun w => by omega⟩
  · exact Or.inr z
theorem TNO.pre {fu : Nat} {s : Int → Int} {l r x y z : Int} {M M1 : jm_M} {n : Nat} (h : TNO fu s l r y M1 z) (e : y = x + (n : Int)) (g : RunN fu s n x M M1) (k : Kp (TI r) M M1) : TNO fu s l r x M z := by
  obtain ⟨m, M2, q1, q2, q3, q4, q5⟩ := h
  exact ⟨n + m, M2, by omega, g.app (by rw [← e]; exact q2), q3, k.trI q4, q5⟩
theorem TOK.pre {fu : Nat} {s : Int → Int} {r st x y z : Int} {M M1 : jm_M} {n : Nat} (h : TOK fu s r st y M1 z) (e : y = x + (n : Int)) (g : RunN fu s n x M M1) (k : Kp (TI r) M M1) : TOK fu s r st x M z := by
  obtain ⟨m, M2, c, d, C, q1, q2, q3, q4, q5, q6⟩ := h
  exact ⟨n + m, M2, c, d, C, by omega, g.app (by rw [← e]; exact q2), q3, k.trI q4, q5, q6⟩
theorem is_ac (c : Int) : (0 < c ∧ 0 ≤ jm_sx 8 c) ↔ (c = 98 ∨ c = 43 ∨ c = 61 ∨ c = 45 ∨ c = 103 ∨ c = 104 ∨ c = 46) := (sx_iff (L := [98, 43, 61, 45, 103, 104, 46]) rfl (by decide)).trans (by simp)
theorem is_bx (c : Int) : (0 < c ∧ 0 ≤ jm_sx 9 c) ↔ (48 ≤ c ∧ c ≤ 51) := (sx_iff (L := [48, 49, 50, 51]) rfl (by decide)).trans (by simp; omega)
theorem g_acts (fu : Nat) (s : Int → Int) (hs : ∀ j : Int, jm_in (s j)) (l u r : Int) (hl : l ≤ 60) (hr : 0 ≤ r ∧ r ≤ 16) : ∀ (n : Nat) (N M : jm_M) (l2 cmp dg : Int) (C : List Int), bI bx2 N → N 0 0 41 ≤ l → nn N ≤ N 0 0 41 + 39 → ((∀ j : Int, 0 ≤ j → j < 100 → N 34 0 j = s j) ∧ N 0 0 43 = u + 2) → bI bx1 M → ((l2 = 0 ∧ AB r M 6 cmp dg [] [] C) ∨ (l2 = 1 ∧ AB r M 7 cmp dg [] [] C)) → (C.length : Int) ≤ N 0 0 41 → l - N 0 0 41 < (n : Int) → wp (fX12_line_57 fu n N l l2) (fun v N1 => (v = 1 ∧ TOK fu s r 7 (N 0 0 41) M (N1 0 0 41) ∧ (N1 0 0 41 < l → ¬ (s (N1 0 0 41) = 98 ∨ s (N1 0 0 41) = 43 ∨ s (N1 0 0 41) = 61 ∨ s (N1 0 0 41) = 45 ∨ s (N1 0 0 41) = 103 ∨ s (N1 0 0 41) = 104 ∨ s (N1 0 0 41) = 46))) ∨ (v = 0 ∧ TNO fu s l r (N 0 0 41) M (N1 0 0 41))) := by
  intro n
  induction n with
  | zero => intro N M l2 cmp dg C _ h1 _ _ _ _ _ hm; exfalso; omega
  | succ n ih =>
    intro N M l2 cmp dg C iN h1 hn hT iM hA hC hm
    show wp (gX12_line_57 fu (fX12_line_57 fu n) N l l2) _
    unfold gX12_line_57
    have b41 : 0 ≤ N 0 0 41 ∧ N 0 0 41 ≤ 60 := iN 0 0 41
    have eT : N 34 0 (N 0 0 41) = s (N 0 0 41) := hT.1 _ (by omega) (by omega)
    obtain ⟨st, hst, hAB⟩ : ∃ st : Int, (st = 6 ∨ st = 7) ∧ AB r M st cmp dg [] [] C := by
      rcases hA with z | z
      · exact ⟨6, Or.inl rfl, z.2⟩
      · exact ⟨7, Or.inr rfl, z.2⟩
    refine wp_bp (x_isOf2 iN l 8 hl) (fun v1 h8 => ?_)
    rw [eT] at h8
    have hac := is_ac (s (N 0 0 41))
    refine wp_ite (fun c => ?_) (fun c => ?_)
    · have hna : N 0 0 41 < l → ¬ (s (N 0 0 41) = 98 ∨ s (N 0 0 41) = 43 ∨ s (N 0 0 41) = 61 ∨ s (N 0 0 41) = 45 ∨ s (N 0 0 41) = 103 ∨ s (N 0 0 41) = 104 ∨ s (N 0 0 41) = 46) := fun hlt w => by
        rcases h8 with z | z
        · omega
        · exact z.2 ⟨hlt, hac.mpr w⟩
      refine wp_b (x_marks2 (l := l) iN (-302) (jm_inL (by decide) (by decide)) h1 (by omega)) (fun v5 N6 h6 => ?_)
      obtain ⟨-, p6, e6, -, -, -⟩ := h6
      refine wp_T (by omega) (wp_ret ?_)
      rw [e6]
      rcases hA with ⟨z, zA⟩ | ⟨z, zA⟩
      · refine Or.inr ⟨z, 0, M, by omega, rfl, iM, Kp.rf, ?_⟩
        by_cases hlt : N 0 0 41 < l
        · exact Or.inr ⟨hlt, y_actn zA (Or.inl rfl) (fun w => hna hlt (by omega)) (fun _ => rfl)⟩
        · have := zA.1.1
          exact Or.inl ⟨by omega, by omega, by omega, fun w => by omega⟩
      · exact Or.inl ⟨z, ⟨0, M, cmp, dg, C, by omega, rfl, iM, Kp.rf, zA, hC⟩, hna⟩
    · obtain ⟨hlt, hcv⟩ : N 0 0 41 < l ∧ (s (N 0 0 41) = 98 ∨ s (N 0 0 41) = 43 ∨ s (N 0 0 41) = 61 ∨ s (N 0 0 41) = 45 ∨ s (N 0 0 41) = 103 ∨ s (N 0 0 41) = 104 ∨ s (N 0 0 41) = 46) := by
        rcases h8 with z | z
        · exact ⟨z.2.1, hac.mp z.2.2⟩
        · exact absurd z.1 c
      refine wp_T ⟨by omega, by omega⟩ ?_
      refine wp_e (iN 34 0 _) (fun v10 e10 _ => ?_)
      rw [eT] at e10
      obtain ⟨pa, ha, ea⟩ := PE_at iN hl hlt
      refine wp_si iN (by have := pa.1 0 0 41; rw [ea] at this; rw [jm_wid (by omega) (by omega)]; exact this) (fun N13 u13 i13 => ?_)
      rw [← u13] at pa ha ea
      have n13 : nn N13 = nn N := by
        unfold nn
        rw [u13, jm_une_f (by decide), jm_une_k (by decide)]
      have hT13 := pa.tape hT
      have b13 : 0 ≤ N13 0 0 41 ∧ N13 0 0 41 ≤ 60 := i13 0 0 41
      have eT13 : N13 34 0 (N13 0 0 41) = s (N13 0 0 41) := hT13.1 _ (by omega) (by omega)
      refine wp_ite (fun c2 => ?_) (fun c2 => ?_)
      · obtain ⟨M2, run2, i2, k2, hA2⟩ := YL.run (y_actb (fu := fu) iM hAB hst (s := s (N 0 0 41)) (by omega))
        refine wp_bp (x_isOf2 i13 l 9 hl) (fun v15 h15 => ?_)
        rw [eT13] at h15
        have hbx := is_bx (s (N13 0 0 41))
        refine wp_ite (fun c3 => wp_ret (Or.inr ⟨rfl, 1, M2, by omega, run2, i2, k2, ?_⟩)) (fun c3 => ?_)
        · by_cases hlt2 : N13 0 0 41 < l
          · refine Or.inr ⟨hlt2, y_boxn hA2 (fun w => ?_)⟩
            rcases h15 with z | z
            · omega
            · exact z.2 ⟨hlt2, hbx.mpr w⟩
          · have := hA2.1.1
            exact Or.inl ⟨by omega, by omega, by omega, fun w => by omega⟩
        obtain ⟨hlt2, hcv2⟩ : N13 0 0 41 < l ∧ (48 ≤ s (N13 0 0 41) ∧ s (N13 0 0 41) ≤ 51) := by
          rcases h15 with z | z
          · exact ⟨z.2.1, hbx.mp z.2.2⟩
          · exact absurd z.1 c3
        refine wp_T ⟨by omega, by omega⟩ ?_
        have wm : jm_w (jm_w (1000 + N13 34 0 (N13 0 0 41)) - 48) = 1000 + s (N13 0 0 41) - 48 := by
          rw [eT13, jm_wid (x := 1000 + s (N13 0 0 41)) (by omega) (by omega)]
          exact jm_wid (by omega) (by omega)
        rw [wm]
        refine wp_b (x_marks2 (l := l) i13 _ (jm_inL (by omega) (by omega)) (by omega) (by omega)) (fun v22 N23 h23 => ?_)
        obtain ⟨-, p23, e23, -, n23, -⟩ := h23
        have i23 := p23.1
        obtain ⟨pb, hb, eb⟩ := PE_at i23 hl (by omega)
        refine wp_si i23 (by have := pb.1 0 0 41; rw [eb] at this; rw [jm_wid (by omega) (by omega)]; exact this) (fun N25 u25 i25 => ?_)
        rw [← u25] at pb hb eb
        have n25 : nn N25 = nn N23 := by
          unfold nn
          rw [u25, jm_une_f (by decide), jm_une_k (by decide)]
        obtain ⟨M3, run3, i3, k3, hA3⟩ := YL.run (y_box (fu := fu) hr i2 hA2 (s := s (N13 0 0 41)) hcv2)
        have hrun := run2.app (show RunN fu s 1 (N 0 0 41 + ((1 : Nat) : Int)) M2 M3 by rw [show N 0 0 41 + ((1 : Nat) : Int) = N13 0 0 41 by omega]; exact run3)
        refine wp_mono (ih N25 M3 1 cmp dg C i25 (by omega) (by omega) (pb.tape (p23.tape hT13)) i3 (Or.inr ⟨rfl, hA3⟩) (by omega) (by omega)) (fun v N1 q => ?_)
        rcases q with ⟨z1, z2, z3⟩ | ⟨z1, z2⟩
        · exact Or.inl ⟨z1, z2.pre (n := 1 + 1) (by omega) hrun (k2.trI k3), z3⟩
        · exact Or.inr ⟨z1, z2.pre (n := 1 + 1) (by omega) hrun (k2.trI k3)⟩
      · obtain ⟨M2, run2, i2, k2, hA2⟩ := YL.run (y_act1 (fu := fu) hr iM hAB hst (s := s (N 0 0 41)) (by omega))
        refine wp_b (x_marks2 (l := l) i13 v10 (jm_inL (by omega) (by omega)) (by omega) (by omega)) (fun v26 N27 h27 => ?_)
        obtain ⟨-, p27, e27, -, n27, -⟩ := h27
        refine wp_mono (ih N27 M2 1 cmp dg C p27.1 (by omega) (by omega) (p27.tape hT13) i2 (Or.inr ⟨rfl, hA2⟩) (by omega) (by omega)) (fun v N1 q => ?_)
        rcases q with ⟨z1, z2, z3⟩ | ⟨z1, z2⟩
        · exact Or.inl ⟨z1, z2.pre (n := 1) (by omega) run2 k2, z3⟩
        · exact Or.inr ⟨z1, z2.pre (n := 1) (by omega) run2 k2⟩
