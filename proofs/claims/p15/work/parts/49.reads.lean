/-! a text is read -/
def TRD (f : Nat) (i k : Int) : Prop := f ≠ 35 ∧ f ≠ 36 ∧ f ≠ 62 ∧ (f = 0 → k ≠ 0 ∧ k ≠ 40 ∧ k ≠ 41 ∧ k ≠ 42 ∧ k ≠ 43)
def RO (M : jm_M) (w l2 r : Int) (M1 : jm_M) : Prop := bI bx2 M1 ∧ Kp TRD M M1 ∧ M1 0 0 40 = 0 ∧ (∀ k : Int, k ≠ w → M1 36 0 k = M 36 0 k) ∧ (∀ j : Int, ¬ (100 * w ≤ j ∧ j < 100 * w + 100) → M1 35 0 j = M 35 0 j) ∧ jm_in r ∧ r ≤ 1 ∧ (0 ≤ r → (l2 = 0 → hg (M1 35 0) (M1 36 0 w).toNat (100 * w) 0 = some 1) ∧ (l2 ≠ 0 → ∃ k : Nat, WFt (M1 35 0) k (100 * w) (100 * w + M1 36 0 w)))
theorem x_96 (fu : Nat) {M : jm_M} (i : bI bx2 M) (s : Int) (hs : s = 0 ∨ s = 1) : wp (gX12_reads_96 fu M s) (fun r M1 => M1 = M ∧ jm_in r ∧ r ≤ 1 ∧ (0 ≤ r → s = 1)) := by
  have b41 : 0 ≤ M 0 0 41 ∧ M 0 0 41 ≤ 60 := i 0 0 41
  have w : jm_w ((-1) - M 0 0 41) = (-1) - M 0 0 41 := jm_wid (by omega) (by omega)
  unfold gX12_reads_96
  rw [w]
  exact wp_ite (fun c => wp_ret ⟨rfl, jm_inL (by omega) (by omega), by omega, fun q => by omega⟩) (fun c => wp_ret ⟨rfl, jm_inL (by decide) (by decide), by decide, fun _ => by omega⟩)
theorem x_71 (fu : Nat) {M : jm_M} (i : bI bx2 M) (l3 s : Int) (hs : s = 0 ∨ s = 1) : wp (gX12_reads_71 fu M l3 s) (fun r M1 => M1 = M ∧ jm_in r ∧ r ≤ 1 ∧ (0 ≤ r → s = 1)) := by
  unfold gX12_reads_71
  refine wp_ite (fun c => x_96 fu i s hs) (fun c => ?_)
  refine wp_ite (fun c2 => ?_) (fun c2 => wp_ret ⟨rfl, jm_inL (by decide) (by decide), by decide, fun q => absurd q (by decide)⟩)
  exact wp_ite (fun c3 => x_96 fu i s hs) (fun c3 => wp_ret ⟨rfl, jm_inL (by decide) (by decide), by decide, fun q => absurd q (by decide)⟩)
theorem s_reads (fu : Nat) (hfu : 4000 ≤ fu) (M : jm_M) (iM : bI bx2 M) (w l2 : Int) (hw : 0 ≤ w ∧ w ≤ 16) : wp (fX12_reads fu M w l2) (RO M w l2) := by
  unfold fX12_reads
  have b40 : 0 ≤ M 0 0 40 ∧ M 0 0 40 ≤ 100 := iM 0 0 40
  refine wp_e (bx2_in (iM 0 0 40)) (fun v2 e2 _ => ?_)
  refine wp_si iM (show (0 : Int) ≤ 0 ∧ (0 : Int) ≤ 100 by omega) (fun M4 u4 i4 => ?_)
  have bm := jm_min_f v2 60
  refine wp_e (jm_inL (by omega) (by omega)) (fun v5 e5 _ => ?_)
  refine wp_si i4 (show (0 : Int) ≤ 0 ∧ (0 : Int) ≤ 60 by omega) (fun M7 u7 i7 => ?_)
  refine wp_si i7 (show 0 ≤ w ∧ w ≤ 16 by omega) (fun M8 u8 i8 => ?_)
  refine wp_T ⟨by omega, by omega⟩ ?_
  refine wp_si i8 (show (0 : Int) ≤ 0 ∧ (0 : Int) ≤ 100 by omega) (fun M10 u10 i10 => ?_)
  have z49 : ∀ u0 : Int, 0 ≤ u0 ∧ u0 ≤ 10 → wp (gX12_reads_49 fu M10 l2 v2 v5 u0) (RO M w l2) := by
    intro u0 hu
    unfold gX12_reads_49
    refine wp_si i10 (show 0 ≤ u0 ∧ u0 ≤ 10 by omega) (fun Ms us is => ?_)
    have s41 : Ms 0 0 41 = 0 := by rw [us, jm_une_k (by decide), u10, jm_une_f (by decide), u8, jm_une_k (by decide), u7]; exact jm_ueq
    have s42 : Ms 0 0 42 = w := by rw [us, jm_une_k (by decide), u10, jm_une_f (by decide), u8]; exact jm_ueq
    have s40 : Ms 0 0 40 = 0 := by rw [us, jm_une_k (by decide), u10, jm_une_f (by decide), u8, jm_une_k (by decide), u7, jm_une_k (by decide), u4]; exact jm_ueq
    have sn : nn Ms = 0 := by
      unfold nn
      rw [s42, us, jm_une_f (by decide), u10]
      exact jm_ueq
    have s36 : ∀ k : Int, k ≠ w → Ms 36 0 k = M 36 0 k := fun k q => by rw [us, jm_une_f (by decide), u10, jm_une_k q, u8, jm_une_f (by decide), u7, jm_une_f (by decide), u4]; exact jm_une_f (by decide)
    have s35 : ∀ j : Int, Ms 35 0 j = M 35 0 j := fun j => by rw [us, jm_une_f (by decide), u10, jm_une_f (by decide), u8, jm_une_f (by decide), u7, jm_une_f (by decide), u4]; exact jm_une_f (by decide)
    have ks : Kp TRD M Ms := fun f i k q => by
      rw [us, jm_une (fun z => q.2.2.2 z.1 |>.2.2.2.2 z.2.2), u10, jm_une_f q.2.1, u8, jm_une (fun z => q.2.2.2 z.1 |>.2.2.2.1 z.2.2), u7, jm_une (fun z => q.2.2.2 z.1 |>.2.2.1 z.2.2), u4]
      exact jm_une (fun z => q.2.2.2 z.1 |>.2.1 z.2.2)
    refine wp_ite (fun c => ?_) (fun c => ?_)
    · refine wp_b (s_law fu hfu v5 (by omega) Ms is (by omega) (by omega)) (fun v3 M4' h => ?_)
      obtain ⟨hb, hp, hh⟩ := h
      refine wp_mono (x_71 fu hp.1 v2 v3 hb) (fun r M1 q => ?_)
      obtain ⟨rfl, q2, q3, q4⟩ := q
      have e42 : M1 0 0 42 = w := (hp.2.1 0 0 42 (by unfold TPL; omega)).trans s42
      have en : nn M1 = M1 36 0 w := by unfold nn; rw [e42]
      have bn := nn_box hp.1
      refine ⟨hp.1, ks.tr hp.2.1 (fun f i k z => ⟨z.1, z.2.1, z.2.2.1, fun y => (z.2.2.2 y).2.2.1⟩), (hp.2.1 0 0 40 (by unfold TPL; omega)).trans s40, fun k z => (hp.2.2.2.1 k (by rw [s42]; exact z)).trans (s36 k z), fun j z => (hp.2.2.2.2 j (by rw [s42, sn]; omega)).trans (s35 j), q2, q3, fun z => ⟨fun _ => ?_, fun y => absurd c y⟩⟩
      have p := hh (q4 z)
      unfold PH at p
      rw [sn, s42, en] at p
      rw [show (M1 36 0 w).toNat = (M1 36 0 w - 0).toNat by omega, show 100 * w = 100 * w + 0 by omega]
      exact p
    · refine wp_b (s_lines fu hfu v5 (by omega) Ms is (by omega) (by omega)) (fun v3 M4' h => ?_)
      obtain ⟨hb, hp, hh⟩ := h
      refine wp_mono (x_71 fu hp.1 v2 v3 hb) (fun r M1 q => ?_)
      obtain ⟨rfl, q2, q3, q4⟩ := q
      have e42 : M1 0 0 42 = w := hp.into.trans s42
      have en : nn M1 = M1 36 0 w := by unfold nn; rw [e42]
      have bn := nn_box hp.1
      refine ⟨hp.1, ks.tr hp.2.1 (fun f i k z => ⟨z.1, z.2.1, fun y => (z.2.2.2 y).2.2.1⟩), (hp.2.1 0 0 40 (by unfold TPA; omega)).trans s40, fun k z => (hp.2.2.2.2.2.2.1 k (by rw [s42]; exact z)).trans (s36 k z), fun j z => (hp.2.2.2.2.2.2.2 j (by rw [s42, sn]; omega)).trans (s35 j), q2, q3, fun z => ⟨fun y => absurd y c, fun _ => ?_⟩⟩
      obtain ⟨k, p⟩ := hh (q4 z)
      rw [sn, s42, en] at p
      rw [show 100 * w + 0 = 100 * w by omega] at p
      exact ⟨k, p⟩
  exact wp_ite (fun _ => z49 3 (by omega)) (fun _ => z49 2 (by omega))
/-! a rule -/
def TPN (f : Nat) (i k : Int) : Prop := i = 0 ∧ ((f = 0 ∧ (k = 1 ∨ k = 2 ∨ k = 8 ∨ k = 12 ∨ k = 17 ∨ k = 75)) ∨ f = 4 ∨ f = 5 ∨ f = 19 ∨ f = 22 ∨ f = 26 ∨ f = 31)
def PLO (M : jm_M) (r : Int) (M1 : jm_M) : Prop := bI bx2 M1 ∧ Kp TPN M M1 ∧ M1 0 0 40 = 0 ∧ WF M1 ∧ jm_in r
/-- what stands outside one text stays well formed -/
theorem WF.part1 {M M1 : jm_M} (w : WF M) (x : Int) (n : Int) (hn : n ≤ M 0 0 72) (hx : ∀ k : Int, 0 ≤ k → k < n → 6 + k ≠ x) (e36 : ∀ k : Int, k ≠ x → M1 36 0 k = M 36 0 k) (e35 : ∀ j : Int, ¬ (100 * x ≤ j ∧ j < 100 * x + 100) → M1 35 0 j = M 35 0 j) (i : bI bx2 M) : ∀ k : Int, 0 ≤ k → k < n → hg (M1 35 0) (M1 36 0 (6 + k)).toNat (100 * (6 + k)) 0 = some 1 := by
  intro k h0 h1
  have b : 0 ≤ M 36 0 (6 + k) ∧ M 36 0 (6 + k) ≤ 100 := i 36 0 (6 + k)
  have hk := hx k h0 h1
  rw [e36 _ hk, ← w.1 k h0 (by omega)]
  exact hg_congr _ _ _ (fun j z1 z2 => e35 j (by omega))
theorem WF.part2 {M M1 : jm_M} (w : WF M) (x : Int) (e36 : ∀ k : Int, k ≠ x → M1 36 0 k = M 36 0 k) (e35 : ∀ j : Int, ¬ (100 * x ≤ j ∧ j < 100 * x + 100) → M1 35 0 j = M 35 0 j) (i : bI bx2 M) (c : Int) (h0 : 0 ≤ c) (h6 : c < 6) (hx : c ≠ x) (h1 : M 30 0 c = 1) : ∃ n : Nat, WFt (M1 35 0) n (100 * c) (100 * c + M1 36 0 c) := by
  obtain ⟨n, h⟩ := w.2 c h0 h6 h1
  have b : 0 ≤ M 36 0 c ∧ M 36 0 c ≤ 100 := i 36 0 c
  refine ⟨n, ?_⟩
  rw [e36 c hx]
  exact WFt_congr n _ _ (fun j z1 z2 => (e35 j (by omega)).symm) h
theorem s_fX12_rule (fu : Nat) (hfu : 4000 ≤ fu) (M : jm_M) (iM : bI bx2 M) (wM : WF M) (l1 : Int) (hl1 : jm_in l1) : wp (fX12_rule fu M l1) (PLO M) := by
  unfold fX12_rule
  have n100 : jm_in (-100) := jm_inL (by decide) (by decide)
  refine wp_si iM (bx2_in (show bx2 39 0 0 0 from jm_inL (by decide) (by decide))) (fun Ma ua ia => ?_)
  have ka : Kp (fun f _ k => f = 0 → k ≠ 0) M Ma := fun f i k q => by
    rw [ua]
    exact jm_une (fun z => q z.1 z.2.2)
  have wa : WF Ma := wM.kp ka (fun k => ⟨fun z => absurd z (by decide), fun z => absurd z (by decide), fun z => absurd z (by decide), fun _ => by decide⟩)
  have tn : ∀ (f : Nat) (i k : Int), TPN f i k → (f = 0 → k ≠ 0) := by intro f i k h; unfold TPN at h; omega
  have z40 : ∀ Mb : jm_M, bI bx2 Mb → Kp TPN M Mb → WF Mb → wp (jm_s (jm_u Mb 0 0 40 0) fun M6 => some ((-100), M6)) (PLO M) := by
    intro Mb ib kb wb
    refine wp_si ib (show (0 : Int) ≤ 0 ∧ (0 : Int) ≤ 100 by omega) (fun M6 u6 i6 => ?_)
    have k6 : Kp (fun f _ k => f = 0 → k ≠ 40) Mb M6 := fun f i k q => by
      rw [u6]
      exact jm_une (fun z => q z.1 z.2.2)
    exact wp_ret ⟨i6, kb.tr k6 (by intro f i k h; unfold TPN at h; omega), by rw [u6]; exact jm_ueq, wb.kp k6 (fun k => ⟨fun z => absurd z (by decide), fun z => absurd z (by decide), fun z => absurd z (by decide), fun _ => by decide⟩), n100⟩
  refine wp_bp (s_fX12_isDay Ma ia l1 hl1) (fun v2 h2 => ?_)
  refine wp_ite (fun c => z40 Ma ia (ka.weak tn) wa) (fun c => ?_)
  refine wp_ite (fun c2 => z40 Ma ia (ka.weak tn) wa) (fun c2 => ?_)
  have b72 : 0 ≤ Ma 0 0 72 ∧ Ma 0 0 72 ≤ 10 := ia 0 0 72
  have w6 : jm_w (6 + Ma 0 0 72) = 6 + Ma 0 0 72 := jm_wid (by omega) (by omega)
  rw [w6]
  refine wp_b (s_reads fu hfu Ma ia (6 + Ma 0 0 72) 0 ⟨by omega, by omega⟩) (fun v11 M12 h => ?_)
  obtain ⟨i12, k12, z12, e36, e35, b11, -, ok⟩ := h
  have e72 : M12 0 0 72 = Ma 0 0 72 := k12 0 0 72 (by unfold TRD; omega)
  have e30 : ∀ c : Int, M12 30 0 c = Ma 30 0 c := fun c => k12 30 0 c (by unfold TRD; omega)
  have p1 := wa.part1 (M1 := M12) (6 + Ma 0 0 72) (Ma 0 0 72) (Int.le_refl _) (fun k _ z => by omega) e36 e35 ia
  have p2 : ∀ c : Int, 0 ≤ c → c < 6 → M12 30 0 c = 1 → ∃ n : Nat, WFt (M12 35 0) n (100 * c) (100 * c + M12 36 0 c) := fun c q1 q2 q3 => wa.part2 (M1 := M12) (6 + Ma 0 0 72) e36 e35 ia c q1 q2 (by omega) (by rw [← e30]; exact q3)
  have kn : Kp TPN M M12 := (ka.weak tn).tr k12 (by intro f i k h; unfold TPN at h; unfold TRD; omega)
  refine wp_ite (fun c3 => ?_) (fun c3 => wp_ret ⟨i12, kn, z12, ⟨fun k q1 q2 => p1 k q1 (by omega), p2⟩, b11⟩)
  refine wp_T ⟨by omega, by omega⟩ ?_
  refine wp_si i12 (bx2_in (show bx2 39 0 0 l1 from hl1)) (fun M17 u17 i17 => ?_)
  have e17 : M17 0 0 72 = Ma 0 0 72 := by rw [u17, jm_une_f (by decide)]; exact e72
  have w7 : jm_w (M17 0 0 72 + 1) = M17 0 0 72 + 1 := jm_wid (by omega) (by omega)
  rw [w7]
  refine wp_si i17 (show 0 ≤ M17 0 0 72 + 1 ∧ M17 0 0 72 + 1 ≤ 10 by omega) (fun M19 u19 i19 => ?_)
  have e19 : M19 0 0 72 = Ma 0 0 72 + 1 := by rw [u19, ← e17]; exact jm_ueq
  have f35 : M19 35 0 = M12 35 0 := funext fun j => by rw [u19, jm_une_f (by decide), u17]; exact jm_une_f (by decide)
  have f36 : M19 36 0 = M12 36 0 := funext fun j => by rw [u19, jm_une_f (by decide), u17]; exact jm_une_f (by decide)
  have f30 : M19 30 0 = M12 30 0 := funext fun j => by rw [u19, jm_une_f (by decide), u17]; exact jm_une_f (by decide)
  refine wp_ret ⟨i19, fun f i k q => ?_, ?_, ⟨?_, ?_⟩, bx2_in (i19 0 0 72)⟩
  · rw [u19, jm_une (by unfold TPN at q; omega), u17, jm_une (by unfold TPN at q; omega)]
    exact kn f i k q
  · rw [u19, jm_une_k (by decide), u17, jm_une_f (by decide)]
    exact z12
  · rw [f35, f36, e19]
    intro k q1 q2
    by_cases q : k = Ma 0 0 72
    · rw [q]
      exact (ok c3).1 rfl
    · exact p1 k q1 (by omega)
  · rw [f35, f36, f30]
    exact p2
/-! a plan: read, then laid into the car's own text -/
theorem hg_shift {c d : Int → Int} : ∀ (l : Nat) (a b : Int) (n : Nat), (∀ t : Int, 0 ≤ t → t < l → d (b + t) = c (a + t)) → hg d l b n = hg c l a n := by
  intro l
  induction l with
  | zero => intro a b n _; rfl
  | succ l ih =>
    intro a b n h
    show (match tk (d b) n with | none => none | some m => hg d l (b + 1) m) = (match tk (c a) n with | none => none | some m => hg c l (a + 1) m)
    have h0 := h 0 (by omega) (by omega)
    rw [Int.add_zero, Int.add_zero] at h0
    rw [h0]
    cases tk (c a) n with
    | none => rfl
    | some q => exact ih (a + 1) (b + 1) q (fun t z1 z2 => by
        have := h (1 + t) (by omega) (by omega)
        rw [← Int.add_assoc, ← Int.add_assoc] at this
        exact this)
theorem WFt_shift {c d : Int → Int} (s : Int) : ∀ (k : Nat) (a b : Int), (∀ j : Int, a ≤ j → j < b → d (j + s) = c j) → WFt c k a b → WFt d k (a + s) (b + s) := by
  intro k
  induction k with
  | zero =>
    intro a b _ w
    have w : a = b := w
    show a + s = b + s
    omega
  | succ k ih =>
    intro a b h w
    obtain ⟨y, w1, w2⟩ := w
    have l1 := WFl_lt w1
    have l2 := WFt_le k y b w2
    refine ⟨y + s, ?_, ih y b (fun j z1 z2 => h j (by omega) z2) w2⟩
    obtain ⟨e, x, q1, q2, q3, q4, q5, q6, q7⟩ := w1
    refine ⟨e + s, x + s, by omega, ?_, ?_, by omega, fun j z1 z2 => ?_, ?_, by omega⟩
    · rw [← q2, show (e + s - (a + s)).toNat = (e - a).toNat by omega]
      refine hg_shift _ _ _ _ (fun t z1 z2 => ?_)
      rw [show a + s + t = a + t + s by omega]
      exact h (a + t) (by omega) (by omega)
    · rw [h e q1 (by omega)]; exact q3
    · have := h (j - s) (by omega) (by omega)
      rw [show j - s + s = j by omega] at this
      rw [this]
      exact q5 (j - s) (by omega) (by omega)
    · rw [h x (by omega) (by omega)]; exact q6
def PC (M0 : jm_M) (x l3 : Int) (r : Int) (M1 : jm_M) : Prop := r = l3 ∧ bI bx2 M1 ∧ Kp (fun f _ _ => f ≠ 30 ∧ f ≠ 35 ∧ f ≠ 36) M0 M1 ∧ (∀ k : Int, k ≠ x → M1 36 0 k = M0 36 0 k) ∧ M1 36 0 x = M0 36 0 16 ∧ (∀ k : Int, k ≠ x → M1 30 0 k = M0 30 0 k) ∧ (∀ j : Int, ¬ (100 * x ≤ j ∧ j < 100 * x + 100) → M1 35 0 j = M0 35 0 j) ∧ (∀ t : Int, 0 ≤ t → t < M0 36 0 16 → M1 35 0 (100 * x + t) = M0 35 0 (1600 + t))
theorem s_plan_38 (fu : Nat) (M0 : jm_M) (i0 : bI bx2 M0) (x l3 : Int) (hx : 0 ≤ x ∧ x ≤ 5) : ∀ (n : Nat) (M : jm_M) (l4 : Int), bI bx2 M → Kp (fun f _ _ => f ≠ 35) M0 M → (∀ j : Int, ¬ (100 * x ≤ j ∧ j < 100 * x + 100) → M 35 0 j = M0 35 0 j) → (∀ t : Int, 0 ≤ t → t < l4 → M 35 0 (100 * x + t) = M0 35 0 (1600 + t)) → 0 ≤ l4 → l4 ≤ M0 36 0 16 → M0 36 0 16 - l4 < (n : Int) → wp (fX12_plan_38 fu n M x 16 l3 l4) (PC M0 x l3) := by
  intro n
  induction n with
  | zero => intro M l4 _ _ _ _ _ h1 hm; exfalso; omega
  | succ n ih =>
    intro M l4 iM kM ho hc h0 h1 hm
    show wp (gX12_plan_38 fu (fX12_plan_38 fu n) M x 16 l3 l4) _
    unfold gX12_plan_38
    have b16 : 0 ≤ M0 36 0 16 ∧ M0 36 0 16 ≤ 100 := i0 36 0 16
    have e16 : M 36 0 16 = M0 36 0 16 := kM 36 0 16 (by decide)
    refine wp_T ⟨by omega, by omega⟩ ?_
    refine wp_ite (fun c => ?_) (fun c => ?_)
    · refine wp_T ⟨by omega, by omega⟩ ?_
      refine wp_T ⟨by omega, by omega⟩ ?_
      refine wp_si iM (show 0 ≤ M 36 0 16 ∧ M 36 0 16 ≤ 100 by omega) (fun M7 u7 i7 => ?_)
      refine wp_T ⟨by omega, by omega⟩ ?_
      refine wp_T (by omega) ?_
      refine wp_si i7 (show (0 : Int) ≤ 1 ∧ (1 : Int) ≤ 1 by omega) (fun M9 u9 i9 => ?_)
      refine wp_ret ⟨rfl, i9, fun f i k q => ?_, fun k q => ?_, ?_, fun k q => ?_, fun j q => ?_, fun t z1 z2 => ?_⟩
      · rw [u9, jm_une_f q.1, u7, jm_une_f q.2.2]
        exact kM f i k q.2.1
      · rw [u9, jm_une_f (by decide), u7, jm_une_k q]
        exact kM 36 0 k (show (36 : Nat) ≠ 35 by decide)
      · rw [u9, jm_une_f (by decide), u7, jm_ueq]
        exact e16
      · rw [u9, jm_une_k q, u7, jm_une_f (by decide)]
        exact kM 30 0 k (show (30 : Nat) ≠ 35 by decide)
      · rw [u9, jm_une_f (by decide), u7, jm_une_f (by decide)]
        exact ho j q
      · rw [u9, jm_une_f (by decide), u7, jm_une_f (by decide)]
        exact hc t z1 (by omega)
    · have w1 : jm_w (100 * 16) = 1600 := by decide
      have w2 : jm_w (jm_w (100 * 16) + l4) = 1600 + l4 := by rw [w1]; exact jm_wid (by omega) (by omega)
      have w3 : jm_w (100 * x) = 100 * x := jm_wid (by omega) (by omega)
      have w4 : jm_w (jm_w (100 * x) + l4) = 100 * x + l4 := by rw [w3]; exact jm_wid (by omega) (by omega)
      have w5 : jm_w (l4 + 1) = l4 + 1 := jm_wid (by omega) (by omega)
      rw [w2, w4]
      refine wp_T ⟨by omega, by omega⟩ ?_
      refine wp_T ⟨by omega, by omega⟩ ?_
      refine wp_si iM (iM 35 0 _) (fun M14 u14 i14 => ?_)
      refine wp_e (jm_w_in _) (fun v e _ => ?_)
      rw [e, w5]
      refine ih M14 (l4 + 1) i14 (fun f i k q => ?_) (fun j q => ?_) (fun t z1 z2 => ?_) (by omega) (by omega) (by omega)
      · rw [u14, jm_une_f q]
        exact kM f i k q
      · rw [u14, jm_une_k (by omega)]
        exact ho j q
      · by_cases q : t = l4
        · rw [u14, q, jm_ueq]
          exact ho (1600 + l4) (by omega)
        · rw [u14, jm_une_k (by omega)]
          exact hc t z1 (by omega)
theorem s_fX12_plan (fu : Nat) (hfu : 4000 ≤ fu) (M : jm_M) (iM : bI bx2 M) (wM : WF M) (l1 : Int) (hl1 : jm_in l1) : wp (fX12_plan fu M l1) (PLO M) := by
  unfold fX12_plan
  have n100 : jm_in (-100) := jm_inL (by decide) (by decide)
  refine wp_si iM (bx2_in (show bx2 39 0 0 0 from jm_inL (by decide) (by decide))) (fun Ma ua ia => ?_)
  have ka : Kp (fun f _ k => f = 0 → k ≠ 0) M Ma := fun f i k q => by
    rw [ua]
    exact jm_une (fun z => q z.1 z.2.2)
  have wa : WF Ma := wM.kp ka (fun k => ⟨fun z => absurd z (by decide), fun z => absurd z (by decide), fun z => absurd z (by decide), fun _ => by decide⟩)
  have tn : ∀ (f : Nat) (i k : Int), TPN f i k → (f = 0 → k ≠ 0) := by intro f i k h; unfold TPN at h; omega
  have b17 : 0 ≤ Ma 0 0 17 ∧ Ma 0 0 17 ≤ 6 := ia 0 0 17
  refine wp_bp (s_fX12_isCar Ma ia l1 hl1) (fun v2 h2 => ?_)
  refine wp_ite (fun c => ?_) (fun c => ?_)
  · refine wp_si ia (show (0 : Int) ≤ 0 ∧ (0 : Int) ≤ 100 by omega) (fun M6 u6 i6 => ?_)
    have k6 : Kp (fun f _ k => f = 0 → k ≠ 40) Ma M6 := fun f i k q => by
      rw [u6]
      exact jm_une (fun z => q z.1 z.2.2)
    exact wp_ret ⟨i6, (ka.weak tn).tr k6 (by intro f i k h; unfold TPN at h; omega), by rw [u6]; exact jm_ueq, wa.kp k6 (fun k => ⟨fun z => absurd z (by decide), fun z => absurd z (by decide), fun z => absurd z (by decide), fun _ => by decide⟩), n100⟩
  · refine wp_b (s_reads fu hfu Ma ia 16 1 ⟨by omega, by omega⟩) (fun v7 M8 h => ?_)
    obtain ⟨i8, k8, z8, e36, e35, b7, -, ok⟩ := h
    have e72 : M8 0 0 72 = Ma 0 0 72 := k8 0 0 72 (by unfold TRD; omega)
    have b72 : 0 ≤ Ma 0 0 72 ∧ Ma 0 0 72 ≤ 10 := ia 0 0 72
    have e30 : ∀ c : Int, M8 30 0 c = Ma 30 0 c := fun c => k8 30 0 c (by unfold TRD; omega)
    have w8 : WF M8 := ⟨fun k q1 q2 => wa.part1 (M1 := M8) 16 (Ma 0 0 72) (Int.le_refl _) (fun k _ z => by omega) e36 e35 ia k q1 (by omega), fun c q1 q2 q3 => wa.part2 (M1 := M8) 16 e36 e35 ia c q1 q2 (by omega) (by rw [← e30]; exact q3)⟩
    have kn : Kp TPN M M8 := (ka.weak tn).tr k8 (by intro f i k h; unfold TPN at h; unfold TRD; omega)
    refine wp_ite (fun c2 => wp_ret ⟨i8, kn, z8, w8, b7⟩) (fun c2 => ?_)
    have b16 : 0 ≤ M8 36 0 16 ∧ M8 36 0 16 ≤ 100 := i8 36 0 16
    have hx : 0 ≤ l1 ∧ l1 ≤ 5 := by omega
    refine wp_mono (s_plan_38 fu M8 i8 l1 v7 hx fu M8 0 i8 Kp.rf (fun _ _ => rfl) (fun t z1 z2 => by exfalso; omega) (by omega) (by omega) (by omega)) (fun r M1 h => ?_)
    obtain ⟨hr, i1, k1, f36, g36, f30, f35, fc⟩ := h
    have f72 : M1 0 0 72 = M8 0 0 72 := k1 0 0 72 (by decide)
    refine ⟨i1, kn.tr k1 (by intro f i k h; unfold TPN at h; omega), (k1 0 0 40 (by decide)).trans z8, ⟨fun k q1 q2 => w8.part1 (M1 := M1) l1 (M8 0 0 72) (Int.le_refl _) (fun k z _ => by omega) f36 f35 i8 k q1 (by omega), fun c q1 q2 q3 => ?_⟩, by rw [hr]; exact b7⟩
    by_cases q : c = l1
    · obtain ⟨k, hk⟩ := (ok (by omega)).2 (by decide)
      refine ⟨k, ?_⟩
      rw [q, g36]
      have := WFt_shift (d := M1 35 0) (100 * l1 - 1600) k _ _ (fun j z1 z2 => by
        have := fc (j - 1600) (by omega) (by omega)
        rw [show j + (100 * l1 - 1600) = 100 * l1 + (j - 1600) by omega, this, show 1600 + (j - 1600) = j by omega]) hk
      rw [show 100 * 16 + (100 * l1 - 1600) = 100 * l1 by omega, show 100 * 16 + M8 36 0 16 + (100 * l1 - 1600) = 100 * l1 + M8 36 0 16 by omega] at this
      exact this
    · exact w8.part2 (M1 := M1) l1 f36 f35 i8 c q1 q2 q (by rw [← f30 c q]; exact q3)
