/-! both readings side by side -/
theorem wp_and {x : jm_R} {P Q : Int → jm_M → Prop} (h : wp x P) (g : wp x Q) : wp x (fun v M => P v M ∧ Q v M) := by
  obtain ⟨r, M, e, p⟩ := h
  obtain ⟨r2, M2, e2, q⟩ := g
  rw [e] at e2
  obtain ⟨rfl, rfl⟩ := Prod.mk.inj (Option.some.inj e2)
  exact ⟨r, M, e, p, q⟩
theorem wp_eq {x : jm_R} {P : Int → jm_M → Prop} (h : wp x P) : ∃ (v : Int) (M : jm_M), x = some (v, M) ∧ P v M := h
/-- signs a .. a + n - 1 are taken, one behind the other -/
def RunN (fu : Nat) (s : Int → Int) : Nat → Int → jm_M → jm_M → Prop
  | 0, _, M, M1 => M1 = M
  | n + 1, a, M, M1 => ∃ M2 : jm_M, fX3_takes fu M (s a) = some (1, M2) ∧ RunN fu s n (a + 1) M2 M1
theorem RunN.app {fu : Nat} {s : Int → Int} : ∀ {n m : Nat} {a : Int} {M M1 M2 : jm_M}, RunN fu s n a M M1 → RunN fu s m (a + n) M1 M2 → RunN fu s (n + m) a M M2 := by
  intro n
  induction n with
  | zero =>
    intro m a M M1 M2 h g
    have h : M1 = M := h
    subst h
    rw [Nat.zero_add]
    rw [show a + ((0 : Nat) : Int) = a by omega] at g
    exact g
  | succ n ih =>
    intro m a M M1 M2 h g
    obtain ⟨M3, e, h⟩ := h
    rw [show n + 1 + m = (n + m) + 1 by omega]
    exact ⟨M3, e, ih h (by rw [show a + 1 + (n : Int) = a + ((n + 1 : Nat) : Int) by omega]; exact g)⟩
theorem RunN.one {fu : Nat} {s : Int → Int} {a : Int} {M M1 : jm_M} (h : fX3_takes fu M (s a) = some (1, M1)) : RunN fu s 1 a M M1 := ⟨M1, h, rfl⟩
theorem YT.run {fu : Nat} {s : Int → Int} {a r : Int} {M : jm_M} {st cmp dg : Int} {stk W C : List Int} (h : wp (fX3_takes fu M (s a)) (YT r M st cmp dg stk W C)) : ∃ M1 : jm_M, RunN fu s 1 a M M1 ∧ bI bx1 M1 ∧ Kp (TS r) M M1 ∧ AB r M1 st cmp dg stk W C := by
  obtain ⟨v, M1, e, rfl, q1, q2, q3⟩ := h
  exact ⟨M1, RunN.one e, q1, q2, q3⟩
/-- marks in a row of cells -/
def FS (f : Int → Int) : Int → List Int → Prop
  | _, [] => True
  | a, x :: l => f a = x ∧ FS f (a + 1) l
theorem FS.congr {f g : Int → Int} : ∀ {l : List Int} {a : Int}, FS f a l → (∀ j : Int, a ≤ j → j < a + (l.length : Int) → g j = f j) → FS g a l := by
  intro l
  induction l with
  | nil => intro a _ _; trivial
  | cons x l ih =>
    intro a h hg
    simp only [List.length_cons] at hg
    exact ⟨(hg a (by omega) (by omega)).trans h.1, ih h.2 (fun j h1 h2 => hg j (by omega) (by omega))⟩
theorem FS.app {f : Int → Int} : ∀ {l l2 : List Int} {a : Int}, FS f a l → FS f (a + (l.length : Int)) l2 → FS f a (l ++ l2) := by
  intro l
  induction l with
  | nil =>
    intro l2 a _ g
    rw [show a + ((([] : List Int).length : Nat) : Int) = a by simp] at g
    exact g
  | cons x l ih =>
    intro l2 a h g
    simp only [List.length_cons] at g
    exact ⟨h.1, ih h.2 (by rw [show a + 1 + (l.length : Int) = a + ((l.length + 1 : Nat) : Int) by omega]; exact g)⟩
def MK (N N1 : jm_M) (E : List Int) : Prop := nn N1 = nn N + (E.length : Int) ∧ FS (N1 35 0) (100 * N 0 0 42 + nn N) E
theorem MK.nil {N N1 : jm_M} (h : nn N1 = nn N) : MK N N1 [] := ⟨by simp only [List.length_nil]; omega, trivial⟩
theorem MK.tr {l s s2 : Int} {N N1 N2 : jm_M} {E E2 : List Int} (h : MK N N1 E) (p : PE l s N N1) (g : MK N1 N2 E2) (q : PE l s2 N1 N2) : MK N N2 (E ++ E2) := by
  have ei : N1 0 0 42 = N 0 0 42 := p.into
  refine ⟨by rw [g.1, h.1, List.length_append]; omega, FS.app (h.2.congr (fun j h1 h2 => ?_)) ?_⟩
  · refine q.2.2.2.2.2.2.2 j ?_
    rw [ei, h.1]
    omega
  · have := g.2
    rw [ei, h.1] at this
    rw [show 100 * N 0 0 42 + nn N + (E.length : Int) = 100 * N 0 0 42 + (nn N + (E.length : Int)) by omega]
    exact this
/-- an item of the class's text as the reference's mark -/
def er (u c : Int) : Int := if c < 1000 then c else if c < 2000 then -1 - jm_sx u (c - 1000 + 97) else c - 2000 - 200
def tot (Er P : List Int) : List Int := Er.reverse ++ P.map (fun x => 2000 + x)
def lvk (k : Nat) : Int := if k = 0 then 1 else if k = 1 then 2 else if k = 2 then 3 else if k = 3 then 4 else if k = 4 then 5 else 6
/-- what the next sign can't be, behind an expression of a level -/
def NX (k : Nat) (s : Int → Int) (l b cmp dg : Int) : Prop := b < l → ¬ (48 ≤ s b ∧ s b ≤ 57 ∧ 1 ≤ dg ∧ dg ≤ 2) ∧ (lv (s b) = 0 ∨ lv (s b) = 6 ∨ lv (s b) < lvk k ∨ (lv (s b) = 3 ∧ cmp = 1))
/-- items that a text may have -/
def okc (u x : Int) : Prop := (0 ≤ x ∧ x < 1000) ∨ (1097 ≤ x + 97 ∧ x + 97 ≤ 1122 ∧ 0 ≤ jm_sx u (x - 1000 + 97)) ∨ 1 ≤ lv (x - 2000)
def okl (u : Int) (L : List Int) : Prop := ∀ x ∈ L, okc u x
theorem okl.app {u : Int} {A B : List Int} (h : okl u A) (g : okl u B) : okl u (A ++ B) := fun x hx => (List.mem_append.mp hx).elim (h x) (g x)
theorem okl.ops {u : Int} {P : List Int} (h : ∀ x ∈ P, 1 ≤ lv x) : okl u (P.map (fun x => 2000 + x)).reverse := fun x hx => by
  obtain ⟨o, ho, e⟩ := List.mem_map.mp (List.mem_reverse.mp hx)
  have e' : 2000 + o = x := e
  refine Or.inr (Or.inr ?_)
  rw [← e', show 2000 + o - 2000 = o by omega]
  exact h o ho
theorem okl.one {u x : Int} (h : okc u x) : okl u [x] := fun y hy => by
  rw [List.mem_singleton.mp hy]
  exact h
def SO2 (fu : Nat) (s : Int → Int) (l u r : Int) (k k1 : Nat) (cmp : Int) (stk W C : List Int) (N M N1 : jm_M) : Prop := ∃ (n : Nat) (M1 : jm_M) (cmp1 dg1 : Int) (P Er : List Int), N1 0 0 41 = N 0 0 41 + (n : Int) ∧ RunN fu s n (N 0 0 41) M M1 ∧ bI bx1 M1 ∧ Kp (TS r) M M1 ∧ AB r M1 2 cmp1 dg1 stk (P ++ W) (Er ++ C) ∧ (∀ x ∈ P, lvk k ≤ lv x ∧ 0 ≤ x ∧ x ≤ 255) ∧ (3 ≤ k → cmp1 = cmp) ∧ (cmp1 = 0 ∨ cmp1 = 1) ∧ NX k1 s l (N1 0 0 41) cmp1 dg1 ∧ (P.length + Er.length ≤ n ∧ okl u Er) ∧ MK N N1 ((tot Er P).map (er u))
abbrev SOK (fu : Nat) (s : Int → Int) (l u r : Int) (k : Nat) (cmp : Int) (stk W C : List Int) (N M N1 : jm_M) : Prop := SO2 fu s l u r k k cmp stk W C N M N1
def SNO (fu : Nat) (s : Int → Int) (l r : Int) (N M N1 : jm_M) : Prop := ∃ (n : Nat) (M1 : jm_M), N1 0 0 41 = N 0 0 41 + (n : Int) ∧ RunN fu s n (N 0 0 41) M M1 ∧ bI bx1 M1 ∧ Kp (TS r) M M1 ∧ ((l ≤ N1 0 0 41 ∧ 0 ≤ M1 6 0 6 ∧ M1 6 0 6 ≤ 2) ∨ (N1 0 0 41 < l ∧ wp (fX3_takes fu M1 (s (N1 0 0 41))) YN))
def SR (fu : Nat) (s : Int → Int) (l u r : Int) (k : Nat) (cmp : Int) (stk W C : List Int) (N M : jm_M) (v : Int) (N1 : jm_M) : Prop := PO l N v N1 ∧ ((v = 1 ∧ SOK fu s l u r k cmp stk W C N M N1) ∨ (v = 0 ∧ SNO fu s l r N M N1))
/-- what holds of both ahead of an expression -/
def PRE (s : Int → Int) (l u r : Int) (k : Nat) (N M : jm_M) (st cmp dg : Int) (stk W C : List Int) : Prop := (bI bx2 N ∧ N 0 0 41 ≤ l ∧ nn N ≤ N 0 0 41 + 39) ∧ ((∀ j : Int, 0 ≤ j → j < 100 → N 34 0 j = s j) ∧ N 0 0 43 = u + 2) ∧ (bI bx1 M ∧ ltx M = u ∧ AB r M st cmp dg stk W C) ∧ ((st = 0 ∨ st = 1) ∧ (cmp = 0 ∨ cmp = 1) ∧ (k ≤ 2 → cmp = 0)) ∧ (k ≤ 4 → ∀ (x : Int) (V : List Int), W = x :: V → lv x < lvk k) ∧ (st = 0 → N 0 0 41 < l → M 6 0 7 = 0 ∨ s (N 0 0 41) ≠ 58) ∧ (C.length + W.length : Int) ≤ N 0 0 41 ∧ (stk.length : Int) ≤ N 0 0 41 ∧ (k = 6 → N 0 0 41 < l → s (N 0 0 41) ≠ 33 ∧ s (N 0 0 41) ≠ 45)
def SIM (fu : Nat) (s : Int → Int) (l u r : Int) (rc : Nat → jm_M → Int → jm_R) (d : Int) : Prop := ∀ (k : Nat) (N M : jm_M) (st cmp dg : Int) (stk W C : List Int), k ≤ 6 → 7 * (l - N 0 0 41) + 7 - k ≤ d → PRE s l u r k N M st cmp dg stk W C → wp (rc k N l) (SR fu s l u r k cmp stk W C N M)
theorem ltx_kp {r : Int} {M M1 : jm_M} (k : Kp (TS r) M M1) : ltx M1 = ltx M ∧ M1 6 0 7 = M 6 0 7 := by
  have e : M1 6 0 7 = M 6 0 7 := k 6 0 7 ⟨⟨fun q => by omega, fun q => by omega⟩, by decide, by decide, fun _ => Or.inl rfl⟩
  unfold ltx
  rw [e]
  exact ⟨rfl, rfl⟩
theorem PE.tape {l s2 : Int} {N N1 : jm_M} (p : PE l s2 N N1) {s : Int → Int} {u : Int} (h : (∀ j : Int, 0 ≤ j → j < 100 → N 34 0 j = s j) ∧ N 0 0 43 = u + 2) : (∀ j : Int, 0 ≤ j → j < 100 → N1 34 0 j = s j) ∧ N1 0 0 43 = u + 2 :=
  ⟨fun j h1 h2 => (p.2.1 34 0 j (by unfold TPA; omega)).trans (h.1 j h1 h2), (p.2.1 0 0 43 (by unfold TPA; omega)).trans h.2⟩
theorem Kp.trS {r : Int} {M M1 M2 : jm_M} (h : Kp (TS r) M M1) (g : Kp (TS r) M1 M2) : Kp (TS r) M M2 := h.tr g (fun _ _ _ z => z)
theorem x_isSign2 {M : jm_M} (i : bI bx2 M) (l w : Int) (hl : l ≤ 60) : wp (fX12_isSign M l w) (fun v M1 => M1 = M ∧ ((v = 1 ∧ M 0 0 41 < l ∧ M 34 0 (M 0 0 41) = w) ∨ (v = 0 ∧ ¬ (M 0 0 41 < l ∧ M 34 0 (M 0 0 41) = w)))) := by
  have b : 0 ≤ M 0 0 41 ∧ M 0 0 41 ≤ 60 := i 0 0 41
  unfold fX12_isSign
  refine wp_ite (fun c => wp_ret ⟨rfl, Or.inr ⟨rfl, by omega⟩⟩) (fun c => ?_)
  refine wp_T ⟨by omega, by omega⟩ ?_
  exact wp_ite (fun c2 => wp_ret ⟨rfl, Or.inl ⟨rfl, by omega, c2⟩⟩) (fun c2 => wp_ret ⟨rfl, Or.inr ⟨rfl, by omega⟩⟩)
theorem sx_iff {w c : Int} {L : List Int} (hw : jm_sl w = L) (hp : ∀ b ∈ L, 0 < b) : (0 < c ∧ 0 ≤ jm_sx w c) ↔ c ∈ L := by
  constructor
  · intro h
    rcases jm_sx_f w c with q | ⟨-, -, q⟩
    · omega
    · rw [hw] at q; exact q
  · intro h
    refine ⟨hp c h, ?_⟩
    have key : ∀ (l : List Int) (k : Int), 0 ≤ k → c ∈ l → 0 ≤ jm_sxl c l k := by
      intro l
      induction l with
      | nil => intro k _ h; exact absurd h List.not_mem_nil
      | cons b l ih =>
        intro k hk h
        unfold jm_sxl
        by_cases e : b = c
        · rw [if_pos e]; exact hk
        · rw [if_neg e]
          rcases List.mem_cons.mp h with q | q
          · exact absurd q.symm e
          · exact ih (k + 1) (by omega) q
    unfold jm_sx
    rw [hw]
    exact key L 0 (Int.le_refl 0) h
theorem is_pm (c : Int) : (0 < c ∧ 0 ≤ jm_sx 6 c) ↔ (c = 43 ∨ c = 45) := (sx_iff (L := [43, 45]) rfl (by decide)).trans (by simp)
theorem is_un (c : Int) : (0 < c ∧ 0 ≤ jm_sx 4 c) ↔ (c = 33 ∨ c = 45) := (sx_iff (L := [33, 45]) rfl (by decide)).trans (by simp)
theorem is_cp (c : Int) : (0 < c ∧ 0 ≤ jm_sx 7 c) ↔ (c = 60 ∨ c = 62 ∨ c = 61) := (sx_iff (L := [60, 62, 61]) rfl (by decide)).trans (by simp)
theorem is_dg (c : Int) : (0 < c ∧ 0 ≤ jm_sx 5 c) ↔ (48 ≤ c ∧ c ≤ 57) := (sx_iff (L := [48, 49, 50, 51, 52, 53, 54, 55, 56, 57]) rfl (by decide)).trans (by simp; omega)
theorem lv_is (c : Int) : (lv c = 1 ↔ c = 124) ∧ (lv c = 2 ↔ c = 38) ∧ (lv c = 3 ↔ (c = 60 ∨ c = 62 ∨ c = 61)) ∧ (lv c = 4 ↔ (c = 43 ∨ c = 45)) ∧ (lv c = 5 ↔ c = 42) := by
  unfold lv
  by_cases h : 33 ≤ c ∧ c ≤ 126
  · repeat' split
    all_goals omega
  · rw [if_neg (by omega), if_neg (by omega), if_neg (by omega), if_neg (by omega), if_neg (by omega), if_neg (by omega), if_neg (by omega), if_neg (by omega), if_neg (by omega), if_neg (by omega)]
    omega
theorem lvk_val : lvk 0 = 1 ∧ lvk 1 = 2 ∧ lvk 2 = 3 ∧ lvk 3 = 4 ∧ lvk 4 = 5 ∧ lvk 5 = 6 ∧ lvk 6 = 6 := by decide
theorem er_num (u : Int) {c : Int} (h : c < 1000) : er u c = c := if_pos h
theorem er_let (u : Int) {c : Int} (h : 97 ≤ c ∧ c ≤ 122) : er u (1000 + c - 97) = -1 - jm_sx u c := by
  unfold er
  rw [if_neg (by omega), if_pos (by omega), show 1000 + c - 97 - 1000 + 97 = c by omega]
theorem er_op (u : Int) {c : Int} (h : 0 ≤ c) : er u (2000 + c) = c - 200 := by
  unfold er
  rw [if_neg (by omega), if_neg (by omega)]
  omega
theorem x_marks2 {l : Int} {M : jm_M} (i : bI bx2 M) (m : Int) (hm : jm_in m) (h : M 0 0 41 ≤ l) (hn : nn M ≤ 99) : wp (fX12_marks M m) (fun v M1 => v = 0 ∧ PE l 1 M M1 ∧ M1 0 0 41 = M 0 0 41 ∧ MK M M1 [m] ∧ nn M1 = nn M + 1 ∧ ∀ a b : Nat, tk m a = some b → PH M M1 a b) :=
  wp_mono (x_marks i m hm h hn) (fun v M1 q => ⟨q.1, q.2.1, q.2.2.1, ⟨q.2.2.2.1, q.2.2.2.2.1, trivial⟩, q.2.2.2.1, q.2.2.2.2.2⟩)
theorem sim_some_6 (fu : Nat) (hfu : 4000 ≤ fu) (s : Int → Int) (hs : ∀ j : Int, jm_in (s j)) (l u r : Int) (hl : l ≤ 60) (hr : 0 ≤ r ∧ r ≤ 16) (rc : Nat → jm_M → Int → jm_R) (d : Int) (hS : SIM fu s l u r rc d) (N0 M0 : jm_M) {st cmp dg : Int} {stk W C : List Int} (pre : PRE s l u r 0 N0 M0 st cmp dg stk W C) (hd : 7 * (l - N0 0 0 41) + 7 - 0 ≤ d + 1) : ∀ (n : Nat) (N : jm_M) (l2 : Int), PO l N0 l2 N → (l2 = 0 → SNO fu s l r N0 M0 N) → (l2 = 1 → SO2 fu s l u r 0 1 cmp stk W C N0 M0 N) → (l - N 0 0 41 + l2 ≤ (n : Int) ∧ 1 ≤ n) → wp (fX12_some_6 rc fu n N l l2) (SR fu s l u r 0 cmp stk W C N0 M0) := by
  intro n
  induction n with
  | zero =>
    intro N l2 hPO _ _ hm
    have := hPO.2.1.2.2.2.1
    exfalso; omega
  | succ n ih =>
    intro N l2 hPO hNo hJ hm
    show wp (gX12_some_6 rc fu (fX12_some_6 rc fu n) N l l2) _
    unfold gX12_some_6
    obtain ⟨⟨iN0, hN0l, hN0n⟩, hT0, ⟨iM0, hu, hAB⟩, ⟨hst, hcmp, hk2⟩, hWt, h58, hCW, hSt, -⟩ := pre
    have iN : bI bx2 N := hPO.2.1.1
    have b41 : 0 ≤ N 0 0 41 ∧ N 0 0 41 ≤ 60 := iN 0 0 41
    have b041 : 0 ≤ N0 0 0 41 ∧ N0 0 0 41 ≤ 60 := iN0 0 0 41
    have hb := hPO.1
    have a1 := hPO.2.1.2.2.1
    have n2 := hPO.2.1.2.2.2.2.2.1
    refine wp_ite (fun c => wp_T (by omega) (wp_ret ⟨hPO, Or.inr ⟨c, hNo c⟩⟩)) (fun c => ?_)
    have hl2 : l2 = 1 := by omega
    obtain ⟨m, M1, cmp1, dg1, P, Er, e41, hrun, i1, k1, hA1, hPl, hc3, hc01, hnx, hlen, hmk⟩ := hJ hl2
    obtain ⟨lu1, lu7⟩ := ltx_kp k1
    have hT := hPO.2.1.tape hT0
    have hlv := lv_is (s (N 0 0 41))
    obtain ⟨vk0, vk1, vk2, vk3, vk4, vk5, vk6⟩ := lvk_val
    have eT : N 34 0 (N 0 0 41) = s (N 0 0 41) := hT.1 _ (by omega) (by omega)
    refine wp_bp (x_isSign2 iN l 124 hl) (fun v2 h2 => ?_)
    rw [eT] at h2
    have hx : v2 ≠ 0 → N 0 0 41 < l ∧ s (N 0 0 41) = 124 := fun q => by omega
    have hx0 : v2 = 0 → N 0 0 41 < l → s (N 0 0 41) ≠ 124 := fun q => by omega
    refine wp_ite (fun c2 => wp_T (by omega) (wp_ret ⟨hPO, Or.inl ⟨hl2, m, M1, cmp1, dg1, P, Er, e41, hrun, i1, k1, hA1, hPl, hc3, hc01, fun hlt => ⟨(hnx hlt).1, ?_⟩, hlen, hmk⟩⟩)) (fun c2 => ?_)
    · have z := (hnx hlt).2
      have z2 := hx0 c2 hlt
      rw [vk1] at z
      rw [vk0]
      omega
    obtain ⟨hlt, hsx⟩ := hx c2
    have hlvs : lv (s (N 0 0 41)) = 1 := by omega
    obtain ⟨pa, ha, ea⟩ := PE_at iN hl hlt
    refine wp_si iN (by have := pa.1 0 0 41; rw [ea] at this; rw [jm_wid (by omega) (by omega)]; exact this) (fun N7 u7 i7 => ?_)
    rw [← u7] at pa ha ea
    have n7 := pa.2.2.2.2.2.1
    have lenA : (P ++ W).length = P.length + W.length := List.length_append
    have hmi : (m : Int) = N 0 0 41 - N0 0 0 41 := by omega
    obtain ⟨M2, run2, i2, k2, hA2⟩ := YT.run (y_join hfu hr i1 (hs (N 0 0 41)) hA1 (by omega) (fun q => by omega) (fun x V e => by have := hWt (by decide) x V e; omega) (fun x hx => by have := hPl x hx; omega) (by simp only [List.length_append]; omega) (by omega))
    have hcm : (if lv (s (N 0 0 41)) = 3 then (1 : Int) else if lv (s (N 0 0 41)) < 3 then 0 else cmp1) = 0 := by rw [hlvs]; rfl
    rw [hcm] at hA2
    have hrun2 := hrun.app (show RunN fu s 1 (N0 0 0 41 + (m : Int)) M1 M2 by rw [← e41]; exact run2)
    have kk2 := k1.trS k2
    obtain ⟨lu2, -⟩ := ltx_kp kk2
    refine wp_b (hS 1 N7 M2 1 0 0 stk (s (N 0 0 41) :: W) ((P.map (fun x => 2000 + x)).reverse ++ (Er ++ C)) (by decide) (by omega) ⟨⟨i7, by omega, by omega⟩, pa.tape hT, ⟨i2, by rw [lu2]; exact hu, hA2⟩, ⟨Or.inr rfl, (Or.inl rfl), fun q => by rfl⟩, fun _ x V e => by cases e; omega, fun q => absurd q (by decide), by simp only [List.length_append, List.length_reverse, List.length_map, List.length_cons]; omega, by omega, fun q => absurd q (by decide)⟩) (fun v8 N9 h8 => ?_)
    have p9 : PE l (-1) N N9 := (pa.tr h8.1.2.1).slack (by omega)
    have a9 := p9.2.2.1
    have a9l := p9.2.2.2.1
    have n9 := p9.2.2.2.2.2.1
    have hb8 := h8.1.1
    refine wp_ite (fun c3 => ?_) (fun c3 => ?_)
    · have hno : SNO fu s l r N0 M0 N9 := by
        rcases h8.2 with q | ⟨-, n3, M3, e3, r3, i3, k3, z3⟩
        · omega
        · refine ⟨m + 1 + n3, M3, by rw [e3, ea]; omega, hrun2.app (by rw [show N0 0 0 41 + ((m + 1 : Nat) : Int) = N7 0 0 41 by omega]; exact r3), i3, kk2.trS k3, z3⟩
      exact ih N9 v8 ⟨h8.1.1, (hPO.2.1.tr p9).slack (by omega), fun q => absurd c3 (by omega)⟩ (fun _ => hno) (fun q => absurd c3 (by omega)) (by omega)
    · have hok := h8.2
      rcases hok with ⟨hv8, n3, M3, cmp3, dg3, P3, Er3, e3, r3, i3, k3, hA3, hPl3, hc33, hc013, hnx3, hlen3, hmk3⟩ | q
      case inr => omega
      have hp9 : PH N N9 1 2 := PH.tr pa h8.1.2.1 (ha 1) ((h8.1.2.2 (by omega)).up 1)
      refine wp_bp (x_act 124 ⟨by omega, by omega⟩) (fun v12 h12 => ?_)
      refine wp_b (x_marks2 (l := l) h8.1.2.1.1 v12 (jm_inL (by omega) (by omega)) a9l (by omega)) (fun v15 N16 h15 => ?_)
      obtain ⟨-, p16, e16, mk16, -, t16⟩ := h15
      have hp16 : PH N N16 1 1 := PH.tr p9 p16 hp9 (t16 2 1 (tk_bin (by omega) (by omega) (by omega)))
      have hPO16 : PO l N0 v8 N16 := ⟨hb8, (hPO.2.1.tr (p9.tr p16)).slack (by omega), fun _ => PH.tr hPO.2.1 (p9.tr p16) (hPO.2.2 hl2) hp16⟩
      have mk7 : MK N N7 [] := MK.nil (by unfold nn; rw [u7, jm_une_f (by decide), jm_une_k (by decide)])
      have hmkA : MK N0 N16 ((((tot Er P).map (er u) ++ []) ++ (tot Er3 P3).map (er u)) ++ [v12]) := by
        refine MK.tr (MK.tr (MK.tr hmk hPO.2.1 mk7 pa) (hPO.2.1.tr pa) hmk3 h8.1.2.1) ((hPO.2.1.tr pa).tr h8.1.2.1) mk16 p16
      have htot : ((((tot Er P).map (er u) ++ []) ++ (tot Er3 P3).map (er u)) ++ [v12]) = (tot (Er3 ++ ((P.map (fun x => 2000 + x)).reverse ++ Er)) (P3 ++ [s (N 0 0 41)])).map (er u) := by
        unfold tot
        simp only [List.map_append, List.reverse_append, List.reverse_reverse, List.append_assoc, List.append_nil, List.map_cons, List.map_nil, List.nil_append]
        rw [er_op u (by omega), h12, hsx]
      rw [htot] at hmkA
      have hJ2 : SO2 fu s l u r 0 1 cmp stk W C N0 M0 N16 := by
        refine ⟨m + 1 + n3, M3, cmp3, dg3, P3 ++ [s (N 0 0 41)], Er3 ++ ((P.map (fun x => 2000 + x)).reverse ++ Er), by rw [e16, e3, ea]; omega, hrun2.app (by rw [show N0 0 0 41 + ((m + 1 : Nat) : Int) = N7 0 0 41 by omega]; exact r3), i3, kk2.trS k3, ?_, fun x hx => ?_, fun q => by omega, hc013, by rw [e16]; exact hnx3, ?_, hmkA⟩
        · have := hA3
          simp only [List.append_assoc, List.cons_append, List.nil_append] at this ⊢
          exact this
        · rcases List.mem_append.mp hx with q | q
          · have := hPl3 x q
            omega
          · have q : x = s (N 0 0 41) := by simpa using q
            rw [q]
            omega
        · refine ⟨?_, hlen3.2.app ((okl.ops (fun x hx => by have := hPl x hx; omega)).app hlen.2)⟩
          simp only [List.length_append, List.length_reverse, List.length_map, List.length_cons, List.length_nil]
          omega
      exact ih N16 v8 hPO16 (fun q => absurd q (by omega)) (fun _ => hJ2) (by omega)
theorem sim_every_6 (fu : Nat) (hfu : 4000 ≤ fu) (s : Int → Int) (hs : ∀ j : Int, jm_in (s j)) (l u r : Int) (hl : l ≤ 60) (hr : 0 ≤ r ∧ r ≤ 16) (rc : Nat → jm_M → Int → jm_R) (d : Int) (hS : SIM fu s l u r rc d) (N0 M0 : jm_M) {st cmp dg : Int} {stk W C : List Int} (pre : PRE s l u r 1 N0 M0 st cmp dg stk W C) (hd : 7 * (l - N0 0 0 41) + 7 - 1 ≤ d + 1) : ∀ (n : Nat) (N : jm_M) (l2 : Int), PO l N0 l2 N → (l2 = 0 → SNO fu s l r N0 M0 N) → (l2 = 1 → SO2 fu s l u r 1 2 cmp stk W C N0 M0 N) → (l - N 0 0 41 + l2 ≤ (n : Int) ∧ 1 ≤ n) → wp (fX12_every_6 rc fu n N l l2) (SR fu s l u r 1 cmp stk W C N0 M0) := by
  intro n
  induction n with
  | zero =>
    intro N l2 hPO _ _ hm
    have := hPO.2.1.2.2.2.1
    exfalso; omega
  | succ n ih =>
    intro N l2 hPO hNo hJ hm
    show wp (gX12_every_6 rc fu (fX12_every_6 rc fu n) N l l2) _
    unfold gX12_every_6
    obtain ⟨⟨iN0, hN0l, hN0n⟩, hT0, ⟨iM0, hu, hAB⟩, ⟨hst, hcmp, hk2⟩, hWt, h58, hCW, hSt, -⟩ := pre
    have iN : bI bx2 N := hPO.2.1.1
    have b41 : 0 ≤ N 0 0 41 ∧ N 0 0 41 ≤ 60 := iN 0 0 41
    have b041 : 0 ≤ N0 0 0 41 ∧ N0 0 0 41 ≤ 60 := iN0 0 0 41
    have hb := hPO.1
    have a1 := hPO.2.1.2.2.1
    have n2 := hPO.2.1.2.2.2.2.2.1
    refine wp_ite (fun c => wp_T (by omega) (wp_ret ⟨hPO, Or.inr ⟨c, hNo c⟩⟩)) (fun c => ?_)
    have hl2 : l2 = 1 := by omega
    obtain ⟨m, M1, cmp1, dg1, P, Er, e41, hrun, i1, k1, hA1, hPl, hc3, hc01, hnx, hlen, hmk⟩ := hJ hl2
    obtain ⟨lu1, lu7⟩ := ltx_kp k1
    have hT := hPO.2.1.tape hT0
    have hlv := lv_is (s (N 0 0 41))
    obtain ⟨vk0, vk1, vk2, vk3, vk4, vk5, vk6⟩ := lvk_val
    have eT : N 34 0 (N 0 0 41) = s (N 0 0 41) := hT.1 _ (by omega) (by omega)
    refine wp_bp (x_isSign2 iN l 38 hl) (fun v2 h2 => ?_)
    rw [eT] at h2
    have hx : v2 ≠ 0 → N 0 0 41 < l ∧ s (N 0 0 41) = 38 := fun q => by omega
    have hx0 : v2 = 0 → N 0 0 41 < l → s (N 0 0 41) ≠ 38 := fun q => by omega
    refine wp_ite (fun c2 => wp_T (by omega) (wp_ret ⟨hPO, Or.inl ⟨hl2, m, M1, cmp1, dg1, P, Er, e41, hrun, i1, k1, hA1, hPl, hc3, hc01, fun hlt => ⟨(hnx hlt).1, ?_⟩, hlen, hmk⟩⟩)) (fun c2 => ?_)
    · have z := (hnx hlt).2
      have z2 := hx0 c2 hlt
      rw [vk2] at z
      rw [vk1]
      omega
    obtain ⟨hlt, hsx⟩ := hx c2
    have hlvs : lv (s (N 0 0 41)) = 2 := by omega
    obtain ⟨pa, ha, ea⟩ := PE_at iN hl hlt
    refine wp_si iN (by have := pa.1 0 0 41; rw [ea] at this; rw [jm_wid (by omega) (by omega)]; exact this) (fun N7 u7 i7 => ?_)
    rw [← u7] at pa ha ea
    have n7 := pa.2.2.2.2.2.1
    have lenA : (P ++ W).length = P.length + W.length := List.length_append
    have hmi : (m : Int) = N 0 0 41 - N0 0 0 41 := by omega
    obtain ⟨M2, run2, i2, k2, hA2⟩ := YT.run (y_join hfu hr i1 (hs (N 0 0 41)) hA1 (by omega) (fun q => by omega) (fun x V e => by have := hWt (by decide) x V e; omega) (fun x hx => by have := hPl x hx; omega) (by simp only [List.length_append]; omega) (by omega))
    have hcm : (if lv (s (N 0 0 41)) = 3 then (1 : Int) else if lv (s (N 0 0 41)) < 3 then 0 else cmp1) = 0 := by rw [hlvs]; rfl
    rw [hcm] at hA2
    have hrun2 := hrun.app (show RunN fu s 1 (N0 0 0 41 + (m : Int)) M1 M2 by rw [← e41]; exact run2)
    have kk2 := k1.trS k2
    obtain ⟨lu2, -⟩ := ltx_kp kk2
    refine wp_b (hS 2 N7 M2 1 0 0 stk (s (N 0 0 41) :: W) ((P.map (fun x => 2000 + x)).reverse ++ (Er ++ C)) (by decide) (by omega) ⟨⟨i7, by omega, by omega⟩, pa.tape hT, ⟨i2, by rw [lu2]; exact hu, hA2⟩, ⟨Or.inr rfl, (Or.inl rfl), fun q => by rfl⟩, fun _ x V e => by cases e; omega, fun q => absurd q (by decide), by simp only [List.length_append, List.length_reverse, List.length_map, List.length_cons]; omega, by omega, fun q => absurd q (by decide)⟩) (fun v8 N9 h8 => ?_)
    have p9 : PE l (-1) N N9 := (pa.tr h8.1.2.1).slack (by omega)
    have a9 := p9.2.2.1
    have a9l := p9.2.2.2.1
    have n9 := p9.2.2.2.2.2.1
    have hb8 := h8.1.1
    refine wp_ite (fun c3 => ?_) (fun c3 => ?_)
    · have hno : SNO fu s l r N0 M0 N9 := by
        rcases h8.2 with q | ⟨-, n3, M3, e3, r3, i3, k3, z3⟩
        · omega
        · refine ⟨m + 1 + n3, M3, by rw [e3, ea]; omega, hrun2.app (by rw [show N0 0 0 41 + ((m + 1 : Nat) : Int) = N7 0 0 41 by omega]; exact r3), i3, kk2.trS k3, z3⟩
      exact ih N9 v8 ⟨h8.1.1, (hPO.2.1.tr p9).slack (by omega), fun q => absurd c3 (by omega)⟩ (fun _ => hno) (fun q => absurd c3 (by omega)) (by omega)
    · have hok := h8.2
      rcases hok with ⟨hv8, n3, M3, cmp3, dg3, P3, Er3, e3, r3, i3, k3, hA3, hPl3, hc33, hc013, hnx3, hlen3, hmk3⟩ | q
      case inr => omega
      have hp9 : PH N N9 1 2 := PH.tr pa h8.1.2.1 (ha 1) ((h8.1.2.2 (by omega)).up 1)
      refine wp_bp (x_act 38 ⟨by omega, by omega⟩) (fun v12 h12 => ?_)
      refine wp_b (x_marks2 (l := l) h8.1.2.1.1 v12 (jm_inL (by omega) (by omega)) a9l (by omega)) (fun v15 N16 h15 => ?_)
      obtain ⟨-, p16, e16, mk16, -, t16⟩ := h15
      have hp16 : PH N N16 1 1 := PH.tr p9 p16 hp9 (t16 2 1 (tk_bin (by omega) (by omega) (by omega)))
      have hPO16 : PO l N0 v8 N16 := ⟨hb8, (hPO.2.1.tr (p9.tr p16)).slack (by omega), fun _ => PH.tr hPO.2.1 (p9.tr p16) (hPO.2.2 hl2) hp16⟩
      have mk7 : MK N N7 [] := MK.nil (by unfold nn; rw [u7, jm_une_f (by decide), jm_une_k (by decide)])
      have hmkA : MK N0 N16 ((((tot Er P).map (er u) ++ []) ++ (tot Er3 P3).map (er u)) ++ [v12]) := by
        refine MK.tr (MK.tr (MK.tr hmk hPO.2.1 mk7 pa) (hPO.2.1.tr pa) hmk3 h8.1.2.1) ((hPO.2.1.tr pa).tr h8.1.2.1) mk16 p16
      have htot : ((((tot Er P).map (er u) ++ []) ++ (tot Er3 P3).map (er u)) ++ [v12]) = (tot (Er3 ++ ((P.map (fun x => 2000 + x)).reverse ++ Er)) (P3 ++ [s (N 0 0 41)])).map (er u) := by
        unfold tot
        simp only [List.map_append, List.reverse_append, List.reverse_reverse, List.append_assoc, List.append_nil, List.map_cons, List.map_nil, List.nil_append]
        rw [er_op u (by omega), h12, hsx]
      rw [htot] at hmkA
      have hJ2 : SO2 fu s l u r 1 2 cmp stk W C N0 M0 N16 := by
        refine ⟨m + 1 + n3, M3, cmp3, dg3, P3 ++ [s (N 0 0 41)], Er3 ++ ((P.map (fun x => 2000 + x)).reverse ++ Er), by rw [e16, e3, ea]; omega, hrun2.app (by rw [show N0 0 0 41 + ((m + 1 : Nat) : Int) = N7 0 0 41 by omega]; exact r3), i3, kk2.trS k3, ?_, fun x hx => ?_, fun q => by omega, hc013, by rw [e16]; exact hnx3, ?_, hmkA⟩
        · have := hA3
          simp only [List.append_assoc, List.cons_append, List.nil_append] at this ⊢
          exact this
        · rcases List.mem_append.mp hx with q | q
          · have := hPl3 x q
            omega
          · have q : x = s (N 0 0 41) := by simpa using q
            rw [q]
            omega
        · refine ⟨?_, hlen3.2.app ((okl.ops (fun x hx => by have := hPl x hx; omega)).app hlen.2)⟩
          simp only [List.length_append, List.length_reverse, List.length_map, List.length_cons, List.length_nil]
          omega
      exact ih N16 v8 hPO16 (fun q => absurd q (by omega)) (fun _ => hJ2) (by omega)
theorem sim_total_6 (fu : Nat) (hfu : 4000 ≤ fu) (s : Int → Int) (hs : ∀ j : Int, jm_in (s j)) (l u r : Int) (hl : l ≤ 60) (hr : 0 ≤ r ∧ r ≤ 16) (rc : Nat → jm_M → Int → jm_R) (d : Int) (hS : SIM fu s l u r rc d) (N0 M0 : jm_M) {st cmp dg : Int} {stk W C : List Int} (pre : PRE s l u r 3 N0 M0 st cmp dg stk W C) (hd : 7 * (l - N0 0 0 41) + 7 - 3 ≤ d + 1) : ∀ (n : Nat) (N : jm_M) (l2 : Int), PO l N0 l2 N → (l2 = 0 → SNO fu s l r N0 M0 N) → (l2 = 1 → SO2 fu s l u r 3 4 cmp stk W C N0 M0 N) → (l - N 0 0 41 + l2 ≤ (n : Int) ∧ 1 ≤ n) → wp (fX12_total_6 rc fu n N l l2) (SR fu s l u r 3 cmp stk W C N0 M0) := by
  intro n
  induction n with
  | zero =>
    intro N l2 hPO _ _ hm
    have := hPO.2.1.2.2.2.1
    exfalso; omega
  | succ n ih =>
    intro N l2 hPO hNo hJ hm
    show wp (gX12_total_6 rc fu (fX12_total_6 rc fu n) N l l2) _
    unfold gX12_total_6
    obtain ⟨⟨iN0, hN0l, hN0n⟩, hT0, ⟨iM0, hu, hAB⟩, ⟨hst, hcmp, hk2⟩, hWt, h58, hCW, hSt, -⟩ := pre
    have iN : bI bx2 N := hPO.2.1.1
    have b41 : 0 ≤ N 0 0 41 ∧ N 0 0 41 ≤ 60 := iN 0 0 41
    have b041 : 0 ≤ N0 0 0 41 ∧ N0 0 0 41 ≤ 60 := iN0 0 0 41
    have hb := hPO.1
    have a1 := hPO.2.1.2.2.1
    have n2 := hPO.2.1.2.2.2.2.2.1
    refine wp_ite (fun c => wp_T (by omega) (wp_ret ⟨hPO, Or.inr ⟨c, hNo c⟩⟩)) (fun c => ?_)
    have hl2 : l2 = 1 := by omega
    obtain ⟨m, M1, cmp1, dg1, P, Er, e41, hrun, i1, k1, hA1, hPl, hc3, hc01, hnx, hlen, hmk⟩ := hJ hl2
    obtain ⟨lu1, lu7⟩ := ltx_kp k1
    have hT := hPO.2.1.tape hT0
    have hlv := lv_is (s (N 0 0 41))
    obtain ⟨vk0, vk1, vk2, vk3, vk4, vk5, vk6⟩ := lvk_val
    have eT : N 34 0 (N 0 0 41) = s (N 0 0 41) := hT.1 _ (by omega) (by omega)
    refine wp_bp (x_isOf2 iN l 6 hl) (fun v2 h2 => ?_)
    rw [eT] at h2
    have hpm := is_pm (s (N 0 0 41))
    have hx : v2 ≠ 0 → N 0 0 41 < l ∧ (s (N 0 0 41) = 43 ∨ s (N 0 0 41) = 45) := fun q => by
      rcases h2 with z | z
      · exact ⟨z.2.1, hpm.mp z.2.2⟩
      · exact absurd z.1 q
    have hx0 : v2 = 0 → N 0 0 41 < l → ¬ (s (N 0 0 41) = 43 ∨ s (N 0 0 41) = 45) := fun q hlt w => by
      rcases h2 with z | z
      · omega
      · exact z.2 ⟨hlt, hpm.mpr w⟩
    refine wp_ite (fun c2 => wp_T (by omega) (wp_ret ⟨hPO, Or.inl ⟨hl2, m, M1, cmp1, dg1, P, Er, e41, hrun, i1, k1, hA1, hPl, hc3, hc01, fun hlt => ⟨(hnx hlt).1, ?_⟩, hlen, hmk⟩⟩)) (fun c2 => ?_)
    · have z := (hnx hlt).2
      have z2 := hx0 c2 hlt
      rw [vk4] at z
      rw [vk3]
      omega
    obtain ⟨hlt, hsx⟩ := hx c2
    have hlvs : lv (s (N 0 0 41)) = 4 := by omega
    obtain ⟨pa, ha, ea⟩ := PE_at iN hl hlt
    refine wp_T ⟨by omega, by omega⟩ ?_
    refine wp_e (iN 34 0 _) (fun v9 e9 _ => ?_)
    rw [eT] at e9
    refine wp_si iN (by have := pa.1 0 0 41; rw [ea] at this; rw [jm_wid (by omega) (by omega)]; exact this) (fun N7 u7 i7 => ?_)
    rw [← u7] at pa ha ea
    have n7 := pa.2.2.2.2.2.1
    have lenA : (P ++ W).length = P.length + W.length := List.length_append
    have hmi : (m : Int) = N 0 0 41 - N0 0 0 41 := by omega
    obtain ⟨M2, run2, i2, k2, hA2⟩ := YT.run (y_join hfu hr i1 (hs (N 0 0 41)) hA1 (by omega) (fun q => by omega) (fun x V e => by have := hWt (by decide) x V e; omega) (fun x hx => by have := hPl x hx; omega) (by simp only [List.length_append]; omega) (by omega))
    have hcm : (if lv (s (N 0 0 41)) = 3 then (1 : Int) else if lv (s (N 0 0 41)) < 3 then 0 else cmp1) = cmp1 := by rw [hlvs]; rfl
    rw [hcm] at hA2
    have hrun2 := hrun.app (show RunN fu s 1 (N0 0 0 41 + (m : Int)) M1 M2 by rw [← e41]; exact run2)
    have kk2 := k1.trS k2
    obtain ⟨lu2, -⟩ := ltx_kp kk2
    refine wp_b (hS 4 N7 M2 1 cmp1 0 stk (s (N 0 0 41) :: W) ((P.map (fun x => 2000 + x)).reverse ++ (Er ++ C)) (by decide) (by omega) ⟨⟨i7, by omega, by omega⟩, pa.tape hT, ⟨i2, by rw [lu2]; exact hu, hA2⟩, ⟨Or.inr rfl, hc01, fun q => by omega⟩, fun _ x V e => by cases e; omega, fun q => absurd q (by decide), by simp only [List.length_append, List.length_reverse, List.length_map, List.length_cons]; omega, by omega, fun q => absurd q (by decide)⟩) (fun v8 N9 h8 => ?_)
    have p9 : PE l (-1) N N9 := (pa.tr h8.1.2.1).slack (by omega)
    have a9 := p9.2.2.1
    have a9l := p9.2.2.2.1
    have n9 := p9.2.2.2.2.2.1
    have hb8 := h8.1.1
    refine wp_ite (fun c3 => ?_) (fun c3 => ?_)
    · have hno : SNO fu s l r N0 M0 N9 := by
        rcases h8.2 with q | ⟨-, n3, M3, e3, r3, i3, k3, z3⟩
        · omega
        · refine ⟨m + 1 + n3, M3, by rw [e3, ea]; omega, hrun2.app (by rw [show N0 0 0 41 + ((m + 1 : Nat) : Int) = N7 0 0 41 by omega]; exact r3), i3, kk2.trS k3, z3⟩
      exact ih N9 v8 ⟨h8.1.1, (hPO.2.1.tr p9).slack (by omega), fun q => absurd c3 (by omega)⟩ (fun _ => hno) (fun q => absurd c3 (by omega)) (by omega)
    · have hok := h8.2
      rcases hok with ⟨hv8, n3, M3, cmp3, dg3, P3, Er3, e3, r3, i3, k3, hA3, hPl3, hc33, hc013, hnx3, hlen3, hmk3⟩ | q
      case inr => omega
      have hp9 : PH N N9 1 2 := PH.tr pa h8.1.2.1 (ha 1) ((h8.1.2.2 (by omega)).up 1)
      refine wp_bp (x_act v9 ⟨by omega, by omega⟩) (fun v12 h12 => ?_)
      refine wp_b (x_marks2 (l := l) h8.1.2.1.1 v12 (jm_inL (by omega) (by omega)) a9l (by omega)) (fun v15 N16 h15 => ?_)
      obtain ⟨-, p16, e16, mk16, -, t16⟩ := h15
      have hp16 : PH N N16 1 1 := PH.tr p9 p16 hp9 (t16 2 1 (tk_bin (by omega) (by omega) (by omega)))
      have hPO16 : PO l N0 v8 N16 := ⟨hb8, (hPO.2.1.tr (p9.tr p16)).slack (by omega), fun _ => PH.tr hPO.2.1 (p9.tr p16) (hPO.2.2 hl2) hp16⟩
      have mk7 : MK N N7 [] := MK.nil (by unfold nn; rw [u7, jm_une_f (by decide), jm_une_k (by decide)])
      have hmkA : MK N0 N16 ((((tot Er P).map (er u) ++ []) ++ (tot Er3 P3).map (er u)) ++ [v12]) := by
        refine MK.tr (MK.tr (MK.tr hmk hPO.2.1 mk7 pa) (hPO.2.1.tr pa) hmk3 h8.1.2.1) ((hPO.2.1.tr pa).tr h8.1.2.1) mk16 p16
      have htot : ((((tot Er P).map (er u) ++ []) ++ (tot Er3 P3).map (er u)) ++ [v12]) = (tot (Er3 ++ ((P.map (fun x => 2000 + x)).reverse ++ Er)) (P3 ++ [s (N 0 0 41)])).map (er u) := by
        unfold tot
        simp only [List.map_append, List.reverse_append, List.reverse_reverse, List.append_assoc, List.append_nil, List.map_cons, List.map_nil, List.nil_append]
        rw [er_op u (by omega), h12]
        rw [e9]
      rw [htot] at hmkA
      have hJ2 : SO2 fu s l u r 3 4 cmp stk W C N0 M0 N16 := by
        refine ⟨m + 1 + n3, M3, cmp3, dg3, P3 ++ [s (N 0 0 41)], Er3 ++ ((P.map (fun x => 2000 + x)).reverse ++ Er), by rw [e16, e3, ea]; omega, hrun2.app (by rw [show N0 0 0 41 + ((m + 1 : Nat) : Int) = N7 0 0 41 by omega]; exact r3), i3, kk2.trS k3, ?_, fun x hx => ?_, fun q => by exact (hc33 (by decide)).trans (hc3 (by decide)), hc013, by rw [e16]; exact hnx3, ?_, hmkA⟩
        · have := hA3
          simp only [List.append_assoc, List.cons_append, List.nil_append] at this ⊢
          exact this
        · rcases List.mem_append.mp hx with q | q
          · have := hPl3 x q
            omega
          · have q : x = s (N 0 0 41) := by simpa using q
            rw [q]
            omega
        · refine ⟨?_, hlen3.2.app ((okl.ops (fun x hx => by have := hPl x hx; omega)).app hlen.2)⟩
          simp only [List.length_append, List.length_reverse, List.length_map, List.length_cons, List.length_nil]
          omega
      exact ih N16 v8 hPO16 (fun q => absurd q (by omega)) (fun _ => hJ2) (by omega)
theorem sim_product_6 (fu : Nat) (hfu : 4000 ≤ fu) (s : Int → Int) (hs : ∀ j : Int, jm_in (s j)) (l u r : Int) (hl : l ≤ 60) (hr : 0 ≤ r ∧ r ≤ 16) (rc : Nat → jm_M → Int → jm_R) (d : Int) (hS : SIM fu s l u r rc d) (N0 M0 : jm_M) {st cmp dg : Int} {stk W C : List Int} (pre : PRE s l u r 4 N0 M0 st cmp dg stk W C) (hd : 7 * (l - N0 0 0 41) + 7 - 4 ≤ d + 1) : ∀ (n : Nat) (N : jm_M) (l2 : Int), PO l N0 l2 N → (l2 = 0 → SNO fu s l r N0 M0 N) → (l2 = 1 → SO2 fu s l u r 4 5 cmp stk W C N0 M0 N) → (l - N 0 0 41 + l2 ≤ (n : Int) ∧ 1 ≤ n) → wp (fX12_product_6 rc fu n N l l2) (SR fu s l u r 4 cmp stk W C N0 M0) := by
  intro n
  induction n with
  | zero =>
    intro N l2 hPO _ _ hm
    have := hPO.2.1.2.2.2.1
    exfalso; omega
  | succ n ih =>
    intro N l2 hPO hNo hJ hm
    show wp (gX12_product_6 rc fu (fX12_product_6 rc fu n) N l l2) _
    unfold gX12_product_6
    obtain ⟨⟨iN0, hN0l, hN0n⟩, hT0, ⟨iM0, hu, hAB⟩, ⟨hst, hcmp, hk2⟩, hWt, h58, hCW, hSt, -⟩ := pre
    have iN : bI bx2 N := hPO.2.1.1
    have b41 : 0 ≤ N 0 0 41 ∧ N 0 0 41 ≤ 60 := iN 0 0 41
    have b041 : 0 ≤ N0 0 0 41 ∧ N0 0 0 41 ≤ 60 := iN0 0 0 41
    have hb := hPO.1
    have a1 := hPO.2.1.2.2.1
    have n2 := hPO.2.1.2.2.2.2.2.1
    refine wp_ite (fun c => wp_T (by omega) (wp_ret ⟨hPO, Or.inr ⟨c, hNo c⟩⟩)) (fun c => ?_)
    have hl2 : l2 = 1 := by omega
    obtain ⟨m, M1, cmp1, dg1, P, Er, e41, hrun, i1, k1, hA1, hPl, hc3, hc01, hnx, hlen, hmk⟩ := hJ hl2
    obtain ⟨lu1, lu7⟩ := ltx_kp k1
    have hT := hPO.2.1.tape hT0
    have hlv := lv_is (s (N 0 0 41))
    obtain ⟨vk0, vk1, vk2, vk3, vk4, vk5, vk6⟩ := lvk_val
    have eT : N 34 0 (N 0 0 41) = s (N 0 0 41) := hT.1 _ (by omega) (by omega)
    refine wp_bp (x_isSign2 iN l 42 hl) (fun v2 h2 => ?_)
    rw [eT] at h2
    have hx : v2 ≠ 0 → N 0 0 41 < l ∧ s (N 0 0 41) = 42 := fun q => by omega
    have hx0 : v2 = 0 → N 0 0 41 < l → s (N 0 0 41) ≠ 42 := fun q => by omega
    refine wp_ite (fun c2 => wp_T (by omega) (wp_ret ⟨hPO, Or.inl ⟨hl2, m, M1, cmp1, dg1, P, Er, e41, hrun, i1, k1, hA1, hPl, hc3, hc01, fun hlt => ⟨(hnx hlt).1, ?_⟩, hlen, hmk⟩⟩)) (fun c2 => ?_)
    · have z := (hnx hlt).2
      have z2 := hx0 c2 hlt
      rw [vk5] at z
      rw [vk4]
      omega
    obtain ⟨hlt, hsx⟩ := hx c2
    have hlvs : lv (s (N 0 0 41)) = 5 := by omega
    obtain ⟨pa, ha, ea⟩ := PE_at iN hl hlt
    refine wp_si iN (by have := pa.1 0 0 41; rw [ea] at this; rw [jm_wid (by omega) (by omega)]; exact this) (fun N7 u7 i7 => ?_)
    rw [← u7] at pa ha ea
    have n7 := pa.2.2.2.2.2.1
    have lenA : (P ++ W).length = P.length + W.length := List.length_append
    have hmi : (m : Int) = N 0 0 41 - N0 0 0 41 := by omega
    obtain ⟨M2, run2, i2, k2, hA2⟩ := YT.run (y_join hfu hr i1 (hs (N 0 0 41)) hA1 (by omega) (fun q => by omega) (fun x V e => by have := hWt (by decide) x V e; omega) (fun x hx => by have := hPl x hx; omega) (by simp only [List.length_append]; omega) (by omega))
    have hcm : (if lv (s (N 0 0 41)) = 3 then (1 : Int) else if lv (s (N 0 0 41)) < 3 then 0 else cmp1) = cmp1 := by rw [hlvs]; rfl
    rw [hcm] at hA2
    have hrun2 := hrun.app (show RunN fu s 1 (N0 0 0 41 + (m : Int)) M1 M2 by rw [← e41]; exact run2)
    have kk2 := k1.trS k2
    obtain ⟨lu2, -⟩ := ltx_kp kk2
    refine wp_b (hS 5 N7 M2 1 cmp1 0 stk (s (N 0 0 41) :: W) ((P.map (fun x => 2000 + x)).reverse ++ (Er ++ C)) (by decide) (by omega) ⟨⟨i7, by omega, by omega⟩, pa.tape hT, ⟨i2, by rw [lu2]; exact hu, hA2⟩, ⟨Or.inr rfl, hc01, fun q => by omega⟩, fun _ x V e => by cases e; omega, fun q => absurd q (by decide), by simp only [List.length_append, List.length_reverse, List.length_map, List.length_cons]; omega, by omega, fun q => absurd q (by decide)⟩) (fun v8 N9 h8 => ?_)
    have p9 : PE l (-1) N N9 := (pa.tr h8.1.2.1).slack (by omega)
    have a9 := p9.2.2.1
    have a9l := p9.2.2.2.1
    have n9 := p9.2.2.2.2.2.1
    have hb8 := h8.1.1
    refine wp_ite (fun c3 => ?_) (fun c3 => ?_)
    · have hno : SNO fu s l r N0 M0 N9 := by
        rcases h8.2 with q | ⟨-, n3, M3, e3, r3, i3, k3, z3⟩
        · omega
        · refine ⟨m + 1 + n3, M3, by rw [e3, ea]; omega, hrun2.app (by rw [show N0 0 0 41 + ((m + 1 : Nat) : Int) = N7 0 0 41 by omega]; exact r3), i3, kk2.trS k3, z3⟩
      exact ih N9 v8 ⟨h8.1.1, (hPO.2.1.tr p9).slack (by omega), fun q => absurd c3 (by omega)⟩ (fun _ => hno) (fun q => absurd c3 (by omega)) (by omega)
    · have hok := h8.2
      rcases hok with ⟨hv8, n3, M3, cmp3, dg3, P3, Er3, e3, r3, i3, k3, hA3, hPl3, hc33, hc013, hnx3, hlen3, hmk3⟩ | q
      case inr => omega
      have hp9 : PH N N9 1 2 := PH.tr pa h8.1.2.1 (ha 1) ((h8.1.2.2 (by omega)).up 1)
      refine wp_bp (x_act 42 ⟨by omega, by omega⟩) (fun v12 h12 => ?_)
      refine wp_b (x_marks2 (l := l) h8.1.2.1.1 v12 (jm_inL (by omega) (by omega)) a9l (by omega)) (fun v15 N16 h15 => ?_)
      obtain ⟨-, p16, e16, mk16, -, t16⟩ := h15
      have hp16 : PH N N16 1 1 := PH.tr p9 p16 hp9 (t16 2 1 (tk_bin (by omega) (by omega) (by omega)))
      have hPO16 : PO l N0 v8 N16 := ⟨hb8, (hPO.2.1.tr (p9.tr p16)).slack (by omega), fun _ => PH.tr hPO.2.1 (p9.tr p16) (hPO.2.2 hl2) hp16⟩
      have mk7 : MK N N7 [] := MK.nil (by unfold nn; rw [u7, jm_une_f (by decide), jm_une_k (by decide)])
      have hmkA : MK N0 N16 ((((tot Er P).map (er u) ++ []) ++ (tot Er3 P3).map (er u)) ++ [v12]) := by
        refine MK.tr (MK.tr (MK.tr hmk hPO.2.1 mk7 pa) (hPO.2.1.tr pa) hmk3 h8.1.2.1) ((hPO.2.1.tr pa).tr h8.1.2.1) mk16 p16
      have htot : ((((tot Er P).map (er u) ++ []) ++ (tot Er3 P3).map (er u)) ++ [v12]) = (tot (Er3 ++ ((P.map (fun x => 2000 + x)).reverse ++ Er)) (P3 ++ [s (N 0 0 41)])).map (er u) := by
        unfold tot
        simp only [List.map_append, List.reverse_append, List.reverse_reverse, List.append_assoc, List.append_nil, List.map_cons, List.map_nil, List.nil_append]
        rw [er_op u (by omega), h12, hsx]
      rw [htot] at hmkA
      have hJ2 : SO2 fu s l u r 4 5 cmp stk W C N0 M0 N16 := by
        refine ⟨m + 1 + n3, M3, cmp3, dg3, P3 ++ [s (N 0 0 41)], Er3 ++ ((P.map (fun x => 2000 + x)).reverse ++ Er), by rw [e16, e3, ea]; omega, hrun2.app (by rw [show N0 0 0 41 + ((m + 1 : Nat) : Int) = N7 0 0 41 by omega]; exact r3), i3, kk2.trS k3, ?_, fun x hx => ?_, fun q => by exact (hc33 (by decide)).trans (hc3 (by decide)), hc013, by rw [e16]; exact hnx3, ?_, hmkA⟩
        · have := hA3
          simp only [List.append_assoc, List.cons_append, List.nil_append] at this ⊢
          exact this
        · rcases List.mem_append.mp hx with q | q
          · have := hPl3 x q
            omega
          · have q : x = s (N 0 0 41) := by simpa using q
            rw [q]
            omega
        · refine ⟨?_, hlen3.2.app ((okl.ops (fun x hx => by have := hPl x hx; omega)).app hlen.2)⟩
          simp only [List.length_append, List.length_reverse, List.length_map, List.length_cons, List.length_nil]
          omega
      exact ih N16 v8 hPO16 (fun q => absurd q (by omega)) (fun _ => hJ2) (by omega)
theorem PRE.up {s : Int → Int} {l u r : Int} {k : Nat} {N M : jm_M} {st cmp dg : Int} {stk W C : List Int} (k2 : Nat) (h : PRE s l u r k N M st cmp dg stk W C) (h1 : k ≤ k2) (h2 : k2 ≤ 5) (h6 : k2 ≤ 2 → k ≤ 2) : PRE s l u r k2 N M st cmp dg stk W C := by
  obtain ⟨p1, p2, p3, ⟨p4, p5, p6⟩, p7, p8, p9, p10, p11⟩ := h
  refine ⟨p1, p2, p3, ⟨p4, p5, fun q => p6 (h6 q)⟩, fun q x V e => ?_, p8, p9, p10, fun q => absurd q (by omega)⟩
  have := p7 (by omega) x V e
  obtain ⟨vk0, vk1, vk2, vk3, vk4, vk5, vk6⟩ := lvk_val
  rcases (by omega : k = 0 ∨ k = 1 ∨ k = 2 ∨ k = 3 ∨ k = 4) with rfl | rfl | rfl | rfl | rfl <;> rcases (by omega : k2 = 0 ∨ k2 = 1 ∨ k2 = 2 ∨ k2 = 3 ∨ k2 = 4) with rfl | rfl | rfl | rfl | rfl <;> omega
theorem SO2.down {fu : Nat} {s : Int → Int} {l u r : Int} {k : Nat} {cmp : Int} {stk W C : List Int} {N M N1 : jm_M} (h : SOK fu s l u r (k + 1) cmp stk W C N M N1) (hk : k ≤ 4) : SO2 fu s l u r k (k + 1) cmp stk W C N M N1 := by
  obtain ⟨n, M1, cmp1, dg1, P, Er, q1, q2, q3, q4, q5, q6, q7, q8, q9, q10, q11⟩ := h
  refine ⟨n, M1, cmp1, dg1, P, Er, q1, q2, q3, q4, q5, fun x hx => ?_, fun q => q7 (by omega), q8, q9, q10, q11⟩
  have := q6 x hx
  obtain ⟨vk0, vk1, vk2, vk3, vk4, vk5, vk6⟩ := lvk_val
  rcases (by omega : k = 0 ∨ k = 1 ∨ k = 2 ∨ k = 3 ∨ k = 4) with rfl | rfl | rfl | rfl | rfl <;> (try simp only [Nat.reduceAdd] at this ⊢) <;> omega
theorem sim_some (fu : Nat) (hfu : 4000 ≤ fu) (s : Int → Int) (hs : ∀ j : Int, jm_in (s j)) (l u r : Int) (hl : l ≤ 60) (hr : 0 ≤ r ∧ r ≤ 16) (rc : Nat → jm_M → Int → jm_R) (d : Int) (hS : SIM fu s l u r rc d) (N0 M0 : jm_M) {st cmp dg : Int} {stk W C : List Int} (pre : PRE s l u r 0 N0 M0 st cmp dg stk W C) (hd : 7 * (l - N0 0 0 41) + 7 - 0 ≤ d + 1) : wp (gX12_some rc fu N0 l) (SR fu s l u r 0 cmp stk W C N0 M0) := by
  unfold gX12_some
  have b041 : 0 ≤ N0 0 0 41 ∧ N0 0 0 41 ≤ 60 := pre.1.1 0 0 41
  refine wp_b (hS 1 N0 M0 st cmp dg stk W C (by decide) (by omega) (pre.up 1 (by decide) (by decide) (by decide))) (fun v N1 h => ?_)
  have hb := h.1.1
  have a1 := h.1.2.1.2.2.1
  refine sim_some_6 fu hfu s hs l u r hl hr rc d hS N0 M0 pre hd fu N1 v h.1 (fun q => ?_) (fun q => ?_) (by omega)
  · rcases h.2 with z | z
    · omega
    · exact z.2
  · rcases h.2 with z | z
    · exact SO2.down z.2 (by decide)
    · omega
theorem sim_every (fu : Nat) (hfu : 4000 ≤ fu) (s : Int → Int) (hs : ∀ j : Int, jm_in (s j)) (l u r : Int) (hl : l ≤ 60) (hr : 0 ≤ r ∧ r ≤ 16) (rc : Nat → jm_M → Int → jm_R) (d : Int) (hS : SIM fu s l u r rc d) (N0 M0 : jm_M) {st cmp dg : Int} {stk W C : List Int} (pre : PRE s l u r 1 N0 M0 st cmp dg stk W C) (hd : 7 * (l - N0 0 0 41) + 7 - 1 ≤ d + 1) : wp (gX12_every rc fu N0 l) (SR fu s l u r 1 cmp stk W C N0 M0) := by
  unfold gX12_every
  have b041 : 0 ≤ N0 0 0 41 ∧ N0 0 0 41 ≤ 60 := pre.1.1 0 0 41
  refine wp_b (hS 2 N0 M0 st cmp dg stk W C (by decide) (by omega) (pre.up 2 (by decide) (by decide) (by decide))) (fun v N1 h => ?_)
  have hb := h.1.1
  have a1 := h.1.2.1.2.2.1
  refine sim_every_6 fu hfu s hs l u r hl hr rc d hS N0 M0 pre hd fu N1 v h.1 (fun q => ?_) (fun q => ?_) (by omega)
  · rcases h.2 with z | z
    · omega
    · exact z.2
  · rcases h.2 with z | z
    · exact SO2.down z.2 (by decide)
    · omega
theorem sim_total (fu : Nat) (hfu : 4000 ≤ fu) (s : Int → Int) (hs : ∀ j : Int, jm_in (s j)) (l u r : Int) (hl : l ≤ 60) (hr : 0 ≤ r ∧ r ≤ 16) (rc : Nat → jm_M → Int → jm_R) (d : Int) (hS : SIM fu s l u r rc d) (N0 M0 : jm_M) {st cmp dg : Int} {stk W C : List Int} (pre : PRE s l u r 3 N0 M0 st cmp dg stk W C) (hd : 7 * (l - N0 0 0 41) + 7 - 3 ≤ d + 1) : wp (gX12_total rc fu N0 l) (SR fu s l u r 3 cmp stk W C N0 M0) := by
  unfold gX12_total
  have b041 : 0 ≤ N0 0 0 41 ∧ N0 0 0 41 ≤ 60 := pre.1.1 0 0 41
  refine wp_b (hS 4 N0 M0 st cmp dg stk W C (by decide) (by omega) (pre.up 4 (by decide) (by decide) (by decide))) (fun v N1 h => ?_)
  have hb := h.1.1
  have a1 := h.1.2.1.2.2.1
  refine sim_total_6 fu hfu s hs l u r hl hr rc d hS N0 M0 pre hd fu N1 v h.1 (fun q => ?_) (fun q => ?_) (by omega)
  · rcases h.2 with z | z
    · omega
    · exact z.2
  · rcases h.2 with z | z
    · exact SO2.down z.2 (by decide)
    · omega
theorem sim_product (fu : Nat) (hfu : 4000 ≤ fu) (s : Int → Int) (hs : ∀ j : Int, jm_in (s j)) (l u r : Int) (hl : l ≤ 60) (hr : 0 ≤ r ∧ r ≤ 16) (rc : Nat → jm_M → Int → jm_R) (d : Int) (hS : SIM fu s l u r rc d) (N0 M0 : jm_M) {st cmp dg : Int} {stk W C : List Int} (pre : PRE s l u r 4 N0 M0 st cmp dg stk W C) (hd : 7 * (l - N0 0 0 41) + 7 - 4 ≤ d + 1) : wp (gX12_product rc fu N0 l) (SR fu s l u r 4 cmp stk W C N0 M0) := by
  unfold gX12_product
  have b041 : 0 ≤ N0 0 0 41 ∧ N0 0 0 41 ≤ 60 := pre.1.1 0 0 41
  refine wp_b (hS 5 N0 M0 st cmp dg stk W C (by decide) (by omega) (pre.up 5 (by decide) (by decide) (by decide))) (fun v N1 h => ?_)
  have hb := h.1.1
  have a1 := h.1.2.1.2.2.1
  refine sim_product_6 fu hfu s hs l u r hl hr rc d hS N0 M0 pre hd fu N1 v h.1 (fun q => ?_) (fun q => ?_) (by omega)
  · rcases h.2 with z | z
    · omega
    · exact z.2
  · rcases h.2 with z | z
    · exact SO2.down z.2 (by decide)
    · omega
