/-! tables: a row more -/
theorem wp_sv {M : jm_M} {Q : Int → jm_M → Prop} {K : jm_M → jm_R} (k : ∀ M1 : jm_M, M1 = M → wp (K M1) Q) : wp (jm_s M K) Q := k M rfl
theorem c_put {M : jm_M} {r i k v w a : Int} (b1 : M 10 r 1 = wid1 r) (b3 : 0 ≤ M 10 r 3 ∧ M 10 r 3 ≤ lim1 r) (hr : 0 ≤ r ∧ r ≤ 32) (hw : wid1 r = w) (hi : 0 ≤ i ∧ i < M 10 r 3) (hk : 0 ≤ k ∧ k < w) (ha : i * w + k = a) : fX7_put M r i k v = some (0, jm_u M 19 r a v) := by
  have bl := lim1_any r
  have bw := wid1_any r
  have hm : 0 ≤ i * w ∧ i * w ≤ 30 * 4 := jm_mulb (A := 30) (B := 4) (by omega) (by omega) (by omega) (by omega) rfl
  have z := jm_tab (l2 := k) hr ⟨hi.1, hi.2⟩ b3.2 ⟨hk.1, by omega⟩
  rw [hw, jm_wid (x := i * w) (by omega) (by omega), jm_wid (x := i * w + k) (by omega) (by omega), ha] at z
  unfold fX7_put
  rw [b1, hw, if_neg (show ¬ i < 0 by omega), if_neg (show ¬ M 10 r 3 ≤ i by omega), if_neg (show ¬ k < 0 by omega), if_neg (show ¬ w ≤ k by omega), jm_wid (x := i * w) (by omega) (by omega), jm_wid (x := i * w + k) (by omega) (by omega), ha, if_pos z]
  rfl
theorem c_putN {M : jm_M} {r i k v w : Int} (b1 : M 10 r 1 = wid1 r) (hw : wid1 r = w) (hi : 0 ≤ i ∧ i < M 10 r 3) (hk : 0 ≤ k ∧ w ≤ k) : fX7_put M r i k v = some (0, M) := by
  unfold fX7_put
  rw [b1, hw, if_neg (show ¬ i < 0 by omega), if_neg (show ¬ M 10 r 3 ≤ i by omega), if_neg (show ¬ k < 0 by omega), if_pos (show w ≤ k by omega)]
/-- a row of 2 written behind n others -/
def PUT2 (M M1 : jm_M) (r n a b : Int) : Prop := M1 10 r 3 = n + 1 ∧ (M1 19 r (2 * n) = a ∧ M1 19 r (2 * n + 1) = b) ∧ ∀ (f : Nat) (i k : Int), ¬ (f = 10 ∧ i = r ∧ k = 3) → ¬ (f = 19 ∧ i = r ∧ 2 * n ≤ k ∧ k < 2 * n + 2) → M1 f i k = M f i k
/-- a row of 3 written behind n others -/
def PUT3 (M M1 : jm_M) (r n a b c : Int) : Prop := M1 10 r 3 = n + 1 ∧ (M1 19 r (3 * n) = a ∧ M1 19 r (3 * n + 1) = b ∧ M1 19 r (3 * n + 2) = c) ∧ ∀ (f : Nat) (i k : Int), ¬ (f = 10 ∧ i = r ∧ k = 3) → ¬ (f = 19 ∧ i = r ∧ 3 * n ≤ k ∧ k < 3 * n + 3) → M1 f i k = M f i k
/-- a row of 4 written behind n others -/
def PUT4 (M M1 : jm_M) (r n a b c d : Int) : Prop := M1 10 r 3 = n + 1 ∧ (M1 19 r (4 * n) = a ∧ M1 19 r (4 * n + 1) = b ∧ M1 19 r (4 * n + 2) = c ∧ M1 19 r (4 * n + 3) = d) ∧ ∀ (f : Nat) (i k : Int), ¬ (f = 10 ∧ i = r ∧ k = 3) → ¬ (f = 19 ∧ i = r ∧ 4 * n ≤ k ∧ k < 4 * n + 4) → M1 f i k = M f i k
theorem c_push2 {M : jm_M} (iM : bI bx1 M) {r : Int} (hr : 0 ≤ r ∧ r ≤ 32) (hw : wid1 r = 2) (a b c d : Int) : wp (fX7_push M r a b c d) (fun v M1 => (M 10 r 3 < lim1 r ∧ v = M 10 r 3 + 1 ∧ PUT2 M M1 r (M 10 r 3) a b) ∨ (lim1 r ≤ M 10 r 3 ∧ v = -1 ∧ M1 = M)) := by
  have b3 : 0 ≤ M 10 r 3 ∧ M 10 r 3 ≤ lim1 r := iM 10 r 3
  have b1 : M 10 r 1 = wid1 r := iM 10 r 1
  have b0 : M 10 r 0 = lim1 r := iM 10 r 0
  have bl := lim1_any r
  unfold fX7_push fX7_isFull
  by_cases q : M 10 r 3 < M 10 r 0
  · refine wp_bp (M := M) (P := fun v => v = 0) (wp_T q (wp_ret ⟨rfl, rfl⟩)) (fun v1 e1 => wp_T e1 (wp_sv (fun M6 u6 => ?_)))
    obtain ⟨n, hn⟩ : ∃ n : Int, n = M 10 r 3 := ⟨_, rfl⟩
    have w1 : jm_w (n + 1) = n + 1 := jm_wid (by omega) (by omega)
    have w2 : jm_w (n + 1 - 1) = n := by rw [jm_wid (by omega) (by omega)]; omega
    rw [← hn, w1] at u6
    rw [← hn]
    have s6 : M6 10 r 3 = n + 1 := by rw [u6]; exact jm_ueq
    have t6 : M6 10 r 1 = wid1 r := by rw [u6, jm_une_k (by decide)]; exact b1
    rw [s6, w2]
    rw [c_put (M := M6) (i := n) (k := 0) (a := 2 * n) t6 (by rw [s6]; omega) hr hw (by rw [s6]; omega) ⟨by decide, by decide⟩ (by omega), jm_bsm]
    obtain ⟨M7, u7⟩ : ∃ X : jm_M, X = jm_u M6 19 r (2 * n) a := ⟨_, rfl⟩
    rw [← u7]
    have s7 : M7 10 r 3 = n + 1 := by rw [u7, jm_une_f (by decide)]; exact s6
    have t7 : M7 10 r 1 = wid1 r := by rw [u7, jm_une_f (by decide)]; exact t6
    rw [s7, w2]
    rw [c_put (M := M7) (i := n) (k := 1) (a := 2 * n + 1) t7 (by rw [s7]; omega) hr hw (by rw [s7]; omega) ⟨by decide, by decide⟩ (by omega), jm_bsm]
    obtain ⟨M8, u8⟩ : ∃ X : jm_M, X = jm_u M7 19 r (2 * n + 1) b := ⟨_, rfl⟩
    rw [← u8]
    have s8 : M8 10 r 3 = n + 1 := by rw [u8, jm_une_f (by decide)]; exact s7
    have t8 : M8 10 r 1 = wid1 r := by rw [u8, jm_une_f (by decide)]; exact t7
    rw [s8, w2]
    rw [c_putN (M := M8) (i := n) (k := 2) t8 hw (by rw [s8]; omega) ⟨by decide, by decide⟩, jm_bsm]
    rw [s8, w2]
    rw [c_putN (M := M8) (i := n) (k := 3) t8 hw (by rw [s8]; omega) ⟨by decide, by decide⟩, jm_bsm]
    rw [s8]
    refine wp_ret (Or.inl ⟨by omega, by omega, s8, ⟨?_, ?_⟩, fun f i k y1 y2 => ?_⟩)
    · rw [u8, jm_une_k (by omega), u7]; exact jm_ueq
    · rw [u8]; exact jm_ueq
    · rw [u8, jm_une (by omega), u7, jm_une (by omega), u6, jm_une y1]
  · refine wp_bp (M := M) (P := fun v => v = 1) (wp_F q (wp_ret ⟨rfl, rfl⟩)) (fun v1 e1 => wp_F (by omega) (wp_ret (Or.inr ⟨by omega, rfl, rfl⟩)))
theorem c_push3 {M : jm_M} (iM : bI bx1 M) {r : Int} (hr : 0 ≤ r ∧ r ≤ 32) (hw : wid1 r = 3) (a b c d : Int) : wp (fX7_push M r a b c d) (fun v M1 => (M 10 r 3 < lim1 r ∧ v = M 10 r 3 + 1 ∧ PUT3 M M1 r (M 10 r 3) a b c) ∨ (lim1 r ≤ M 10 r 3 ∧ v = -1 ∧ M1 = M)) := by
  have b3 : 0 ≤ M 10 r 3 ∧ M 10 r 3 ≤ lim1 r := iM 10 r 3
  have b1 : M 10 r 1 = wid1 r := iM 10 r 1
  have b0 : M 10 r 0 = lim1 r := iM 10 r 0
  have bl := lim1_any r
  unfold fX7_push fX7_isFull
  by_cases q : M 10 r 3 < M 10 r 0
  · refine wp_bp (M := M) (P := fun v => v = 0) (wp_T q (wp_ret ⟨rfl, rfl⟩)) (fun v1 e1 => wp_T e1 (wp_sv (fun M6 u6 => ?_)))
    obtain ⟨n, hn⟩ : ∃ n : Int, n = M 10 r 3 := ⟨_, rfl⟩
    have w1 : jm_w (n + 1) = n + 1 := jm_wid (by omega) (by omega)
    have w2 : jm_w (n + 1 - 1) = n := by rw [jm_wid (by omega) (by omega)]; omega
    rw [← hn, w1] at u6
    rw [← hn]
    have s6 : M6 10 r 3 = n + 1 := by rw [u6]; exact jm_ueq
    have t6 : M6 10 r 1 = wid1 r := by rw [u6, jm_une_k (by decide)]; exact b1
    rw [s6, w2]
    rw [c_put (M := M6) (i := n) (k := 0) (a := 3 * n) t6 (by rw [s6]; omega) hr hw (by rw [s6]; omega) ⟨by decide, by decide⟩ (by omega), jm_bsm]
    obtain ⟨M7, u7⟩ : ∃ X : jm_M, X = jm_u M6 19 r (3 * n) a := ⟨_, rfl⟩
    rw [← u7]
    have s7 : M7 10 r 3 = n + 1 := by rw [u7, jm_une_f (by decide)]; exact s6
    have t7 : M7 10 r 1 = wid1 r := by rw [u7, jm_une_f (by decide)]; exact t6
    rw [s7, w2]
    rw [c_put (M := M7) (i := n) (k := 1) (a := 3 * n + 1) t7 (by rw [s7]; omega) hr hw (by rw [s7]; omega) ⟨by decide, by decide⟩ (by omega), jm_bsm]
    obtain ⟨M8, u8⟩ : ∃ X : jm_M, X = jm_u M7 19 r (3 * n + 1) b := ⟨_, rfl⟩
    rw [← u8]
    have s8 : M8 10 r 3 = n + 1 := by rw [u8, jm_une_f (by decide)]; exact s7
    have t8 : M8 10 r 1 = wid1 r := by rw [u8, jm_une_f (by decide)]; exact t7
    rw [s8, w2]
    rw [c_put (M := M8) (i := n) (k := 2) (a := 3 * n + 2) t8 (by rw [s8]; omega) hr hw (by rw [s8]; omega) ⟨by decide, by decide⟩ (by omega), jm_bsm]
    obtain ⟨M9, u9⟩ : ∃ X : jm_M, X = jm_u M8 19 r (3 * n + 2) c := ⟨_, rfl⟩
    rw [← u9]
    have s9 : M9 10 r 3 = n + 1 := by rw [u9, jm_une_f (by decide)]; exact s8
    have t9 : M9 10 r 1 = wid1 r := by rw [u9, jm_une_f (by decide)]; exact t8
    rw [s9, w2]
    rw [c_putN (M := M9) (i := n) (k := 3) t9 hw (by rw [s9]; omega) ⟨by decide, by decide⟩, jm_bsm]
    rw [s9]
    refine wp_ret (Or.inl ⟨by omega, by omega, s9, ⟨?_, ?_, ?_⟩, fun f i k y1 y2 => ?_⟩)
    · rw [u9, jm_une_k (by omega), u8, jm_une_k (by omega), u7]; exact jm_ueq
    · rw [u9, jm_une_k (by omega), u8]; exact jm_ueq
    · rw [u9]; exact jm_ueq
    · rw [u9, jm_une (by omega), u8, jm_une (by omega), u7, jm_une (by omega), u6, jm_une y1]
  · refine wp_bp (M := M) (P := fun v => v = 1) (wp_F q (wp_ret ⟨rfl, rfl⟩)) (fun v1 e1 => wp_F (by omega) (wp_ret (Or.inr ⟨by omega, rfl, rfl⟩)))
theorem c_push4 {M : jm_M} (iM : bI bx1 M) {r : Int} (hr : 0 ≤ r ∧ r ≤ 32) (hw : wid1 r = 4) (a b c d : Int) : wp (fX7_push M r a b c d) (fun v M1 => (M 10 r 3 < lim1 r ∧ v = M 10 r 3 + 1 ∧ PUT4 M M1 r (M 10 r 3) a b c d) ∨ (lim1 r ≤ M 10 r 3 ∧ v = -1 ∧ M1 = M)) := by
  have b3 : 0 ≤ M 10 r 3 ∧ M 10 r 3 ≤ lim1 r := iM 10 r 3
  have b1 : M 10 r 1 = wid1 r := iM 10 r 1
  have b0 : M 10 r 0 = lim1 r := iM 10 r 0
  have bl := lim1_any r
  unfold fX7_push fX7_isFull
  by_cases q : M 10 r 3 < M 10 r 0
  · refine wp_bp (M := M) (P := fun v => v = 0) (wp_T q (wp_ret ⟨rfl, rfl⟩)) (fun v1 e1 => wp_T e1 (wp_sv (fun M6 u6 => ?_)))
    obtain ⟨n, hn⟩ : ∃ n : Int, n = M 10 r 3 := ⟨_, rfl⟩
    have w1 : jm_w (n + 1) = n + 1 := jm_wid (by omega) (by omega)
    have w2 : jm_w (n + 1 - 1) = n := by rw [jm_wid (by omega) (by omega)]; omega
    rw [← hn, w1] at u6
    rw [← hn]
    have s6 : M6 10 r 3 = n + 1 := by rw [u6]; exact jm_ueq
    have t6 : M6 10 r 1 = wid1 r := by rw [u6, jm_une_k (by decide)]; exact b1
    rw [s6, w2]
    rw [c_put (M := M6) (i := n) (k := 0) (a := 4 * n) t6 (by rw [s6]; omega) hr hw (by rw [s6]; omega) ⟨by decide, by decide⟩ (by omega), jm_bsm]
    obtain ⟨M7, u7⟩ : ∃ X : jm_M, X = jm_u M6 19 r (4 * n) a := ⟨_, rfl⟩
    rw [← u7]
    have s7 : M7 10 r 3 = n + 1 := by rw [u7, jm_une_f (by decide)]; exact s6
    have t7 : M7 10 r 1 = wid1 r := by rw [u7, jm_une_f (by decide)]; exact t6
    rw [s7, w2]
    rw [c_put (M := M7) (i := n) (k := 1) (a := 4 * n + 1) t7 (by rw [s7]; omega) hr hw (by rw [s7]; omega) ⟨by decide, by decide⟩ (by omega), jm_bsm]
    obtain ⟨M8, u8⟩ : ∃ X : jm_M, X = jm_u M7 19 r (4 * n + 1) b := ⟨_, rfl⟩
    rw [← u8]
    have s8 : M8 10 r 3 = n + 1 := by rw [u8, jm_une_f (by decide)]; exact s7
    have t8 : M8 10 r 1 = wid1 r := by rw [u8, jm_une_f (by decide)]; exact t7
    rw [s8, w2]
    rw [c_put (M := M8) (i := n) (k := 2) (a := 4 * n + 2) t8 (by rw [s8]; omega) hr hw (by rw [s8]; omega) ⟨by decide, by decide⟩ (by omega), jm_bsm]
    obtain ⟨M9, u9⟩ : ∃ X : jm_M, X = jm_u M8 19 r (4 * n + 2) c := ⟨_, rfl⟩
    rw [← u9]
    have s9 : M9 10 r 3 = n + 1 := by rw [u9, jm_une_f (by decide)]; exact s8
    have t9 : M9 10 r 1 = wid1 r := by rw [u9, jm_une_f (by decide)]; exact t8
    rw [s9, w2]
    rw [c_put (M := M9) (i := n) (k := 3) (a := 4 * n + 3) t9 (by rw [s9]; omega) hr hw (by rw [s9]; omega) ⟨by decide, by decide⟩ (by omega), jm_bsm]
    obtain ⟨M10, u10⟩ : ∃ X : jm_M, X = jm_u M9 19 r (4 * n + 3) d := ⟨_, rfl⟩
    rw [← u10]
    have s10 : M10 10 r 3 = n + 1 := by rw [u10, jm_une_f (by decide)]; exact s9
    have t10 : M10 10 r 1 = wid1 r := by rw [u10, jm_une_f (by decide)]; exact t9
    rw [s10]
    refine wp_ret (Or.inl ⟨by omega, by omega, s10, ⟨?_, ?_, ?_, ?_⟩, fun f i k y1 y2 => ?_⟩)
    · rw [u10, jm_une_k (by omega), u9, jm_une_k (by omega), u8, jm_une_k (by omega), u7]; exact jm_ueq
    · rw [u10, jm_une_k (by omega), u9, jm_une_k (by omega), u8]; exact jm_ueq
    · rw [u10, jm_une_k (by omega), u9]; exact jm_ueq
    · rw [u10]; exact jm_ueq
    · rw [u10, jm_une (by omega), u9, jm_une (by omega), u8, jm_une (by omega), u7, jm_une (by omega), u6, jm_une y1]
  · refine wp_bp (M := M) (P := fun v => v = 1) (wp_F q (wp_ret ⟨rfl, rfl⟩)) (fun v1 e1 => wp_F (by omega) (wp_ret (Or.inr ⟨by omega, rfl, rfl⟩)))
theorem cc_rain {M : jm_M} (iM : bI bx1 M) (l1 l2 l3 : Int) (h1 : jm_in l1) (h2 : jm_in l2) (h3 : jm_in l3) : wp (fX11_rain M l1 l2 l3) (fun _ M1 => (M1 = M ∨ M1 = jm_u M 2 0 7 0) ∨ ∃ M10 : jm_M, M10 = jm_u M 2 0 7 0 ∧ PUT3 M10 M1 30 (M10 10 30 3) l1 l2 l3) := by
  unfold fX11_rain
  refine wp_bp (s_fX9_hasSector M iM l1 h1) (fun v1 g1 => wp_ite (fun _ => wp_ret (Or.inl (Or.inl rfl))) (fun z1 => ?_))
  refine wp_ite (fun _ => wp_ret (Or.inl (Or.inl rfl))) (fun z2 => ?_)
  refine wp_bp (s_fX11_isWithin M iM l3 0 100 h3 (jm_inL (by decide) (by decide)) (jm_inL (by decide) (by decide))) (fun v3 g3 => wp_ite (fun _ => wp_ret (Or.inl (Or.inl rfl))) (fun z3 => ?_))
  refine wp_sv (fun M10 u10 => ?_)
  have i10 : bI bx1 M10 := by rw [u10]; exact bI_u iM (jm_inL (by decide) (by decide))
  refine wp_b (c_push3 i10 ⟨by omega, by omega⟩ (wid1_24 (by decide) (by decide)) l1 l2 l3 0) (fun v11 M12 q => wp_ret ?_)
  rcases q with ⟨q1, q2, q3⟩ | ⟨q1, q2, q3⟩
  · exact Or.inr ⟨M10, u10, q3⟩
  · exact Or.inl (Or.inr (q3.trans u10))
theorem cc_flag18 (fu : Nat) {M : jm_M} (iM : bI bx1 M) (l1 l2 l3 l4 : Int) (h1 : jm_in l1) (h2 : jm_in l2) (h3 : jm_in l3) (h4 : jm_in l4) : wp (gX11_flag_18 fu M l1 l2 l3 l4) (fun _ M1 => (M1 = M ∨ M1 = jm_u M 2 0 7 0) ∨ ∃ M10 : jm_M, M10 = jm_u M 2 0 7 0 ∧ PUT4 M10 M1 31 (M10 10 31 3) l1 l2 l3 l4) := by
  unfold gX11_flag_18
  refine wp_ite (fun _ => wp_ret (Or.inl (Or.inl rfl))) (fun z1 => ?_)
  refine wp_ite (fun _ => wp_ret (Or.inl (Or.inl rfl))) (fun z2 => ?_)
  refine wp_bp (s_fX11_isWithin M iM l4 0 1 h4 (jm_inL (by decide) (by decide)) (jm_inL (by decide) (by decide))) (fun v3 g3 => wp_ite (fun _ => wp_ret (Or.inl (Or.inl rfl))) (fun z3 => ?_))
  refine wp_sv (fun M10 u10 => ?_)
  have i10 : bI bx1 M10 := by rw [u10]; exact bI_u iM (jm_inL (by decide) (by decide))
  refine wp_b (c_push4 i10 ⟨by omega, by omega⟩ (wid1_31 (by decide)) l1 l2 l3 l4) (fun v11 M12 q => wp_ret ?_)
  rcases q with ⟨q1, q2, q3⟩ | ⟨q1, q2, q3⟩
  · exact Or.inr ⟨M10, u10, q3⟩
  · exact Or.inl (Or.inr (q3.trans u10))
theorem cc_flag (fu : Nat) {M : jm_M} (iM : bI bx1 M) (l1 l2 l3 l4 : Int) (h1 : jm_in l1) (h2 : jm_in l2) (h3 : jm_in l3) (h4 : jm_in l4) : wp (fX11_flag fu M l1 l2 l3 l4) (fun _ M1 => (M1 = M ∨ M1 = jm_u M 2 0 7 0) ∨ ∃ M10 : jm_M, M10 = jm_u M 2 0 7 0 ∧ PUT4 M10 M1 31 (M10 10 31 3) l1 l2 l3 l4) := by
  unfold fX11_flag
  refine wp_ite (fun _ => cc_flag18 fu iM l1 l2 l3 l4 h1 h2 h3 h4) (fun _ => wp_bp (s_fX9_hasSector M iM l1 h1) (fun v2 g2 => wp_ite (fun _ => wp_ret (Or.inl (Or.inl rfl))) (fun _ => cc_flag18 fu iM l1 l2 l3 l4 h1 h2 h3 h4)))
theorem cc_tyre {M : jm_M} (iM : bI bx1 M) (l1 l2 l3 : Int) (h1 : jm_in l1) (h2 : jm_in l2) (h3 : jm_in l3) : wp (fX11_tyre M l1 l2 l3) (fun _ M1 => (M1 = M ∨ M1 = jm_u M 2 0 7 0) ∨ ∃ M10 : jm_M, M10 = jm_u M 2 0 7 0 ∧ PUT2 M10 M1 l1 (M10 10 l1 3) l2 l3) := by
  unfold fX11_tyre
  refine wp_bp (s_fX2_has M iM l1 h1) (fun v1 g1 => wp_ite (fun _ => wp_ret (Or.inl (Or.inl rfl))) (fun z1 => ?_))
  refine wp_bp (x_isIndex M l2 4) (fun v2 g2 => wp_ite (fun _ => wp_ret (Or.inl (Or.inl rfl))) (fun z2 => ?_))
  refine wp_bp (s_fX11_isWithin M iM l3 0 100 h3 (jm_inL (by decide) (by decide)) (jm_inL (by decide) (by decide))) (fun v3 g3 => wp_ite (fun _ => wp_ret (Or.inl (Or.inl rfl))) (fun z3 => ?_))
  refine wp_T ⟨by omega, by omega⟩ ?_
  refine wp_bp (s_fX7_isFull M iM l1 ⟨by omega, by omega⟩) (fun v9 g9 => wp_ite (fun _ => ?_) (fun _ => wp_ret (Or.inl (Or.inl rfl))))
  refine wp_sv (fun M10 u10 => ?_)
  have i10 : bI bx1 M10 := by rw [u10]; exact bI_u iM (jm_inL (by decide) (by decide))
  refine wp_b (c_push2 i10 ⟨by omega, by omega⟩ (wid1_0 (by omega)) l2 l3 0 0) (fun v11 M12 q => wp_ret ?_)
  rcases q with ⟨q1, q2, q3⟩ | ⟨q1, q2, q3⟩
  · exact Or.inr ⟨M10, u10, q3⟩
  · exact Or.inl (Or.inr (q3.trans u10))
theorem cc_order47 (fu : Nat) {M : jm_M} (iM : bI bx1 M) (l1 l2 l3 l4 : Int) (h1 : jm_in l1) (h2 : jm_in l2) (h3 : jm_in l3) (h4 : jm_in l4) (s0 s1 : Int) (hs0 : jm_in s0) (hs1 : jm_in s1) (hc : 0 ≤ l1 ∧ l1 < 6) : wp (gX11_order_47 fu M l1 l2 l3 l4 s0 s1) (fun _ M1 => (M1 = M ∨ M1 = jm_u M 2 0 7 0) ∨ ∃ M10 : jm_M, M10 = jm_u M 2 0 7 0 ∧ PUT3 M10 M1 (l1 + 6) (M10 10 (l1 + 6) 3) l2 l3 l4) := by
  unfold gX11_order_47
  refine wp_bp (s_fX11_isWithin M iM s1 s0 1 hs1 hs0 (jm_inL (by decide) (by decide))) (fun v1 g1 => wp_ite (fun _ => wp_ret (Or.inl (Or.inl rfl))) (fun z1 => ?_))
  refine wp_sv (fun M10 u10 => ?_)
  have i10 : bI bx1 M10 := by rw [u10]; exact bI_u iM (jm_inL (by decide) (by decide))
  refine wp_T ⟨by omega, by omega⟩ ?_
  refine wp_b (c_push3 i10 ⟨by omega, by omega⟩ (wid1_6 (by omega) (by omega)) l2 l3 l4 0) (fun v11 M12 q => wp_ret ?_)
  rcases q with ⟨q1, q2, q3⟩ | ⟨q1, q2, q3⟩
  · exact Or.inr ⟨M10, u10, q3⟩
  · exact Or.inl (Or.inr (q3.trans u10))
theorem cc_order (fu : Nat) {M : jm_M} (iM : bI bx1 M) (l1 l2 l3 l4 : Int) (h1 : jm_in l1) (h2 : jm_in l2) (h3 : jm_in l3) (h4 : jm_in l4) : wp (fX11_order fu M l1 l2 l3 l4) (fun _ M1 => (M1 = M ∨ M1 = jm_u M 2 0 7 0) ∨ ∃ M10 : jm_M, M10 = jm_u M 2 0 7 0 ∧ PUT3 M10 M1 (l1 + 6) (M10 10 (l1 + 6) 3) l2 l3 l4) := by
  unfold fX11_order
  refine wp_bp (s_fX2_has M iM l1 h1) (fun v1 g1 => wp_ite (fun _ => wp_ret (Or.inl (Or.inl rfl))) (fun z1 => ?_))
  refine wp_bp (x_isIndex M l2 (M 1 0 1)) (fun v2 g2 => wp_ite (fun _ => wp_ret (Or.inl (Or.inl rfl))) (fun z2 => ?_))
  refine wp_bp (s_fX11_isWithin M iM l3 0 1 h3 (jm_inL (by decide) (by decide)) (jm_inL (by decide) (by decide))) (fun v3 g3 => wp_ite (fun _ => wp_ret (Or.inl (Or.inl rfl))) (fun z3 => ?_))
  exact wp_ite (fun _ => cc_order47 fu iM l1 l2 l3 l4 h1 h2 h3 h4 (-1) l4 (jm_inL (by decide) (by decide)) h4 ⟨by omega, by omega⟩) (fun _ => cc_order47 fu iM l1 l2 l3 l4 h1 h2 h3 h4 0 l4 (jm_inL (by decide) (by decide)) h4 ⟨by omega, by omega⟩)
theorem cc_stop {M : jm_M} (iM : bI bx1 M) (l1 l2 l3 l4 : Int) (h1 : jm_in l1) (h2 : jm_in l2) (h3 : jm_in l3) (h4 : jm_in l4) : wp (fX11_stop M l1 l2 l3 l4) (fun _ M1 => (M1 = M ∨ M1 = jm_u M 2 0 7 0) ∨ ∃ M10 : jm_M, M10 = jm_u M 2 0 7 0 ∧ PUT3 M10 M1 (l1 + 12) (M10 10 (l1 + 12) 3) l2 l3 l4) := by
  unfold fX11_stop
  refine wp_bp (s_fX2_has M iM l1 h1) (fun v1 g1 => wp_ite (fun _ => wp_ret (Or.inl (Or.inl rfl))) (fun z1 => ?_))
  refine wp_bp (s_fX11_isWithin M iM l2 0 (jm_w ((M 1 0 1) - 2)) h2 (jm_inL (by decide) (by decide)) (jm_w_in _)) (fun v2 g2 => wp_ite (fun _ => wp_ret (Or.inl (Or.inl rfl))) (fun z2 => ?_))
  refine wp_bp (s_fX11_isWithin M iM l3 (-1) 3 h3 (jm_inL (by decide) (by decide)) (jm_inL (by decide) (by decide))) (fun v3 g3 => wp_ite (fun _ => wp_ret (Or.inl (Or.inl rfl))) (fun z3 => ?_))
  refine wp_bp (s_fX11_isWithin M iM l4 0 200 h4 (jm_inL (by decide) (by decide)) (jm_inL (by decide) (by decide))) (fun v4 g4 => wp_ite (fun _ => wp_ret (Or.inl (Or.inl rfl))) (fun z4 => ?_))
  refine wp_sv (fun M10 u10 => ?_)
  have i10 : bI bx1 M10 := by rw [u10]; exact bI_u iM (jm_inL (by decide) (by decide))
  refine wp_T ⟨by omega, by omega⟩ ?_
  refine wp_b (c_push3 i10 ⟨by omega, by omega⟩ (wid1_6 (by omega) (by omega)) l2 l3 l4 0) (fun v11 M12 q => wp_ret ?_)
  rcases q with ⟨q1, q2, q3⟩ | ⟨q1, q2, q3⟩
  · exact Or.inr ⟨M10, u10, q3⟩
  · exact Or.inl (Or.inr (q3.trans u10))
theorem cc_option {M : jm_M} (iM : bI bx1 M) (l1 l2 l3 : Int) (h1 : jm_in l1) (h2 : jm_in l2) (h3 : jm_in l3) : wp (fX11_option M l1 l2 l3) (fun _ M1 => (M1 = M ∨ M1 = jm_u M 2 0 7 0) ∨ ∃ M10 : jm_M, M10 = M ∧ PUT2 M10 M1 (l1 + 18) (M10 10 (l1 + 18) 3) l2 l3) := by
  unfold fX11_option
  refine wp_bp (s_fX2_has M iM l1 h1) (fun v1 g1 => wp_ite (fun _ => wp_ret (Or.inl (Or.inl rfl))) (fun z1 => ?_))
  refine wp_bp (s_fX11_isWithin M iM l2 (-1) (jm_w ((M 1 0 1) - 2)) h2 (jm_inL (by decide) (by decide)) (jm_w_in _)) (fun v2 g2 => wp_ite (fun _ => wp_ret (Or.inl (Or.inl rfl))) (fun z2 => ?_))
  refine wp_bp (s_fX11_isWithin M iM l3 (-1) 3 h3 (jm_inL (by decide) (by decide)) (jm_inL (by decide) (by decide))) (fun v3 g3 => wp_ite (fun _ => wp_ret (Or.inl (Or.inl rfl))) (fun z3 => ?_))
  refine wp_T ⟨by omega, by omega⟩ ?_
  refine wp_b (c_push2 iM ⟨by omega, by omega⟩ (wid1_18 (by omega) (by omega)) l2 l3 0 0) (fun v11 M12 q => wp_ret ?_)
  rcases q with ⟨q1, q2, q3⟩ | ⟨q1, q2, q3⟩
  · exact Or.inr ⟨M, rfl, q3⟩
  · exact Or.inl (Or.inl q3)
theorem cc_finding55 (fu : Nat) {M : jm_M} (iM : bI bx1 M) (l1 l2 l3 l4 : Int) (h1 : jm_in l1) (h2 : jm_in l2) (h3 : jm_in l3) (h4 : jm_in l4) (s0 : Int) : wp (gX11_finding_55 fu M l1 l2 l3 l4 s0) (fun _ M1 => (M1 = M ∨ M1 = jm_u M 2 0 7 0) ∨ ∃ M10 : jm_M, M10 = M ∧ PUT4 M10 M1 32 (M10 10 32 3) l1 l2 l3 l4) := by
  unfold gX11_finding_55
  refine wp_ite (fun _ => wp_ret (Or.inl (Or.inl rfl))) (fun z1 => ?_)
  refine wp_b (c_push4 iM ⟨by omega, by omega⟩ (wid1_31 (by decide)) l1 l2 l3 l4) (fun v11 M12 q => wp_ret ?_)
  rcases q with ⟨q1, q2, q3⟩ | ⟨q1, q2, q3⟩
  · exact Or.inr ⟨M, rfl, q3⟩
  · exact Or.inl (Or.inl q3)
theorem cc_finding (fu : Nat) {M : jm_M} (iM : bI bx1 M) (l1 l2 l3 l4 : Int) (h1 : jm_in l1) (h2 : jm_in l2) (h3 : jm_in l3) (h4 : jm_in l4) : wp (fX11_finding fu M l1 l2 l3 l4) (fun _ M1 => (M1 = M ∨ M1 = jm_u M 2 0 7 0) ∨ ∃ M10 : jm_M, M10 = M ∧ PUT4 M10 M1 32 (M10 10 32 3) l1 l2 l3 l4) := by
  unfold fX11_finding
  refine wp_bp (s_fX11_isDay M iM l1 h1) (fun v1 g1 => wp_ite (fun _ => wp_ret (Or.inl (Or.inl rfl))) (fun z1 => ?_))
  refine wp_bp (s_fX2_has M iM l2 h2) (fun v2 g2 => wp_ite (fun _ => wp_ret (Or.inl (Or.inl rfl))) (fun z2 => ?_))
  refine wp_bp (s_fX11_isWithin M iM l3 0 1 h3 (jm_inL (by decide) (by decide)) (jm_inL (by decide) (by decide))) (fun v3 g3 => wp_ite (fun _ => wp_ret (Or.inl (Or.inl rfl))) (fun z3 => ?_))
  refine wp_ite (fun _ => wp_bp (s_fX11_isWithin M iM l4 0 999 h4 (jm_inL (by decide) (by decide)) (jm_inL (by decide) (by decide))) (fun v8 g8 => ?_)) (fun _ => wp_bp (s_fX11_isWithin M iM l4 (-60000) 60000 h4 (jm_inL (by decide) (by decide)) (jm_inL (by decide) (by decide))) (fun v8 g8 => ?_))
  · exact cc_finding55 fu iM l1 l2 l3 l4 h1 h2 h3 h4 v8
  · exact cc_finding55 fu iM l1 l2 l3 l4 h1 h2 h3 h4 v8
theorem dd_rain {N : jm_M} (iN : bI bx2 N) (l1 l2 l3 : Int) (h1 : jm_in l1) (h2 : jm_in l2) (h3 : jm_in l3) : wp (fX12_rain N l1 l2 l3) (fun _ N1 => N1 = jm_u N 0 0 0 0 ∨ (N1 0 0 8 = N 0 0 8 + 1 ∧ (N1 6 0 (N 0 0 8) = l1 ∧ N1 7 0 (N 0 0 8) = l2 ∧ N1 8 0 (N 0 0 8) = l3) ∧ ∀ (f : Nat) (i k : Int), ¬ (i = 0 ∧ ((f = 0 ∧ k = 0) ∨ (f = 0 ∧ k = 8) ∨ ((f = 6 ∨ f = 7 ∨ f = 8) ∧ k = N 0 0 8))) → N1 f i k = N f i k)) := by
  unfold fX12_rain
  refine wp_sv (fun N1 u1 => ?_)
  have j1 : bI bx2 N1 := by rw [u1]; exact bI_u iN (jm_inL (by decide) (by decide))
  have o1 : ∀ (f : Nat) (i k : Int), ¬ (f = 0 ∧ i = 0 ∧ k = 0) → N1 f i k = N f i k := fun f i k y => by rw [u1]; exact jm_une y
  obtain ⟨n, hn⟩ : ∃ n : Int, n = N 0 0 8 := ⟨_, rfl⟩
  have bn : 0 ≤ N 0 0 8 ∧ N 0 0 8 ≤ 30 := iN 0 0 8
  have c0 : N1 0 0 8 = n := by rw [hn]; exact o1 0 0 8 (by omega)
  have wn : jm_w (n + 1) = n + 1 := jm_wid (by omega) (by omega)
  rw [← hn]
  refine wp_bp (s_fX12_isSector N1 j1 l1 h1) (fun v1 g1 => wp_ite (fun _ => wp_ret (Or.inl u1)) (fun z1 => ?_))
  refine wp_ite (fun _ => wp_ret (Or.inl u1)) (fun z2 => ?_)
  refine wp_bp (s_fX12_in N1 j1 l3 0 100 h3 ⟨by decide, by decide⟩ ⟨by decide, by decide⟩) (fun v3 g3 => wp_ite (fun _ => wp_ret (Or.inl u1)) (fun z3 => ?_))
  refine wp_ite (fun _ => wp_ret (Or.inl u1)) (fun z4 => ?_)
  rw [c0]
  refine wp_T ⟨by omega, by omega⟩ ?_
  refine wp_sv (fun P1 w1 => ?_)
  have c1 : P1 0 0 8 = n := by rw [w1, jm_une_f (by decide)]; exact c0
  rw [c1]
  refine wp_T ⟨by omega, by omega⟩ ?_
  refine wp_sv (fun P2 w2 => ?_)
  have c2 : P2 0 0 8 = n := by rw [w2, jm_une_f (by decide)]; exact c1
  rw [c2]
  refine wp_T ⟨by omega, by omega⟩ ?_
  refine wp_sv (fun P3 w3 => ?_)
  have c3 : P3 0 0 8 = n := by rw [w3, jm_une_f (by decide)]; exact c2
  refine wp_sv (fun Q1 wq => ?_)
  rw [c3, wn] at wq
  refine wp_ret (Or.inr ⟨?_, ⟨?_, ?_, ?_⟩, fun f i k y => ?_⟩)
  · rw [wq]; exact jm_ueq
  · rw [wq, jm_une_f (by decide), w3, jm_une_f (by decide), w2, jm_une_f (by decide), w1]; exact jm_ueq
  · rw [wq, jm_une_f (by decide), w3, jm_une_f (by decide), w2]; exact jm_ueq
  · rw [wq, jm_une_f (by decide), w3]; exact jm_ueq
  · rw [wq, jm_une (by omega), w3, jm_une (by omega), w2, jm_une (by omega), w1, jm_une (by omega), o1 f i k (by omega)]
theorem dd_flag18 (fu : Nat) {N : jm_M} (iN : bI bx2 N) {N1 : jm_M} (u1 : N1 = jm_u N 0 0 0 0) (j1 : bI bx2 N1) (o1 : ∀ (f : Nat) (i k : Int), ¬ (f = 0 ∧ i = 0 ∧ k = 0) → N1 f i k = N f i k) (l1 l2 l3 l4 : Int) (h1 : jm_in l1) (h2 : jm_in l2) (h3 : jm_in l3) (h4 : jm_in l4) : wp (gX12_flag_18 fu N1 l1 l2 l3 l4) (fun _ N1 => N1 = jm_u N 0 0 0 0 ∨ (N1 0 0 12 = N 0 0 12 + 1 ∧ (N1 9 0 (N 0 0 12) = l1 ∧ N1 10 0 (N 0 0 12) = l2 ∧ N1 11 0 (N 0 0 12) = l3 ∧ N1 12 0 (N 0 0 12) = l4) ∧ ∀ (f : Nat) (i k : Int), ¬ (i = 0 ∧ ((f = 0 ∧ k = 0) ∨ (f = 0 ∧ k = 12) ∨ ((f = 9 ∨ f = 10 ∨ f = 11 ∨ f = 12) ∧ k = N 0 0 12))) → N1 f i k = N f i k)) := by
  unfold gX12_flag_18
  obtain ⟨n, hn⟩ : ∃ n : Int, n = N 0 0 12 := ⟨_, rfl⟩
  have bn : 0 ≤ N 0 0 12 ∧ N 0 0 12 ≤ 20 := iN 0 0 12
  have c0 : N1 0 0 12 = n := by rw [hn]; exact o1 0 0 12 (by omega)
  have wn : jm_w (n + 1) = n + 1 := jm_wid (by omega) (by omega)
  rw [← hn]
  refine wp_ite (fun _ => wp_ret (Or.inl u1)) (fun z1 => ?_)
  refine wp_ite (fun _ => wp_ret (Or.inl u1)) (fun z2 => ?_)
  refine wp_bp (s_fX12_in N1 j1 l4 0 1 h4 ⟨by decide, by decide⟩ ⟨by decide, by decide⟩) (fun v3 g3 => wp_ite (fun _ => wp_ret (Or.inl u1)) (fun z3 => ?_))
  refine wp_ite (fun _ => wp_ret (Or.inl u1)) (fun z4 => ?_)
  rw [c0]
  refine wp_T ⟨by omega, by omega⟩ ?_
  refine wp_sv (fun P1 w1 => ?_)
  have c1 : P1 0 0 12 = n := by rw [w1, jm_une_f (by decide)]; exact c0
  rw [c1]
  refine wp_T ⟨by omega, by omega⟩ ?_
  refine wp_sv (fun P2 w2 => ?_)
  have c2 : P2 0 0 12 = n := by rw [w2, jm_une_f (by decide)]; exact c1
  rw [c2]
  refine wp_T ⟨by omega, by omega⟩ ?_
  refine wp_sv (fun P3 w3 => ?_)
  have c3 : P3 0 0 12 = n := by rw [w3, jm_une_f (by decide)]; exact c2
  rw [c3]
  refine wp_T ⟨by omega, by omega⟩ ?_
  refine wp_sv (fun P4 w4 => ?_)
  have c4 : P4 0 0 12 = n := by rw [w4, jm_une_f (by decide)]; exact c3
  refine wp_sv (fun Q1 wq => ?_)
  rw [c4, wn] at wq
  refine wp_ret (Or.inr ⟨?_, ⟨?_, ?_, ?_, ?_⟩, fun f i k y => ?_⟩)
  · rw [wq]; exact jm_ueq
  · rw [wq, jm_une_f (by decide), w4, jm_une_f (by decide), w3, jm_une_f (by decide), w2, jm_une_f (by decide), w1]; exact jm_ueq
  · rw [wq, jm_une_f (by decide), w4, jm_une_f (by decide), w3, jm_une_f (by decide), w2]; exact jm_ueq
  · rw [wq, jm_une_f (by decide), w4, jm_une_f (by decide), w3]; exact jm_ueq
  · rw [wq, jm_une_f (by decide), w4]; exact jm_ueq
  · rw [wq, jm_une (by omega), w4, jm_une (by omega), w3, jm_une (by omega), w2, jm_une (by omega), w1, jm_une (by omega), o1 f i k (by omega)]
theorem dd_flag (fu : Nat) {N : jm_M} (iN : bI bx2 N) (l1 l2 l3 l4 : Int) (h1 : jm_in l1) (h2 : jm_in l2) (h3 : jm_in l3) (h4 : jm_in l4) : wp (fX12_flag fu N l1 l2 l3 l4) (fun _ N1 => N1 = jm_u N 0 0 0 0 ∨ (N1 0 0 12 = N 0 0 12 + 1 ∧ (N1 9 0 (N 0 0 12) = l1 ∧ N1 10 0 (N 0 0 12) = l2 ∧ N1 11 0 (N 0 0 12) = l3 ∧ N1 12 0 (N 0 0 12) = l4) ∧ ∀ (f : Nat) (i k : Int), ¬ (i = 0 ∧ ((f = 0 ∧ k = 0) ∨ (f = 0 ∧ k = 12) ∨ ((f = 9 ∨ f = 10 ∨ f = 11 ∨ f = 12) ∧ k = N 0 0 12))) → N1 f i k = N f i k)) := by
  unfold fX12_flag
  refine wp_sv (fun N1 u1 => ?_)
  have j1 : bI bx2 N1 := by rw [u1]; exact bI_u iN (jm_inL (by decide) (by decide))
  have o1 : ∀ (f : Nat) (i k : Int), ¬ (f = 0 ∧ i = 0 ∧ k = 0) → N1 f i k = N f i k := fun f i k y => by rw [u1]; exact jm_une y
  refine wp_ite (fun _ => dd_flag18 fu iN u1 j1 o1 l1 l2 l3 l4 h1 h2 h3 h4) (fun _ => wp_bp (s_fX12_isSector N1 j1 l1 h1) (fun v2 g2 => wp_ite (fun _ => wp_ret (Or.inl u1)) (fun _ => dd_flag18 fu iN u1 j1 o1 l1 l2 l3 l4 h1 h2 h3 h4)))
theorem dd_finding71 (fu : Nat) {N : jm_M} (iN : bI bx2 N) {N1 : jm_M} (u1 : N1 = jm_u N 0 0 0 0) (j1 : bI bx2 N1) (o1 : ∀ (f : Nat) (i k : Int), ¬ (f = 0 ∧ i = 0 ∧ k = 0) → N1 f i k = N f i k) (l1 l2 l3 l4 : Int) (h1 : jm_in l1) (h2 : jm_in l2) (h3 : jm_in l3) (h4 : jm_in l4) (s0 : Int) (hs : s0 = 0 ∨ N 0 0 75 < 20) : wp (gX12_finding_71 fu N1 l1 l2 l3 l4 s0) (fun _ N1 => N1 = jm_u N 0 0 0 0 ∨ (N1 0 0 75 = N 0 0 75 + 1 ∧ (N1 63 0 (N 0 0 75) = l1 ∧ N1 64 0 (N 0 0 75) = l2 ∧ N1 65 0 (N 0 0 75) = l3 ∧ N1 66 0 (N 0 0 75) = l4) ∧ ∀ (f : Nat) (i k : Int), ¬ (i = 0 ∧ ((f = 0 ∧ k = 0) ∨ (f = 0 ∧ k = 75) ∨ ((f = 63 ∨ f = 64 ∨ f = 65 ∨ f = 66) ∧ k = N 0 0 75))) → N1 f i k = N f i k)) := by
  unfold gX12_finding_71
  obtain ⟨n, hn⟩ : ∃ n : Int, n = N 0 0 75 := ⟨_, rfl⟩
  have bn : 0 ≤ N 0 0 75 ∧ N 0 0 75 ≤ 20 := iN 0 0 75
  have c0 : N1 0 0 75 = n := by rw [hn]; exact o1 0 0 75 (by omega)
  have wn : jm_w (n + 1) = n + 1 := jm_wid (by omega) (by omega)
  rw [← hn]
  refine wp_ite (fun _ => wp_ret (Or.inl u1)) (fun z0 => ?_)
  rw [c0]
  refine wp_T ⟨by omega, by omega⟩ ?_
  refine wp_sv (fun P1 w1 => ?_)
  have c1 : P1 0 0 75 = n := by rw [w1, jm_une_f (by decide)]; exact c0
  rw [c1]
  refine wp_T ⟨by omega, by omega⟩ ?_
  refine wp_sv (fun P2 w2 => ?_)
  have c2 : P2 0 0 75 = n := by rw [w2, jm_une_f (by decide)]; exact c1
  rw [c2]
  refine wp_T ⟨by omega, by omega⟩ ?_
  refine wp_sv (fun P3 w3 => ?_)
  have c3 : P3 0 0 75 = n := by rw [w3, jm_une_f (by decide)]; exact c2
  rw [c3]
  refine wp_T ⟨by omega, by omega⟩ ?_
  refine wp_sv (fun P4 w4 => ?_)
  have c4 : P4 0 0 75 = n := by rw [w4, jm_une_f (by decide)]; exact c3
  refine wp_sv (fun Q1 wq => ?_)
  rw [c4, wn] at wq
  refine wp_ret (Or.inr ⟨?_, ⟨?_, ?_, ?_, ?_⟩, fun f i k y => ?_⟩)
  · rw [wq]; exact jm_ueq
  · rw [wq, jm_une_f (by decide), w4, jm_une_f (by decide), w3, jm_une_f (by decide), w2, jm_une_f (by decide), w1]; exact jm_ueq
  · rw [wq, jm_une_f (by decide), w4, jm_une_f (by decide), w3, jm_une_f (by decide), w2]; exact jm_ueq
  · rw [wq, jm_une_f (by decide), w4, jm_une_f (by decide), w3]; exact jm_ueq
  · rw [wq, jm_une_f (by decide), w4]; exact jm_ueq
  · rw [wq, jm_une (by omega), w4, jm_une (by omega), w3, jm_une (by omega), w2, jm_une (by omega), w1, jm_une (by omega), o1 f i k (by omega)]
theorem dd_finding57 (fu : Nat) {N : jm_M} (iN : bI bx2 N) {N1 : jm_M} (u1 : N1 = jm_u N 0 0 0 0) (j1 : bI bx2 N1) (o1 : ∀ (f : Nat) (i k : Int), ¬ (f = 0 ∧ i = 0 ∧ k = 0) → N1 f i k = N f i k) (l1 l2 l3 l4 : Int) (h1 : jm_in l1) (h2 : jm_in l2) (h3 : jm_in l3) (h4 : jm_in l4) : wp (gX12_finding_57 fu N1 l1 l2 l3 l4) (fun _ N1 => N1 = jm_u N 0 0 0 0 ∨ (N1 0 0 75 = N 0 0 75 + 1 ∧ (N1 63 0 (N 0 0 75) = l1 ∧ N1 64 0 (N 0 0 75) = l2 ∧ N1 65 0 (N 0 0 75) = l3 ∧ N1 66 0 (N 0 0 75) = l4) ∧ ∀ (f : Nat) (i k : Int), ¬ (i = 0 ∧ ((f = 0 ∧ k = 0) ∨ (f = 0 ∧ k = 75) ∨ ((f = 63 ∨ f = 64 ∨ f = 65 ∨ f = 66) ∧ k = N 0 0 75))) → N1 f i k = N f i k)) := by
  unfold gX12_finding_57
  rw [o1 0 0 75 (by omega)]
  exact wp_ite (fun _ => dd_finding71 fu iN u1 j1 o1 l1 l2 l3 l4 h1 h2 h3 h4 0 (Or.inl rfl)) (fun z => dd_finding71 fu iN u1 j1 o1 l1 l2 l3 l4 h1 h2 h3 h4 1 (Or.inr (by omega)))
theorem dd_finding37 (fu : Nat) {N : jm_M} (iN : bI bx2 N) {N1 : jm_M} (u1 : N1 = jm_u N 0 0 0 0) (j1 : bI bx2 N1) (o1 : ∀ (f : Nat) (i k : Int), ¬ (f = 0 ∧ i = 0 ∧ k = 0) → N1 f i k = N f i k) (l1 l2 l3 l4 : Int) (h1 : jm_in l1) (h2 : jm_in l2) (h3 : jm_in l3) (h4 : jm_in l4) : wp (gX12_finding_37 fu N1 l1 l2 l3 l4) (fun _ N1 => N1 = jm_u N 0 0 0 0 ∨ (N1 0 0 75 = N 0 0 75 + 1 ∧ (N1 63 0 (N 0 0 75) = l1 ∧ N1 64 0 (N 0 0 75) = l2 ∧ N1 65 0 (N 0 0 75) = l3 ∧ N1 66 0 (N 0 0 75) = l4) ∧ ∀ (f : Nat) (i k : Int), ¬ (i = 0 ∧ ((f = 0 ∧ k = 0) ∨ (f = 0 ∧ k = 75) ∨ ((f = 63 ∨ f = 64 ∨ f = 65 ∨ f = 66) ∧ k = N 0 0 75))) → N1 f i k = N f i k)) := by
  unfold gX12_finding_37
  exact wp_ite (fun _ => wp_bp (s_fX12_in N1 j1 l4 (-60000) 60000 h4 ⟨by decide, by decide⟩ ⟨by decide, by decide⟩) (fun v2 g2 => wp_ite (fun _ => dd_finding71 fu iN u1 j1 o1 l1 l2 l3 l4 h1 h2 h3 h4 0 (Or.inl rfl)) (fun _ => dd_finding57 fu iN u1 j1 o1 l1 l2 l3 l4 h1 h2 h3 h4))) (fun _ => dd_finding71 fu iN u1 j1 o1 l1 l2 l3 l4 h1 h2 h3 h4 0 (Or.inl rfl))
theorem dd_finding (fu : Nat) {N : jm_M} (iN : bI bx2 N) (l1 l2 l3 l4 : Int) (h1 : jm_in l1) (h2 : jm_in l2) (h3 : jm_in l3) (h4 : jm_in l4) : wp (fX12_finding fu N l1 l2 l3 l4) (fun _ N1 => N1 = jm_u N 0 0 0 0 ∨ (N1 0 0 75 = N 0 0 75 + 1 ∧ (N1 63 0 (N 0 0 75) = l1 ∧ N1 64 0 (N 0 0 75) = l2 ∧ N1 65 0 (N 0 0 75) = l3 ∧ N1 66 0 (N 0 0 75) = l4) ∧ ∀ (f : Nat) (i k : Int), ¬ (i = 0 ∧ ((f = 0 ∧ k = 0) ∨ (f = 0 ∧ k = 75) ∨ ((f = 63 ∨ f = 64 ∨ f = 65 ∨ f = 66) ∧ k = N 0 0 75))) → N1 f i k = N f i k)) := by
  unfold fX12_finding
  refine wp_sv (fun N1 u1 => ?_)
  have j1 : bI bx2 N1 := by rw [u1]; exact bI_u iN (jm_inL (by decide) (by decide))
  have o1 : ∀ (f : Nat) (i k : Int), ¬ (f = 0 ∧ i = 0 ∧ k = 0) → N1 f i k = N f i k := fun f i k y => by rw [u1]; exact jm_une y
  refine wp_bp (s_fX12_isDay N1 j1 l1 h1) (fun v2 g2 => wp_ite (fun _ => dd_finding71 fu iN u1 j1 o1 l1 l2 l3 l4 h1 h2 h3 h4 0 (Or.inl rfl)) (fun _ => wp_bp (s_fX12_isCar N1 j1 l2 h2) (fun v6 g6 => wp_ite (fun _ => dd_finding71 fu iN u1 j1 o1 l1 l2 l3 l4 h1 h2 h3 h4 0 (Or.inl rfl)) (fun _ => ?_))))
  exact wp_ite (fun _ => wp_bp (s_fX12_in N1 j1 l4 0 999 h4 ⟨by decide, by decide⟩ ⟨by decide, by decide⟩) (fun v11 g11 => wp_ite (fun _ => dd_finding37 fu iN u1 j1 o1 l1 l2 l3 l4 h1 h2 h3 h4) (fun _ => dd_finding57 fu iN u1 j1 o1 l1 l2 l3 l4 h1 h2 h3 h4))) (fun _ => dd_finding37 fu iN u1 j1 o1 l1 l2 l3 l4 h1 h2 h3 h4)
theorem dd_tyre {N : jm_M} (iN : bI bx2 N) (l1 l2 l3 : Int) (h1 : jm_in l1) (h2 : jm_in l2) (h3 : jm_in l3) : wp (fX12_tyre N l1 l2 l3) (fun _ N1 => N1 = jm_u N 0 0 0 0 ∨ (N1 19 0 l1 = N 19 0 l1 + 1 ∧ (N1 20 0 (4 * l1 + N 19 0 l1) = l2 ∧ N1 21 0 (4 * l1 + N 19 0 l1) = l3) ∧ ∀ (f : Nat) (i k : Int), ¬ (i = 0 ∧ ((f = 0 ∧ k = 0) ∨ (f = 19 ∧ k = l1) ∨ ((f = 20 ∨ f = 21) ∧ k = 4 * l1 + N 19 0 l1))) → N1 f i k = N f i k)) := by
  unfold fX12_tyre
  refine wp_sv (fun N1 u1 => ?_)
  have j1 : bI bx2 N1 := by rw [u1]; exact bI_u iN (jm_inL (by decide) (by decide))
  have o1 : ∀ (f : Nat) (i k : Int), ¬ (f = 0 ∧ i = 0 ∧ k = 0) → N1 f i k = N f i k := fun f i k y => by rw [u1]; exact jm_une y
  have b17 : 0 ≤ N 0 0 17 ∧ N 0 0 17 ≤ 6 := iN 0 0 17
  have e17 : N1 0 0 17 = N 0 0 17 := o1 0 0 17 (by omega)
  obtain ⟨n, hn⟩ : ∃ n : Int, n = N 19 0 l1 := ⟨_, rfl⟩
  have bn : 0 ≤ N 19 0 l1 ∧ N 19 0 l1 ≤ 4 := iN 19 0 l1
  have c0 : N1 19 0 l1 = n := by rw [hn]; exact o1 19 0 l1 (by omega)
  have wn : jm_w (n + 1) = n + 1 := jm_wid (by omega) (by omega)
  refine wp_bp (s_fX12_isCar N1 j1 l1 h1) (fun v1 g1 => wp_ite (fun _ => wp_ret (Or.inl u1)) (fun z1 => ?_))
  refine wp_bp (s_fX12_in N1 j1 l2 0 3 h2 ⟨by decide, by decide⟩ ⟨by decide, by decide⟩) (fun v2 g2 => wp_ite (fun _ => wp_ret (Or.inl u1)) (fun z2 => ?_))
  refine wp_bp (s_fX12_in N1 j1 l3 0 100 h3 ⟨by decide, by decide⟩ ⟨by decide, by decide⟩) (fun v3 g3 => wp_ite (fun _ => wp_ret (Or.inl u1)) (fun z3 => ?_))
  refine wp_T ⟨by omega, by omega⟩ ?_
  refine wp_ite (fun _ => wp_ret (Or.inl u1)) (fun z4 => ?_)
  have ix : jm_w (jm_w (4 * l1) + n) = 4 * l1 + n := by rw [jm_wid (x := 4 * l1) (by omega) (by omega)]; exact jm_wid (by omega) (by omega)
  rw [← hn]
  rw [c0, ix]
  refine wp_T ⟨by omega, by omega⟩ (wp_T ⟨by omega, by omega⟩ (wp_sv (fun P1 w1 => ?_)))
  have c1 : P1 19 0 l1 = n := by rw [w1, jm_une_f (by decide)]; exact c0
  rw [c1, ix]
  refine wp_T ⟨by omega, by omega⟩ (wp_T ⟨by omega, by omega⟩ (wp_sv (fun P2 w2 => ?_)))
  have c2 : P2 19 0 l1 = n := by rw [w2, jm_une_f (by decide)]; exact c1
  refine wp_T ⟨by omega, by omega⟩ (wp_T ⟨by omega, by omega⟩ (wp_sv (fun Q1 wq => ?_)))
  rw [c2, wn] at wq
  refine wp_T ⟨by omega, by omega⟩ ?_
  refine wp_ret (Or.inr ⟨?_, ⟨?_, ?_⟩, fun f i k y => ?_⟩)
  · rw [wq]; exact jm_ueq
  · rw [wq, jm_une_f (by decide), w2, jm_une_f (by decide), w1]; exact jm_ueq
  · rw [wq, jm_une_f (by decide), w2]; exact jm_ueq
  · rw [wq, jm_une (by omega), w2, jm_une (by omega), w1, jm_une (by omega), o1 f i k (by omega)]
theorem dd_order45 (fu : Nat) {N : jm_M} (iN : bI bx2 N) {N1 : jm_M} (u1 : N1 = jm_u N 0 0 0 0) (j1 : bI bx2 N1) (o1 : ∀ (f : Nat) (i k : Int), ¬ (f = 0 ∧ i = 0 ∧ k = 0) → N1 f i k = N f i k) (l1 l2 l3 l4 : Int) (h1 : jm_in l1) (h2 : jm_in l2) (h3 : jm_in l3) (h4 : jm_in l4) (s0 s1 : Int) (hs0 : (-60000) ≤ s0 ∧ s0 ≤ 5000) (hs1 : jm_in s1) (hc : 0 ≤ l1 ∧ l1 < 6) : wp (gX12_order_45 fu N1 l1 l2 l3 l4 s0 s1) (fun _ N1 => N1 = jm_u N 0 0 0 0 ∨ (N1 22 0 l1 = N 22 0 l1 + 1 ∧ (N1 23 0 (12 * l1 + N 22 0 l1) = l2 ∧ N1 24 0 (12 * l1 + N 22 0 l1) = l3 ∧ N1 25 0 (12 * l1 + N 22 0 l1) = l4) ∧ ∀ (f : Nat) (i k : Int), ¬ (i = 0 ∧ ((f = 0 ∧ k = 0) ∨ (f = 22 ∧ k = l1) ∨ ((f = 23 ∨ f = 24 ∨ f = 25) ∧ k = 12 * l1 + N 22 0 l1))) → N1 f i k = N f i k)) := by
  unfold gX12_order_45
  obtain ⟨n, hn⟩ : ∃ n : Int, n = N 22 0 l1 := ⟨_, rfl⟩
  have bn : 0 ≤ N 22 0 l1 ∧ N 22 0 l1 ≤ 12 := iN 22 0 l1
  have c0 : N1 22 0 l1 = n := by rw [hn]; exact o1 22 0 l1 (by omega)
  have wn : jm_w (n + 1) = n + 1 := jm_wid (by omega) (by omega)
  refine wp_bp (s_fX12_in N1 j1 s1 s0 1 hs1 hs0 ⟨by decide, by decide⟩) (fun v1 g1 => wp_ite (fun _ => wp_ret (Or.inl u1)) (fun z1 => ?_))
  refine wp_T ⟨by omega, by omega⟩ ?_
  refine wp_ite (fun _ => wp_ret (Or.inl u1)) (fun z2 => ?_)
  have ix : jm_w (jm_w (12 * l1) + n) = 12 * l1 + n := by rw [jm_wid (x := 12 * l1) (by omega) (by omega)]; exact jm_wid (by omega) (by omega)
  rw [← hn]
  refine wp_T ⟨by omega, by omega⟩ (wp_e (jm_w_in _) (fun v10 e10 _ => ?_))
  rw [c0, ix] at e10
  rw [e10]
  refine wp_T ⟨by omega, by omega⟩ (wp_sv (fun P1 w1 => ?_))
  have c1 : P1 22 0 l1 = n := by rw [w1, jm_une_f (by decide)]; exact c0
  refine wp_T ⟨by omega, by omega⟩ (wp_sv (fun P2 w2 => ?_))
  have c2 : P2 22 0 l1 = n := by rw [w2, jm_une_f (by decide)]; exact c1
  refine wp_T ⟨by omega, by omega⟩ (wp_sv (fun P3 w3 => ?_))
  have c3 : P3 22 0 l1 = n := by rw [w3, jm_une_f (by decide)]; exact c2
  refine wp_T ⟨by omega, by omega⟩ (wp_T ⟨by omega, by omega⟩ (wp_sv (fun Q1 wq => ?_)))
  rw [c3, wn] at wq
  refine wp_T ⟨by omega, by omega⟩ ?_
  refine wp_ret (Or.inr ⟨?_, ⟨?_, ?_, ?_⟩, fun f i k y => ?_⟩)
  · rw [wq]; exact jm_ueq
  · rw [wq, jm_une_f (by decide), w3, jm_une_f (by decide), w2, jm_une_f (by decide), w1]; exact jm_ueq
  · rw [wq, jm_une_f (by decide), w3, jm_une_f (by decide), w2]; exact jm_ueq
  · rw [wq, jm_une_f (by decide), w3]; exact jm_ueq
  · rw [wq, jm_une (by omega), w3, jm_une (by omega), w2, jm_une (by omega), w1, jm_une (by omega), o1 f i k (by omega)]
theorem dd_order (fu : Nat) {N : jm_M} (iN : bI bx2 N) (l1 l2 l3 l4 : Int) (h1 : jm_in l1) (h2 : jm_in l2) (h3 : jm_in l3) (h4 : jm_in l4) : wp (fX12_order fu N l1 l2 l3 l4) (fun _ N1 => N1 = jm_u N 0 0 0 0 ∨ (N1 22 0 l1 = N 22 0 l1 + 1 ∧ (N1 23 0 (12 * l1 + N 22 0 l1) = l2 ∧ N1 24 0 (12 * l1 + N 22 0 l1) = l3 ∧ N1 25 0 (12 * l1 + N 22 0 l1) = l4) ∧ ∀ (f : Nat) (i k : Int), ¬ (i = 0 ∧ ((f = 0 ∧ k = 0) ∨ (f = 22 ∧ k = l1) ∨ ((f = 23 ∨ f = 24 ∨ f = 25) ∧ k = 12 * l1 + N 22 0 l1))) → N1 f i k = N f i k)) := by
  unfold fX12_order
  refine wp_sv (fun N1 u1 => ?_)
  have j1 : bI bx2 N1 := by rw [u1]; exact bI_u iN (jm_inL (by decide) (by decide))
  have o1 : ∀ (f : Nat) (i k : Int), ¬ (f = 0 ∧ i = 0 ∧ k = 0) → N1 f i k = N f i k := fun f i k y => by rw [u1]; exact jm_une y
  have b17 : 0 ≤ N 0 0 17 ∧ N 0 0 17 ≤ 6 := iN 0 0 17
  have e17 : N1 0 0 17 = N 0 0 17 := o1 0 0 17 (by omega)
  refine wp_bp (s_fX12_isCar N1 j1 l1 h1) (fun v1 g1 => wp_ite (fun _ => wp_ret (Or.inl u1)) (fun z1 => ?_))
  refine wp_bp (s_fX12_isLap N1 j1 l2 h2) (fun v2 g2 => wp_ite (fun _ => wp_ret (Or.inl u1)) (fun z2 => ?_))
  refine wp_bp (s_fX12_in N1 j1 l3 0 1 h3 ⟨by decide, by decide⟩ ⟨by decide, by decide⟩) (fun v3 g3 => wp_ite (fun _ => wp_ret (Or.inl u1)) (fun z3 => ?_))
  exact wp_ite (fun _ => dd_order45 fu iN u1 j1 o1 l1 l2 l3 l4 h1 h2 h3 h4 (-1) l4 ⟨by decide, by decide⟩ h4 ⟨by omega, by omega⟩) (fun _ => dd_order45 fu iN u1 j1 o1 l1 l2 l3 l4 h1 h2 h3 h4 0 l4 ⟨by decide, by decide⟩ h4 ⟨by omega, by omega⟩)
theorem dd_option38 (fu : Nat) {N : jm_M} (iN : bI bx2 N) {N1 : jm_M} (u1 : N1 = jm_u N 0 0 0 0) (j1 : bI bx2 N1) (o1 : ∀ (f : Nat) (i k : Int), ¬ (f = 0 ∧ i = 0 ∧ k = 0) → N1 f i k = N f i k) (l1 l2 l3 : Int) (h1 : jm_in l1) (h2 : jm_in l2) (h3 : jm_in l3) (s0 : Int) (hc : s0 = 0 ∨ (0 ≤ l1 ∧ l1 < 6)) : wp (gX12_option_38 fu N1 l1 l2 l3 s0) (fun _ N1 => N1 = jm_u N 0 0 0 0 ∨ (N1 31 0 l1 = N 31 0 l1 + 1 ∧ (N1 32 0 (4 * l1 + N 31 0 l1) = l2 ∧ N1 33 0 (4 * l1 + N 31 0 l1) = l3) ∧ ∀ (f : Nat) (i k : Int), ¬ (i = 0 ∧ ((f = 0 ∧ k = 0) ∨ (f = 31 ∧ k = l1) ∨ ((f = 32 ∨ f = 33) ∧ k = 4 * l1 + N 31 0 l1))) → N1 f i k = N f i k)) := by
  unfold gX12_option_38
  obtain ⟨n, hn⟩ : ∃ n : Int, n = N 31 0 l1 := ⟨_, rfl⟩
  have bn : 0 ≤ N 31 0 l1 ∧ N 31 0 l1 ≤ 4 := iN 31 0 l1
  have c0 : N1 31 0 l1 = n := by rw [hn]; exact o1 31 0 l1 (by omega)
  have wn : jm_w (n + 1) = n + 1 := jm_wid (by omega) (by omega)
  refine wp_ite (fun _ => wp_ret (Or.inl u1)) (fun z1 => ?_)
  refine wp_T ⟨by omega, by omega⟩ ?_
  refine wp_ite (fun _ => wp_ret (Or.inl u1)) (fun z2 => ?_)
  have ix : jm_w (jm_w (4 * l1) + n) = 4 * l1 + n := by rw [jm_wid (x := 4 * l1) (by omega) (by omega)]; exact jm_wid (by omega) (by omega)
  rw [← hn]
  rw [c0, ix]
  refine wp_T ⟨by omega, by omega⟩ (wp_T ⟨by omega, by omega⟩ (wp_sv (fun P1 w1 => ?_)))
  have c1 : P1 31 0 l1 = n := by rw [w1, jm_une_f (by decide)]; exact c0
  rw [c1, ix]
  refine wp_T ⟨by omega, by omega⟩ (wp_T ⟨by omega, by omega⟩ (wp_sv (fun P2 w2 => ?_)))
  have c2 : P2 31 0 l1 = n := by rw [w2, jm_une_f (by decide)]; exact c1
  refine wp_T ⟨by omega, by omega⟩ (wp_T ⟨by omega, by omega⟩ (wp_sv (fun Q1 wq => ?_)))
  rw [c2, wn] at wq
  refine wp_T ⟨by omega, by omega⟩ ?_
  refine wp_ret (Or.inr ⟨?_, ⟨?_, ?_⟩, fun f i k y => ?_⟩)
  · rw [wq]; exact jm_ueq
  · rw [wq, jm_une_f (by decide), w2, jm_une_f (by decide), w1]; exact jm_ueq
  · rw [wq, jm_une_f (by decide), w2]; exact jm_ueq
  · rw [wq, jm_une (by omega), w2, jm_une (by omega), w1, jm_une (by omega), o1 f i k (by omega)]
theorem dd_option (fu : Nat) {N : jm_M} (iN : bI bx2 N) (l1 l2 l3 : Int) (h1 : jm_in l1) (h2 : jm_in l2) (h3 : jm_in l3) : wp (fX12_option fu N l1 l2 l3) (fun _ N1 => N1 = jm_u N 0 0 0 0 ∨ (N1 31 0 l1 = N 31 0 l1 + 1 ∧ (N1 32 0 (4 * l1 + N 31 0 l1) = l2 ∧ N1 33 0 (4 * l1 + N 31 0 l1) = l3) ∧ ∀ (f : Nat) (i k : Int), ¬ (i = 0 ∧ ((f = 0 ∧ k = 0) ∨ (f = 31 ∧ k = l1) ∨ ((f = 32 ∨ f = 33) ∧ k = 4 * l1 + N 31 0 l1))) → N1 f i k = N f i k)) := by
  unfold fX12_option
  refine wp_sv (fun N1 u1 => ?_)
  have j1 : bI bx2 N1 := by rw [u1]; exact bI_u iN (jm_inL (by decide) (by decide))
  have o1 : ∀ (f : Nat) (i k : Int), ¬ (f = 0 ∧ i = 0 ∧ k = 0) → N1 f i k = N f i k := fun f i k y => by rw [u1]; exact jm_une y
  have b17 : 0 ≤ N 0 0 17 ∧ N 0 0 17 ≤ 6 := iN 0 0 17
  have e17 : N1 0 0 17 = N 0 0 17 := o1 0 0 17 (by omega)
  refine wp_bp (s_fX12_isCar N1 j1 l1 h1) (fun v1 g1 => wp_ite (fun _ => dd_option38 fu iN u1 j1 o1 l1 l2 l3 h1 h2 h3 0 (Or.inl rfl)) (fun z1 => ?_))
  refine wp_ite (fun _ => wp_bp (s_fX12_isSet N1 j1 l3 h3) (fun v2 g2 => wp_ite (fun _ => dd_option38 fu iN u1 j1 o1 l1 l2 l3 h1 h2 h3 0 (Or.inl rfl)) (fun z2 => dd_option38 fu iN u1 j1 o1 l1 l2 l3 h1 h2 h3 1 (Or.inr ⟨by omega, by omega⟩)))) (fun _ => ?_)
  refine wp_bp (s_fX12_isStopLap N1 j1 l2 h2) (fun v2 g2 => wp_ite (fun _ => dd_option38 fu iN u1 j1 o1 l1 l2 l3 h1 h2 h3 0 (Or.inl rfl)) (fun z2 => ?_))
  exact wp_bp (s_fX12_isSet N1 j1 l3 h3) (fun v3 g3 => wp_ite (fun _ => dd_option38 fu iN u1 j1 o1 l1 l2 l3 h1 h2 h3 0 (Or.inl rfl)) (fun z3 => dd_option38 fu iN u1 j1 o1 l1 l2 l3 h1 h2 h3 1 (Or.inr ⟨by omega, by omega⟩)))
theorem dd_puts {N1 : jm_M} (l1 l2 l3 l4 : Int) (hc : 0 ≤ l1 ∧ l1 < 6) {n : Int} (hn : N1 26 0 l1 = n) (bn : 0 ≤ n ∧ n < 5) : wp (fX12_puts N1 l1 l2 l3 l4) (fun _ Q1 => Q1 26 0 l1 = n + 1 ∧ (Q1 27 0 (5 * l1 + n) = l2 ∧ Q1 28 0 (5 * l1 + n) = l3 ∧ Q1 29 0 (5 * l1 + n) = l4) ∧ ∀ (f : Nat) (i k : Int), ¬ (i = 0 ∧ ((f = 26 ∧ k = l1) ∨ ((f = 27 ∨ f = 28 ∨ f = 29) ∧ k = 5 * l1 + n))) → Q1 f i k = N1 f i k) := by
  have wn : jm_w (n + 1) = n + 1 := jm_wid (by omega) (by omega)
  have ix : jm_w (jm_w (5 * l1) + n) = 5 * l1 + n := by rw [jm_wid (x := 5 * l1) (by omega) (by omega)]; exact jm_wid (by omega) (by omega)
  unfold fX12_puts
  rw [hn]
  refine wp_T hc (wp_e (jm_w_in _) (fun v3 e3 _ => ?_))
  rw [ix] at e3
  rw [e3]
  refine wp_T ⟨by omega, by omega⟩ (wp_sv (fun P1 w1 => wp_T ⟨by omega, by omega⟩ (wp_sv (fun P2 w2 => wp_T ⟨by omega, by omega⟩ (wp_sv (fun P3 w3 => wp_T hc (wp_T hc (wp_sv (fun Q1 wq => ?_)))))))))
  have c3 : P3 26 0 l1 = n := by rw [w3, jm_une_f (by decide), w2, jm_une_f (by decide), w1, jm_une_f (by decide)]; exact hn
  rw [c3, wn] at wq
  refine wp_ret ⟨?_, ⟨?_, ?_, ?_⟩, fun f i k y => ?_⟩
  · rw [wq]; exact jm_ueq
  · rw [wq, jm_une_f (by decide), w3, jm_une_f (by decide), w2, jm_une_f (by decide), w1]; exact jm_ueq
  · rw [wq, jm_une_f (by decide), w3, jm_une_f (by decide), w2]; exact jm_ueq
  · rw [wq, jm_une_f (by decide), w3]; exact jm_ueq
  · rw [wq, jm_une (by omega), w3, jm_une (by omega), w2, jm_une (by omega), w1, jm_une (by omega)]
theorem dd_stop {N : jm_M} (iN : bI bx2 N) (l1 l2 l3 l4 : Int) (h1 : jm_in l1) (h2 : jm_in l2) (h3 : jm_in l3) (h4 : jm_in l4) : wp (fX12_stop N l1 l2 l3 l4) (fun _ N1 => N1 = jm_u N 0 0 0 0 ∨ (N1 26 0 l1 = N 26 0 l1 + 1 ∧ (N1 27 0 (5 * l1 + N 26 0 l1) = l2 ∧ N1 28 0 (5 * l1 + N 26 0 l1) = l3 ∧ N1 29 0 (5 * l1 + N 26 0 l1) = l4) ∧ ∀ (f : Nat) (i k : Int), ¬ (i = 0 ∧ ((f = 0 ∧ k = 0) ∨ (f = 26 ∧ k = l1) ∨ ((f = 27 ∨ f = 28 ∨ f = 29) ∧ k = 5 * l1 + N 26 0 l1))) → N1 f i k = N f i k)) := by
  unfold fX12_stop
  refine wp_sv (fun N1 u1 => ?_)
  have j1 : bI bx2 N1 := by rw [u1]; exact bI_u iN (jm_inL (by decide) (by decide))
  have o1 : ∀ (f : Nat) (i k : Int), ¬ (f = 0 ∧ i = 0 ∧ k = 0) → N1 f i k = N f i k := fun f i k y => by rw [u1]; exact jm_une y
  have b17 : 0 ≤ N 0 0 17 ∧ N 0 0 17 ≤ 6 := iN 0 0 17
  have e17 : N1 0 0 17 = N 0 0 17 := o1 0 0 17 (by omega)
  obtain ⟨n, hn⟩ : ∃ n : Int, n = N 26 0 l1 := ⟨_, rfl⟩
  have bn : 0 ≤ N 26 0 l1 ∧ N 26 0 l1 ≤ 5 := iN 26 0 l1
  have c0 : N1 26 0 l1 = n := by rw [hn]; exact o1 26 0 l1 (by omega)
  have wn : jm_w (n + 1) = n + 1 := jm_wid (by omega) (by omega)
  refine wp_bp (s_fX12_isCar N1 j1 l1 h1) (fun v1 g1 => wp_ite (fun _ => wp_ret (Or.inl u1)) (fun z1 => ?_))
  refine wp_bp (s_fX12_isStopLap N1 j1 l2 h2) (fun v2 g2 => wp_ite (fun _ => wp_ret (Or.inl u1)) (fun z2 => ?_))
  refine wp_bp (s_fX12_isSet N1 j1 l3 h3) (fun v3 g3 => wp_ite (fun _ => wp_ret (Or.inl u1)) (fun z3 => ?_))
  refine wp_bp (s_fX12_in N1 j1 l4 0 200 h4 ⟨by decide, by decide⟩ ⟨by decide, by decide⟩) (fun v4 g4 => wp_ite (fun _ => wp_ret (Or.inl u1)) (fun z4 => ?_))
  refine wp_T ⟨by omega, by omega⟩ ?_
  refine wp_ite (fun _ => wp_ret (Or.inl u1)) (fun z5 => ?_)
  rw [← hn]
  refine wp_b (dd_puts l1 l2 l3 l4 ⟨by omega, by omega⟩ c0 ⟨by omega, by omega⟩) (fun v21 Q1 q => wp_T ⟨by omega, by omega⟩ (wp_ret (Or.inr ⟨q.1, q.2.1, fun f i k y => ?_⟩)))
  rw [q.2.2 f i k (by omega), o1 f i k (by omega)]
