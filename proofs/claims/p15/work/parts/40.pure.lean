/-! the programs run through: pure -/
def bI (bx : Nat → Int → Int → Int → Prop) (M : jm_M) : Prop := ∀ (f : Nat) (i k : Int), bx f i k (M f i k)
def wp (x : jm_R) (Q : Int → jm_M → Prop) : Prop := ∃ (r : Int) (M : jm_M), x = some (r, M) ∧ Q r M
def Kp (T : Nat → Int → Int → Prop) (M M1 : jm_M) : Prop := ∀ (f : Nat) (i k : Int), T f i k → M1 f i k = M f i k
theorem Kp.rf {T : Nat → Int → Int → Prop} {M : jm_M} : Kp T M M := fun _ _ _ _ => rfl
theorem Kp.tr {T T2 : Nat → Int → Int → Prop} {M M1 M2 : jm_M} (h1 : Kp T M M1) (h2 : Kp T2 M1 M2) (ht : ∀ (f : Nat) (i k : Int), T f i k → T2 f i k) : Kp T M M2 := fun f i k h => (h2 f i k (ht f i k h)).trans (h1 f i k h)
theorem Kp.weak {T T2 : Nat → Int → Int → Prop} {M M1 : jm_M} (h : Kp T2 M M1) (ht : ∀ (f : Nat) (i k : Int), T f i k → T2 f i k) : Kp T M M1 := fun f i k q => h f i k (ht f i k q)
theorem jm_ueq {M : jm_M} {f : Nat} {i k v : Int} : jm_u M f i k v f i k = v := by simp [jm_u, jm_ur]
theorem jm_une_f {M : jm_M} {f f2 : Nat} {i k v i2 k2 : Int} (h : f2 ≠ f) : jm_u M f i k v f2 i2 k2 = M f2 i2 k2 := by simp [jm_u, h]
theorem jm_une_k {M : jm_M} {f : Nat} {i k v i2 k2 : Int} (h : k2 ≠ k) : jm_u M f i k v f i2 k2 = M f i2 k2 := by
  unfold jm_u
  split
  · rename_i h2
    obtain ⟨-, rfl⟩ := h2
    simp [jm_ur, h]
  · rfl
theorem jm_une_i {M : jm_M} {f : Nat} {i k v i2 k2 : Int} (h : i2 ≠ i) : jm_u M f i k v f i2 k2 = M f i2 k2 := by simp [jm_u, h]
theorem jm_une {M : jm_M} {f f2 : Nat} {i k v i2 k2 : Int} (h : ¬ (f2 = f ∧ i2 = i ∧ k2 = k)) : jm_u M f i k v f2 i2 k2 = M f2 i2 k2 := by
  by_cases h1 : f2 = f
  · subst h1
    by_cases h2 : i2 = i
    · subst h2
      exact jm_une_k (fun q => h ⟨rfl, rfl, q⟩)
    · exact jm_une_i h2
  · exact jm_une_f h1
section WP
variable {M : jm_M} {Q : Int → jm_M → Prop} {x y g : jm_R} {r : Int} {bx : Nat → Int → Int → Int → Prop} {T T2 : Nat → Int → Int → Prop}
theorem wp_ret (h : Q r M) : wp (some (r, M)) Q := ⟨r, M, rfl, h⟩
theorem wp_T {c : Prop} {inst : Decidable c} (hc : c) (h : wp x Q) : wp (@ite jm_R c inst x y) Q := by rw [if_pos hc]; exact h
theorem wp_F {c : Prop} {inst : Decidable c} (hc : ¬ c) (h : wp y Q) : wp (@ite jm_R c inst x y) Q := by rw [if_neg hc]; exact h
theorem wp_ite {c : Prop} {inst : Decidable c} (h1 : c → wp x Q) (h2 : ¬ c → wp y Q) : wp (@ite jm_R c inst x y) Q := by
  by_cases hc : c
  · exact wp_T hc (h1 hc)
  · exact wp_F hc (h2 hc)
theorem wp_mono {Q2 : Int → jm_M → Prop} (h : wp x Q) (k : ∀ (r : Int) (M1 : jm_M), Q r M1 → Q2 r M1) : wp x Q2 := by
  obtain ⟨r, M1, e, q⟩ := h
  exact ⟨r, M1, e, k r M1 q⟩
theorem wp_b {P : Int → jm_M → Prop} {K : Int → jm_M → jm_R} (h : wp g P) (k : ∀ (r : Int) (M1 : jm_M), P r M1 → wp (K r M1) Q) : wp (jm_b g K) Q := by
  obtain ⟨r, M1, e, q⟩ := h
  rw [e]
  exact k r M1 q
theorem wp_bp {P : Int → Prop} {K : Int → jm_M → jm_R} (h : wp g (fun r M1 => M1 = M ∧ P r)) (k : ∀ r : Int, P r → wp (K r M) Q) : wp (jm_b g K) Q := wp_b h fun r M1 q => by
  obtain ⟨rfl, q⟩ := q
  exact k r q
theorem wp_bk {P : Int → jm_M → Prop} {K : Int → jm_M → jm_R} (h : wp g (fun r M1 => bI bx M1 ∧ Kp T M M1 ∧ P r M1)) (k : ∀ (r : Int) (M1 : jm_M), bI bx M1 → Kp T M M1 → P r M1 → wp (K r M1) Q) : wp (jm_b g K) Q := wp_b h fun r M1 q => k r M1 q.1 q.2.1 q.2.2
theorem wp_bi {P : Int → jm_M → Prop} {K : Int → jm_M → jm_R} (h : wp g (fun r M1 => bI bx M1 ∧ P r M1)) (k : ∀ (r : Int) (M1 : jm_M), bI bx M1 → P r M1 → wp (K r M1) Q) : wp (jm_b g K) Q := wp_b h fun r M1 q => k r M1 q.1 q.2
theorem wp_e {e : Int} {K : Int → jm_R} (he : jm_in e) (k : ∀ v : Int, v = e → jm_in v → wp (K v) Q) : wp (jm_e e K) Q := k e rfl he
theorem bI_u {f : Nat} {i k v : Int} (h : bI bx M) (hv : bx f i k v) : bI bx (jm_u M f i k v) := by
  intro f2 i2 k2
  by_cases q : f2 = f ∧ i2 = i ∧ k2 = k
  · obtain ⟨rfl, rfl, rfl⟩ := q
    rw [jm_ueq]
    exact hv
  · rw [jm_une q]
    exact h f2 i2 k2
theorem wp_si {f : Nat} {i k v : Int} {K : jm_M → jm_R} (h : bI bx M) (hv : bx f i k v) (kk : ∀ M1 : jm_M, M1 = jm_u M f i k v → bI bx M1 → wp (K M1) Q) : wp (jm_s (jm_u M f i k v) K) Q := kk _ rfl (bI_u h hv)
theorem wp_sk {M0 : jm_M} {f : Nat} {i k v : Int} {K : jm_M → jm_R} (h : bI bx M) (hv : bx f i k v) (hk : Kp T M0 M) (hn : ¬ T f i k) (kk : ∀ M1 : jm_M, M1 = jm_u M f i k v → bI bx M1 → Kp T M0 M1 → wp (K M1) Q) : wp (jm_s (jm_u M f i k v) K) Q := kk _ rfl (bI_u h hv) fun f2 i2 k2 q => by
  rw [jm_une (fun z => by obtain ⟨rfl, rfl, rfl⟩ := z; exact hn q)]
  exact hk f2 i2 k2 q
end WP
theorem jm_mulb {a b A B C : Int} (h1 : 0 ≤ a) (h2 : a ≤ A) (h3 : 0 ≤ b) (h4 : b ≤ B) (hC : A * B = C) : 0 ≤ a * b ∧ a * b ≤ C := by
  refine ⟨Int.mul_nonneg h1 h3, ?_⟩
  rw [← hC]
  exact Int.mul_le_mul h2 h4 h3 (by omega)
theorem jm_mull {a b A B C : Int} (h1 : A ≤ a) (h2 : 0 ≤ A) (h3 : B ≤ b) (h4 : 0 ≤ B) (hC : A * B = C) : C ≤ a * b := by
  rw [← hC]
  exact Int.mul_le_mul h1 h3 h4 (by omega)
theorem jm_min_f (a b : Int) : jm_min a b ≤ a ∧ jm_min a b ≤ b ∧ (jm_min a b = a ∨ jm_min a b = b) := by
  unfold jm_min
  split <;> omega
theorem jm_max_f (a b : Int) : a ≤ jm_max a b ∧ b ≤ jm_max a b ∧ (jm_max a b = a ∨ jm_max a b = b) := by
  unfold jm_max
  split <;> omega
theorem jm_mod_f {a b : Int} (h1 : 0 ≤ a) (h2 : 0 < b) : 0 ≤ jm_mod a b ∧ jm_mod a b < b := ⟨Int.tmod_nonneg b h1, Int.tmod_lt_of_pos a h2⟩
theorem jm_div_f {a b : Int} (h1 : 0 ≤ a) (h2 : 0 < b) (h3 : a ≤ 2147483647) : 0 ≤ jm_div a b ∧ jm_div a b ≤ a := by
  unfold jm_div
  have e : a.tdiv b = a / b := Int.tdiv_eq_ediv_of_nonneg h1
  have h4 : 0 ≤ a / b := Int.ediv_nonneg h1 (by omega)
  have h5 : a / b ≤ a := Int.ediv_le_self b h1
  rw [e, jm_wid (by omega) (by omega)]
  exact ⟨h4, h5⟩
theorem jm_and255 (a : Int) : 0 ≤ jm_and a 255 ∧ jm_and a 255 ≤ 255 := by
  unfold jm_and
  obtain ⟨j, hj, ej⟩ := pk_andE (Int32.ofInt a) (m := 255) 8 (by decide)
  have e : (Int32.ofInt 255) = (nI 255) := by decide
  rw [e]
  have ej : Int32.ofInt a &&& nI 255 = nI j := ej
  rw [ej, nI_toInt (by omega)]
  omega
def lim1 (i : Int) : Int := if i < 6 then 4 else if i < 12 then 12 else if i < 18 then 5 else if i < 24 then 4 else if i < 30 then 2 else if i < 31 then 30 else 20
def wid1 (i : Int) : Int := if i < 6 then 2 else if i < 18 then 3 else if i < 24 then 2 else if i < 31 then 3 else 4
theorem lim1_any (i : Int) : 2 ≤ lim1 i ∧ lim1 i ≤ 30 := by
  unfold lim1
  repeat' split
  all_goals omega
theorem wid1_any (i : Int) : 2 ≤ wid1 i ∧ wid1 i ≤ 4 := by
  unfold wid1
  repeat' split
  all_goals omega
theorem lim1_0 {i : Int} (h : 0 ≤ i) (h2 : i < 6) : lim1 i = 4 := by unfold lim1; rw [if_pos h2]
theorem lim1_6 {i : Int} (h : 6 ≤ i) (h2 : i < 12) : lim1 i = 12 := by unfold lim1; rw [if_neg (by omega), if_pos h2]
theorem lim1_12 {i : Int} (h : 12 ≤ i) (h2 : i < 18) : lim1 i = 5 := by unfold lim1; rw [if_neg (by omega), if_neg (by omega), if_pos h2]
theorem lim1_18 {i : Int} (h : 18 ≤ i) (h2 : i < 24) : lim1 i = 4 := by unfold lim1; rw [if_neg (by omega), if_neg (by omega), if_neg (by omega), if_pos h2]
theorem lim1_24 {i : Int} (h : 24 ≤ i) (h2 : i < 30) : lim1 i = 2 := by unfold lim1; rw [if_neg (by omega), if_neg (by omega), if_neg (by omega), if_neg (by omega), if_pos h2]
theorem lim1_12_30 {i : Int} (h : 12 ≤ i) (h2 : i < 30) : lim1 i ≤ 5 := by
  unfold lim1
  repeat' split
  all_goals omega
def bx1 (f : Nat) (i k v : Int) : Prop := match f with
  | 0 => if k = 7 then (0 ≤ v ∧ v ≤ 100) else if k = 9 then (0 ≤ v ∧ v ≤ 6) else if k = 10 then (0 ≤ v ∧ v ≤ 16) else jm_in v
  | 1 => if k = 0 then (2 ≤ v ∧ v ≤ 5) else if k = 1 then (1 ≤ v ∧ v ≤ 12) else jm_in v
  | 2 => if k = 5 then (0 ≤ v ∧ v ≤ 6) else jm_in v
  | 3 => if k = 3 then (0 ≤ v ∧ v ≤ 10) else jm_in v
  | 6 => if k = 1 then ((-1000) ≤ v ∧ v ≤ 60) else if k = 4 then (0 ≤ v ∧ v ≤ 1) else if k = 8 then ((-1) ≤ v ∧ v ≤ 16) else jm_in v
  | 8 => if k = 11 then (0 ≤ v ∧ v ≤ 16) else jm_in v
  | 9 => if k = 1 then (0 ≤ v ∧ v ≤ 361) else if k = 2 then (0 ≤ v ∧ v ≤ 60) else jm_in v
  | 10 => if k = 0 then v = lim1 i else if k = 1 then v = wid1 i else if k = 3 then (0 ≤ v ∧ v ≤ lim1 i) else jm_in v
  | 11 => if k = 1 then (0 ≤ v ∧ v ≤ 60) else if k = 6 then (0 ≤ v ∧ v ≤ 21) else jm_in v
  | 21 => (0 ≤ v ∧ v ≤ 60)
  | 26 => (0 ≤ v ∧ v ≤ 1)
  | 48 => (0 ≤ v ∧ v ≤ 16)
  | _ => jm_in v
def TA  (f : Nat) (i k : Int) : Prop := f ≠ 5 ∧ f ≠ 9 ∧ ¬ (27 ≤ f ∧ f ≤ 34) ∧ ¬ (36 ≤ f ∧ f ≤ 45) ∧ (f = 2 → k = 5)
def TB  (f : Nat) (i k : Int) : Prop := ¬ (27 ≤ f ∧ f ≤ 34) ∧ (f = 2 → k ≠ 6) ∧ (f = 9 → k = 1)
def TR  (f : Nat) (i k : Int) : Prop := ¬ (20 ≤ f ∧ f ≤ 26) ∧ f ≠ 11 ∧ (f = 6 → k = 7 ∨ k = 8)
def TE  (f : Nat) (i k : Int) : Prop := ¬ (20 ≤ f ∧ f ≤ 24) ∧ f ≠ 11 ∧ (f = 6 → k ≠ 1)
def TX  (f : Nat) (i k : Int) : Prop := ¬ (20 ≤ f ∧ f ≤ 24) ∧ f ≠ 11
def TQ  (f : Nat) (i k : Int) : Prop := ¬ (20 ≤ f ∧ f ≤ 26) ∧ f ≠ 11 ∧ f ≠ 6
def TP  (f : Nat) (i k : Int) : Prop := f ≠ 5 ∧ f ≠ 9 ∧ ¬ (27 ≤ f ∧ f ≤ 34) ∧ ¬ (36 ≤ f ∧ f ≤ 45) ∧ (f = 2 → k = 5) ∧ (f = 0 → k ≠ 9) ∧ f ≠ 13
def TAM  (f : Nat) (i k : Int) : Prop := f ≠ 5 ∧ f ≠ 9 ∧ ¬ (27 ≤ f ∧ f ≤ 34) ∧ ¬ (36 ≤ f ∧ f ≤ 45) ∧ (f = 2 → k = 5) ∧ (f = 8 → k ≠ 13) ∧ (f = 10 → i < 24 ∨ 29 < i) ∧ (f = 19 → i < 24 ∨ 29 < i)
def TPM  (f : Nat) (i k : Int) : Prop := f ≠ 5 ∧ f ≠ 9 ∧ ¬ (27 ≤ f ∧ f ≤ 34) ∧ ¬ (36 ≤ f ∧ f ≤ 45) ∧ (f = 2 → k = 5) ∧ (f = 8 → k ≠ 13) ∧ (f = 10 → i < 24 ∨ 29 < i) ∧ (f = 19 → i < 24 ∨ 29 < i) ∧ (f = 0 → k ≠ 9) ∧ f ≠ 13
def TJ  (f : Nat) (i k : Int) : Prop := f ≠ 5 ∧ f ≠ 27 ∧ f ≠ 28 ∧ ¬ (36 ≤ f ∧ f ≤ 45)
def TLH  (f : Nat) (i k : Int) : Prop := f ≠ 27 ∧ f ≠ 28
def RC1  (f : Nat) (i k : Int) : Prop := (f = 1 ∧ i = 0 ∧ (k = 0 ∨ k = 1)) ∨ (f = 2 ∧ i = 0 ∧ k = 5) ∨ (f = 10 ∧ ((0 ≤ i ∧ i < 24) ∨ (29 < i ∧ i ≤ 32)) ∧ k = 3) ∨ (f = 0 ∧ i = 0 ∧ k = 7) ∨ f = 17 ∨ f = 18 ∨ (f = 12 ∧ i = 0) ∨ (f = 8 ∧ k = 12) ∨ (f = 3 ∧ i = 0 ∧ k = 3)
def TM1 (a : Int) (f : Nat) (i k : Int) : Prop := RC1 f i k ∧ ¬ (f = 10 ∧ i = a)
def TPU (a : Int) (f : Nat) (i k : Int) : Prop := ¬ (f = 19 ∧ i = a) ∧ ¬ (f = 10 ∧ i = a ∧ k = 3)
def TPT (a : Int) (f : Nat) (i k : Int) : Prop := ¬ (f = 19 ∧ i = a)
def TN1 (g : Nat) (a : Int) (f : Nat) (i k : Int) : Prop := RC1 f i k ∧ ¬ (f = g ∧ k = a)
def TZ1  (f : Nat) (i k : Int) : Prop := RC1 f i k ∧ f ≠ 0 ∧ f ≠ 12 ∧ f ≠ 8 ∧ f ≠ 3
def TU1  (f : Nat) (i k : Int) : Prop := RC1 f i k ∧ f ≠ 8
def TV1  (f : Nat) (i k : Int) : Prop := RC1 f i k ∧ f ≠ 3
theorem tt_TA_TB : ∀ (f : Nat) (i k : Int), TA f i k → TB f i k := by
  intro f i k h
  unfold TA at h
  unfold TB
  omega
theorem tt_TP_TA : ∀ (f : Nat) (i k : Int), TP f i k → TA f i k := by
  intro f i k h
  unfold TP at h
  unfold TA
  omega
theorem tt_TP_TB : ∀ (f : Nat) (i k : Int), TP f i k → TB f i k := by
  intro f i k h
  unfold TP at h
  unfold TB
  omega
theorem tt_TQ_TR : ∀ (f : Nat) (i k : Int), TQ f i k → TR f i k := by
  intro f i k h
  unfold TQ at h
  unfold TR
  omega
theorem tt_TQ_TX : ∀ (f : Nat) (i k : Int), TQ f i k → TX f i k := by
  intro f i k h
  unfold TQ at h
  unfold TX
  omega
theorem tt_TQ_TE : ∀ (f : Nat) (i k : Int), TQ f i k → TE f i k := by
  intro f i k h
  unfold TQ at h
  unfold TE
  omega
theorem tt_TR_TX : ∀ (f : Nat) (i k : Int), TR f i k → TX f i k := by
  intro f i k h
  unfold TR at h
  unfold TX
  omega
theorem tt_TR_TE : ∀ (f : Nat) (i k : Int), TR f i k → TE f i k := by
  intro f i k h
  unfold TR at h
  unfold TE
  omega
theorem tt_TE_TX : ∀ (f : Nat) (i k : Int), TE f i k → TX f i k := by
  intro f i k h
  unfold TE at h
  unfold TX
  omega
theorem tt_TAM_TA : ∀ (f : Nat) (i k : Int), TAM f i k → TA f i k := by
  intro f i k h
  unfold TAM at h
  unfold TA
  omega
theorem tt_TAM_TB : ∀ (f : Nat) (i k : Int), TAM f i k → TB f i k := by
  intro f i k h
  unfold TAM at h
  unfold TB
  omega
theorem tt_TAM_TJ : ∀ (f : Nat) (i k : Int), TAM f i k → TJ f i k := by
  intro f i k h
  unfold TAM at h
  unfold TJ
  omega
theorem tt_TAM_TLH : ∀ (f : Nat) (i k : Int), TAM f i k → TLH f i k := by
  intro f i k h
  unfold TAM at h
  unfold TLH
  omega
theorem tt_TPM_TAM : ∀ (f : Nat) (i k : Int), TPM f i k → TAM f i k := by
  intro f i k h
  unfold TPM at h
  unfold TAM
  omega
theorem tt_TPM_TA : ∀ (f : Nat) (i k : Int), TPM f i k → TA f i k := by
  intro f i k h
  unfold TPM at h
  unfold TA
  omega
theorem tt_TPM_TJ : ∀ (f : Nat) (i k : Int), TPM f i k → TJ f i k := by
  intro f i k h
  unfold TPM at h
  unfold TJ
  omega
theorem tt_TPM_TB : ∀ (f : Nat) (i k : Int), TPM f i k → TB f i k := by
  intro f i k h
  unfold TPM at h
  unfold TB
  omega
theorem tt_TA_TJ : ∀ (f : Nat) (i k : Int), TA f i k → TJ f i k := by
  intro f i k h
  unfold TA at h
  unfold TJ
  omega
theorem tt_TA_TLH : ∀ (f : Nat) (i k : Int), TA f i k → TLH f i k := by
  intro f i k h
  unfold TA at h
  unfold TLH
  omega
theorem tt_TP_TJ : ∀ (f : Nat) (i k : Int), TP f i k → TJ f i k := by
  intro f i k h
  unfold TP at h
  unfold TJ
  omega
theorem tt_TB_TLH : ∀ (f : Nat) (i k : Int), TB f i k → TLH f i k := by
  intro f i k h
  unfold TB at h
  unfold TLH
  omega
theorem tt_TJ_TLH : ∀ (f : Nat) (i k : Int), TJ f i k → TLH f i k := by
  intro f i k h
  unfold TJ at h
  unfold TLH
  omega
theorem tt_TM1_TPU {a : Int} : ∀ (f : Nat) (i k : Int), TM1 a f i k → TPU a f i k := by
  intro f i k h
  unfold TM1 RC1 at h
  unfold TPU
  omega
theorem tt_RC1_TPT {a : Int} : ∀ (f : Nat) (i k : Int), RC1 f i k → TPT a f i k := by
  intro f i k h
  unfold RC1 at h
  unfold TPT
  omega
theorem tt_RC1_TA : ∀ (f : Nat) (i k : Int), RC1 f i k → TA f i k := by
  intro f i k h
  unfold RC1 at h
  unfold TA
  omega
theorem tt_RC1_TP : ∀ (f : Nat) (i k : Int), RC1 f i k → TP f i k := by
  intro f i k h
  unfold RC1 at h
  unfold TP
  omega
theorem tt_TZ1_TQ : ∀ (f : Nat) (i k : Int), TZ1 f i k → TQ f i k := by
  intro f i k h
  unfold TZ1 RC1 at h
  unfold TQ
  omega
theorem tt_TZ1_RC1 : ∀ (f : Nat) (i k : Int), TZ1 f i k → RC1 f i k := fun _ _ _ h => h.1
theorem tt_TM1_RC1 {a : Int} : ∀ (f : Nat) (i k : Int), TM1 a f i k → RC1 f i k := fun _ _ _ h => h.1
theorem tt_TZ1_TV1 : ∀ (f : Nat) (i k : Int), TZ1 f i k → TV1 f i k := fun _ _ _ h => ⟨h.1, h.2.2.2.2⟩
theorem tt_RC1_TAM : ∀ (f : Nat) (i k : Int), RC1 f i k → TAM f i k := by
  intro f i k h
  unfold RC1 at h
  unfold TAM
  omega
theorem tt_RC1_TPM : ∀ (f : Nat) (i k : Int), RC1 f i k → TPM f i k := by
  intro f i k h
  unfold RC1 at h
  unfold TPM
  omega
theorem tt_RC1_TJ : ∀ (f : Nat) (i k : Int), RC1 f i k → TJ f i k := by
  intro f i k h
  unfold RC1 at h
  unfold TJ
  omega
theorem jm_b10 {i v L : Int} (h : bx1 10 i 3 v) (hl : lim1 i ≤ L) : 0 ≤ v ∧ v ≤ L := by
  have h : 0 ≤ v ∧ v ≤ lim1 i := h
  omega
theorem bx1_in {f : Nat} {i k v : Int} (h : bx1 f i k v) : jm_in v := by
  have h1 := lim1_any i
  have h2 := wid1_any i
  unfold bx1 at h
  unfold jm_in at *
  split at h
  all_goals (repeat' (split at h))
  all_goals omega
theorem bI.rm {M : jm_M} (h : bI bx1 M) : jm_RM M := fun f i k => bx1_in (h f i k)
theorem s_fS_indexOf (M : jm_M) (s c : Int) : wp (fS_indexOf M s c) (fun r M1 => M1 = M ∧ (-1 ≤ r ∧ r ≤ 13)) := by
  refine ⟨_, _, rfl, rfl, ?_⟩
  have hl : (jm_sl s).length ≤ 13 := by
    have h : ∀ j : Nat, j < 11 → (jm_sl (j : Int)).length ≤ 13 := by decide +kernel
    by_cases q : s.toNat < 11
    · have := h s.toNat q
      unfold jm_sl at *
      exact this
    · unfold jm_sl
      rw [List.getD_eq_getElem?_getD, List.getElem?_eq_none (by simp; omega)]
      simp
  have hx : ∀ (l : List Int) (k : Int), 0 ≤ k → -1 ≤ jm_sxl c l k ∧ jm_sxl c l k ≤ k + l.length := by
    intro l
    induction l with
    | nil => intro k hk; exact ⟨Int.le_refl _, by show (-1 : Int) ≤ k + 0; omega⟩
    | cons b l ih =>
      intro k hk
      unfold jm_sxl
      split
      · simp only [List.length_cons]; omega
      · have := ih (k + 1) (by omega)
        simp only [List.length_cons]
        omega
  have := hx (jm_sl s) 0 (by omega)
  unfold jm_sx
  omega
