/-! two worlds side by side: the class's and the reference's -/
def tw_2 (G : tw_G) (N1 : Nat) (ad1 : Nat → Nat) (w1 : Nat → va_E) (N2 : Nat) (ad2 : Nat → Nat) (w2 : Nat → va_E) (A : Nat → Prop) (s : State) (H : Heap) (locs : List Loc) : Prop := tw_H G N1 ad1 w1 A s H locs ∧ tw_H G N2 ad2 w2 A s H locs ∧ ∀ i j : Nat, i < N1 → j < N2 → ad1 i ≠ ad2 j
theorem tw_P_lt {G : tw_G} {N : Nat} {ad : Nat → Nat} {w : Nat → va_E} {H : Heap} (h : va_P G.1 vwCl (tw_W N ad w) H) {k : Nat} (hk : k < N) : ad k < H.size := (h k _ (tw_W_get hk)).lt
/-- a world that a call doesn't touch stays -/
theorem tw_P_keep {G : tw_G} {N N2 : Nat} {ad ad2 : Nat → Nat} {w2 : Nat → va_E} {H H1 : Heap} (h : va_P G.1 vwCl (tw_W N2 ad2 w2) H) (hk : ∀ q : Nat, q < H.size → ¬ tw_A N ad H.size q → H1[q]? = H[q]?) (hd : ∀ i j : Nat, i < N → j < N2 → ad i ≠ ad2 j) : va_P G.1 vwCl (tw_W N2 ad2 w2) H1 := by
  refine h.kept fun k q hq => ?_
  obtain ⟨hk2, rfl⟩ := tw_W_in hq
  have hl := tw_P_lt h hk2
  refine hk _ hl (fun hA => ?_)
  rcases hA with ⟨i, hi, e⟩ | hA
  · exact hd i k hi hk2 e.symm
  · exact absurd hA (by show ¬ H.size ≤ ad2 k; omega)
section TW2
variable {p : Program} {l : Launch} {e : Env} {R : Room} {s : State} {m : MethodId} {args : Array Value} {below : List Frame} {meth : Method} {c : Code} {H : Heap} {locs : List Loc} {cells slots : Nat} {Q : State → Prop}
variable {cc : ByteArray} {nL pc mc ms : Nat} {ls : Array Slot} {rest st : List Value} {own : String} {G : tw_G} {A : Nat → Prop} {N1 N2 : Nat} {ad1 ad2 : Nat → Nat} {w1 w2 : Nat → va_E}
theorem tw_2.swap (h : tw_2 G N1 ad1 w1 N2 ad2 w2 A s H locs) : tw_2 G N2 ad2 w2 N1 ad1 w1 A s H locs := ⟨h.2.1, h.1, fun i j hi hj e => h.2.2 j i hj hi e.symm⟩
theorem tw_calli_1 {a : Array Value} {post : Int32 → (Nat → va_E) → Prop} (F : tw_F p m c cc nL s args own G A) (h2 : tw_2 G N1 ad1 w1 N2 ad2 w2 A s H locs) (hr : va_Run p l e R s m args below meth c H locs cells slots mc ms (F0 m pc ls st) rest (tw_Qi G N1 ad1 post H.size a) (tw_A N1 ad1 H.size))
    (kk : ∀ (r : Int32) (w3 : Nat → va_E) (H1 : Heap) (locs1 : List Loc), post r w3 → tw_2 G N1 ad1 w3 N2 ad2 w2 A s H1 locs1 → W p l e R s m args below meth c H1 locs1 (cells + mc) (slots + ms) Q (F0 m (pc + 3) ls (.int r :: rest))) : W p l e R s m args below meth c H locs cells slots Q (F0 m pc ls st) := by
  have hF := h2.1.free F
  exact va_calli hr h2.1.2.2 (fun q _ h => hF q h) hF fun r u t H1 locs1 ht hvm hp hB hz hk hS => kk r u H1 locs1 hp ⟨⟨by rw [ht] at hB; exact hB, tw_D_any h2.1.2.1, hS⟩, ⟨tw_P_keep h2.2.1.1 hk h2.2.2, h2.2.1.2.1, hS⟩, h2.2.2⟩
theorem tw_calli_2 {a : Array Value} {post : Int32 → (Nat → va_E) → Prop} (F : tw_F p m c cc nL s args own G A) (h2 : tw_2 G N1 ad1 w1 N2 ad2 w2 A s H locs) (hr : va_Run p l e R s m args below meth c H locs cells slots mc ms (F0 m pc ls st) rest (tw_Qi G N2 ad2 post H.size a) (tw_A N2 ad2 H.size))
    (kk : ∀ (r : Int32) (w3 : Nat → va_E) (H1 : Heap) (locs1 : List Loc), post r w3 → tw_2 G N1 ad1 w1 N2 ad2 w3 A s H1 locs1 → W p l e R s m args below meth c H1 locs1 (cells + mc) (slots + ms) Q (F0 m (pc + 3) ls (.int r :: rest))) : W p l e R s m args below meth c H locs cells slots Q (F0 m pc ls st) :=
  tw_calli_1 F h2.swap hr fun r w3 H1 locs1 hp h => kk r w3 H1 locs1 hp h.swap
/-- the second world's first cell -/
theorem tw_new2 (F : tw_F p m c cc nL s args own G A) (hH : tw_H G N1 ad1 w1 A s H locs) {ci idx Nf : Nat} {C : String} {T : u_T} {fs : List Value} (hc : vwCl[ci]? = some (C, T, Nf)) (hin : ∀ x ∈ u_ws C T Nf, x ∈ lw_g) (ty : Nat → FieldType) (hty : ∀ k, k < Nf → parseFieldDescriptor (T k).2.2.1 = some (ty k)) (k1 : Cond.classLink own idx C ∈ lw_g) (k2 : Cond.instantiable C Nf ∈ lw_g) (k3 : Cond.initialized C ∈ lw_g) (hfs : ∀ j, j < Nf → defaultValue (ty j) = vp_V fs j) (hcells : cells + 1 ≤ R.cells) (hslots : slots + Nf ≤ R.slots) (hdg : decode cc pc = .ok (.new idx, 3))
    (kk : ∀ (H1 : Heap) (ad2 : Nat → Nat) (w2 : Nat → va_E), w2 0 = .inr (ci, fs) → tw_2 G N1 ad1 w1 1 ad2 w2 A s H1 locs → W p l e R s m args below meth c H1 locs (cells + 1) (slots + Nf) Q (F0 m (pc + 3) ls (.ref (ad2 0) :: rest))) : W p l e R s m args below meth c H locs cells slots Q (F0 m pc ls rest) := by
  obtain ⟨⟨hx, hb, hml, hown, hts⟩, hE, hA⟩ := F
  refine va_new hx hb hts hin ty hty hown (hts _ k1) (hts _ k2) (hts _ k3) hE.1 hH.1 hH.2.1 hH.2.2 hA hc hfs hcells hslots hdg fun q H1 a1 a2 a3 => ?_
  have e0 : (tw_W N1 ad1 w1).length = N1 := by simp [tw_W]
  have gl : ∀ k : Nat, k < N1 → (tw_W N1 ad1 w1 ++ [(q, .inr (ci, fs))])[k]? = some (ad1 k, w1 k) := fun k hk => by rw [List.getElem?_append_left (by omega), tw_W_get hk]
  have gr : (tw_W N1 ad1 w1 ++ [(q, .inr (ci, fs))])[N1]? = some (q, .inr (ci, fs)) := by rw [List.getElem?_append_right (by omega), e0, Nat.sub_self]; rfl
  refine kk H1 (fun _ => q) (fun _ => .inr (ci, fs)) rfl ⟨⟨fun k x hk => ?_, ⟨fun i j x y hi hj hxy => ?_, fun k x hk => ?_⟩, a3⟩, ⟨fun k x hk => ?_, ⟨fun i j x y hi hj _ => ?_, fun k x hk => ?_⟩, a3⟩, fun i j hi _ e => ?_⟩
  · obtain ⟨hk1, rfl⟩ := tw_W_in hk
    exact a1 k _ (gl k hk1)
  · obtain ⟨hi1, rfl⟩ := tw_W_in hi
    obtain ⟨hj1, rfl⟩ := tw_W_in hj
    exact a2.1 i j _ _ (gl i hi1) (gl j hj1) hxy
  · obtain ⟨hk1, rfl⟩ := tw_W_in hk
    exact a2.2 k _ (gl k hk1)
  · obtain ⟨hk1, rfl⟩ := tw_W_in hk
    exact a1 N1 _ gr
  · obtain ⟨hi1, rfl⟩ := tw_W_in hi
    obtain ⟨hj1, rfl⟩ := tw_W_in hj
    omega
  · obtain ⟨hk1, rfl⟩ := tw_W_in hk
    exact a2.2 N1 _ gr
  · have h := a2.1 i N1 _ _ (gl i hi) gr e
    omega
/-- the second world grows by a call -/
theorem tw_calln_2 {a : Array Value} {M : Nat} {post : (Nat → Nat) × (Nat → va_E) → Prop} (F : tw_F p m c cc nL s args own G A) (h2 : tw_2 G N1 ad1 w1 N2 ad2 w2 A s H locs) (hr : va_Run p l e R s m args below meth c H locs cells slots mc ms (F0 m pc ls st) rest (tw_Qn G N2 M ad2 post H.size a) (tw_A N2 ad2 H.size))
    (kk : ∀ (ad3 : Nat → Nat) (w3 : Nat → va_E) (H1 : Heap) (locs1 : List Loc), post (ad3, w3) → (∀ k, k < N2 → ad3 k = ad2 k) → tw_2 G N1 ad1 w1 (N2 + M) ad3 w3 A s H1 locs1 → W p l e R s m args below meth c H1 locs1 (cells + mc) (slots + ms) Q (F0 m (pc + 3) ls rest)) : W p l e R s m args below meth c H locs cells slots Q (F0 m pc ls st) := by
  have hF := h2.2.1.free F
  refine va_callv hr h2.1.2.2 (fun q _ h => hF q h) hF fun u t H1 locs1 ht hvm hp hB hz hk hS => ?_
  obtain ⟨b1, b2, b3⟩ := hB
  rw [ht] at b2
  refine kk u.1 u.2 H1 locs1 hp b1 ⟨⟨tw_P_keep h2.1.1 hk (fun i j hi hj e => h2.2.2 j i hj hi e.symm), h2.1.2.1, hS⟩, ⟨b2, b3.weaken (fun _ q _ h => hF q.1 h), hS⟩, fun i j hi hj e => ?_⟩
  have hl := tw_P_lt h2.1.1 hi
  rcases b3.2 j _ (tw_W_get hj) with ⟨k, hk2, e2⟩ | h
  · exact h2.2.2 i k hi hk2 (e.trans e2)
  · have h : H.size ≤ u.1 j := h
    omega
theorem tw_newa2 (F : tw_F p m c cc nL s args own G A) (h2 : tw_2 G N1 ad1 w1 N2 ad2 w2 A s H locs) {atype : ArrayType} {ty : FieldType} (k1 : Cond.arrayClass ty ∈ lw_g) (hty : newarray.typeOf atype = ty) {n : Int32} {n' : Nat} {a0 : vp_A} (ha : ∀ cA : ClassId, vp_cell cA a0 = arrV cA n' (fun _ => defaultValue ty)) (hn : ¬ n < 0) (hN : n.toNatClampNeg = n') (hbytes : n' * componentBytes ty ≤ 536870912) (hcells : cells + 1 ≤ R.cells) (hslots : slots + n' ≤ R.slots) (hdg : decode cc pc = .ok (.newarray atype, 2))
    (kk : ∀ (q : Nat) (H1 : Heap), tw_2 G N1 ad1 w1 N2 ad2 w2 A s H1 locs → W p l e R s m args below meth c H1 locs (cells + 1) (slots + n') Q (F0 m (pc + 2) ls (.ref q :: rest))) : W p l e R s m args below meth c H locs cells slots Q (F0 m pc ls (.int n :: rest)) := by
  obtain ⟨⟨hx, hb, hml, hown, hts⟩, hE, hA⟩ := F
  have e1 : (tw_W N1 ad1 w1).length = N1 := by simp [tw_W]
  have hD : va_D A (tw_W N1 ad1 w1 ++ tw_W N2 ad2 w2) := va_D.app h2.1.2.1 h2.2.1.2.1 fun i j x y hi hj hxy => by
    obtain ⟨hi1, rfl⟩ := tw_W_in hi
    obtain ⟨hj1, rfl⟩ := tw_W_in hj
    exact h2.2.2 i j hi1 hj1 hxy
  refine va_newa hx hb (by rw [hty]; exact hts _ k1) hty hE.1 (h2.1.1.app h2.2.1.1) hD h2.1.2.2 hA ha hn hN hbytes hcells hslots hdg fun q cA H1 aK a1 a2 a3 => ?_
  refine kk q H1 ⟨⟨fun k x hk => ?_, h2.1.2.1, a3⟩, ⟨fun k x hk => ?_, h2.2.1.2.1, a3⟩, h2.2.2⟩
  · obtain ⟨hk1, rfl⟩ := tw_W_in hk
    refine a1 k _ ?_
    rw [List.getElem?_append_left (by simp only [List.length_append, e1]; omega), List.getElem?_append_left (by omega), tw_W_get hk1]
  · obtain ⟨hk1, rfl⟩ := tw_W_in hk
    refine a1 (N1 + k) _ ?_
    have e2 : (tw_W N2 ad2 w2).length = N2 := by simp [tw_W]
    rw [List.getElem?_append_left (by simp only [List.length_append, e1, e2]; omega), List.getElem?_append_right (by omega), e1, Nat.add_sub_cancel_left, tw_W_get hk1]
end TW2
