/-! A world by roles: N cells, role k at the address ad k with the content w k. Rows of the kit, told for it. -/
def tw_W (N : Nat) (ad : Nat → Nat) (w : Nat → va_E) : va_W := (List.range N).map (fun k => (ad k, w k))
theorem tw_W_get {N r : Nat} {ad : Nat → Nat} {w : Nat → va_E} (h : r < N) : (tw_W N ad w)[r]? = some (ad r, w r) := by simp [tw_W, h]
theorem tw_W_in {N k : Nat} {ad : Nat → Nat} {w : Nat → va_E} {q : Nat × va_E} (h : (tw_W N ad w)[k]? = some q) : k < N ∧ q = (ad k, w k) := by
  have hl := (List.getElem?_eq_some_iff.mp h).1
  have hk : k < N := by simpa [tw_W] using hl
  rw [tw_W_get hk] at h
  exact ⟨hk, (Option.some.inj h).symm⟩
theorem tw_W_set {N r : Nat} {ad : Nat → Nat} {w : Nat → va_E} {e : va_E} : (tw_W N ad w).set r (ad r, e) = tw_W N ad (va_up w r e) := by
  apply List.ext_getElem?
  intro k
  by_cases hk : k < N
  · rw [tw_W_get hk]
    by_cases hr : k = r
    · subst hr
      rw [List.getElem?_set_self (by simp [tw_W, hk]), va_up_self]
    · rw [List.getElem?_set_ne (Ne.symm hr), tw_W_get hk, va_up_ne _ _ hr]
  · rw [List.getElem?_eq_none (by simp [tw_W]; omega), List.getElem?_eq_none (by simp [tw_W]; omega)]
theorem tw_W_push {N q : Nat} {ad : Nat → Nat} {w : Nat → va_E} {e : va_E} : tw_W N ad w ++ [(q, e)] = tw_W (N + 1) (va_up ad N q) (va_up w N e) := by
  simp only [tw_W, List.range_succ, List.map_append, List.map_cons, List.map_nil, va_up_self]
  congr 1
  apply List.map_congr_left
  intro k hk
  have hk : k ≠ N := by have := List.mem_range.mp hk; omega
  rw [va_up_ne _ _ hk, va_up_ne _ _ hk]
def tw_A (N : Nat) (ad : Nat → Nat) (sz : Nat) : Nat → Prop := fun q => (∃ k : Nat, k < N ∧ q = ad k) ∨ sz ≤ q
theorem tw_D_any {A : Nat → Prop} {N : Nat} {ad : Nat → Nat} {w w' : Nat → va_E} (h : va_D A (tw_W N ad w)) : va_D A (tw_W N ad w') := by
  refine ⟨fun i j x y hi hj hxy => ?_, fun k q hk => ?_⟩
  · obtain ⟨hi1, rfl⟩ := tw_W_in hi
    obtain ⟨hj1, rfl⟩ := tw_W_in hj
    exact h.1 i j _ _ (tw_W_get hi1) (tw_W_get hj1) hxy
  · obtain ⟨hk1, rfl⟩ := tw_W_in hk
    exact h.2 k (ad k, w k) (tw_W_get hk1)
theorem tw_D_self {A : Nat → Prop} {N sz : Nat} {ad : Nat → Nat} {w : Nat → va_E} (h : va_D A (tw_W N ad w)) : va_D (tw_A N ad sz) (tw_W N ad w) :=
  ⟨h.1, fun k q hk => by obtain ⟨hk1, rfl⟩ := tw_W_in hk; exact Or.inl ⟨k, hk1, rfl⟩⟩
/-- what a launch's worlds are made of: the classes' numbers, the array classes, where the static tables lie -/
abbrev tw_G : Type := va_G × (Nat → ClassId) × (Nat → Nat)
abbrev tw_tys (G : tw_G) : List (ClassId × FieldType) := [(G.2.1 0, .int), (G.2.1 1, .boolean), (G.2.1 2, .object RX1), (G.2.1 3, .object RX6), (G.2.1 4, .object RX8), (G.2.1 5, .long)]
def tw_nwM : List (String × Nat × MethodName × String) := [("RaceByLaps$Track", 59, ⟨"RaceByLaps", "isIndex", "(II)Z"⟩, "RaceByLaps"), ("RaceByLaps$Race", 41, ⟨"RaceByLaps", "isIndex", "(II)Z"⟩, "RaceByLaps"), ("RaceByLaps$Text", 37, ⟨"RaceByLaps", "isIndex", "(II)Z"⟩, "RaceByLaps"), ("RaceByLaps$Reader", 109, ⟨"RaceByLaps", "isIndex", "(II)Z"⟩, "RaceByLaps"), ("RaceByLaps$Runner", 95, ⟨"RaceByLaps", "isIndex", "(II)Z"⟩, "RaceByLaps"), ("RaceByLaps$Reckoner", 18, ⟨"RaceByLaps", "isIndex", "(II)Z"⟩, "RaceByLaps"), ("RaceByLaps$Book", 39, ⟨"RaceByLaps", "isIndex", "(II)Z"⟩, "RaceByLaps"), ("RaceByLaps$Tries", 47, ⟨"RaceByLaps", "isWithin", "(III)Z"⟩, "RaceByLaps"), ("RaceByLaps$Result", 85, ⟨"RaceByLaps", "isIndex", "(II)Z"⟩, "RaceByLaps"), ("RaceByLaps$Tries", 147, ⟨"RaceByLaps", "isIndex", "(II)Z"⟩, "RaceByLaps")]
def tw_zn (k : Nat) : String := match k with | 0 => "NUMBERS_AT_FIRST" | 1 => "NUMBERS_LEAST" | 2 => "NUMBERS_MOST" | 3 => "TYRES_AT_FIRST" | _ => "TYRES_MOST"
def tw_zl (k : Nat) : Nat := match k with | 0 => 8 | 1 => 8 | 2 => 8 | 3 => 6 | _ => 6
def tw_zv (k j : Nat) : Int32 := (match k with | 0 => [(500 : Int32), (5 : Int32), (200 : Int32), (15000 : Int32), (3000 : Int32), (50 : Int32), (300 : Int32), (0 : Int32)] | 1 => [(100 : Int32), (0 : Int32), (0 : Int32), (0 : Int32), (0 : Int32), (0 : Int32), (0 : Int32), (0 : Int32)] | 2 => [(2000 : Int32), (50 : Int32), (500 : Int32), (60000 : Int32), (20000 : Int32), (200 : Int32), (2000 : Int32), (9 : Int32)] | 3 => [(0 : Int32), (10 : Int32), (40 : Int32), (1000 : Int32), (0 : Int32), (5 : Int32)] | _ => [(3000 : Int32), (100 : Int32), (200 : Int32), (5000 : Int32), (100 : Int32), (100 : Int32)]).getD j 0
def tw_zs (G : tw_G) (k : Nat) (A : Nat → Prop) (U : State) (H : Heap) : Prop := va_Z RX11 (tw_zn k) "[I" (.ref (G.2.2 k)) A U H ∧ va_T .int (G.2.2 k) (tw_zl k) (fun j => .int (tw_zv k j)) A U H
def tw_so (i : Nat) : String := match i with | 0 => "RaceByLaps$Reader" | 1 => "RaceByLaps$Reader" | 2 => "RaceByLapsModel" | 3 => "RaceByLapsModel" | 4 => "RaceByLapsModel" | 5 => "RaceByLapsModel" | 6 => "RaceByLapsModel" | 7 => "RaceByLapsModel" | 8 => "RaceByLapsModel" | 9 => "RaceByLapsModel" | _ => "RaceByLapsModel"
def tw_sk (i : Nat) : Nat := match i with | 0 => 125 | 1 => 127 | 2 => 278 | 3 => 280 | 4 => 235 | 5 => 211 | 6 => 249 | 7 => 254 | 8 => 262 | 9 => 264 | _ => 595
def tw_st (i : Nat) : String := match i with | 0 => "lrpafnokwvyth" | 1 => "skplwcoft" | 2 => "lrpafnokwvyth" | 3 => "skplwcoft" | 4 => "!-" | 5 => "0123456789" | 6 => "+-" | 7 => "<>=" | 8 => "b+=-gh." | 9 => "0123" | _ => ""
def tw_nwF : List (String × Nat × String × String × String × String) := [("RaceByLaps$Track", 40, "RaceByLaps", "TYRES_AT_FIRST", "[I", "RaceByLaps"), ("RaceByLaps$Track", 43, "RaceByLaps", "NUMBERS_AT_FIRST", "[I", "RaceByLaps")]
def tw_nws (U : State) : Prop := (∀ q ∈ tw_nwM, va_Nw (.methodLinkNest q.1 q.2.1 q.2.2.1 q.2.2.2) U) ∧ (∀ q ∈ tw_nwF, va_Nw (.fieldLinkNest q.1 q.2.1 q.2.2.1 q.2.2.2.1 q.2.2.2.2.1 q.2.2.2.2.2) U) ∧ va_Nw (.castable "java/util/NoSuchElementException" "java/util/NoSuchElementException") U ∧ va_Nw (.declares ⟨"java/lang/RuntimeException", "<init>", "()V"⟩) U ∧ va_Nw (.declares ⟨"java/lang/Exception", "<init>", "()V"⟩) U ∧ va_Nw (.declares ⟨"java/lang/Throwable", "<init>", "()V"⟩) U
/-- the texts of the tables: how many signs, which -/
def tw_sln : List Nat := [13, 9, 13, 9, 2, 10, 2, 3, 7, 4, 0]
def tw_sby : List (List Int32) := [[108, 114, 112, 97, 102, 110, 111, 107, 119, 118, 121, 116, 104], [115, 107, 112, 108, 119, 99, 111, 102, 116], [108, 114, 112, 97, 102, 110, 111, 107, 119, 118, 121, 116, 104], [115, 107, 112, 108, 119, 99, 111, 102, 116], [33, 45], [48, 49, 50, 51, 52, 53, 54, 55, 56, 57], [43, 45], [60, 62, 61], [98, 43, 61, 45, 103, 104, 46], [48, 49, 50, 51], []]
/-- the texts' objects: where each lies, and its signs -/
def tw_ST (K V : Nat → Nat) (A : Nat → Prop) (U : State) (H : Heap) : Prop := ∀ i : Nat, i < 11 → va_O "java/lang/String" (K i) A U H ∧ va_OF "java/lang/String" "coder" "B" (.int 0) (K i) A U H ∧ va_OF "java/lang/String" "value" "[B" (.ref (V i)) (K i) A U H ∧ va_T .byte (V i) (tw_sln.getD i 0) (fun j => .int ((tw_sby.getD i []).getD j 0)) A U H
theorem tw_ST.moved {K V : Nat → Nat} {A : Nat → Prop} {u U : State} {H : Heap} (hvm : u.vm.Alike U.vm) (h : tw_ST K V A u H) : tw_ST K V A U H :=
  fun i hi => ⟨va_O.moved hvm (h i hi).1, va_OF.moved hvm (h i hi).2.1, va_OF.moved hvm (h i hi).2.2.1, va_T.moved hvm (h i hi).2.2.2⟩
theorem tw_ST.kept {K V : Nat → Nat} {A : Nat → Prop} {U : State} {H H1 : Heap} (h : tw_ST K V A U H) (hq : ∀ a : Nat, a < H.size → ¬ A a → H1[a]? = H[a]?) : tw_ST K V A U H1 :=
  fun i hi => ⟨(h i hi).1.kept hq, (h i hi).2.1.kept hq, (h i hi).2.2.1.kept hq, (h i hi).2.2.2.kept hq⟩
theorem tw_ST.narrow {K V : Nat → Nat} {A B : Nat → Prop} {U : State} {H : Heap} (h : tw_ST K V A U H) (hAB : ∀ q, B q → A q) : tw_ST K V B U H :=
  fun i hi => ⟨(h i hi).1.narrow hAB, (h i hi).2.1.narrow hAB, (h i hi).2.2.1.narrow hAB, (h i hi).2.2.2.narrow hAB⟩
def tw_E (G : tw_G) (A : Nat → Prop) (U : State) : Prop := va_K G.1 vwCl (tw_tys G) U ∧ tw_nws U ∧ (va_AO RX1 U ∧ va_AO RX6 U ∧ va_AO RX8 U) ∧ (∀ k : Nat, k < 5 → tw_zs G k A U U.heap) ∧ (∀ i : Nat, i < 11 → vk_R (tw_so i) (tw_sk i) (tw_st i) (G.2.2 (100 + i)) U) ∧ vx_Zq Bundle.tN "UNASSIGNED_STACK" Bundle.steD A U U.heap ∧ vx_Zq Bundle.tN "SUPPRESSED_SENTINEL" Bundle.listD A U U.heap ∧ va_Z "java/lang/String" "COMPACT_STRINGS" "Z" (.int 1) A U U.heap ∧ tw_ST (fun i => G.2.2 (100 + i)) (fun i => G.2.2 (200 + i)) A U U.heap
theorem tw_E.call {G : tw_G} {A A' : Nat → Prop} {s U : State} {H : Heap} {locs : List Loc} (h : tw_E G A s) (hS : va_S A s.heap H locs) (hU : U.heap = H) (hW : s.WarmedH U.vm) (hAA : ∀ q, A' q → A q) : tw_E G A' U := by
  obtain ⟨h1, h2, ⟨h3, h4, h5⟩, h6, h7, h8, h9, h10, h11⟩ := h
  have al := hW.alike
  have hk' : ∀ a : Nat, a < s.heap.size → ¬ A a → U.heap[a]? = s.heap[a]? := fun a ha hA => by rw [hU]; exact hS.2.1 a ha hA
  refine ⟨va_K.moved al h1, ⟨fun q hq => va_Nw.warmM hW (h2.1 q hq), fun q hq => va_Nw.warmF hW (h2.2.1 q hq), va_Nw.warmC hW h2.2.2.1, va_Nw.warmD hW h2.2.2.2.1, va_Nw.warmD hW h2.2.2.2.2.1, va_Nw.warmD hW h2.2.2.2.2.2⟩, ⟨va_AO.moved al h3, va_AO.moved al h4, va_AO.moved al h5⟩, fun k hk => ?_, fun i hi => vk_R.warm hW (h7 i hi), ((vx_Zq.moved al h8).kept hk').narrow hAA, ((vx_Zq.moved al h9).kept hk').narrow hAA, ((va_Z.moved al h10).kept hk').narrow hAA, ((tw_ST.moved al h11).kept hk').narrow hAA⟩
  obtain ⟨z, t⟩ := h6 k hk
  exact ⟨((va_Z.moved al z).kept hk').narrow hAA, ((va_T.moved al t).kept hk').narrow hAA⟩
theorem tw_E.calling {G : tw_G} {A : Nat → Prop} {U : State} (g : JFrame) (mk : MethodId) (a : Array Value) (h : tw_E G A U) : tw_E G A (U.calling g mk a) := by
  obtain ⟨h1, h2, ⟨h3, h4, h5⟩, h6, h7, h8, h9, h10, h11⟩ := h
  have al : U.vm.Alike (U.calling g mk a).vm := Vm.Alike.refl U.vm
  refine ⟨va_K.moved al h1, ⟨fun q hq => va_Nw.same rfl rfl (h2.1 q hq), fun q hq => va_Nw.same rfl rfl (h2.2.1 q hq), va_Nw.same rfl rfl h2.2.2.1, va_Nw.same rfl rfl h2.2.2.2.1, va_Nw.same rfl rfl h2.2.2.2.2.1, va_Nw.same rfl rfl h2.2.2.2.2.2⟩, ⟨va_AO.moved al h3, va_AO.moved al h4, va_AO.moved al h5⟩, fun k hk => ?_, fun i hi => vk_R.same rfl (h7 i hi), vx_Zq.moved al h8, vx_Zq.moved al h9, va_Z.moved al h10, tw_ST.moved al h11⟩
  obtain ⟨z, t⟩ := h6 k hk
  exact ⟨va_Z.moved al z, va_T.moved al t⟩
/-- a method's words: its own code, and all good words of the tables -/
def tw_ws (y : MethodName) (b : ByteArray) (maxL : Nat) (ret : Option FieldType) : List Cond := Cond.code y b maxL ret :: lw_g
abbrev tw_Pre (G : tw_G) (N : Nat) (ad : Nat → Nat) (w : Nat → va_E) (sz : Nat) (As : List Value) : Array Value → State → Prop := va_Pc As (fun U => U.heap.size = sz ∧ va_P G.1 vwCl (tw_W N ad w) U.heap ∧ tw_E G (tw_A N ad sz) U ∧ va_D (fun _ => True) (tw_W N ad w))
abbrev tw_Qi (G : tw_G) (N : Nat) (ad : Nat → Nat) (post : Int32 → (Nat → va_E) → Prop) (sz : Nat) : Array Value → State → Outcome → State → Prop := va_Qi post (fun w t => va_P G.1 vwCl (tw_W N ad w) t.heap) (tw_A N ad sz)
abbrev tw_Qv (G : tw_G) (N : Nat) (ad : Nat → Nat) (post : (Nat → va_E) → Prop) (sz : Nat) : Array Value → State → Outcome → State → Prop := va_Qv post (fun w t => va_P G.1 vwCl (tw_W N ad w) t.heap) (tw_A N ad sz)
/-- a method that makes cells: M of them, behind its world's -/
abbrev tw_Qn (G : tw_G) (N M : Nat) (ad : Nat → Nat) (post : (Nat → Nat) × (Nat → va_E) → Prop) (sz : Nat) : Array Value → State → Outcome → State → Prop := va_Qv post (fun u t => (∀ k, k < N → u.1 k = ad k) ∧ va_P G.1 vwCl (tw_W (N + M) u.1 u.2) t.heap ∧ va_D (tw_A N ad sz) (tw_W (N + M) u.1 u.2)) (tw_A N ad sz)
def tw_F (p : Program) (m : MethodId) (c : Code) (cc : ByteArray) (nL : Nat) (s : State) (args : Array Value) (own : String) (G : tw_G) (A : Nat → Prop) : Prop := CallFix p m c cc nL s args lw_g own ∧ tw_E G A s ∧ ∀ q, s.heap.size ≤ q → A q
def tw_H (G : tw_G) (N : Nat) (ad : Nat → Nat) (w : Nat → va_E) (A : Nat → Prop) (s : State) (H : Heap) (locs : List Loc) : Prop := va_P G.1 vwCl (tw_W N ad w) H ∧ va_D A (tw_W N ad w) ∧ va_S A s.heap H locs
/-- a method by its body -/
theorem tw_met {l : Launch} {y : MethodName} {b : ByteArray} {maxL : Nat} {ret : Option FieldType} {rm : Room} {As : List Value} {G : tw_G} {N : Nat} {ad : Nat → Nat} {w : Nat → va_E} {sz : Nat} {Qc : Array Value → State → Outcome → State → Prop} {mc ms : Nat} (hy : plainName y.cls = true) (hn : (lg_sl As).length ≤ maxL)
    (body : ∀ (p : Program) (e : Env) (s : State) (m : MethodId) (args : Array Value) (below : List Frame) (meth : Method) (c : Code), tw_F p m c b maxL s args y.cls G (tw_A N ad sz) → meth.sig.returnType = ret → meth.locks = false → meth.name = y.name → args = As.toArray → s.heap.size = sz → tw_H G N ad w (tw_A N ad sz) s s.heap [] → ∀ ls, lv_has ls maxL (lv_args 0 As) →
      W p l e rm s m args below meth c s.heap [] 0 0 (MQ below Qc args s mc ms (tw_A N ad sz)) (F0 m 0 ls [])) : Met l y (tw_ws y b maxL ret) rm (tw_Pre G N ad w sz As) Qc mc ms (tw_A N ad sz) := by
  refine Met.ofW (cc := b) (maxL := maxL) (ret := ret) hy rfl ?_
  intro p e s m args below meth c s₁ B hml hv
  obtain ⟨rfl, hsz, hP, hE, hD0⟩ := hv
  have hts := atoms_spec (ws := tw_ws y b maxL ret) B.pre
  have hD := tw_D_self (sz := sz) hD0
  have hl := lv_entry As hn
  rw [lg_entry_eq]
  exact body p e s m _ below meth c ⟨⟨B.exec, B.bytes, hml, findClass_of_methodNamed B.named, fun x hx => hts x (List.mem_cons_of_mem _ hx)⟩, hE, fun q hq => Or.inr (by omega)⟩ B.returns B.notSynchronized (name_of_methodNamed B.named B.method).1 rfl hsz ⟨hP, hD, va_S.rf⟩ _ hl
section TW
variable {p : Program} {l : Launch} {e : Env} {R : Room} {s : State} {m : MethodId} {args : Array Value} {below : List Frame} {meth : Method} {c : Code} {H : Heap} {locs : List Loc} {cells slots : Nat} {Q : State → Prop}
variable {cc : ByteArray} {nL pc : Nat} {ls : Array Slot} {rest : List Value} {own : String} {G : tw_G} {A : Nat → Prop} {N : Nat} {ad : Nat → Nat} {w : Nat → va_E}
theorem tw_H.free (hH : tw_H G N ad w A s H locs) (F : tw_F p m c cc nL s args own G A) : ∀ q, tw_A N ad H.size q → A q := by
  intro q hq
  rcases hq with ⟨k, hk, rfl⟩ | hq
  · exact hH.2.1.2 k _ (tw_W_get hk)
  · exact F.2.2 q (Nat.le_trans hH.2.2.1 hq)
/-! fields -/
def tw_kF (own : String) (idx ci k : Nat) (C : String) (T : u_T) (Nf : Nat) : Prop := vwCl[ci]? = some (C, T, Nf) ∧ (∀ x ∈ u_ws C T Nf, x ∈ lw_g) ∧ k < Nf ∧ (T k).1 = C ∧ Cond.fieldLink own idx C (T k).2.1 (T k).2.2.1 ∈ lw_g
def tw_kP (ci k : Nat) (C : String) (T : u_T) (Nf : Nat) (ty : FieldType) (fin : Bool) : Prop := (∃ ty0 : Nat → FieldType, ∀ j, j < Nf → parseFieldDescriptor (T j).2.2.1 = some (ty0 j)) ∧ (∀ a, a < Nf → ∀ b, b < Nf → a ≠ b → (T a).2.1 ≠ (T b).2.1) ∧ (T k).2.2.2 = fin ∧ parseFieldDescriptor (T k).2.2.1 = some ty
theorem tw_get (F : tw_F p m c cc nL s args own G A) (hH : tw_H G N ad w A s H locs) {r ci k idx Nf : Nat} {C : String} {T : u_T} {fs : List Value} {v : Value} (hf : tw_kF own idx ci k C T Nf) {a : Nat} (hra : ad r = a) (hr : r < N) (hw : w r = .inr (ci, fs)) (hv : fs[k]? = some v) (hdg : decode cc pc = .ok (.getfield idx, 3))
    (kk : W p l e R s m args below meth c H locs cells slots Q (F0 m (pc + 3) ls (v :: rest))) : W p l e R s m args below meth c H locs cells slots Q (F0 m pc ls (.ref a :: rest)) := by
  subst hra
  obtain ⟨h1, h2, h3, h4, h5⟩ := hf
  obtain ⟨⟨hx, hb, hml, hown, hts⟩, hE, -⟩ := F
  exact va_get hx hb hts h2 hown hE.1 hH.1 r (by rw [tw_W_get hr, hw]) h1 k h3 (hts _ h5) (fun x hx => by rw [h4] at hx; exact hx) hv hdg kk
theorem tw_put (F : tw_F p m c cc nL s args own G A) (hH : tw_H G N ad w A s H locs) {r ci k idx Nf : Nat} {C : String} {T : u_T} {fs : List Value} {v : Value} {ty : FieldType} (hf : tw_kF own idx ci k C T Nf) (hp : tw_kP ci k C T Nf ty false) {a : Nat} (hra : ad r = a) (hr : r < N) (hw : w r = .inr (ci, fs)) (hl : k < fs.length) (hn : narrow ty v = v) (hfit : fits ty v = true) (hdg : decode cc pc = .ok (.putfield idx, 3))
    (kk : ∀ (H1 : Heap) (locs1 : List Loc) (w1 : Nat → va_E), w1 r = .inr (ci, fs.set k v) → (∀ j, j ≠ r → w1 j = w j) → tw_H G N ad w1 A s H1 locs1 → W p l e R s m args below meth c H1 locs1 cells slots Q (F0 m (pc + 3) ls rest)) : W p l e R s m args below meth c H locs cells slots Q (F0 m pc ls (v :: .ref a :: rest)) := by
  subst hra
  obtain ⟨h1, h2, h3, h4, h5⟩ := hf
  obtain ⟨⟨ty0, g1⟩, g2, g3, g4⟩ := hp
  obtain ⟨⟨hx, hb, hml, hown, hts⟩, hE, -⟩ := F
  refine va_put hx hb hts h2 ty0 g1 g2 hown hE.1 hH.1 hH.2.1 hH.2.2 r (by rw [tw_W_get hr, hw]) h1 k h3 (hts _ h5) (fun x hx => by rw [h4] at hx; exact hx) g3 g4 hn hfit hl hdg fun H1 locs1 a1 a2 a3 => ?_
  rw [tw_W_set] at a1 a2
  exact kk H1 locs1 _ (va_up_self _ _ _) (fun j hj => va_up_ne _ _ hj) ⟨a1, a2, a3⟩
theorem tw_putF (F : tw_F p m c cc nL s args own G A) (hH : tw_H G N ad w A s H locs) {r ci k idx Nf : Nat} {C : String} {T : u_T} {fs : List Value} {v : Value} {ty : FieldType} (hf : tw_kF own idx ci k C T Nf) (hp : tw_kP ci k C T Nf ty true) (hin : meth.name = "<init>") (hC : C = own) {a : Nat} (hra : ad r = a) (hr : r < N) (hw : w r = .inr (ci, fs)) (hl : k < fs.length) (hn : narrow ty v = v) (hfit : fits ty v = true) (hdg : decode cc pc = .ok (.putfield idx, 3))
    (kk : ∀ (H1 : Heap) (locs1 : List Loc) (w1 : Nat → va_E), w1 r = .inr (ci, fs.set k v) → (∀ j, j ≠ r → w1 j = w j) → tw_H G N ad w1 A s H1 locs1 → W p l e R s m args below meth c H1 locs1 cells slots Q (F0 m (pc + 3) ls rest)) : W p l e R s m args below meth c H locs cells slots Q (F0 m pc ls (v :: .ref a :: rest)) := by
  subst hra
  obtain ⟨h1, h2, h3, h4, h5⟩ := hf
  obtain ⟨⟨ty0, g1⟩, g2, g3, g4⟩ := hp
  obtain ⟨⟨hx, hb, hml, hown, hts⟩, hE, -⟩ := F
  refine va_putF hx hb hts h2 ty0 g1 g2 hown hE.1 hH.1 hH.2.1 hH.2.2 r (by rw [tw_W_get hr, hw]) h1 k h3 (hts _ h5) (fun x hx => by rw [h4] at hx; exact hx) g3 hin (by rw [h4]; exact hC) g4 hn hfit hl hdg fun H1 locs1 a1 a2 a3 => ?_
  rw [tw_W_set] at a1 a2
  exact kk H1 locs1 _ (va_up_self _ _ _) (fun j hj => va_up_ne _ _ hj) ⟨a1, a2, a3⟩
/-! arrays -/
theorem tw_ix {i : Int32} {j n : Nat} (hi : i.toInt = (j : Int)) (hj : j < n) : vp_in i n ∧ i.toNatClampNeg = j := by
  have e : i.toNatClampNeg = j := by
    show i.toInt.toNat = j
    omega
  exact ⟨vp_in_iff.mpr ⟨by omega, by omega⟩, e⟩
theorem tw_iald (F : tw_F p m c cc nL s args own G A) (hH : tw_H G N ad w A s H locs) {r n j : Nat} {f : Nat → Int32} {i v : Int32} {a : Nat} (hra : ad r = a) (hr : r < N) (hw : w r = .inl (G.2.1 0, n, .inl f)) (hi : i.toInt = (j : Int)) (hj : j < n) (hv : f j = v) (hdg : decode cc pc = .ok (.iaload, 1))
    (kk : W p l e R s m args below meth c H locs cells slots Q (F0 m (pc + 1) ls (.int v :: rest))) : W p l e R s m args below meth c H locs cells slots Q (F0 m pc ls (.int i :: .ref a :: rest)) := by
  subst hra
  obtain ⟨h1, h2⟩ := tw_ix hi hj
  obtain ⟨⟨hx, hb, hml, hown, hts⟩, hE, -⟩ := F
  subst hv
  refine va_iald hx hb hE.1 hH.1 r 0 (by rw [tw_W_get hr, hw]) rfl h1 hdg ?_
  rw [h2]
  exact kk
theorem tw_zald (F : tw_F p m c cc nL s args own G A) (hH : tw_H G N ad w A s H locs) {r n j : Nat} {f : Nat → Int32} {i v : Int32} {a : Nat} (hra : ad r = a) (hr : r < N) (hw : w r = .inl (G.2.1 1, n, .inl f)) (hi : i.toInt = (j : Int)) (hj : j < n) (hv : f j = v) (hdg : decode cc pc = .ok (.baload, 1))
    (kk : W p l e R s m args below meth c H locs cells slots Q (F0 m (pc + 1) ls (.int v :: rest))) : W p l e R s m args below meth c H locs cells slots Q (F0 m pc ls (.int i :: .ref a :: rest)) := by
  subst hra
  obtain ⟨h1, h2⟩ := tw_ix hi hj
  obtain ⟨⟨hx, hb, hml, hown, hts⟩, hE, -⟩ := F
  subst hv
  refine va_zald hx hb hE.1 hH.1 r 1 (by rw [tw_W_get hr, hw]) rfl h1 hdg ?_
  rw [h2]
  exact kk
theorem tw_aald (F : tw_F p m c cc nL s args own G A) (hH : tw_H G N ad w A s H locs) {r n j t : Nat} {C : String} {f : Nat → Option Nat} {i : Int32} {v : Value} (ht : (tw_tys G)[t]? = some (G.2.1 t, .object C)) {a : Nat} (hra : ad r = a) (hr : r < N) (hw : w r = .inl (G.2.1 t, n, .inr (.inr (.inr (.inr f))))) (hi : i.toInt = (j : Int)) (hj : j < n) (hv : va_rf (f j) = v) (hdg : decode cc pc = .ok (.aaload, 1))
    (kk : W p l e R s m args below meth c H locs cells slots Q (F0 m (pc + 1) ls (v :: rest))) : W p l e R s m args below meth c H locs cells slots Q (F0 m pc ls (.int i :: .ref a :: rest)) := by
  subst hra
  obtain ⟨h1, h2⟩ := tw_ix hi hj
  obtain ⟨⟨hx, hb, hml, hown, hts⟩, hE, -⟩ := F
  subst hv
  refine va_aldq hx hb hE.1 hH.1 r t (by rw [tw_W_get hr, hw]) ht h1 hdg ?_
  rw [h2]
  exact kk
theorem tw_iast (F : tw_F p m c cc nL s args own G A) (hH : tw_H G N ad w A s H locs) {r n j : Nat} {f : Nat → Int32} {i x : Int32} {a : Nat} (hra : ad r = a) (hr : r < N) (hw : w r = .inl (G.2.1 0, n, .inl f)) (hi : i.toInt = (j : Int)) (hj : j < n) (hdg : decode cc pc = .ok (.iastore, 1))
    (kk : ∀ (H1 : Heap) (locs1 : List Loc) (w1 : Nat → va_E), w1 r = .inl (G.2.1 0, n, .inl (upd f j x)) → (∀ q, q ≠ r → w1 q = w q) → tw_H G N ad w1 A s H1 locs1 → W p l e R s m args below meth c H1 locs1 cells slots Q (F0 m (pc + 1) ls rest)) : W p l e R s m args below meth c H locs cells slots Q (F0 m pc ls (.int x :: .int i :: .ref a :: rest)) := by
  subst hra
  obtain ⟨h1, h2⟩ := tw_ix hi hj
  obtain ⟨⟨hx, hb, hml, hown, hts⟩, hE, -⟩ := F
  refine va_iast hx hb hE.1 hH.1 hH.2.1 hH.2.2 r 0 (by rw [tw_W_get hr, hw]) rfl h1 hdg fun H1 locs1 a1 a2 a3 => ?_
  rw [h2, tw_W_set] at a1 a2
  exact kk H1 locs1 _ (va_up_self _ _ _) (fun j hj => va_up_ne _ _ hj) ⟨a1, a2, a3⟩
theorem tw_zast (F : tw_F p m c cc nL s args own G A) (hH : tw_H G N ad w A s H locs) {r n j : Nat} {f : Nat → Int32} {i x : Int32} {a : Nat} (hra : ad r = a) (hr : r < N) (hw : w r = .inl (G.2.1 1, n, .inl f)) (hi : i.toInt = (j : Int)) (hj : j < n) (hz : vp_nar .boolean x = x) (hdg : decode cc pc = .ok (.bastore, 1))
    (kk : ∀ (H1 : Heap) (locs1 : List Loc) (w1 : Nat → va_E), w1 r = .inl (G.2.1 1, n, .inl (upd f j x)) → (∀ q, q ≠ r → w1 q = w q) → tw_H G N ad w1 A s H1 locs1 → W p l e R s m args below meth c H1 locs1 cells slots Q (F0 m (pc + 1) ls rest)) : W p l e R s m args below meth c H locs cells slots Q (F0 m pc ls (.int x :: .int i :: .ref a :: rest)) := by
  subst hra
  obtain ⟨h1, h2⟩ := tw_ix hi hj
  obtain ⟨⟨hx, hb, hml, hown, hts⟩, hE, -⟩ := F
  refine va_zast hx hb hE.1 hH.1 hH.2.1 hH.2.2 r 1 (by rw [tw_W_get hr, hw]) rfl h1 hdg fun H1 locs1 a1 a2 a3 => ?_
  rw [h2, tw_W_set, hz] at a1 a2
  exact kk H1 locs1 _ (va_up_self _ _ _) (fun j hj => va_up_ne _ _ hj) ⟨a1, a2, a3⟩
theorem tw_aast (F : tw_F p m c cc nL s args own G A) (hH : tw_H G N ad w A s H locs) {r n j t r2 ci Nf : Nat} {C : String} {T : u_T} {vs : List Value} {f : Nat → Option Nat} {i : Int32} (ht : (tw_tys G)[t]? = some (G.2.1 t, .object C)) {a : Nat} (hra : ad r = a) (hr : r < N) (hw : w r = .inl (G.2.1 t, n, .inr (.inr (.inr (.inr f))))) (hc : vwCl[ci]? = some (C, T, Nf)) {a2 : Nat} (hra2 : ad r2 = a2) (hr2 : r2 < N) (hw2 : w r2 = .inr (ci, vs)) (hi : i.toInt = (j : Int)) (hj : j < n) (hdg : decode cc pc = .ok (.aastore, 1))
    (kk : ∀ (H1 : Heap) (locs1 : List Loc) (w1 : Nat → va_E), w1 r = .inl (G.2.1 t, n, .inr (.inr (.inr (.inr (va_up f j (some a2)))))) → (∀ q, q ≠ r → w1 q = w q) → tw_H G N ad w1 A s H1 locs1 → W p l e R s m args below meth c H1 locs1 cells slots Q (F0 m (pc + 1) ls rest)) : W p l e R s m args below meth c H locs cells slots Q (F0 m pc ls (.ref a2 :: .int i :: .ref a :: rest)) := by
  subst hra
  subst hra2
  obtain ⟨h1, h2⟩ := tw_ix hi hj
  obtain ⟨⟨hx, hb, hml, hown, hts⟩, hE, -⟩ := F
  refine va_astq hx hb hE.1 hH.1 hH.2.1 hH.2.2 r t r2 ci (by rw [tw_W_get hr, hw]) ht (by rw [tw_W_get hr2, hw2]) hc h1 hdg fun H1 locs1 a1 a2 a3 => ?_
  rw [h2, tw_W_set] at a1 a2
  exact kk H1 locs1 _ (va_up_self _ _ _) (fun j hj => va_up_ne _ _ hj) ⟨a1, a2, a3⟩
theorem tw_alen (F : tw_F p m c cc nL s args own G A) (hH : tw_H G N ad w A s H locs) {r t : Nat} {x : vp_A} {v : Int32} {ty : FieldType} (ht : (tw_tys G)[t]? = some (G.2.1 t, ty)) {a : Nat} (hra : ad r = a) (hr : r < N) (hw : w r = .inl (G.2.1 t, x)) (hv : Int32.ofNat x.1 = v) (hdg : decode cc pc = .ok (.arraylength, 1))
    (kk : W p l e R s m args below meth c H locs cells slots Q (F0 m (pc + 1) ls (.int v :: rest))) : W p l e R s m args below meth c H locs cells slots Q (F0 m pc ls (.ref a :: rest)) := by
  subst hra
  obtain ⟨⟨hx, hb, hml, hown, hts⟩, hE, -⟩ := F
  exact va_alen hx hb hE.1 hH.1 r t (by rw [tw_W_get hr, hw]) ht hv hdg kk
theorem tw_push {q : Nat} {e0 : va_E} (hH : va_P G.1 vwCl (tw_W N ad w ++ [(q, e0)]) H) (hD : va_D A (tw_W N ad w ++ [(q, e0)])) (hS : va_S A s.heap H locs) : tw_H G (N + 1) (va_up ad N q) (va_up w N e0) A s H locs := by
  rw [tw_W_push] at hH hD
  exact ⟨hH, hD, hS⟩
/-- new: the cell's role is N -/
theorem tw_new (F : tw_F p m c cc nL s args own G A) (hH : tw_H G N ad w A s H locs) {ci idx Nf : Nat} {C : String} {T : u_T} {fs : List Value} (hc : vwCl[ci]? = some (C, T, Nf)) (hin : ∀ x ∈ u_ws C T Nf, x ∈ lw_g) (ty : Nat → FieldType) (hty : ∀ k, k < Nf → parseFieldDescriptor (T k).2.2.1 = some (ty k)) (k1 : Cond.classLink own idx C ∈ lw_g) (k2 : Cond.instantiable C Nf ∈ lw_g) (k3 : Cond.initialized C ∈ lw_g) (hfs : ∀ j, j < Nf → defaultValue (ty j) = vp_V fs j) (hcells : cells + 1 ≤ R.cells) (hslots : slots + Nf ≤ R.slots) (hdg : decode cc pc = .ok (.new idx, 3))
    (kk : ∀ (H1 : Heap) (locs1 : List Loc) (ad1 : Nat → Nat) (w1 : Nat → va_E), (∀ k, k < N → ad1 k = ad k) → w1 N = .inr (ci, fs) → (∀ k, k ≠ N → w1 k = w k) → tw_H G (N + 1) ad1 w1 A s H1 locs1 → W p l e R s m args below meth c H1 locs1 (cells + 1) (slots + Nf) Q (F0 m (pc + 3) ls (.ref (ad1 N) :: rest))) : W p l e R s m args below meth c H locs cells slots Q (F0 m pc ls rest) := by
  obtain ⟨⟨hx, hb, hml, hown, hts⟩, hE, hA⟩ := F
  refine va_new hx hb hts hin ty hty hown (hts _ k1) (hts _ k2) (hts _ k3) hE.1 hH.1 hH.2.1 hH.2.2 hA hc hfs hcells hslots hdg fun q H1 a1 a2 a3 => ?_
  have h := kk H1 locs (va_up ad N q) (va_up w N (.inr (ci, fs))) (fun k hk => va_up_ne _ _ (by omega)) (va_up_self _ _ _) (fun k hk => va_up_ne _ _ hk) (tw_push a1 a2 a3)
  rw [va_up_self] at h
  exact h
theorem tw_cl0 {U : State} {t : Nat} {cA : ClassId} {ty : FieldType} {X : ClassId → Prop} (hn : ∀ C, ty ≠ .object C) (hK : va_K G.1 vwCl (tw_tys G) U) (ht : (tw_tys G)[t]? = some (G.2.1 t, ty)) (hK2 : va_K G.1 vwCl (tw_tys G ++ [(cA, ty)]) U) : cA = G.2.1 t := by
  have h1 := (hK.2 t _ ht).2
  have h2 := (hK2.2 (tw_tys G).length (cA, ty) (by simp)).2
  cases ty with
  | object C => exact absurd rfl (hn C)
  | _ => exact Option.some.inj (h2.symm.trans h1)
theorem tw_clO {U : State} {t : Nat} {cA : ClassId} {C : String} (hK : va_K G.1 vwCl (tw_tys G) U) (ht : (tw_tys G)[t]? = some (G.2.1 t, .object C)) (hK2 : va_K G.1 vwCl (tw_tys G ++ [(cA, .object C)]) U) : cA = G.2.1 t := by
  obtain ⟨_, _, _, _, _, h1⟩ := (hK.2 t _ ht).2
  obtain ⟨_, _, _, _, _, h2⟩ := (hK2.2 (tw_tys G).length (cA, .object C) (by simp)).2
  exact Option.some.inj (h2.symm.trans h1)
theorem tw_newa (F : tw_F p m c cc nL s args own G A) (hH : tw_H G N ad w A s H locs) {t : Nat} {atype : ArrayType} {ty : FieldType} (ht : (tw_tys G)[t]? = some (G.2.1 t, ty)) (hn0 : ∀ C, ty ≠ .object C) (k1 : Cond.arrayClass ty ∈ lw_g) (hty : newarray.typeOf atype = ty) {n : Int32} {n' : Nat} {a0 : vp_A} (ha : ∀ cA : ClassId, vp_cell cA a0 = arrV cA n' (fun _ => defaultValue ty)) (hn : n.toInt = (n' : Int)) (hbytes : n' * componentBytes ty ≤ 536870912) (hcells : cells + 1 ≤ R.cells) (hslots : slots + n' ≤ R.slots) (hdg : decode cc pc = .ok (.newarray atype, 2))
    (kk : ∀ (H1 : Heap) (locs1 : List Loc) (ad1 : Nat → Nat) (w1 : Nat → va_E), (∀ k, k < N → ad1 k = ad k) → w1 N = .inl (G.2.1 t, a0) → (∀ k, k ≠ N → w1 k = w k) → tw_H G (N + 1) ad1 w1 A s H1 locs1 → W p l e R s m args below meth c H1 locs1 (cells + 1) (slots + n') Q (F0 m (pc + 2) ls (.ref (ad1 N) :: rest))) : W p l e R s m args below meth c H locs cells slots Q (F0 m pc ls (.int n :: rest)) := by
  obtain ⟨⟨hx, hb, hml, hown, hts⟩, hE, hA⟩ := F
  have e0 : n.toNatClampNeg = n' := by
    show n.toInt.toNat = n'
    omega
  have e1 : ¬ n < 0 := by
    intro h
    have h2 := Int32.lt_iff_toInt_lt.mp h
    have h3 : (0 : Int32).toInt = 0 := by decide
    omega
  refine va_newa hx hb (by rw [hty]; exact hts _ k1) hty hE.1 hH.1 hH.2.1 hH.2.2 hA ha e1 e0 hbytes hcells hslots hdg fun q cA H1 aK a1 a2 a3 => ?_
  have e2 := tw_cl0 (X := fun _ => True) hn0 hE.1 ht aK
  subst e2
  have h := kk H1 locs (va_up ad N q) (va_up w N (.inl (G.2.1 t, a0))) (fun k hk => va_up_ne _ _ (by omega)) (va_up_self _ _ _) (fun k hk => va_up_ne _ _ hk) (tw_push a1 a2 a3)
  rw [va_up_self] at h
  exact h
theorem tw_newq (F : tw_F p m c cc nL s args own G A) (hH : tw_H G N ad w A s H locs) {t idx : Nat} {C : String} (ht : (tw_tys G)[t]? = some (G.2.1 t, .object C)) (k1 : Cond.classLink own idx C ∈ lw_g) (hao : va_AO C s) {n : Int32} {n' : Nat} (hn : n.toInt = (n' : Int)) (hbytes : n' * 4 ≤ 536870912) (hcells : cells + 1 ≤ R.cells) (hslots : slots + n' ≤ R.slots) (hdg : decode cc pc = .ok (.anewarray idx, 3))
    (kk : ∀ (H1 : Heap) (locs1 : List Loc) (ad1 : Nat → Nat) (w1 : Nat → va_E), (∀ k, k < N → ad1 k = ad k) → w1 N = .inl (G.2.1 t, n', .inr (.inr (.inr (.inr (fun _ => none))))) → (∀ k, k ≠ N → w1 k = w k) → tw_H G (N + 1) ad1 w1 A s H1 locs1 → W p l e R s m args below meth c H1 locs1 (cells + 1) (slots + n') Q (F0 m (pc + 3) ls (.ref (ad1 N) :: rest))) : W p l e R s m args below meth c H locs cells slots Q (F0 m pc ls (.int n :: rest)) := by
  obtain ⟨⟨hx, hb, hml, hown, hts⟩, hE, hA⟩ := F
  have e0 : n.toNatClampNeg = n' := by
    show n.toInt.toNat = n'
    omega
  have e1 : ¬ n < 0 := by
    intro h
    have h2 := Int32.lt_iff_toInt_lt.mp h
    have h3 : (0 : Int32).toInt = 0 := by decide
    omega
  refine va_newq hx hb hown (hts _ k1) hao hE.1 hH.1 hH.2.1 hH.2.2 hA e1 e0 hbytes hcells hslots hdg fun q cA H1 aK a1 a2 a3 => ?_
  have e2 := tw_clO hE.1 ht aK
  subst e2
  have h := kk H1 locs (va_up ad N q) (va_up w N (.inl (G.2.1 t, n', .inr (.inr (.inr (.inr (fun _ => none))))))) (fun k hk => va_up_ne _ _ (by omega)) (va_up_self _ _ _) (fun k hk => va_up_ne _ _ hk) (tw_push a1 a2 a3)
  rw [va_up_self] at h
  exact h
end TW
