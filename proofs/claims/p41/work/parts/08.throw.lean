/-! methods that throw, and a caller that catches -/
def tw_nse : String := "java/util/NoSuchElementException"
abbrev tw_X (G : tw_G) (N : Nat) (ad : Nat → Nat) (px : (Nat → va_E) → Prop) (sz : Nat) : String → State → State → Prop := vx_X px (fun E w1 t => E = tw_nse ∧ va_P G.1 vwCl (tw_W N ad w1) t.heap) (tw_A N ad sz)
theorem tw_metX {l : Launch} {y : MethodName} {b : ByteArray} {maxL : Nat} {ret : Option FieldType} {rm : Room} {As : List Value} {G : tw_G} {N : Nat} {ad : Nat → Nat} {w : Nat → va_E} {sz : Nat} {Qc : Array Value → State → Outcome → State → Prop} {XC : String → State → State → Prop} {mc ms : Nat} (hy : plainName y.cls = true) (hn : (lg_sl As).length ≤ maxL)
    (body : ∀ (p : Program) (e : Env) (s : State) (m : MethodId) (args : Array Value) (below : List Frame) (meth : Method) (c : Code), tw_F p m c b maxL s args y.cls G (tw_A N ad sz) → meth.sig.returnType = ret → meth.locks = false → (∀ x ∈ c.exceptionTable.toList, False) → args = As.toArray → s.heap.size = sz → tw_H G N ad w (tw_A N ad sz) s s.heap [] → ∀ ls, lv_has ls maxL (lv_args 0 As) →
      W p l e rm s m args below meth c s.heap [] 0 0 (vx_MQ below Qc XC args s mc ms (tw_A N ad sz)) (F0 m 0 ls [])) : vx_Met l y (tw_ws y b maxL ret) rm (tw_Pre G N ad w sz As) Qc XC mc ms (tw_A N ad sz) := by
  refine vx_ofW (cc := b) (maxL := maxL) (ret := ret) hy rfl ?_
  intro p e s m args below meth c s₁ B hml hex hv
  obtain ⟨rfl, hsz, hP, hE, hD0⟩ := hv
  have hts := atoms_spec (ws := tw_ws y b maxL ret) B.pre
  have hD := tw_D_self (sz := sz) hD0
  have hl := lv_entry As hn
  rw [lg_entry_eq]
  exact body p e s m _ below meth c ⟨⟨B.exec, B.bytes, hml, findClass_of_methodNamed B.named, fun x hx => hts x (List.mem_cons_of_mem _ hx)⟩, hE, fun q hq => Or.inr (by omega)⟩ B.returns B.notSynchronized hex rfl hsz ⟨hP, hD, va_S.rf⟩ _ hl
/-- a method with handlers that itself returns -/
def tw_wsW (y : MethodName) (b : ByteArray) (maxL : Nat) (ret : Option FieldType) (hh : List (Nat × Nat × Nat × Nat)) : List Cond := Cond.codeWith y b maxL ret hh :: lw_g
theorem tw_ofWH {l : Launch} {y : MethodName} {ws ws' : List Cond} {rm : Room} {Pc : Array Value → State → Prop} {Qc : Array Value → State → Outcome → State → Prop} {mc ms : Nat} {free : Addr → Prop} {cc : ByteArray} {maxL : Nat} {ret : Option FieldType} {hh : List (Nat × Nat × Nat × Nat)}
    (hy : plainName y.cls = true) (hw : ws = Cond.codeWith y cc maxL ret hh :: ws')
    (body : ∀ p e s m args below meth c s₁, BodyLoose p l y (headSpec ws rm) cc maxL ret e s m args below meth c s₁ → c.maxLocals = maxL → Pc args s →
      W p l e (headSpec ws rm).room s m args below meth c s.heap [] 0 0 (MQ below Qc args s mc ms free) (entryFrame m args maxL)) : Met l y ws rm Pc Qc mc ms free := by
  refine MetFree.of_bodyS (code := cc) (maxLocals := maxL) (ret := ret) hy ?_ ?_
  · intro args s m h hn
    obtain ⟨m9, meth, c, hn9, h1, h2, h3, h4, -, h5, h6, -⟩ := Cond.codeWith_spec (atoms_spec (ws := ws) h _ (by rw [hw]; exact List.mem_cons_self))
    cases hn.symm.trans hn9
    exact ⟨meth, c, h1, h2, h3, h4, h5, h6⟩
  · intro p e s m args below meth c s₁ B hml hP _
    have hh0 : s₁.heap = s.heap := by rw [B.state]; rfl
    obtain ⟨t, a1, o, b1, b2, b3⟩ := body p e s m args below meth c s₁ B hml hP s₁ hh0 (Stand.of_body B)
    exact ⟨t, o, a1, b1, b2, b3⟩
theorem tw_metW {l : Launch} {y : MethodName} {b : ByteArray} {maxL : Nat} {ret : Option FieldType} {hh : List (Nat × Nat × Nat × Nat)} {rm : Room} {As : List Value} {G : tw_G} {N : Nat} {ad : Nat → Nat} {w : Nat → va_E} {sz : Nat} {Qc : Array Value → State → Outcome → State → Prop} {mc ms : Nat} (hy : plainName y.cls = true) (hn : (lg_sl As).length ≤ maxL)
    (body : ∀ (p : Program) (e : Env) (s : State) (m : MethodId) (args : Array Value) (below : List Frame) (meth : Method) (c : Code), tw_F p m c b maxL s args y.cls G (tw_A N ad sz) → meth.sig.returnType = ret → meth.locks = false → c.exceptionTable.toList = tableOf hh → args = As.toArray → s.heap.size = sz → tw_H G N ad w (tw_A N ad sz) s s.heap [] → ∀ ls, lv_has ls maxL (lv_args 0 As) →
      W p l e rm s m args below meth c s.heap [] 0 0 (MQ below Qc args s mc ms (tw_A N ad sz)) (F0 m 0 ls [])) : Met l y (tw_wsW y b maxL ret hh) rm (tw_Pre G N ad w sz As) Qc mc ms (tw_A N ad sz) := by
  refine tw_ofWH (cc := b) (maxL := maxL) (ret := ret) (hh := hh) hy rfl ?_
  intro p e s m args below meth c s₁ B hml hv
  obtain ⟨rfl, hsz, hP, hE, hD0⟩ := hv
  have hts := atoms_spec (ws := tw_wsW y b maxL ret hh) B.pre
  have hD := tw_D_self (sz := sz) hD0
  have hl := lv_entry As hn
  rw [lg_entry_eq]
  exact body p e s m _ below meth c ⟨⟨B.exec, B.bytes, hml, findClass_of_methodNamed B.named, fun x hx => hts x (List.mem_cons_of_mem _ hx)⟩, hE, fun q hq => Or.inr (by omega)⟩ B.returns B.notSynchronized (vx_table (x := y) B (hts _ List.mem_cons_self)) rfl hsz ⟨hP, hD, va_S.rf⟩ _ hl
theorem tw_x0in : ∀ w ∈ (vx_at0 RX11 226 "java/util/NoSuchElementException" ["java/lang/RuntimeException", "java/lang/Exception"]).filter goodWord, w ∈ lw_tbl := by first | exact fun w h => Or.elim ((by decide +kernel : ∀ w ∈ (vx_at0 RX11 226 "java/util/NoSuchElementException" ["java/lang/RuntimeException", "java/lang/Exception"]).filter goodWord, w ∈ tables_1_6 ∨ w ∈ tables_1_9 ∨ w ∈ tables_1_1) w h) tw_tb6 (fun z => Or.elim z tw_tb9 tw_tb1) | decide +kernel
theorem tw_x0no : (vx_at0 RX11 226 "java/util/NoSuchElementException" ["java/lang/RuntimeException", "java/lang/Exception"]).filter (fun w => !goodWord w) = [.declares ⟨"java/lang/RuntimeException", "<init>", "()V"⟩, .declares ⟨"java/lang/Exception", "<init>", "()V"⟩, .declares ⟨"java/lang/Throwable", "<init>", "()V"⟩, .castable "java/util/NoSuchElementException" "java/util/NoSuchElementException"] := by decide +kernel
theorem tw_x0ot : ∀ w ∈ Cond.classLink RX11 224 "java/util/NoSuchElementException" :: Cond.initialized "java/util/NoSuchElementException" :: vx_at0 RX11 226 "java/util/NoSuchElementException" ["java/lang/RuntimeException", "java/lang/Exception"], vx_ot w = true := fun w h => List.all_eq_true.mp (by decide +kernel : (Cond.classLink RX11 224 "java/util/NoSuchElementException" :: Cond.initialized "java/util/NoSuchElementException" :: vx_at0 RX11 226 "java/util/NoSuchElementException" ["java/lang/RuntimeException", "java/lang/Exception"]).all vx_ot = true) w h
section TWX
variable {p : Program} {l : Launch} {e : Env} {R : Room} {s : State} {m : MethodId} {args : Array Value} {below : List Frame} {meth : Method} {c : Code} {H : Heap} {locs : List Loc} {cells slots : Nat} {Q : State → Prop}
variable {cc : ByteArray} {nL pc : Nat} {ls : Array Slot} {rest st : List Value} {own : String} {G : tw_G} {A : Nat → Prop} {N : Nat} {ad : Nat → Nat} {w : Nat → va_E}
variable {y : MethodName} {b : ByteArray} {maxL : Nat} {ret : Option FieldType} {rm : Room} {Qc : Array Value → State → Outcome → State → Prop} {XC : String → State → State → Prop} {mc ms idx n r ci Nf : Nat} {fs As : List Value} {C : String} {T : u_T}
theorem tw_throw0 {sz : Nat} {px : (Nat → va_E) → Prop} (F : tw_F p m c cc nL s args RX11 G (tw_A N ad sz)) (hH : tw_H G N ad w (tw_A N ad sz) s H locs) (hst : l.stackTraces = false) (hls : ls.size = nL) (hex : ∀ x ∈ c.exceptionTable.toList, False) (hlk : meth.locks = false) (hR : 5 < R.frames ∧ (rest.map fun v => v.category).sum + 81 ≤ R.locals ∧ cells + 1 ≤ R.cells ∧ slots + 6 ≤ R.slots) (hc : cells + 1 ≤ mc) (hs : slots + 6 ≤ ms)
    (d0 : decode cc pc = .ok (.new 224, 3)) (d3 : decode cc (pc + 3) = .ok (.dup, 1)) (d4 : decode cc (pc + 4) = .ok (.invokespecial 226, 3)) (d7 : decode cc (pc + 7) = .ok (.athrow, 1)) (hp : px w) :
    W p l e R s m args below meth c H locs cells slots (vx_MQ below Qc (tw_X G N ad px sz) args s mc ms (tw_A N ad sz)) (F0 m pc ls rest) := by
  obtain ⟨⟨hx, hb, hml, hown, hts⟩, hE, hA⟩ := F
  refine vx_throw0 (own := RX11) (cls := "java/util/NoSuchElementException") (names := ["java/lang/RuntimeException", "java/lang/Exception"]) hx hb hst hown (by decide) (by decide) (hts _ (tw_gl kw_1260 rfl)) (hts _ (tw_gl kw_23 rfl)) (vx_hat (fun w hw => hts w (tw_gl (tw_x0in w hw) (List.mem_filter.mp hw).2)) (B := [.declares ⟨"java/lang/RuntimeException", "<init>", "()V"⟩, .declares ⟨"java/lang/Exception", "<init>", "()V"⟩, .declares ⟨"java/lang/Throwable", "<init>", "()V"⟩, .castable "java/util/NoSuchElementException" "java/util/NoSuchElementException"]) (fun w hw => by rw [tw_x0no] at hw; exact hw) (vx_c (va_Nw.use rfl hE.2.1.2.2.2.1) (vx_c (va_Nw.use rfl hE.2.1.2.2.2.2.1) (vx_c (va_Nw.use rfl hE.2.1.2.2.2.2.2) (vx_c (va_Nw.use rfl hE.2.1.2.2.1) vx_n))))) tw_x0ot hE.2.2.2.2.2.1 hE.2.2.2.2.2.2.1 hH.2.2 (hls.trans hml.symm) d0 d3 d4 d7 (fun x h => (hex x h).elim) hR.1 hR.2.1 hR.2.2.1 hR.2.2.2 hlk ?_ hH.2.2.2.2 hc hs
  intro t hvm hz hk
  refine ⟨w, hp, ⟨rfl, hH.1.kept fun k q hq => ?_⟩, Nat.le_trans hH.2.2.1 hz, fun q h1 h2 => (hk q (Nat.lt_of_lt_of_le h1 hH.2.2.1)).trans (hH.2.2.2.1 q h1 h2)⟩
  obtain ⟨hk1, rfl⟩ := tw_W_in hq
  exact hk _ ((hH.1 k _ (tw_W_get hk1)).lt)
theorem tw_runVX (F : tw_F p m c cc nL s args own G A) (hH : tw_H G N ad w A s H locs) (hM : vx_Met l y (tw_ws y b maxL ret) rm (tw_Pre G N ad w H.size (.ref (ad r) :: As)) Qc XC mc ms (tw_A N ad H.size)) (k1 : Cond.methodLink own idx y ∈ lw_g) (k2 : tw_kM y b maxL ret n) (k3 : tw_kV y) (hrc : rm.cells = mc) (hrs : rm.slots = ms) (hR : rm.frames + 1 ≤ R.frames ∧ 8 + (maxL + 11) + rm.locals ≤ R.locals) (hr : r < N) (hw : w r = .inr (ci, fs)) (hc : vwCl[ci]? = some (y.cls, T, Nf)) (hn : As.length = n) (hls : ls.size = nL) (hst : st = As.reverse ++ .ref (ad r) :: rest) (hW : (rest.map fun v => v.category).sum ≤ 8) (hdg : decode cc pc = .ok (.invokevirtual idx, 3)) (hf : cells + mc ≤ R.cells ∧ slots + ms ≤ R.slots) :
    vx_Run p l e R s m args below meth c H locs cells slots mc ms (F0 m pc ls st) rest (Qc (Value.ref (ad r) :: As).toArray) XC (tw_A N ad H.size) := by
  subst hst
  have hts := F.1.2.2.2.2
  have hg : GoodIn lw_g (wsV own idx y.cls y (tw_ws y b maxL ret)) := tw_goodIn [.methodLink own idx y, .instanceMethod y, .selects y.cls y y, .initialized y.cls] rfl (fun x hx => by simp at hx; rcases hx with rfl | rfl | rfl | rfl; exact k1; exact k3.1; exact k3.2; exact k2.1) k2.2.1 (fun _ h => h)
  refine vx_runV (cc := cc) (nL := nL) (own := own) (C := y.cls) (bytes := b) (maxL := maxL) (ret := ret) (b := ad r) (As := As) F.1 hM (cwV n hts hg rfl hrc hrs ⟨rfl, k2.2.2⟩ hR) ⟨tw_pre_blind, ?_, tw_pre_at F hH⟩ rfl hn hls rfl (lv_room hW) hdg hf
  exact va_recv F.2.1.1 hH.1 hc (q0 := r) (ci := ci) (fs := fs) (by rw [tw_W_get hr, hw])
theorem tw_callX {a : Array Value} {post : Int32 → (Nat → va_E) → Prop} {px : (Nat → va_E) → Prop} (F : tw_F p m c cc nL s args own G A) (hH : tw_H G N ad w A s H locs) (hr : vx_Run p l e R s m args below meth c H locs cells slots mc ms (F0 m pc ls st) rest (tw_Qi G N ad post H.size a) (tw_X G N ad px H.size) (tw_A N ad H.size))
    (kx : ∀ (ce : Cell) (q9 : Addr) (w1 : Nat → va_E) (H1 : Heap) (locs1 : List Loc), px w1 → tw_H G N ad w1 A s H1 locs1 → H1[q9]? = some ce → ce.vm = .none → s.vm.findClass tw_nse = some ce.cls → vx_W p l e R s m args below meth c H1 locs1 (cells + mc) (slots + ms) Q (F0 m pc ls rest) q9)
    (kk : ∀ (r : Int32) (w1 : Nat → va_E) (H1 : Heap) (locs1 : List Loc), post r w1 → tw_H G N ad w1 A s H1 locs1 → W p l e R s m args below meth c H1 locs1 (cells + mc) (slots + ms) Q (F0 m (pc + 3) ls (.int r :: rest))) : W p l e R s m args below meth c H locs cells slots Q (F0 m pc ls st) := by
  have hF := hH.free F
  refine vx_calli hr hH.2.2 (fun q _ h => hF q h) hF (fun q _ h => hF q h) (fun E ce q9 u t H1 locs1 ht hvm hp hB hz hk hS h1 h2 h3 => ?_) (fun r u t H1 locs1 ht hvm hp hB hz hk hS => kk r u H1 locs1 hp ⟨by rw [ht] at hB; exact hB, tw_D_any hH.2.1, hS⟩)
  obtain ⟨rfl, b2⟩ := hB
  rw [ht] at b2
  exact kx ce q9 u H1 locs1 hp ⟨b2, tw_D_any hH.2.1, hS⟩ h1 h2 h3
theorem tw_runSW {hh : List (Nat × Nat × Nat × Nat)} (F : tw_F p m c cc nL s args own G A) (hH : tw_H G N ad w A s H locs) (hM : Met l y (tw_wsW y b maxL ret hh) rm (tw_Pre G N ad w H.size As) Qc mc ms (tw_A N ad H.size)) (k1 : Cond.methodLink own idx y ∈ lw_g) (k3 : Cond.static y ∈ lw_g) (k4 : Cond.initialized y.cls ∈ lw_g) (k5 : Cond.codeWith y b maxL ret hh ∈ lw_g) (kd : y.cls ≠ "java/lang/invoke/MethodHandle" ∧ y.cls ≠ "java/lang/invoke/VarHandle" ∧ (parseMethodDescriptor y.desc).map (fun d => d.parameters.length) = some n) (hrc : rm.cells = mc) (hrs : rm.slots = ms) (hR : rm.frames + 1 ≤ R.frames ∧ 8 + (maxL + 11) + rm.locals ≤ R.locals) (hn : As.length = n) (hls : ls.size = nL) (hst : st = As.reverse ++ rest) (hW : (rest.map fun v => v.category).sum ≤ 8) (hdg : decode cc pc = .ok (.invokestatic idx, 3)) (hf : cells + mc ≤ R.cells ∧ slots + ms ≤ R.slots) :
    va_Run p l e R s m args below meth c H locs cells slots mc ms (F0 m pc ls st) rest (Qc As.toArray) (tw_A N ad H.size) := by
  subst hst
  have hts := F.1.2.2.2.2
  have hg : GoodIn lw_g (va_wsS own idx y (tw_wsW y b maxL ret hh)) := by
    intro x hx
    have h1 : x ∈ lw_g := by
      rcases List.mem_append.mp hx with h | h
      · simp at h
        rcases h with rfl | rfl | rfl
        · exact k1
        · exact k3
        · exact k4
      · rcases List.mem_cons.mp h with rfl | h
        · exact k5
        · exact h
    exact ⟨h1, good_of_word (tw_good x h1)⟩
  exact vx_runSW (cc := cc) (nL := nL) (own := own) (bytes := b) (maxL := maxL) (ret := ret) (hh := hh) (As := As) F.1 hM (vx_cwSW n hts hg rfl hrc hrs kd hR) ⟨tw_pre_blind, tw_pre_at F hH⟩ rfl hn hls rfl (lv_room hW) hdg hf
end TWX
