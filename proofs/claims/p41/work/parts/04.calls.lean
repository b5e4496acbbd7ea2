/-! calls, returns, branches over a world by roles -/
theorem tw_goodIn {Ts ws : List Cond} {y : MethodName} {b : ByteArray} {maxL : Nat} {ret : Option FieldType} (pre : List Cond) (hws : ws = pre ++ tw_ws y b maxL ret) (hp : ∀ w ∈ pre, w ∈ lw_g) (hc : Cond.code y b maxL ret ∈ lw_g) (hT : ∀ w ∈ lw_g, w ∈ Ts) : GoodIn Ts ws := by
  intro w hw
  have h1 : w ∈ lw_g := by
    rw [hws] at hw
    rcases List.mem_append.mp hw with h | h
    · exact hp w h
    · rcases List.mem_cons.mp h with h | h
      · rw [h]; exact hc
      · exact h
  exact ⟨hT w h1, good_of_word (tw_good w h1)⟩
/-- what the tables say of a method that is called -/
def tw_kM (y : MethodName) (b : ByteArray) (maxL : Nat) (ret : Option FieldType) (n : Nat) : Prop := Cond.initialized y.cls ∈ lw_g ∧ Cond.code y b maxL ret ∈ lw_g ∧ (y.cls ≠ "java/lang/invoke/MethodHandle" ∧ y.cls ≠ "java/lang/invoke/VarHandle" ∧ (parseMethodDescriptor y.desc).map (fun d => d.parameters.length) = some n)
def tw_kV (y : MethodName) : Prop := Cond.instanceMethod y ∈ lw_g ∧ Cond.selects y.cls y y ∈ lw_g
section TWC
variable {p : Program} {l : Launch} {e : Env} {R : Room} {s : State} {m : MethodId} {args : Array Value} {below : List Frame} {meth : Method} {c : Code} {H : Heap} {locs : List Loc} {cells slots : Nat} {Q : State → Prop}
variable {cc : ByteArray} {nL pc : Nat} {ls : Array Slot} {rest st : List Value} {own : String} {G : tw_G} {A : Nat → Prop} {N : Nat} {ad : Nat → Nat} {w : Nat → va_E}
variable {y : MethodName} {b : ByteArray} {maxL : Nat} {ret : Option FieldType} {rm : Room} {Qc : Array Value → State → Outcome → State → Prop} {mc ms idx n r ci Nf : Nat} {fs As : List Value} {C : String} {T : u_T} {host : String}
theorem tw_pre_blind {w : Nat → va_E} {sz : Nat} {As : List Value} : FrameBlind (tw_Pre G N ad w sz As) := fun a U g mk q => by
  obtain ⟨q0, q1, qP, qE, qD⟩ := q
  exact ⟨q0, q1, qP, tw_E.calling g mk a qE, qD⟩
theorem tw_pre_at (F : tw_F p m c cc nL s args own G A) (hH : tw_H G N ad w A s H locs) {As : List Value} : ∀ U : State, U.heap = H → s.WarmedH U.vm → tw_Pre G N ad w H.size As As.toArray U := fun U hU hW =>
  ⟨rfl, by rw [hU], by rw [hU]; exact hH.1, F.2.1.call hH.2.2 hU hW (hH.free F), hH.2.1.weaken (fun _ _ _ _ => trivial)⟩
theorem tw_runV (F : tw_F p m c cc nL s args own G A) (hH : tw_H G N ad w A s H locs) (hM : Met l y (tw_ws y b maxL ret) rm (tw_Pre G N ad w H.size (.ref (ad r) :: As)) Qc mc ms (tw_A N ad H.size)) (k1 : Cond.methodLink own idx y ∈ lw_g) (k2 : tw_kM y b maxL ret n) (k3 : tw_kV y) (hrc : rm.cells = mc) (hrs : rm.slots = ms) (hR : rm.frames + 1 ≤ R.frames ∧ 8 + (maxL + 11) + rm.locals ≤ R.locals) (hr : r < N) (hw : w r = .inr (ci, fs)) (hc : vwCl[ci]? = some (y.cls, T, Nf)) (hn : As.length = n) (hls : ls.size = nL) (hst : st = As.reverse ++ .ref (ad r) :: rest) (hW : (rest.map fun v => v.category).sum ≤ 8) (hdg : decode cc pc = .ok (.invokevirtual idx, 3)) (hf : cells + mc ≤ R.cells ∧ slots + ms ≤ R.slots) :
    va_Run p l e R s m args below meth c H locs cells slots mc ms (F0 m pc ls st) rest (Qc (Value.ref (ad r) :: As).toArray) (tw_A N ad H.size) := by
  subst hst
  have hts := F.1.2.2.2.2
  have hg : GoodIn lw_g (wsV own idx y.cls y (tw_ws y b maxL ret)) := tw_goodIn [.methodLink own idx y, .instanceMethod y, .selects y.cls y y, .initialized y.cls] rfl (fun x hx => by simp at hx; rcases hx with rfl | rfl | rfl | rfl; exact k1; exact k3.1; exact k3.2; exact k2.1) k2.2.1 (fun _ h => h)
  refine va_runV (cc := cc) (nL := nL) (own := own) (C := y.cls) (bytes := b) (maxL := maxL) (ret := ret) (b := ad r) (As := As) F.1 hM (cwV n hts hg rfl hrc hrs ⟨rfl, k2.2.2⟩ hR) ⟨tw_pre_blind, ?_, tw_pre_at F hH⟩ rfl hn hls rfl (lv_room hW) hdg hf
  exact va_recv F.2.1.1 hH.1 hc (q0 := r) (ci := ci) (fs := fs) (by rw [tw_W_get hr, hw])
theorem tw_runS (F : tw_F p m c cc nL s args own G A) (hH : tw_H G N ad w A s H locs) (hM : Met l y (tw_ws y b maxL ret) rm (tw_Pre G N ad w H.size As) Qc mc ms (tw_A N ad H.size)) (k1 : Cond.methodLink own idx y ∈ lw_g) (k2 : tw_kM y b maxL ret n) (k3 : Cond.static y ∈ lw_g) (hrc : rm.cells = mc) (hrs : rm.slots = ms) (hR : rm.frames + 1 ≤ R.frames ∧ 8 + (maxL + 11) + rm.locals ≤ R.locals) (hn : As.length = n) (hls : ls.size = nL) (hst : st = As.reverse ++ rest) (hW : (rest.map fun v => v.category).sum ≤ 8) (hdg : decode cc pc = .ok (.invokestatic idx, 3)) (hf : cells + mc ≤ R.cells ∧ slots + ms ≤ R.slots) :
    va_Run p l e R s m args below meth c H locs cells slots mc ms (F0 m pc ls st) rest (Qc As.toArray) (tw_A N ad H.size) := by
  subst hst
  have hts := F.1.2.2.2.2
  have hg : GoodIn lw_g (va_wsS own idx y (tw_ws y b maxL ret)) := tw_goodIn [.methodLink own idx y, .static y, .initialized y.cls] rfl (fun x hx => by simp at hx; rcases hx with rfl | rfl | rfl; exact k1; exact k3; exact k2.1) k2.2.1 (fun _ h => h)
  exact va_runS (cc := cc) (nL := nL) (own := own) (bytes := b) (maxL := maxL) (ret := ret) (As := As) F.1 hM (va_cwS n hts hg rfl hrc hrs k2.2.2 hR) ⟨tw_pre_blind, tw_pre_at F hH⟩ rfl hn hls rfl (lv_room hW) hdg hf
theorem tw_runSN (F : tw_F p m c cc nL s args own G A) (hH : tw_H G N ad w A s H locs) (hM : Met l y (tw_ws y b maxL ret) rm (tw_Pre G N ad w H.size As) Qc mc ms (tw_A N ad H.size)) (k1 : (own, idx, y, host) ∈ tw_nwM) (k2 : tw_kM y b maxL ret n) (k3 : Cond.static y ∈ lw_g) (hrc : rm.cells = mc) (hrs : rm.slots = ms) (hR : rm.frames + 1 ≤ R.frames ∧ 8 + (maxL + 11) + rm.locals ≤ R.locals) (hn : As.length = n) (hls : ls.size = nL) (hst : st = As.reverse ++ rest) (hW : (rest.map fun v => v.category).sum ≤ 8) (hdg : decode cc pc = .ok (.invokestatic idx, 3)) (hf : cells + mc ≤ R.cells ∧ slots + ms ≤ R.slots) :
    va_Run p l e R s m args below meth c H locs cells slots mc ms (F0 m pc ls st) rest (Qc As.toArray) (tw_A N ad H.size) := by
  subst hst
  have hts := F.1.2.2.2.2
  have hg : GoodIn lw_g (tw_ws y b maxL ret) := tw_goodIn [] rfl (fun x hx => by simp at hx) k2.2.1 (fun _ h => h)
  exact va_runSN (cc := cc) (nL := nL) (own := own) (host := host) (bytes := b) (maxL := maxL) (ret := ret) (As := As) F.1 hM ⟨va_cnB n hts hg rfl hrc hrs (F.2.1.2.1.1 (own, idx, y, host) k1) (hts _ k2.1) k2.2.2 hR, hts _ k3, trivial⟩ ⟨tw_pre_blind, tw_pre_at F hH⟩ rfl hn hls rfl (lv_room hW) hdg hf
theorem tw_runI (F : tw_F p m c cc nL s args own G A) (hH : tw_H G N ad w A s H locs) (hM : Met l y (tw_ws y b maxL none) rm (tw_Pre G N ad w H.size (.ref (ad r) :: As)) Qc mc ms (tw_A N ad H.size)) (k1 : Cond.methodLink own idx y ∈ lw_g) (k2 : tw_kM y b maxL none n) (k3 : Cond.instanceMethod y ∈ lw_g) (hin : y.name = "<init>") (hrc : rm.cells = mc) (hrs : rm.slots = ms) (hR : rm.frames + 1 ≤ R.frames ∧ 8 + (maxL + 11) + rm.locals ≤ R.locals) (hn : As.length = n) (hls : ls.size = nL) (hst : st = As.reverse ++ .ref (ad r) :: rest) (hW : (rest.map fun v => v.category).sum ≤ 8) (hdg : decode cc pc = .ok (.invokespecial idx, 3)) (hf : cells + mc ≤ R.cells ∧ slots + ms ≤ R.slots) :
    va_Run p l e R s m args below meth c H locs cells slots mc ms (F0 m pc ls st) rest (Qc (Value.ref (ad r) :: As).toArray) (tw_A N ad H.size) := by
  subst hst
  have hts := F.1.2.2.2.2
  have hg : GoodIn lw_g (tw_ws y b maxL none) := tw_goodIn [] rfl (fun x hx => by simp at hx) k2.2.1 (fun _ h => h)
  exact va_runI (cc := cc) (nL := nL) (own := own) (bytes := b) (maxL := maxL) (b := ad r) (As := As) F.1 hM (cwI n hts hg rfl hrc hrs (hts _ k2.1) (hts _ k1) (hts _ k3) hin k2.2.2 hR) ⟨tw_pre_blind, tw_pre_at F hH⟩ rfl hn hls rfl (lv_room hW) hdg hf
theorem tw_calli {a : Array Value} {post : Int32 → (Nat → va_E) → Prop} (F : tw_F p m c cc nL s args own G A) (hH : tw_H G N ad w A s H locs) (hr : va_Run p l e R s m args below meth c H locs cells slots mc ms (F0 m pc ls st) rest (tw_Qi G N ad post H.size a) (tw_A N ad H.size))
    (kk : ∀ (r : Int32) (w1 : Nat → va_E) (H1 : Heap) (locs1 : List Loc), post r w1 → H.size ≤ H1.size → tw_H G N ad w1 A s H1 locs1 → W p l e R s m args below meth c H1 locs1 (cells + mc) (slots + ms) Q (F0 m (pc + 3) ls (.int r :: rest))) : W p l e R s m args below meth c H locs cells slots Q (F0 m pc ls st) := by
  have hF := hH.free F
  exact va_calli hr hH.2.2 (fun q _ h => hF q h) hF fun r u t H1 locs1 ht hvm hp hB hz hk hS => kk r u H1 locs1 hp hz ⟨by rw [ht] at hB; exact hB, tw_D_any hH.2.1, hS⟩
theorem tw_callv {a : Array Value} {post : (Nat → va_E) → Prop} (F : tw_F p m c cc nL s args own G A) (hH : tw_H G N ad w A s H locs) (hr : va_Run p l e R s m args below meth c H locs cells slots mc ms (F0 m pc ls st) rest (tw_Qv G N ad post H.size a) (tw_A N ad H.size))
    (kk : ∀ (w1 : Nat → va_E) (H1 : Heap) (locs1 : List Loc), post w1 → H.size ≤ H1.size → tw_H G N ad w1 A s H1 locs1 → W p l e R s m args below meth c H1 locs1 (cells + mc) (slots + ms) Q (F0 m (pc + 3) ls rest)) : W p l e R s m args below meth c H locs cells slots Q (F0 m pc ls st) := by
  have hF := hH.free F
  exact va_callv hr hH.2.2 (fun q _ h => hF q h) hF fun u t H1 locs1 ht hvm hp hB hz hk hS => kk u H1 locs1 hp hz ⟨by rw [ht] at hB; exact hB, tw_D_any hH.2.1, hS⟩
theorem tw_calln {a : Array Value} {M : Nat} {post : (Nat → Nat) × (Nat → va_E) → Prop} (F : tw_F p m c cc nL s args own G A) (hH : tw_H G N ad w A s H locs) (hr : va_Run p l e R s m args below meth c H locs cells slots mc ms (F0 m pc ls st) rest (tw_Qn G N M ad post H.size a) (tw_A N ad H.size))
    (kk : ∀ (ad1 : Nat → Nat) (w1 : Nat → va_E) (H1 : Heap) (locs1 : List Loc), post (ad1, w1) → (∀ k, k < N → ad1 k = ad k) → H.size ≤ H1.size → tw_H G (N + M) ad1 w1 A s H1 locs1 → W p l e R s m args below meth c H1 locs1 (cells + mc) (slots + ms) Q (F0 m (pc + 3) ls rest)) : W p l e R s m args below meth c H locs cells slots Q (F0 m pc ls st) := by
  have hF := hH.free F
  refine va_callv hr hH.2.2 (fun q _ h => hF q h) hF fun u t H1 locs1 ht hvm hp hB hz hk hS => ?_
  obtain ⟨b1, b2, b3⟩ := hB
  rw [ht] at b2
  exact kk u.1 u.2 H1 locs1 hp b1 hz ⟨b2, b3.weaken (fun _ q _ h => hF q.1 h), hS⟩
/-! returns -/
theorem tw_iret {post : Int32 → (Nat → va_E) → Prop} {sz : Nat} {v : Int32} {ty : FieldType} (F : tw_F p m c cc nL s args own G (tw_A N ad sz)) (hH : tw_H G N ad w (tw_A N ad sz) s H locs) (hret : meth.sig.returnType = some ty) (hlk : meth.locks = false) (hn : narrow ty (.int v) = .int v) (h1 : cells ≤ mc) (h2 : slots ≤ ms) (hdg : decode cc pc = .ok (.ireturn, 1)) (hp : post v w) :
    W p l e R s m args below meth c H locs cells slots (MQ below (tw_Qi G N ad post sz) args s mc ms (tw_A N ad sz)) (F0 m pc ls [.int v]) := by
  refine W.widen h1 h2 ?_
  exact W.zret F.1.1 F.1.2.1 hret hn (fun t ht hW => ⟨⟨v, w, rfl, hp, by subst ht; exact hH.1⟩, hH.2.2.F ht⟩) hH.2.2.2.2 hdg hlk
theorem tw_vret {post : (Nat → va_E) → Prop} {sz : Nat} (F : tw_F p m c cc nL s args own G (tw_A N ad sz)) (hH : tw_H G N ad w (tw_A N ad sz) s H locs) (hret : meth.sig.returnType = none) (hlk : meth.locks = false) (h1 : cells ≤ mc) (h2 : slots ≤ ms) (hdg : decode cc pc = .ok (.return_, 1)) (hp : post w) :
    W p l e R s m args below meth c H locs cells slots (MQ below (tw_Qv G N ad post sz) args s mc ms (tw_A N ad sz)) (F0 m pc ls []) := by
  refine W.widen h1 h2 ?_
  exact W.vret F.1.1 F.1.2.1 hret (fun t ht hW => ⟨⟨w, rfl, hp, by subst ht; exact hH.1⟩, hH.2.2.F ht⟩) hH.2.2.2.2 hdg hlk
theorem tw_nret {post : (Nat → Nat) × (Nat → va_E) → Prop} {sz M : Nat} {ad1 : Nat → Nat} (F : tw_F p m c cc nL s args own G (tw_A N ad sz)) (hH : tw_H G (N + M) ad1 w (tw_A N ad sz) s H locs) (ha : ∀ k, k < N → ad1 k = ad k) (hret : meth.sig.returnType = none) (hlk : meth.locks = false) (h1 : cells ≤ mc) (h2 : slots ≤ ms) (hdg : decode cc pc = .ok (.return_, 1)) (hp : post (ad1, w)) :
    W p l e R s m args below meth c H locs cells slots (MQ below (tw_Qn G N M ad post sz) args s mc ms (tw_A N ad sz)) (F0 m pc ls []) := by
  refine W.widen h1 h2 ?_
  exact W.vret F.1.1 F.1.2.1 hret (fun t ht hW => ⟨⟨(ad1, w), rfl, hp, ha, by subst ht; exact hH.1, hH.2.1⟩, hH.2.2.F ht⟩) hH.2.2.2.2 hdg hlk
/-! Object.<init>, Math.max, static tables -/
theorem tw_objInit (F : tw_F p m c cc nL s args own G A) (k1 : Cond.methodLink own idx Lib.objectInit ∈ lw_g) (k2 : Cond.instanceMethod Lib.objectInit ∈ lw_g) (k3 : Cond.code Lib.objectInit ⟨#[0xb1]⟩ 1 none ∈ lw_g) (hls : ls.size = nL) {a : Nat} (hR : 1 ≤ R.frames ∧ 20 ≤ R.locals) (hW : (rest.map fun v => v.category).sum ≤ 8) (hdg : decode cc pc = .ok (.invokespecial idx, 3))
    (kk : W p l e R s m args below meth c H locs cells slots Q (F0 m (pc + 3) ls rest)) : W p l e R s m args below meth c H locs cells slots Q (F0 m pc ls (.ref a :: rest)) := by
  obtain ⟨⟨hx, hb, hml, hown, hts⟩, hE, hA⟩ := F
  refine W.objInit hx hb hown (hts _ k1) (hts _ k2) (hts _ k3) rfl (by rw [hml]; exact hls) rfl hdg hR.1 ?_ kk
  have h := lv_room (pc := pc) (m := m) (ls := ls) (rest := Value.ref a :: rest) hW
  omega
theorem tw_gets (F : tw_F p m c cc nL s args own G A) (hH : tw_H G N ad w A s H locs) {k : Nat} (hk : k < 5) (k1 : Cond.fieldLink own idx RX11 (tw_zn k) "[I" ∈ lw_g) (hdg : decode cc pc = .ok (.getstatic idx, 3))
    (kk : W p l e R s m args below meth c H locs cells slots Q (F0 m (pc + 3) ls (.ref (G.2.2 k) :: rest))) : W p l e R s m args below meth c H locs cells slots Q (F0 m pc ls rest) := by
  obtain ⟨⟨hx, hb, hml, hown, hts⟩, hE, hA⟩ := F
  exact va_gets hx hb (hE.2.2.2.1 k hk).1 hH.2.2 hown (hts _ k1) (fun _ h => h) hdg kk
theorem tw_getsN (F : tw_F p m c cc nL s args own G A) (hH : tw_H G N ad w A s H locs) {k : Nat} (hk : k < 5) (k1 : (own, idx, RX11, tw_zn k, "[I", RX11) ∈ tw_nwF) (hdg : decode cc pc = .ok (.getstatic idx, 3))
    (kk : W p l e R s m args below meth c H locs cells slots Q (F0 m (pc + 3) ls (.ref (G.2.2 k) :: rest))) : W p l e R s m args below meth c H locs cells slots Q (F0 m pc ls rest) := by
  obtain ⟨⟨hx, hb, hml, hown, hts⟩, hE, hA⟩ := F
  exact va_getsN hx hb (hE.2.2.2.1 k hk).1 hH.2.2 hown (va_Nw.use rfl (hE.2.1.2.1 (own, idx, RX11, tw_zn k, "[I", RX11) k1)) (fun _ h => h) hdg kk
theorem tw_tald (F : tw_F p m c cc nL s args own G A) (hH : tw_H G N ad w A s H locs) {k j : Nat} {i v : Int32} (hk : k < 5) (hi : i.toInt = (j : Int)) (hj : j < tw_zl k) (hv : tw_zv k j = v) (hdg : decode cc pc = .ok (.iaload, 1))
    (kk : W p l e R s m args below meth c H locs cells slots Q (F0 m (pc + 1) ls (.int v :: rest))) : W p l e R s m args below meth c H locs cells slots Q (F0 m pc ls (.int i :: .ref (G.2.2 k) :: rest)) := by
  obtain ⟨⟨hx, hb, hml, hown, hts⟩, hE, hA⟩ := F
  obtain ⟨h1, h2⟩ := tw_ix hi hj
  exact va_ti hx hb (hE.2.2.2.1 k hk).2 hH.2.2 h1 (v := .int v) (by rw [h2, hv]) hdg kk
theorem tw_ldcS (F : tw_F p m c cc nL s args own G A) (i : Nat) (hi : i < 11) (ho : tw_so i = own) (hk : tw_sk i = idx) (hdg : decode cc pc = .ok (.ldc idx, 2))
    (kk : W p l e R s m args below meth c H locs cells slots Q (F0 m (pc + 2) ls (.ref (G.2.2 (100 + i)) :: rest))) : W p l e R s m args below meth c H locs cells slots Q (F0 m pc ls rest) := by
  subst ho; subst hk
  obtain ⟨⟨hx, hb, hml, hown, hts⟩, hE, hA⟩ := F
  exact va_ldcS hx hb hown (hE.2.2.2.2.1 i hi) hdg kk
theorem tw_ldcwS (F : tw_F p m c cc nL s args own G A) (i : Nat) (hi : i < 11) (ho : tw_so i = own) (hk : tw_sk i = idx) (hdg : decode cc pc = .ok (.ldc_w idx, 3))
    (kk : W p l e R s m args below meth c H locs cells slots Q (F0 m (pc + 3) ls (.ref (G.2.2 (100 + i)) :: rest))) : W p l e R s m args below meth c H locs cells slots Q (F0 m pc ls rest) := by
  subst ho; subst hk
  obtain ⟨⟨hx, hb, hml, hown, hts⟩, hE, hA⟩ := F
  have ha := hE.2.2.2.2.1 i hi
  intro T hT X
  obtain ⟨t, a1, b1⟩ := kk T hT X
  exact ⟨t, X.ldcStringW hx hown (text := tw_st i) (a := G.2.2 (100 + i)) ha.1 ha.2 (g := F0 m pc ls rest) rfl (by rw [hb]; exact hdg) t a1, b1⟩
theorem tw_cv {x v : Int32} (h : x = v) (k : W p l e R s m args below meth c H locs cells slots Q (F0 m pc ls (.int v :: rest))) : W p l e R s m args below meth c H locs cells slots Q (F0 m pc ls (.int x :: rest)) := by
  subst h; exact k
/-! branches, told in whole numbers -/
theorem tw_lt {x y : Int32} {a b : Int} (hx : x.toInt = a) (hy : y.toInt = b) : x < y ↔ a < b := by rw [Int32.lt_iff_toInt_lt, hx, hy]
theorem tw_le {x y : Int32} {a b : Int} (hx : x.toInt = a) (hy : y.toInt = b) : x ≤ y ↔ a ≤ b := by rw [Int32.le_iff_toInt_le, hx, hy]
theorem tw_eq {x y : Int32} {a b : Int} (hx : x.toInt = a) (hy : y.toInt = b) : x = y ↔ a = b := by rw [← Int32.toInt_inj, hx, hy]
theorem tw_ltL {x y : Int64} {a b : Int} (hx : x.toInt = a) (hy : y.toInt = b) : lg_cmp x y < 0 ↔ a < b := by
  have h := lg_cmp_ge x y
  rw [Int64.le_iff_toInt_le, hx, hy] at h
  have h2 : lg_cmp x y < 0 ↔ ¬ 0 ≤ lg_cmp x y := by
    rw [Int32.lt_iff_toInt_lt, Int32.le_iff_toInt_le]; omega
  rw [h2, h]; omega
theorem tw_gtL {x y : Int64} {a b : Int} (hx : x.toInt = a) (hy : y.toInt = b) : 0 < lg_cmp x y ↔ b < a := by
  unfold lg_cmp
  by_cases h1 : x > y
  · rw [if_pos h1]
    have h2 : b < a := by have h3 := Int64.lt_iff_toInt_lt.mp h1; rw [hx, hy] at h3; exact h3
    exact ⟨fun _ => h2, fun _ => by decide⟩
  · rw [if_neg h1]
    have h2 : ¬ b < a := fun h3 => h1 (Int64.lt_iff_toInt_lt.mpr (by rw [hx, hy]; exact h3))
    by_cases h4 : x = y
    · rw [if_pos h4]; exact ⟨fun h => absurd h (by decide), fun h => absurd h h2⟩
    · rw [if_neg h4]; exact ⟨fun h => absurd h (by decide), fun h => absurd h h2⟩
theorem tw_wide (x : Int32) : x.toInt64.toInt = x.toInt := Int32.toInt_toInt64 x
end TWC
