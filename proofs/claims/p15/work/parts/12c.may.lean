/-! a method that may throw: 2^32 stands for the throw -/
abbrev jm_p1 (Y : jm_Y) (G : tw_G) (ad : Nat → Nat) (rr : Int) (MM : jm_M) : Int32 → (Nat → va_E) → Prop := fun r w1 => rr ≠ 4294967296 ∧ jm_pi Y G ad rr MM r w1
abbrev jm_p2 (Y : jm_Y) (G : tw_G) (ad : Nat → Nat) (rr : Int) (MM : jm_M) : (Nat → va_E) → Prop := fun w1 => rr = 4294967296 ∧ w1 = jm_c Y G ad MM ∧ jm_RM MM
def jm_qx : jm_Q := fun Y X => ∃ sz : Nat, xA X = tw_A Y.1 (xad X) sz ∧ xQ X = vx_MQ (xbelow X) (tw_Qi (xG X) Y.1 (xad X) (jm_p1 Y (xG X) (xad X) (xrr X) (xMM X)) sz) (tw_X (xG X) Y.1 (xad X) (jm_p2 Y (xG X) (xad X) (xrr X) (xMM X)) sz) (xargs X) (xs X) 1 6 (tw_A Y.1 (xad X) sz) ∧ (xmeth X).sig.returnType = some .int ∧ (xmeth X).locks = false ∧ (∀ x ∈ (xc X).exceptionTable.toList, False) ∧ (xl X).stackTraces = false
def jm_Cx (Y : jm_Y) (y : MethodName) (b : ByteArray) (maxL : Nat) (ret : Option FieldType) (rm : Room) (M : jm_M) (As : tw_G → (Nat → Nat) → List Value) (x : jm_R) : Prop := ∀ (l : Launch) (G : tw_G) (ad : Nat → Nat) (sz : Nat) (rr : Int) (MM : jm_M), l.stackTraces = false → x = some (rr, MM) → jm_RM M → vx_Met l y (tw_ws y b maxL ret) rm (tw_Pre G Y.1 ad (jm_c Y G ad M) sz (As G ad)) (tw_Qi G Y.1 ad (jm_p1 Y G ad rr MM) sz) (tw_X G Y.1 ad (jm_p2 Y G ad rr MM) sz) 1 6 (tw_A Y.1 ad sz)
theorem jm_met_x {Y : jm_Y} {y : MethodName} {b : ByteArray} {maxL : Nat} {rm : Room} {M : jm_M} {As : tw_G → (Nat → Nat) → List Value} {x : jm_R} (lv : jm_X → List (Nat × Value)) (hy : plainName y.cls = true) (hn : ∀ (G : tw_G) (ad : Nat → Nat), (lg_sl (As G ad)).length ≤ maxL) (hlv : ∀ X : jm_X, lv X = lv_args 0 (As (xG X) (xad X))) (h : ∀ X : jm_X, jm_J Y jm_qx b maxL y.cls rm X M (lv X) [] 0 x) : jm_Cx Y y b maxL (some .int) rm M As x := by
  intro l G ad sz rr MM hst hx hM
  refine tw_metX hy (hn G ad) ?_
  intro p e s m args below meth c F hret hlk hex hargs hsz hH ls hl
  have e0 := hlv (p, l, e, s, m, args, below, meth, c, G, ad, tw_A Y.1 ad sz, vx_MQ below (tw_Qi G Y.1 ad (jm_p1 Y G ad rr MM) sz) (tw_X G Y.1 ad (jm_p2 Y G ad rr MM) sz) args s 1 6 (tw_A Y.1 ad sz), rr, MM)
  refine h (p, l, e, s, m, args, below, meth, c, G, ad, tw_A Y.1 ad sz, vx_MQ below (tw_Qi G Y.1 ad (jm_p1 Y G ad rr MM) sz) (tw_X G Y.1 ad (jm_p2 Y G ad rr MM) sz) args s 1 6 (tw_A Y.1 ad sz), rr, MM) F ⟨sz, rfl, rfl, hret, hlk, hex, hst⟩ hx hM s.heap [] ls hH ?_
  rw [e0]
  exact hl
section XX
variable {Y : jm_Y} {cc : ByteArray} {nL : Nat} {own : String} {rm : Room} {X : jm_X} {M : jm_M} {lv : List (Nat × Value)} {pc : Nat}
theorem j_ixret {a : Int} (ra : jm_in a) (hd : decode cc pc = .ok (.ireturn, 1)) : jm_J Y jm_qx cc nL own rm X M lv [jm_i a] pc (some (a, M)) := fun F hj hx hM H locs ls hH hl => by
  obtain ⟨p, l, e, s, m, args, below, meth, c, G, ad, A, Q, rr, MM⟩ := X
  dsimp only [xp, xl, xe, xs, xm, xargs, xbelow, xmeth, xc, xG, xad, xA, xQ, xrr, xMM, jm_qx] at hj F hx hH
  obtain ⟨sz, rfl, rfl, hret, hlk, hex, hst⟩ := hj
  obtain ⟨rfl, rfl⟩ := Prod.mk.inj (Option.some.inj hx)
  have hne : a ≠ 4294967296 := by have := ra.2; omega
  exact vx_ret (tw_iret F hH hret hlk rfl (Nat.zero_le _) (Nat.zero_le _) hd ⟨hne, rfl, rfl, hM, ra⟩)
theorem j_throw (h1 : decode cc pc = .ok (.new 224, 3)) (h2 : decode cc (pc + 3) = .ok (.dup, 1)) (h3 : decode cc (pc + 4) = .ok (.invokespecial 226, 3)) (h4 : decode cc (pc + 7) = .ok (.athrow, 1)) (hR : 5 < rm.frames ∧ 0 + 81 ≤ rm.locals ∧ 0 + 1 ≤ rm.cells ∧ 0 + 6 ≤ rm.slots := by decide) : jm_J Y jm_qx cc nL RX11 rm X M lv [] pc (some (4294967296, M)) := fun F hj hx hM H locs ls hH hl => by
  obtain ⟨p, l, e, s, m, args, below, meth, c, G, ad, A, Q, rr, MM⟩ := X
  dsimp only [xp, xl, xe, xs, xm, xargs, xbelow, xmeth, xc, xG, xad, xA, xQ, xrr, xMM, jm_qx] at hj F hx hH
  obtain ⟨sz, rfl, rfl, hret, hlk, hex, hst⟩ := hj
  obtain ⟨rfl, rfl⟩ := Prod.mk.inj (Option.some.inj hx)
  exact tw_throw0 F hH hst hl.1 hex hlk hR (Nat.le_refl _) (Nat.le_refl _) h1 h2 h3 h4 ⟨rfl, rfl, hM⟩
end XX
