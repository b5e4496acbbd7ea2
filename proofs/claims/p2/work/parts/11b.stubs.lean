/-! strings (to be proved) -/
def jm_sl (s : Int) : List Int := ([[108, 114, 112, 97, 102, 110, 111, 107, 119, 118, 121, 116, 104], [115, 107, 112, 108, 119, 99, 111, 102, 116], [108, 114, 112, 97, 102, 110, 111, 107, 119, 118, 121, 116, 104], [115, 107, 112, 108, 119, 99, 111, 102, 116], [33, 45], [48, 49, 50, 51, 52, 53, 54, 55, 56, 57], [43, 45], [60, 62, 61], [98, 43, 61, 45, 103, 104, 46], [48, 49, 50, 51], []] : List (List Int)).getD s.toNat []
def jm_sxl (c : Int) : List Int → Int → Int
  | [], _ => -1
  | b :: l, k => if b = c then k else jm_sxl c l (k + 1)
def jm_sx (s c : Int) : Int := jm_sxl c (jm_sl s) 0
def fS_indexOf (M : jm_M) (s c : Int) : jm_R := some (jm_sx s c, M)
abbrev rmS1_indexOf : Room := { frames := 8, cells := 0, slots := 0, locals := 400 }
abbrev rmS2_indexOf : Room := { frames := 8, cells := 0, slots := 0, locals := 400 }
theorem cS1_indexOf (M : jm_M) (s c : Int) (hs : 0 ≤ s ∧ s < 11) (hc : jm_in c) : jm_Ci wd1 yJ0_indexOf_0f7a4 cJ0_indexOf_0f7a4 2 (some .int) rmS1_indexOf M (fun G _ => [jm_sv G s, jm_i c]) (fS_indexOf M s c) := sorry
theorem cS2_indexOf (M : jm_M) (s c : Int) (hs : 0 ≤ s ∧ s < 11) (hc : jm_in c) : jm_Ci wd2 yJ0_indexOf_0f7a4 cJ0_indexOf_0f7a4 2 (some .int) rmS2_indexOf M (fun G _ => [jm_sv G s, jm_i c]) (fS_indexOf M s c) := sorry
theorem j_callTi1 {Y : jm_Y} {jq : jm_Q} {cc : ByteArray} {nL : Nat} {own : String} {rm : Room} {X : jm_X} {M : jm_M} {lv : List (Nat × Value)} {pc : Nat} {y : MethodName} {b : ByteArray} {maxL : Nat} {ret : Option FieldType} {rm2 : Room} {As : tw_G → (Nat → Nat) → List Value} {g : jm_R} {K : Int → jm_M → jm_R} {idx n : Nat} {rest : List Value} {v1 : Value} {i : Int} (hC : jm_Ci Y y b maxL ret rm2 M As g) (k1 : Cond.methodLink own idx y ∈ lw_g) (k2 : tw_kM y b maxL ret n) (k3 : tw_kV y) (hr0 : rm2.cells = 0) (hs0 : rm2.slots = 0) (hR : rm2.frames + 1 ≤ rm.frames ∧ 8 + (maxL + 11) + rm2.locals ≤ rm.locals) (hn : 1 = n) (hAs : As (xG X) (xad X) = [jm_vs X i, v1]) (hW : (rest.map fun v => v.category).sum ≤ 8) (hd : decode cc pc = .ok (.invokevirtual idx, 3)) (kk : ∀ (r : Int) (M1 : jm_M), jm_in r → jm_J Y jq cc nL own rm X M1 lv (jm_i r :: rest) (pc + 3) (K r M1)) : jm_J Y jq cc nL own rm X M lv (v1 :: jm_vs X i :: rest) pc (jm_b g K) := sorry
/-! throws (to be proved) -/
def jm_qx : jm_Q := fun Y X => True
def jm_Cx (Y : jm_Y) (y : MethodName) (b : ByteArray) (maxL : Nat) (ret : Option FieldType) (rm : Room) (M : jm_M) (As : tw_G → (Nat → Nat) → List Value) (x : jm_R) : Prop := True
theorem jm_met_x {Y : jm_Y} {y : MethodName} {b : ByteArray} {maxL : Nat} {ty : FieldType} {rm : Room} {M : jm_M} {As : tw_G → (Nat → Nat) → List Value} {x : jm_R} (lv : jm_X → List (Nat × Value)) (hy : plainName y.cls = true) (hn : ∀ (G : tw_G) (ad : Nat → Nat), (lg_sl (As G ad)).length ≤ maxL) (hlv : ∀ X : jm_X, lv X = lv_args 0 (As (xG X) (xad X))) (h : ∀ X : jm_X, jm_J Y jm_qx b maxL y.cls rm X M (lv X) [] 0 x) : jm_Cx Y y b maxL (some ty) rm M As x := trivial
section XX
variable {Y : jm_Y} {jq : jm_Q} {cc : ByteArray} {nL : Nat} {own : String} {rm : Room} {X : jm_X} {M : jm_M} {lv : List (Nat × Value)} {pc : Nat}
theorem j_ixret {a : Int} (ra : jm_in a) (hd : decode cc pc = .ok (.ireturn, 1)) : jm_J Y jm_qx cc nL own rm X M lv [jm_i a] pc (some (a, M)) := sorry
theorem j_throw {i1 i2 : Nat} (h1 : decode cc pc = .ok (.new i1, 3)) (h2 : decode cc (pc + 3) = .ok (.dup, 1)) (h3 : decode cc (pc + 4) = .ok (.invokespecial i2, 3)) (h4 : decode cc (pc + 7) = .ok (.athrow, 1)) : jm_J Y jm_qx cc nL own rm X M lv [] pc (some (4294967296, M)) := sorry
end XX
