/-! String.indexOf over the texts of the tables -/
theorem dJ0_indexOf_0f7a4_0 : decode cJ0_indexOf_0f7a4 0 = .ok (.aload_n 0, 1) := by decide +kernel
theorem dJ0_indexOf_0f7a4_1 : decode cJ0_indexOf_0f7a4 1 = .ok (.iload_n 1, 1) := by decide +kernel
theorem dJ0_indexOf_0f7a4_2 : decode cJ0_indexOf_0f7a4 2 = .ok (.iconst 0, 1) := by decide +kernel
theorem dJ0_indexOf_0f7a4_3 : decode cJ0_indexOf_0f7a4 3 = .ok (.invokevirtual 633, 3) := by decide +kernel
theorem dJ0_indexOf_0f7a4_6 : decode cJ0_indexOf_0f7a4 6 = .ok (.ireturn, 1) := by decide +kernel
theorem dJ0_indexOf_7cf53_0 : decode cJ0_indexOf_7cf53 0 = .ok (.aload_n 0, 1) := by decide +kernel
theorem dJ0_indexOf_7cf53_1 : decode cJ0_indexOf_7cf53 1 = .ok (.invokevirtual 492, 3) := by decide +kernel
theorem dJ0_indexOf_7cf53_4 : decode cJ0_indexOf_7cf53 4 = .ok (.ifCond .eq 19, 3) := by decide +kernel
theorem dJ0_indexOf_7cf53_7 : decode cJ0_indexOf_7cf53 7 = .ok (.aload_n 0, 1) := by decide +kernel
theorem dJ0_indexOf_7cf53_8 : decode cJ0_indexOf_7cf53 8 = .ok (.getfield 9, 3) := by decide +kernel
theorem dJ0_indexOf_7cf53_11 : decode cJ0_indexOf_7cf53 11 = .ok (.iload_n 1, 1) := by decide +kernel
theorem dJ0_indexOf_7cf53_12 : decode cJ0_indexOf_7cf53 12 = .ok (.iload_n 2, 1) := by decide +kernel
theorem dJ0_indexOf_7cf53_13 : decode cJ0_indexOf_7cf53 13 = .ok (.aload_n 0, 1) := by decide +kernel
theorem dJ0_indexOf_7cf53_14 : decode cJ0_indexOf_7cf53 14 = .ok (.invokevirtual 505, 3) := by decide +kernel
theorem dJ0_indexOf_7cf53_17 : decode cJ0_indexOf_7cf53 17 = .ok (.invokestatic 637, 3) := by decide +kernel
theorem dJ0_indexOf_7cf53_20 : decode cJ0_indexOf_7cf53 20 = .ok (.goto 16, 3) := by decide +kernel
theorem dJ0_indexOf_7cf53_36 : decode cJ0_indexOf_7cf53 36 = .ok (.ireturn, 1) := by decide +kernel
theorem dJ0_coder_7d493_0 : decode cJ0_coder_7d493 0 = .ok (.getstatic 38, 3) := by decide +kernel
theorem dJ0_coder_7d493_3 : decode cJ0_coder_7d493 3 = .ok (.ifCond .eq 10, 3) := by decide +kernel
theorem dJ0_coder_7d493_6 : decode cJ0_coder_7d493 6 = .ok (.aload_n 0, 1) := by decide +kernel
theorem dJ0_coder_7d493_7 : decode cJ0_coder_7d493 7 = .ok (.getfield 15, 3) := by decide +kernel
theorem dJ0_coder_7d493_10 : decode cJ0_coder_7d493 10 = .ok (.goto 4, 3) := by decide +kernel
theorem dJ0_coder_7d493_14 : decode cJ0_coder_7d493 14 = .ok (.ireturn, 1) := by decide +kernel
theorem dJ0_isLatin1_aae02_0 : decode cJ0_isLatin1_aae02 0 = .ok (.getstatic 38, 3) := by decide +kernel
theorem dJ0_isLatin1_aae02_3 : decode cJ0_isLatin1_aae02 3 = .ok (.ifCond .eq 14, 3) := by decide +kernel
theorem dJ0_isLatin1_aae02_6 : decode cJ0_isLatin1_aae02 6 = .ok (.aload_n 0, 1) := by decide +kernel
theorem dJ0_isLatin1_aae02_7 : decode cJ0_isLatin1_aae02 7 = .ok (.getfield 15, 3) := by decide +kernel
theorem dJ0_isLatin1_aae02_10 : decode cJ0_isLatin1_aae02 10 = .ok (.ifCond .ne 7, 3) := by decide +kernel
theorem dJ0_isLatin1_aae02_13 : decode cJ0_isLatin1_aae02 13 = .ok (.iconst 1, 1) := by decide +kernel
theorem dJ0_isLatin1_aae02_14 : decode cJ0_isLatin1_aae02 14 = .ok (.goto 4, 3) := by decide +kernel
theorem dJ0_isLatin1_aae02_18 : decode cJ0_isLatin1_aae02 18 = .ok (.ireturn, 1) := by decide +kernel
theorem dJ0_length_8abf5_0 : decode cJ0_length_8abf5 0 = .ok (.aload_n 0, 1) := by decide +kernel
theorem dJ0_length_8abf5_1 : decode cJ0_length_8abf5 1 = .ok (.getfield 9, 3) := by decide +kernel
theorem dJ0_length_8abf5_4 : decode cJ0_length_8abf5 4 = .ok (.arraylength, 1) := by decide +kernel
theorem dJ0_length_8abf5_5 : decode cJ0_length_8abf5 5 = .ok (.aload_n 0, 1) := by decide +kernel
theorem dJ0_length_8abf5_6 : decode cJ0_length_8abf5 6 = .ok (.invokevirtual 335, 3) := by decide +kernel
theorem dJ0_length_8abf5_9 : decode cJ0_length_8abf5 9 = .ok (.ishr, 1) := by decide +kernel
theorem dJ0_length_8abf5_10 : decode cJ0_length_8abf5 10 = .ok (.ireturn, 1) := by decide +kernel
theorem dJ1_canEncode_9a6ad_0 : decode cJ1_canEncode_9a6ad 0 = .ok (.iload_n 0, 1) := by decide +kernel
theorem dJ1_canEncode_9a6ad_1 : decode cJ1_canEncode_9a6ad 1 = .ok (.ifCond .lt 14, 3) := by decide +kernel
theorem dJ1_canEncode_9a6ad_4 : decode cJ1_canEncode_9a6ad 4 = .ok (.iload_n 0, 1) := by decide +kernel
theorem dJ1_canEncode_9a6ad_5 : decode cJ1_canEncode_9a6ad 5 = .ok (.sipush 255, 3) := by decide +kernel
theorem dJ1_canEncode_9a6ad_8 : decode cJ1_canEncode_9a6ad 8 = .ok (.if_icmp .gt 7, 3) := by decide +kernel
theorem dJ1_canEncode_9a6ad_11 : decode cJ1_canEncode_9a6ad 11 = .ok (.iconst 1, 1) := by decide +kernel
theorem dJ1_canEncode_9a6ad_12 : decode cJ1_canEncode_9a6ad 12 = .ok (.goto 4, 3) := by decide +kernel
theorem dJ1_canEncode_9a6ad_15 : decode cJ1_canEncode_9a6ad 15 = .ok (.iconst 0, 1) := by decide +kernel
theorem dJ1_canEncode_9a6ad_16 : decode cJ1_canEncode_9a6ad 16 = .ok (.ireturn, 1) := by decide +kernel
theorem dJ1_indexOf_4cfef_0 : decode cJ1_indexOf_4cfef 0 = .ok (.iload_n 1, 1) := by decide +kernel
theorem dJ1_indexOf_4cfef_1 : decode cJ1_indexOf_4cfef 1 = .ok (.invokestatic 88, 3) := by decide +kernel
theorem dJ1_indexOf_4cfef_4 : decode cJ1_indexOf_4cfef 4 = .ok (.ifCond .ne 5, 3) := by decide +kernel
theorem dJ1_indexOf_4cfef_7 : decode cJ1_indexOf_4cfef 7 = .ok (.iconst (-1), 1) := by decide +kernel
theorem dJ1_indexOf_4cfef_8 : decode cJ1_indexOf_4cfef 8 = .ok (.ireturn, 1) := by decide +kernel
theorem dJ1_indexOf_4cfef_9 : decode cJ1_indexOf_4cfef 9 = .ok (.iload_n 2, 1) := by decide +kernel
theorem dJ1_indexOf_4cfef_10 : decode cJ1_indexOf_4cfef 10 = .ok (.iconst 0, 1) := by decide +kernel
theorem dJ1_indexOf_4cfef_11 : decode cJ1_indexOf_4cfef 11 = .ok (.invokestatic 92, 3) := by decide +kernel
theorem dJ1_indexOf_4cfef_14 : decode cJ1_indexOf_4cfef 14 = .ok (.istore_n 2, 1) := by decide +kernel
theorem dJ1_indexOf_4cfef_15 : decode cJ1_indexOf_4cfef 15 = .ok (.iload_n 3, 1) := by decide +kernel
theorem dJ1_indexOf_4cfef_16 : decode cJ1_indexOf_4cfef 16 = .ok (.aload_n 0, 1) := by decide +kernel
theorem dJ1_indexOf_4cfef_17 : decode cJ1_indexOf_4cfef 17 = .ok (.arraylength, 1) := by decide +kernel
theorem dJ1_indexOf_4cfef_18 : decode cJ1_indexOf_4cfef 18 = .ok (.invokestatic 38, 3) := by decide +kernel
theorem dJ1_indexOf_4cfef_21 : decode cJ1_indexOf_4cfef 21 = .ok (.istore_n 3, 1) := by decide +kernel
theorem dJ1_indexOf_4cfef_22 : decode cJ1_indexOf_4cfef 22 = .ok (.iload_n 2, 1) := by decide +kernel
theorem dJ1_indexOf_4cfef_23 : decode cJ1_indexOf_4cfef 23 = .ok (.iload_n 3, 1) := by decide +kernel
theorem dJ1_indexOf_4cfef_24 : decode cJ1_indexOf_4cfef 24 = .ok (.if_icmp .lt 5, 3) := by decide +kernel
theorem dJ1_indexOf_4cfef_27 : decode cJ1_indexOf_4cfef 27 = .ok (.iconst (-1), 1) := by decide +kernel
theorem dJ1_indexOf_4cfef_28 : decode cJ1_indexOf_4cfef 28 = .ok (.ireturn, 1) := by decide +kernel
theorem dJ1_indexOf_4cfef_29 : decode cJ1_indexOf_4cfef 29 = .ok (.aload_n 0, 1) := by decide +kernel
theorem dJ1_indexOf_4cfef_30 : decode cJ1_indexOf_4cfef 30 = .ok (.iload_n 1, 1) := by decide +kernel
theorem dJ1_indexOf_4cfef_31 : decode cJ1_indexOf_4cfef 31 = .ok (.iload_n 2, 1) := by decide +kernel
theorem dJ1_indexOf_4cfef_32 : decode cJ1_indexOf_4cfef 32 = .ok (.iload_n 3, 1) := by decide +kernel
theorem dJ1_indexOf_4cfef_33 : decode cJ1_indexOf_4cfef 33 = .ok (.invokestatic 95, 3) := by decide +kernel
theorem dJ1_indexOf_4cfef_36 : decode cJ1_indexOf_4cfef 36 = .ok (.ireturn, 1) := by decide +kernel
theorem dJ1_indexOfChar_4cfef_0 : decode cJ1_indexOfChar_4cfef 0 = .ok (.iload_n 1, 1) := by decide +kernel
theorem dJ1_indexOfChar_4cfef_1 : decode cJ1_indexOfChar_4cfef 1 = .ok (.i2b, 1) := by decide +kernel
theorem dJ1_indexOfChar_4cfef_2 : decode cJ1_indexOfChar_4cfef 2 = .ok (.istore 4, 2) := by decide +kernel
theorem dJ1_indexOfChar_4cfef_4 : decode cJ1_indexOfChar_4cfef 4 = .ok (.iload_n 2, 1) := by decide +kernel
theorem dJ1_indexOfChar_4cfef_5 : decode cJ1_indexOfChar_4cfef 5 = .ok (.istore 5, 2) := by decide +kernel
theorem dJ1_indexOfChar_4cfef_7 : decode cJ1_indexOfChar_4cfef 7 = .ok (.iload 5, 2) := by decide +kernel
theorem dJ1_indexOfChar_4cfef_9 : decode cJ1_indexOfChar_4cfef 9 = .ok (.iload_n 3, 1) := by decide +kernel
theorem dJ1_indexOfChar_4cfef_10 : decode cJ1_indexOfChar_4cfef 10 = .ok (.if_icmp .ge 21, 3) := by decide +kernel
theorem dJ1_indexOfChar_4cfef_13 : decode cJ1_indexOfChar_4cfef 13 = .ok (.aload_n 0, 1) := by decide +kernel
theorem dJ1_indexOfChar_4cfef_14 : decode cJ1_indexOfChar_4cfef 14 = .ok (.iload 5, 2) := by decide +kernel
theorem dJ1_indexOfChar_4cfef_16 : decode cJ1_indexOfChar_4cfef 16 = .ok (.baload, 1) := by decide +kernel
theorem dJ1_indexOfChar_4cfef_17 : decode cJ1_indexOfChar_4cfef 17 = .ok (.iload 4, 2) := by decide +kernel
theorem dJ1_indexOfChar_4cfef_19 : decode cJ1_indexOfChar_4cfef 19 = .ok (.if_icmp .ne 6, 3) := by decide +kernel
theorem dJ1_indexOfChar_4cfef_22 : decode cJ1_indexOfChar_4cfef 22 = .ok (.iload 5, 2) := by decide +kernel
theorem dJ1_indexOfChar_4cfef_24 : decode cJ1_indexOfChar_4cfef 24 = .ok (.ireturn, 1) := by decide +kernel
theorem dJ1_indexOfChar_4cfef_25 : decode cJ1_indexOfChar_4cfef 25 = .ok (.iinc 5 1, 3) := by decide +kernel
theorem dJ1_indexOfChar_4cfef_28 : decode cJ1_indexOfChar_4cfef 28 = .ok (.goto (-21), 3) := by decide +kernel
theorem dJ1_indexOfChar_4cfef_31 : decode cJ1_indexOfChar_4cfef 31 = .ok (.iconst (-1), 1) := by decide +kernel
theorem dJ1_indexOfChar_4cfef_32 : decode cJ1_indexOfChar_4cfef 32 = .ok (.ireturn, 1) := by decide +kernel
theorem km_J0_coder_7d493 : tw_kM yJ0_coder_7d493 cJ0_coder_7d493 1 (some .byte) 0 := ⟨(tw_gl kw_15 rfl), (tw_gl kw_708 rfl), by decide, by decide, by decide +kernel⟩
theorem kv_J0_coder_7d493 : tw_kV yJ0_coder_7d493 := ⟨(tw_gl kw_706 rfl), tw_gl kw_707 rfl⟩
theorem km_J0_isLatin1_aae02 : tw_kM yJ0_isLatin1_aae02 cJ0_isLatin1_aae02 1 (some .boolean) 0 := ⟨(tw_gl kw_15 rfl), (tw_gl kw_698 rfl), by decide, by decide, by decide +kernel⟩
theorem kv_J0_isLatin1_aae02 : tw_kV yJ0_isLatin1_aae02 := ⟨(tw_gl kw_696 rfl), tw_gl kw_697 rfl⟩
theorem km_J0_length_8abf5 : tw_kM yJ0_length_8abf5 cJ0_length_8abf5 1 (some .int) 0 := ⟨(tw_gl kw_15 rfl), (tw_gl kw_704 rfl), by decide, by decide, by decide +kernel⟩
theorem kv_J0_length_8abf5 : tw_kV yJ0_length_8abf5 := ⟨(tw_gl kw_702 rfl), tw_gl kw_703 rfl⟩
theorem km_J0_indexOf_7cf53 : tw_kM yJ0_indexOf_7cf53 cJ0_indexOf_7cf53 3 (some .int) 2 := ⟨(tw_gl kw_15 rfl), (tw_gl kw_694 rfl), by decide, by decide, by decide +kernel⟩
theorem kv_J0_indexOf_7cf53 : tw_kV yJ0_indexOf_7cf53 := ⟨(tw_gl kw_692 rfl), tw_gl kw_693 rfl⟩
theorem km_J1_canEncode_9a6ad : tw_kM yJ1_canEncode_9a6ad cJ1_canEncode_9a6ad 1 (some .boolean) 1 := ⟨(tw_gl kw_16 rfl), (tw_gl kw_714 rfl), by decide, by decide, by decide +kernel⟩
theorem km_J1_indexOf_4cfef : tw_kM yJ1_indexOf_4cfef cJ1_indexOf_4cfef 4 (some .int) 4 := ⟨(tw_gl kw_16 rfl), (tw_gl kw_711 rfl), by decide, by decide, by decide +kernel⟩
theorem km_J1_indexOfChar_4cfef : tw_kM yJ1_indexOfChar_4cfef cJ1_indexOfChar_4cfef 6 (some .int) 4 := ⟨(tw_gl kw_16 rfl), (tw_gl kw_721 rfl), by decide, by decide, by decide +kernel⟩
/-- a text's signs, as whole numbers -/
def jm_sl (s : Int) : List Int := ([[108, 114, 112, 97, 102, 110, 111, 107, 119, 118, 121, 116, 104], [115, 107, 112, 108, 119, 99, 111, 102, 116], [108, 114, 112, 97, 102, 110, 111, 107, 119, 118, 121, 116, 104], [115, 107, 112, 108, 119, 99, 111, 102, 116], [33, 45], [48, 49, 50, 51, 52, 53, 54, 55, 56, 57], [43, 45], [60, 62, 61], [98, 43, 61, 45, 103, 104, 46], [48, 49, 50, 51], []] : List (List Int)).getD s.toNat []
def jm_sxl (c : Int) : List Int → Int → Int
  | [], _ => -1
  | b :: l, k => if b = c then k else jm_sxl c l (k + 1)
def jm_sx (s c : Int) : Int := jm_sxl c (jm_sl s) 0
def fS_indexOf (M : jm_M) (s c : Int) : jm_R := some (jm_sx s c, M)
theorem sx_all : ∀ i : Nat, i < 11 → (tw_sln.getD i 0 = (jm_sl (i : Int)).length ∧ (jm_sl (i : Int)).length ≤ 13 ∧ (Int32.ofNat (tw_sln.getD i 0)) >>> ((0 : Int32) &&& 31) = Int32.ofNat (tw_sln.getD i 0) ∧ ∀ j : Nat, j < (jm_sl (i : Int)).length → (0 ≤ (jm_sl (i : Int)).getD j 0 ∧ (jm_sl (i : Int)).getD j 0 ≤ 127 ∧ (tw_sby.getD i []).getD j 0 = Int32.ofInt ((jm_sl (i : Int)).getD j 0))) := by decide +kernel
theorem sx_out {z : Int} (hz : z < 0 ∨ 127 < z) : ∀ (l : List Int) (k : Int), (∀ b ∈ l, 0 ≤ b ∧ b ≤ 127) → jm_sxl z l k = -1 := by
  intro l
  induction l with
  | nil => intro k _; rfl
  | cons b l ih =>
    intro k h
    have h1 := h b List.mem_cons_self
    unfold jm_sxl
    rw [if_neg (by omega)]
    exact ih (k + 1) (fun x hx => h x (List.mem_cons_of_mem _ hx))
theorem sx_mem {i : Nat} (hi : i < 11) : ∀ b ∈ jm_sl (i : Int), 0 ≤ b ∧ b ≤ 127 := by
  intro b hb
  obtain ⟨j, hj, e⟩ := List.getElem_of_mem hb
  have h := (sx_all i hi).2.2.2 j hj
  rw [List.getD_eq_getElem?_getD, List.getElem?_eq_getElem hj] at h
  rw [← e]
  exact ⟨h.1, h.2.1⟩
theorem sx_lt {z : Int} : ∀ (l : List Int) (k : Int), 0 ≤ k → -1 ≤ jm_sxl z l k ∧ jm_sxl z l k ≤ k + l.length := by
  intro l
  induction l with
  | nil => intro k hk; exact ⟨Int.le_refl _, by show (-1 : Int) ≤ k + 0; omega⟩
  | cons b l ih =>
    intro k hk
    unfold jm_sxl
    split
    · simp only [List.length_cons]; omega
    · have := ih (k + 1) (by omega)
      simp only [List.length_cons]
      omega
theorem sx_in {i : Nat} (hi : i < 11) (z : Int) : jm_in (jm_sx (i : Int) z) := by
  have h := sx_lt (z := z) (jm_sl (i : Int)) 0 (by omega)
  have h2 := (sx_all i hi).2.1
  unfold jm_sx
  exact jm_inL (by omega) (by omega)
theorem sx_byte {x : Int32} {b : Int} (hx : 0 ≤ x.toInt ∧ x.toInt ≤ 255) (hb : 0 ≤ b ∧ b ≤ 127) : Int32.ofInt b = x.toInt8.toInt32 ↔ b = x.toInt := by
  have e1 : (x.toInt8.toInt32).toInt = x.toInt.bmod 256 := by
    rw [Int8.toInt_toInt32, Int32.toInt_toInt8]
  rw [← Int32.toInt_inj, e1, jm_ti (jm_inL (by omega) (by omega)), Int.bmod_def]
  constructor
  · intro h
    split at h <;> omega
  · intro h
    split <;> omega
section STR
variable {p : Program} {l : Launch} {e : Env} {R : Room} {s : State} {m : MethodId} {args : Array Value} {below : List Frame} {meth : Method} {c : Code} {H : Heap} {locs : List Loc} {cells slots : Nat} {Q : State → Prop}
variable {cc : ByteArray} {nL pc : Nat} {ls : Array Slot} {rest st : List Value} {own : String} {G : tw_G} {A : Nat → Prop} {N : Nat} {ad : Nat → Nat} {w : Nat → va_E}
variable {y : MethodName} {b : ByteArray} {maxL : Nat} {ret : Option FieldType} {rm : Room} {Qc : Array Value → State → Outcome → State → Prop} {mc ms idx n : Nat} {As : List Value}
theorem tw_strs (F : tw_F p m c cc nL s args own G A) : tw_ST (fun i => G.2.2 (100 + i)) (fun i => G.2.2 (200 + i)) A s s.heap := F.2.1.2.2.2.2.2.2.2.2
theorem tw_gcoder (F : tw_F p m c cc nL s args own G A) (hH : tw_H G N ad w A s H locs) {i : Nat} (hi : i < 11) (k1 : Cond.fieldLink own idx "java/lang/String" "coder" "B" ∈ lw_g) (hdg : decode cc pc = .ok (.getfield idx, 3)) (kk : W p l e R s m args below meth c H locs cells slots Q (F0 m (pc + 3) ls (.int (0 : Int32) :: rest))) : W p l e R s m args below meth c H locs cells slots Q (F0 m pc ls (.ref (G.2.2 (100 + i)) :: rest)) := by
  have S := tw_strs F
  obtain ⟨⟨hx, hb, hml, hown, hts⟩, hE, hA⟩ := F
  exact va_getX hx hb (v := fun _ => .int 0) (ad := fun i => G.2.2 (100 + i)) (i := i) (N := 11) (fun j hj => (S j hj).2.1) hi hH.2.2 hown (hts _ k1) (fun _ h => h) hdg kk
theorem tw_gvalue (F : tw_F p m c cc nL s args own G A) (hH : tw_H G N ad w A s H locs) {i : Nat} (hi : i < 11) (k1 : Cond.fieldLink own idx "java/lang/String" "value" "[B" ∈ lw_g) (hdg : decode cc pc = .ok (.getfield idx, 3)) (kk : W p l e R s m args below meth c H locs cells slots Q (F0 m (pc + 3) ls (.ref (G.2.2 (200 + i)) :: rest))) : W p l e R s m args below meth c H locs cells slots Q (F0 m pc ls (.ref (G.2.2 (100 + i)) :: rest)) := by
  have S := tw_strs F
  obtain ⟨⟨hx, hb, hml, hown, hts⟩, hE, hA⟩ := F
  exact va_getX hx hb (v := fun i => .ref (G.2.2 (200 + i))) (ad := fun i => G.2.2 (100 + i)) (i := i) (N := 11) (fun j hj => (S j hj).2.2.1) hi hH.2.2 hown (hts _ k1) (fun _ h => h) hdg kk
theorem tw_gcompact (F : tw_F p m c cc nL s args own G A) (hH : tw_H G N ad w A s H locs) (k1 : Cond.fieldLink own idx "java/lang/String" "COMPACT_STRINGS" "Z" ∈ lw_g) (hdg : decode cc pc = .ok (.getstatic idx, 3)) (kk : W p l e R s m args below meth c H locs cells slots Q (F0 m (pc + 3) ls (.int (1 : Int32) :: rest))) : W p l e R s m args below meth c H locs cells slots Q (F0 m pc ls rest) := by
  obtain ⟨⟨hx, hb, hml, hown, hts⟩, hE, hA⟩ := F
  exact va_gets hx hb hE.2.2.2.2.2.2.2.1 hH.2.2 hown (hts _ k1) (fun _ h => h) hdg kk
theorem tw_slen (F : tw_F p m c cc nL s args own G A) (hH : tw_H G N ad w A s H locs) {i : Nat} (hi : i < 11) (hdg : decode cc pc = .ok (.arraylength, 1)) (kk : W p l e R s m args below meth c H locs cells slots Q (F0 m (pc + 1) ls (.int (Int32.ofNat (tw_sln.getD i 0)) :: rest))) : W p l e R s m args below meth c H locs cells slots Q (F0 m pc ls (.ref (G.2.2 (200 + i)) :: rest)) := by
  have S := tw_strs F
  obtain ⟨⟨hx, hb, hml, hown, hts⟩, hE, hA⟩ := F
  exact va_tlen hx hb (S i hi).2.2.2 hH.2.2 rfl hdg kk
theorem tw_sbald (F : tw_F p m c cc nL s args own G A) (hH : tw_H G N ad w A s H locs) {i j : Nat} {x : Int32} (hi : i < 11) (hx1 : x.toInt = (j : Int)) (hj : j < tw_sln.getD i 0) (hdg : decode cc pc = .ok (.baload, 1)) (kk : W p l e R s m args below meth c H locs cells slots Q (F0 m (pc + 1) ls (.int ((tw_sby.getD i []).getD j 0) :: rest))) : W p l e R s m args below meth c H locs cells slots Q (F0 m pc ls (.int x :: .ref (G.2.2 (200 + i)) :: rest)) := by
  have S := tw_strs F
  obtain ⟨⟨hx, hb, hml, hown, hts⟩, hE, hA⟩ := F
  obtain ⟨h1, h2⟩ := tw_ix hx1 hj
  exact va_tb hx hb (S i hi).2.2.2 hH.2.2 h1 (v := .int ((tw_sby.getD i []).getD j 0)) (by rw [h2]) hdg kk
/-- a call of a text's own method -/
theorem tw_runT (F : tw_F p m c cc nL s args own G A) (hH : tw_H G N ad w A s H locs) {i : Nat} (hi : i < 11) (hM : Met l y (tw_ws y b maxL ret) rm (tw_Pre G N ad w H.size (.ref (G.2.2 (100 + i)) :: As)) Qc mc ms (tw_A N ad H.size)) (k1 : Cond.methodLink own idx y ∈ lw_g) (k2 : tw_kM y b maxL ret n) (k3 : tw_kV y) (hy : y.cls = "java/lang/String") (hrc : rm.cells = mc) (hrs : rm.slots = ms) (hR : rm.frames + 1 ≤ R.frames ∧ 8 + (maxL + 11) + rm.locals ≤ R.locals) (hn : As.length = n) (hls : ls.size = nL) (hst : st = As.reverse ++ .ref (G.2.2 (100 + i)) :: rest) (hW : (rest.map fun v => v.category).sum ≤ 8) (hdg : decode cc pc = .ok (.invokevirtual idx, 3)) (hf : cells + mc ≤ R.cells ∧ slots + ms ≤ R.slots) :
    va_Run p l e R s m args below meth c H locs cells slots mc ms (F0 m pc ls st) rest (Qc (Value.ref (G.2.2 (100 + i)) :: As).toArray) (tw_A N ad H.size) := by
  subst hst
  have S := tw_strs F
  have hts := F.1.2.2.2.2
  have hg : GoodIn lw_g (wsV own idx y.cls y (tw_ws y b maxL ret)) := tw_goodIn [.methodLink own idx y, .instanceMethod y, .selects y.cls y y, .initialized y.cls] rfl (fun x hx => by simp at hx; rcases hx with rfl | rfl | rfl | rfl; exact k1; exact k3.1; exact k3.2; exact k2.1) k2.2.1 (fun _ h => h)
  refine va_runV (cc := cc) (nL := nL) (own := own) (C := y.cls) (bytes := b) (maxL := maxL) (ret := ret) (b := G.2.2 (100 + i)) (As := As) F.1 hM (cwV n hts hg rfl hrc hrs ⟨rfl, k2.2.2⟩ hR) ⟨tw_pre_blind, ?_, tw_pre_at F hH⟩ rfl hn hls rfl (lv_room hW) hdg hf
  obtain ⟨cell, h1, h2, h3, -⟩ := ((S i hi).1).kept hH.2.2.2.1
  exact ⟨cell, h1, h2, by rw [hy]; exact h3⟩
end STR
abbrev rmT0 : Room := { frames := 0, cells := 0, slots := 0, locals := 0 }
abbrev rmT1 : Room := { frames := 1, cells := 0, slots := 0, locals := 40 }
abbrev rmT2 : Room := { frames := 2, cells := 0, slots := 0, locals := 80 }
abbrev rmT3 : Room := { frames := 3, cells := 0, slots := 0, locals := 120 }
abbrev rmT4 : Room := { frames := 4, cells := 0, slots := 0, locals := 160 }
set_option maxHeartbeats 4000000 in
set_option maxRecDepth 100000 in
theorem c_J0_coder (l : Launch) (G : tw_G) (N : Nat) (ad : Nat → Nat) (w : Nat → va_E) (sz i : Nat) (hi : i < 11) : Met l yJ0_coder_7d493 (tw_ws yJ0_coder_7d493 cJ0_coder_7d493 1 (some .byte)) rmT0 (tw_Pre G N ad w sz [.ref (G.2.2 (100 + i))]) (tw_Qi G N ad (fun r w1 => r = 0 ∧ w = w1) sz) 0 0 (tw_A N ad sz) := by
  refine tw_met (by decide) (Nat.le_of_ble_eq_true rfl) ?_
  intro p e s m args below meth c F hret hlk hin hargs hsz hH ls hl
  have hx := F.1.1
  have hb := F.1.2.1
  have hl : lv_has ls 1 [(0, .ref (G.2.2 (100 + i)))] := hl
  generalize hH0 : s.heap = H at hH ⊢
  refine tw_gcompact F hH (tw_gl kw_699 rfl) dJ0_coder_7d493_0 ?_
  refine lv_if_eq (tgt := 13) hx hb dJ0_coder_7d493_3 (by decide) (fun h => absurd h (by decide)) (fun _ => ?_)
  refine lv_aload_n hx hb dJ0_coder_7d493_6 rfl (lv_at hl 0 rfl) ?_
  refine tw_gcoder F hH hi (tw_gl kw_2104 rfl) dJ0_coder_7d493_7 ?_
  refine lv_goto (tgt := 14) hx hb dJ0_coder_7d493_10 (by decide) ?_
  exact tw_iret F hH hret hlk rfl (Nat.le_refl _) (Nat.le_refl _) dJ0_coder_7d493_14 ⟨rfl, rfl⟩
set_option maxHeartbeats 4000000 in
set_option maxRecDepth 100000 in
theorem c_J0_isLatin1 (l : Launch) (G : tw_G) (N : Nat) (ad : Nat → Nat) (w : Nat → va_E) (sz i : Nat) (hi : i < 11) : Met l yJ0_isLatin1_aae02 (tw_ws yJ0_isLatin1_aae02 cJ0_isLatin1_aae02 1 (some .boolean)) rmT0 (tw_Pre G N ad w sz [.ref (G.2.2 (100 + i))]) (tw_Qi G N ad (fun r w1 => r = 1 ∧ w = w1) sz) 0 0 (tw_A N ad sz) := by
  refine tw_met (by decide) (Nat.le_of_ble_eq_true rfl) ?_
  intro p e s m args below meth c F hret hlk hin hargs hsz hH ls hl
  have hx := F.1.1
  have hb := F.1.2.1
  have hl : lv_has ls 1 [(0, .ref (G.2.2 (100 + i)))] := hl
  generalize hH0 : s.heap = H at hH ⊢
  refine tw_gcompact F hH (tw_gl kw_699 rfl) dJ0_isLatin1_aae02_0 ?_
  refine lv_if_eq (tgt := 17) hx hb dJ0_isLatin1_aae02_3 (by decide) (fun h => absurd h (by decide)) (fun _ => ?_)
  refine lv_aload_n hx hb dJ0_isLatin1_aae02_6 rfl (lv_at hl 0 rfl) ?_
  refine tw_gcoder F hH hi (tw_gl kw_2104 rfl) dJ0_isLatin1_aae02_7 ?_
  refine lv_if_ne (tgt := 17) hx hb dJ0_isLatin1_aae02_10 (by decide) (fun h => absurd rfl h) (fun _ => ?_)
  refine lv_iconst (v := 1) hx hb dJ0_isLatin1_aae02_13 (by decide) ?_
  refine lv_goto (tgt := 18) hx hb dJ0_isLatin1_aae02_14 (by decide) ?_
  exact tw_iret F hH hret hlk rfl (Nat.le_refl _) (Nat.le_refl _) dJ0_isLatin1_aae02_18 ⟨rfl, rfl⟩
set_option maxHeartbeats 4000000 in
set_option maxRecDepth 100000 in
theorem c_J0_length (l : Launch) (G : tw_G) (N : Nat) (ad : Nat → Nat) (w : Nat → va_E) (sz i : Nat) (hi : i < 11) : Met l yJ0_length_8abf5 (tw_ws yJ0_length_8abf5 cJ0_length_8abf5 1 (some .int)) rmT1 (tw_Pre G N ad w sz [.ref (G.2.2 (100 + i))]) (tw_Qi G N ad (fun r w1 => r = Int32.ofNat (tw_sln.getD i 0) ∧ w = w1) sz) 0 0 (tw_A N ad sz) := by
  refine tw_met (by decide) (Nat.le_of_ble_eq_true rfl) ?_
  intro p e s m args below meth c F hret hlk hin hargs hsz hH ls hl
  have hx := F.1.1
  have hb := F.1.2.1
  have hl : lv_has ls 1 [(0, .ref (G.2.2 (100 + i)))] := hl
  generalize hH0 : s.heap = H at hH ⊢
  refine lv_aload_n hx hb dJ0_length_8abf5_0 rfl (lv_at hl 0 rfl) ?_
  refine tw_gvalue F hH hi (tw_gl kw_2105 rfl) dJ0_length_8abf5_1 ?_
  refine tw_slen F hH hi dJ0_length_8abf5_4 ?_
  refine lv_aload_n hx hb dJ0_length_8abf5_5 rfl (lv_at hl 0 rfl) ?_
  refine tw_calli F hH (tw_runT (i := i) (As := []) (rest := [.int (Int32.ofNat (tw_sln.getD i 0))]) F hH hi (c_J0_coder l G N ad w H.size i hi) (tw_gl kw_705 rfl) km_J0_coder_7d493 kv_J0_coder_7d493 rfl rfl rfl ⟨(Nat.le_of_ble_eq_true rfl), (Nat.le_of_ble_eq_true rfl)⟩ rfl hl.1 rfl (Nat.le_of_ble_eq_true rfl) dJ0_length_8abf5_6 ⟨Nat.zero_le _, Nat.zero_le _⟩) (fun r w1 H locs hp _ hH => ?_)
  obtain ⟨rfl, rfl⟩ := hp
  refine lv_ishr hx hb dJ0_length_8abf5_9 ?_
  refine tw_cv (v := Int32.ofNat (tw_sln.getD i 0)) (sx_all i hi).2.2.1 ?_
  exact tw_iret F hH hret hlk rfl (Nat.le_refl _) (Nat.le_refl _) dJ0_length_8abf5_10 ⟨rfl, rfl⟩
set_option maxHeartbeats 4000000 in
set_option maxRecDepth 100000 in
theorem c_J1_canEncode (l : Launch) (G : tw_G) (N : Nat) (ad : Nat → Nat) (w : Nat → va_E) (sz : Nat) (x : Int32) : Met l yJ1_canEncode_9a6ad (tw_ws yJ1_canEncode_9a6ad cJ1_canEncode_9a6ad 1 (some .boolean)) rmT0 (tw_Pre G N ad w sz [.int x]) (tw_Qi G N ad (fun r w1 => (((0 ≤ x.toInt ∧ x.toInt ≤ 255) ∧ r = 1) ∨ (¬ (0 ≤ x.toInt ∧ x.toInt ≤ 255) ∧ r = 0)) ∧ w = w1) sz) 0 0 (tw_A N ad sz) := by
  refine tw_met (by decide) (Nat.le_of_ble_eq_true rfl) ?_
  intro p e s m args below meth c F hret hlk hin hargs hsz hH ls hl
  have hx := F.1.1
  have hb := F.1.2.1
  have hl : lv_has ls 1 [(0, .int x)] := hl
  generalize hH0 : s.heap = H at hH ⊢
  refine lv_iload_n hx hb dJ1_canEncode_9a6ad_0 rfl (lv_at hl 0 rfl) ?_
  have hz : x < 0 ↔ x.toInt < 0 := tw_lt rfl (by decide)
  have hy : 255 < x ↔ 255 < x.toInt := tw_lt (by decide) rfl
  refine lv_if_lt (tgt := 15) hx hb dJ1_canEncode_9a6ad_1 (by decide) (fun h => ?_) (fun h => ?_)
  · refine lv_iconst (v := 0) hx hb dJ1_canEncode_9a6ad_15 (by decide) ?_
    have := hz.mp h
    exact tw_iret F hH hret hlk rfl (Nat.le_refl _) (Nat.le_refl _) dJ1_canEncode_9a6ad_16 ⟨Or.inr ⟨by omega, rfl⟩, rfl⟩
  · refine lv_iload_n hx hb dJ1_canEncode_9a6ad_4 rfl (lv_at hl 0 rfl) ?_
    refine lv_sipush (v := 255) hx hb dJ1_canEncode_9a6ad_5 (by decide) ?_
    have h3 : ¬ x.toInt < 0 := fun q => h (hz.mpr q)
    refine lv_icmp_gt (tgt := 15) hx hb dJ1_canEncode_9a6ad_8 (by decide) (fun h2 => ?_) (fun h2 => ?_)
    · refine lv_iconst (v := 0) hx hb dJ1_canEncode_9a6ad_15 (by decide) ?_
      have := hy.mp h2
      exact tw_iret F hH hret hlk rfl (Nat.le_refl _) (Nat.le_refl _) dJ1_canEncode_9a6ad_16 ⟨Or.inr ⟨by omega, rfl⟩, rfl⟩
    · refine lv_iconst (v := 1) hx hb dJ1_canEncode_9a6ad_11 (by decide) ?_
      refine lv_goto (tgt := 16) hx hb dJ1_canEncode_9a6ad_12 (by decide) ?_
      have h4 : ¬ 255 < x.toInt := fun q => h2 (hy.mpr q)
      exact tw_iret F hH hret hlk rfl (Nat.le_refl _) (Nat.le_refl _) dJ1_canEncode_9a6ad_16 ⟨Or.inl ⟨by omega, rfl⟩, rfl⟩
set_option maxHeartbeats 4000000 in
set_option maxRecDepth 100000 in
theorem c_J1_indexOfChar (l : Launch) (G : tw_G) (N : Nat) (ad : Nat → Nat) (w : Nat → va_E) (sz i : Nat) (hi : i < 11) (x : Int32) (hx255 : 0 ≤ x.toInt ∧ x.toInt ≤ 255) : Met l yJ1_indexOfChar_4cfef (tw_ws yJ1_indexOfChar_4cfef cJ1_indexOfChar_4cfef 6 (some .int)) rmT0 (tw_Pre G N ad w sz [.ref (G.2.2 (200 + i)), .int x, .int (0 : Int32), .int (Int32.ofNat (tw_sln.getD i 0))]) (tw_Qi G N ad (fun r w1 => r = Int32.ofInt (jm_sx (i : Int) x.toInt) ∧ w = w1) sz) 0 0 (tw_A N ad sz) := by
  refine tw_met (by decide) (Nat.le_of_ble_eq_true rfl) ?_
  intro p e s m args below meth c F hret hlk hin hargs hsz hH ls hl
  have hx := F.1.1
  have hb := F.1.2.1
  obtain ⟨e1, e2, -, e4⟩ := sx_all i hi
  have hl : lv_has ls 6 [(0, .ref (G.2.2 (200 + i))), (1, .int x), (2, .int (0 : Int32)), (3, .int (Int32.ofNat (tw_sln.getD i 0)))] := hl
  generalize hH0 : s.heap = H at hH ⊢
  refine lv_iload_n hx hb dJ1_indexOfChar_4cfef_0 rfl (lv_at hl 1 rfl) ?_
  refine lv_i2b (v := x.toInt8.toInt32) hx hb dJ1_indexOfChar_4cfef_1 rfl ?_
  refine lv_istore (lv' := [(4, .int x.toInt8.toInt32), (0, .ref (G.2.2 (200 + i))), (1, .int x), (2, .int (0 : Int32)), (3, .int (Int32.ofNat (tw_sln.getD i 0)))]) hx hb dJ1_indexOfChar_4cfef_2 hl (by decide) rfl (fun ls hl => ?_)
  refine lv_iload_n hx hb dJ1_indexOfChar_4cfef_4 rfl (lv_at hl 3 rfl) ?_
  refine lv_istore (lv' := [(5, .int (0 : Int32)), (4, .int x.toInt8.toInt32), (0, .ref (G.2.2 (200 + i))), (1, .int x), (2, .int (0 : Int32)), (3, .int (Int32.ofNat (tw_sln.getD i 0)))]) hx hb dJ1_indexOfChar_4cfef_5 hl (by decide) rfl (fun ls hl => ?_)
  have hl : lv_has ls 6 [(5, .int (Int32.ofNat 0)), (4, .int x.toInt8.toInt32), (0, .ref (G.2.2 (200 + i))), (1, .int x), (2, .int (0 : Int32)), (3, .int (Int32.ofNat (tw_sln.getD i 0)))] := hl
  have main : ∀ (n k : Nat) (ls : Array Slot), k + n = (jm_sl (i : Int)).length → lv_has ls 6 [(5, .int (Int32.ofNat k)), (4, .int x.toInt8.toInt32), (0, .ref (G.2.2 (200 + i))), (1, .int x), (2, .int (0 : Int32)), (3, .int (Int32.ofNat (tw_sln.getD i 0)))] → jm_sxl x.toInt ((jm_sl (i : Int)).drop k) (k : Int) = jm_sx (i : Int) x.toInt → W p l e rmT0 s m args below meth c H [] 0 0 (MQ below (tw_Qi G N ad (fun r w1 => r = Int32.ofInt (jm_sx (i : Int) x.toInt) ∧ w = w1) sz) args s 0 0 (tw_A N ad sz)) (F0 m 7 ls []) := by
    intro n
    induction n with
    | zero =>
      intro k ls hk hl hr
      refine lv_iload hx hb dJ1_indexOfChar_4cfef_7 (lv_at hl 0 rfl) ?_
      refine lv_iload_n hx hb dJ1_indexOfChar_4cfef_9 rfl (lv_at hl 5 rfl) ?_
      have ek : k = tw_sln.getD i 0 := by omega
      refine lv_icmp_ge (tgt := 31) hx hb dJ1_indexOfChar_4cfef_10 (by decide) (fun _ => ?_) (fun h => absurd (by rw [ek]; exact Int32.le_refl _) h)
      refine lv_iconst (v := -1) hx hb dJ1_indexOfChar_4cfef_31 (by decide) ?_
      rw [List.drop_eq_nil_of_le (by omega)] at hr
      exact tw_iret F hH hret hlk rfl (Nat.le_refl _) (Nat.le_refl _) dJ1_indexOfChar_4cfef_32 ⟨by rw [← hr]; rfl, rfl⟩
    | succ n ih =>
      intro k ls hk hl hr
      have hk2 : k < (jm_sl (i : Int)).length := by omega
      obtain ⟨b1, b2, b3⟩ := e4 k hk2
      have tk : (Int32.ofNat k).toInt = (k : Int) := nI_toInt (by omega)
      have tn : (Int32.ofNat (tw_sln.getD i 0)).toInt = ((tw_sln.getD i 0 : Nat) : Int) := nI_toInt (by omega)
      refine lv_iload hx hb dJ1_indexOfChar_4cfef_7 (lv_at hl 0 rfl) ?_
      refine lv_iload_n hx hb dJ1_indexOfChar_4cfef_9 rfl (lv_at hl 5 rfl) ?_
      refine lv_icmp_ge (tgt := 31) hx hb dJ1_indexOfChar_4cfef_10 (by decide) (fun h => ?_) (fun _ => ?_)
      · have := (tw_le tn tk).mp h
        omega
      · refine lv_aload_n hx hb dJ1_indexOfChar_4cfef_13 rfl (lv_at hl 2 rfl) ?_
        refine lv_iload hx hb dJ1_indexOfChar_4cfef_14 (lv_at hl 0 rfl) ?_
        refine tw_sbald (i := i) (j := k) F hH hi tk (by omega) dJ1_indexOfChar_4cfef_16 ?_
        refine lv_iload hx hb dJ1_indexOfChar_4cfef_17 (lv_at hl 1 rfl) ?_
        rw [b3]
        have hq := sx_byte hx255 ⟨b1, b2⟩
        have hdrop : (jm_sl (i : Int)).drop k = (jm_sl (i : Int)).getD k 0 :: (jm_sl (i : Int)).drop (k + 1) := by
          rw [List.getD_eq_getElem?_getD, List.getElem?_eq_getElem hk2]
          exact List.drop_eq_getElem_cons hk2
        rw [hdrop] at hr
        unfold jm_sxl at hr
        refine lv_icmp_ne (tgt := 25) hx hb dJ1_indexOfChar_4cfef_19 (by decide) (fun h => ?_) (fun h => ?_)
        · rw [if_neg (fun q => h (hq.mpr q))] at hr
          refine lv_iinc (v := Int32.ofNat (k + 1)) (lv' := [(5, .int (Int32.ofNat (k + 1))), (4, .int x.toInt8.toInt32), (0, .ref (G.2.2 (200 + i))), (1, .int x), (2, .int (0 : Int32)), (3, .int (Int32.ofNat (tw_sln.getD i 0)))]) hx hb dJ1_indexOfChar_4cfef_25 hl (k := 0) rfl (by rw [Int32.ofNat_add]; rfl) (by decide) rfl (fun ls hl => ?_)
          refine lv_goto (tgt := 7) hx hb dJ1_indexOfChar_4cfef_28 (by decide) ?_
          exact ih (k + 1) ls (by omega) hl (by rw [← hr]; rfl)
        · rw [if_pos (hq.mp h)] at hr
          refine lv_iload hx hb dJ1_indexOfChar_4cfef_22 (lv_at hl 0 rfl) ?_
          exact tw_iret F hH hret hlk rfl (Nat.le_refl _) (Nat.le_refl _) dJ1_indexOfChar_4cfef_24 ⟨by rw [← hr]; rfl, rfl⟩
  exact main (jm_sl (i : Int)).length 0 ls (by omega) hl rfl
theorem jm_kmax : Cond.methodLink "java/lang/StringLatin1" 92 Lib.Math.max.name ∈ lw_g := tw_gl kw_715 rfl
theorem jm_kmin : Cond.methodLink "java/lang/StringLatin1" 38 Lib.Math.min.name ∈ lw_g := tw_gl kw_716 rfl
set_option maxHeartbeats 4000000 in
set_option maxRecDepth 100000 in
theorem c_J1_indexOf (l : Launch) (G : tw_G) (N : Nat) (ad : Nat → Nat) (w : Nat → va_E) (sz i : Nat) (hi : i < 11) (x : Int32) : Met l yJ1_indexOf_4cfef (tw_ws yJ1_indexOf_4cfef cJ1_indexOf_4cfef 4 (some .int)) rmT1 (tw_Pre G N ad w sz [.ref (G.2.2 (200 + i)), .int x, .int (0 : Int32), .int (Int32.ofNat (tw_sln.getD i 0))]) (tw_Qi G N ad (fun r w1 => r = Int32.ofInt (jm_sx (i : Int) x.toInt) ∧ w = w1) sz) 0 0 (tw_A N ad sz) := by
  refine tw_met (by decide) (Nat.le_of_ble_eq_true rfl) ?_
  intro p e s m args below meth c F hret hlk hin hargs hsz hH ls hl
  have hx := F.1.1
  have hb := F.1.2.1
  have hml := F.1.2.2.1
  have hown := F.1.2.2.2.1
  have hts := F.1.2.2.2.2
  obtain ⟨e1, e2, -, e4⟩ := sx_all i hi
  have hl : lv_has ls 4 [(0, .ref (G.2.2 (200 + i))), (1, .int x), (2, .int (0 : Int32)), (3, .int (Int32.ofNat (tw_sln.getD i 0)))] := hl
  generalize hH0 : s.heap = H at hH ⊢
  refine lv_iload_n hx hb dJ1_indexOf_4cfef_0 rfl (lv_at hl 1 rfl) ?_
  refine tw_calli F hH (tw_runS (As := [.int x]) (rest := []) F hH (c_J1_canEncode l G N ad w H.size x) (tw_gl kw_712 rfl) km_J1_canEncode_9a6ad (tw_gl kw_713 rfl) rfl rfl ⟨(Nat.le_of_ble_eq_true rfl), (Nat.le_of_ble_eq_true rfl)⟩ rfl hl.1 rfl (Nat.le_of_ble_eq_true rfl) dJ1_indexOf_4cfef_1 ⟨Nat.zero_le _, Nat.zero_le _⟩) (fun r w1 H locs hp _ hH => ?_)
  obtain ⟨hp, rfl⟩ := hp
  rcases hp with ⟨hr255, rfl⟩ | ⟨hr255, rfl⟩
  · refine lv_if_ne (tgt := 9) hx hb dJ1_indexOf_4cfef_4 (by decide) (fun _ => ?_) (fun h => absurd h (by decide))
    refine lv_iload_n hx hb dJ1_indexOf_4cfef_9 rfl (lv_at hl 2 rfl) ?_
    refine lv_iconst (v := 0) hx hb dJ1_indexOf_4cfef_10 (by decide) ?_
    refine va_mmax hx hb (hml.trans hl.1.symm) hown (hts _ jm_kmax) (hts _ (tw_gl kw_61 rfl)) (hts _ (tw_gl kw_5 rfl)) (hts _ (tw_gl kw_62 rfl)) (Nat.le_of_ble_eq_true rfl) (Nat.le_of_ble_eq_true rfl) (Nat.zero_le _) (Nat.zero_le _) dJ1_indexOf_4cfef_11 ?_
    refine tw_cv (v := (0 : Int32)) (by decide) ?_
    refine lv_istore_n (lv' := [(2, .int (0 : Int32)), (0, .ref (G.2.2 (200 + i))), (1, .int x), (3, .int (Int32.ofNat (tw_sln.getD i 0)))]) hx hb dJ1_indexOf_4cfef_14 rfl hl (by decide) rfl (fun ls hl => ?_)
    refine lv_iload_n hx hb dJ1_indexOf_4cfef_15 rfl (lv_at hl 3 rfl) ?_
    refine lv_aload_n hx hb dJ1_indexOf_4cfef_16 rfl (lv_at hl 1 rfl) ?_
    refine tw_slen F hH hi dJ1_indexOf_4cfef_17 ?_
    refine va_mmin hx hb (hml.trans hl.1.symm) hown (hts _ jm_kmin) (hts _ (tw_gl kw_717 rfl)) (hts _ (tw_gl kw_5 rfl)) (hts _ (tw_gl kw_718 rfl)) (Nat.le_of_ble_eq_true rfl) (Nat.le_of_ble_eq_true rfl) (Nat.zero_le _) (Nat.zero_le _) dJ1_indexOf_4cfef_18 ?_
    refine tw_cv (v := Int32.ofNat (tw_sln.getD i 0)) (by split <;> rfl) ?_
    refine lv_istore_n (lv' := [(3, .int (Int32.ofNat (tw_sln.getD i 0))), (2, .int (0 : Int32)), (0, .ref (G.2.2 (200 + i))), (1, .int x)]) hx hb dJ1_indexOf_4cfef_21 rfl hl (by decide) rfl (fun ls hl => ?_)
    refine lv_iload_n hx hb dJ1_indexOf_4cfef_22 rfl (lv_at hl 1 rfl) ?_
    refine lv_iload_n hx hb dJ1_indexOf_4cfef_23 rfl (lv_at hl 0 rfl) ?_
    have tn : (Int32.ofNat (tw_sln.getD i 0)).toInt = ((tw_sln.getD i 0 : Nat) : Int) := nI_toInt (by omega)
    refine lv_icmp_lt (tgt := 29) hx hb dJ1_indexOf_4cfef_24 (by decide) (fun _ => ?_) (fun h => ?_)
    · refine lv_aload_n hx hb dJ1_indexOf_4cfef_29 rfl (lv_at hl 2 rfl) ?_
      refine lv_iload_n hx hb dJ1_indexOf_4cfef_30 rfl (lv_at hl 3 rfl) ?_
      refine lv_iload_n hx hb dJ1_indexOf_4cfef_31 rfl (lv_at hl 1 rfl) ?_
      refine lv_iload_n hx hb dJ1_indexOf_4cfef_32 rfl (lv_at hl 0 rfl) ?_
      refine tw_calli F hH (tw_runS (As := [.ref (G.2.2 (200 + i)), .int x, .int (0 : Int32), .int (Int32.ofNat (tw_sln.getD i 0))]) (rest := []) F hH (c_J1_indexOfChar l G N ad w H.size i hi x hr255) (tw_gl kw_719 rfl) km_J1_indexOfChar_4cfef (tw_gl kw_720 rfl) rfl rfl ⟨(Nat.le_of_ble_eq_true rfl), (Nat.le_of_ble_eq_true rfl)⟩ rfl hl.1 rfl (Nat.le_of_ble_eq_true rfl) dJ1_indexOf_4cfef_33 ⟨Nat.zero_le _, Nat.zero_le _⟩) (fun r w2 H locs hp _ hH => ?_)
      obtain ⟨rfl, rfl⟩ := hp
      exact tw_iret F hH hret hlk rfl (Nat.le_refl _) (Nat.le_refl _) dJ1_indexOf_4cfef_36 ⟨rfl, rfl⟩
    · refine lv_iconst (v := -1) hx hb dJ1_indexOf_4cfef_27 (by decide) ?_
      have h0 : tw_sln.getD i 0 = 0 := by
        have h3 : ¬ (0 : Int) < ((tw_sln.getD i 0 : Nat) : Int) := fun q => h ((tw_lt (by decide) tn).mpr q)
        omega
      have h4 : jm_sl (i : Int) = [] := List.length_eq_zero_iff.mp (by omega)
      exact tw_iret F hH hret hlk rfl (Nat.le_refl _) (Nat.le_refl _) dJ1_indexOf_4cfef_28 ⟨by unfold jm_sx; rw [h4]; rfl, rfl⟩
  · refine lv_if_ne (tgt := 9) hx hb dJ1_indexOf_4cfef_4 (by decide) (fun h => absurd rfl h) (fun _ => ?_)
    refine lv_iconst (v := -1) hx hb dJ1_indexOf_4cfef_7 (by decide) ?_
    exact tw_iret F hH hret hlk rfl (Nat.le_refl _) (Nat.le_refl _) dJ1_indexOf_4cfef_8 ⟨by unfold jm_sx; rw [sx_out (by omega) _ _ (sx_mem hi)]; rfl, rfl⟩
set_option maxHeartbeats 4000000 in
set_option maxRecDepth 100000 in
theorem c_J0_indexOf2 (l : Launch) (G : tw_G) (N : Nat) (ad : Nat → Nat) (w : Nat → va_E) (sz i : Nat) (hi : i < 11) (x : Int32) : Met l yJ0_indexOf_7cf53 (tw_ws yJ0_indexOf_7cf53 cJ0_indexOf_7cf53 3 (some .int)) rmT2 (tw_Pre G N ad w sz [.ref (G.2.2 (100 + i)), .int x, .int (0 : Int32)]) (tw_Qi G N ad (fun r w1 => r = Int32.ofInt (jm_sx (i : Int) x.toInt) ∧ w = w1) sz) 0 0 (tw_A N ad sz) := by
  refine tw_met (by decide) (Nat.le_of_ble_eq_true rfl) ?_
  intro p e s m args below meth c F hret hlk hin hargs hsz hH ls hl
  have hx := F.1.1
  have hb := F.1.2.1
  have hl : lv_has ls 3 [(0, .ref (G.2.2 (100 + i))), (1, .int x), (2, .int (0 : Int32))] := hl
  generalize hH0 : s.heap = H at hH ⊢
  refine lv_aload_n hx hb dJ0_indexOf_7cf53_0 rfl (lv_at hl 0 rfl) ?_
  refine tw_calli F hH (tw_runT (i := i) (As := []) (rest := []) F hH hi (c_J0_isLatin1 l G N ad w H.size i hi) (tw_gl kw_695 rfl) km_J0_isLatin1_aae02 kv_J0_isLatin1_aae02 rfl rfl rfl ⟨(Nat.le_of_ble_eq_true rfl), (Nat.le_of_ble_eq_true rfl)⟩ rfl hl.1 rfl (Nat.le_of_ble_eq_true rfl) dJ0_indexOf_7cf53_1 ⟨Nat.zero_le _, Nat.zero_le _⟩) (fun r w1 H locs hp _ hH => ?_)
  obtain ⟨rfl, rfl⟩ := hp
  refine lv_if_eq (tgt := 23) hx hb dJ0_indexOf_7cf53_4 (by decide) (fun h => absurd h (by decide)) (fun _ => ?_)
  refine lv_aload_n hx hb dJ0_indexOf_7cf53_7 rfl (lv_at hl 0 rfl) ?_
  refine tw_gvalue F hH hi (tw_gl kw_2105 rfl) dJ0_indexOf_7cf53_8 ?_
  refine lv_iload_n hx hb dJ0_indexOf_7cf53_11 rfl (lv_at hl 1 rfl) ?_
  refine lv_iload_n hx hb dJ0_indexOf_7cf53_12 rfl (lv_at hl 2 rfl) ?_
  refine lv_aload_n hx hb dJ0_indexOf_7cf53_13 rfl (lv_at hl 0 rfl) ?_
  refine tw_calli F hH (tw_runT (i := i) (As := []) (rest := [.int (0 : Int32), .int x, .ref (G.2.2 (200 + i))]) F hH hi (c_J0_length l G N ad w H.size i hi) (tw_gl kw_701 rfl) km_J0_length_8abf5 kv_J0_length_8abf5 rfl rfl rfl ⟨(Nat.le_of_ble_eq_true rfl), (Nat.le_of_ble_eq_true rfl)⟩ rfl hl.1 rfl (Nat.le_of_ble_eq_true rfl) dJ0_indexOf_7cf53_14 ⟨Nat.zero_le _, Nat.zero_le _⟩) (fun r w2 H locs hp _ hH => ?_)
  obtain ⟨rfl, rfl⟩ := hp
  refine tw_calli F hH (tw_runS (As := [.ref (G.2.2 (200 + i)), .int x, .int (0 : Int32), .int (Int32.ofNat (tw_sln.getD i 0))]) (rest := []) F hH (c_J1_indexOf l G N ad w H.size i hi x) (tw_gl kw_709 rfl) km_J1_indexOf_4cfef (tw_gl kw_710 rfl) rfl rfl ⟨(Nat.le_of_ble_eq_true rfl), (Nat.le_of_ble_eq_true rfl)⟩ rfl hl.1 rfl (Nat.le_of_ble_eq_true rfl) dJ0_indexOf_7cf53_17 ⟨Nat.zero_le _, Nat.zero_le _⟩) (fun r w3 H locs hp _ hH => ?_)
  obtain ⟨rfl, rfl⟩ := hp
  refine lv_goto (tgt := 36) hx hb dJ0_indexOf_7cf53_20 (by decide) ?_
  exact tw_iret F hH hret hlk rfl (Nat.le_refl _) (Nat.le_refl _) dJ0_indexOf_7cf53_36 ⟨rfl, rfl⟩
set_option maxHeartbeats 4000000 in
set_option maxRecDepth 100000 in
theorem c_J0_indexOf1 (l : Launch) (G : tw_G) (N : Nat) (ad : Nat → Nat) (w : Nat → va_E) (sz i : Nat) (hi : i < 11) (x : Int32) (post : Int32 → (Nat → va_E) → Prop) (hpost : post (Int32.ofInt (jm_sx (i : Int) x.toInt)) w) : Met l yJ0_indexOf_0f7a4 (tw_ws yJ0_indexOf_0f7a4 cJ0_indexOf_0f7a4 2 (some .int)) rmT3 (tw_Pre G N ad w sz [.ref (G.2.2 (100 + i)), .int x]) (tw_Qi G N ad post sz) 0 0 (tw_A N ad sz) := by
  refine tw_met (by decide) (Nat.le_of_ble_eq_true rfl) ?_
  intro p e s m args below meth c F hret hlk hin hargs hsz hH ls hl
  have hx := F.1.1
  have hb := F.1.2.1
  have hl : lv_has ls 2 [(0, .ref (G.2.2 (100 + i))), (1, .int x)] := hl
  generalize hH0 : s.heap = H at hH ⊢
  refine lv_aload_n hx hb dJ0_indexOf_0f7a4_0 rfl (lv_at hl 0 rfl) ?_
  refine lv_iload_n hx hb dJ0_indexOf_0f7a4_1 rfl (lv_at hl 1 rfl) ?_
  refine lv_iconst (v := 0) hx hb dJ0_indexOf_0f7a4_2 (by decide) ?_
  refine tw_calli F hH (tw_runT (i := i) (As := [.int x, .int (0 : Int32)]) (rest := []) F hH hi (c_J0_indexOf2 l G N ad w H.size i hi x) (tw_gl kw_691 rfl) km_J0_indexOf_7cf53 kv_J0_indexOf_7cf53 rfl rfl rfl ⟨(Nat.le_of_ble_eq_true rfl), (Nat.le_of_ble_eq_true rfl)⟩ rfl hl.1 rfl (Nat.le_of_ble_eq_true rfl) dJ0_indexOf_0f7a4_3 ⟨Nat.zero_le _, Nat.zero_le _⟩) (fun r w1 H locs hp _ hH => ?_)
  obtain ⟨rfl, rfl⟩ := hp
  exact tw_iret F hH hret hlk rfl (Nat.le_refl _) (Nat.le_refl _) dJ0_indexOf_0f7a4_6 hpost
theorem cS_indexOf (Y : jm_Y) (M : jm_M) (s c : Int) (hs : 0 ≤ s ∧ s < 11) (hc : jm_in c) : jm_Ci Y yJ0_indexOf_0f7a4 cJ0_indexOf_0f7a4 2 (some .int) rmT3 M (fun G _ => [jm_sv G s, jm_i c]) (fS_indexOf M s c) := by
  intro l G ad sz rr MM hx hM
  obtain ⟨rfl, rfl⟩ := Prod.mk.inj (Option.some.inj hx)
  have es : ((s.toNat : Nat) : Int) = s := by omega
  have hin : jm_in (jm_sx s c) := by rw [← es]; exact sx_in (by omega) c
  exact c_J0_indexOf1 l G Y.1 ad (jm_c Y G ad M) sz s.toNat (by omega) (Int32.ofInt c) (jm_pi Y G ad (jm_sx s c) M) ⟨by rw [es, jm_ti hc], rfl, hM, hin⟩
/-- a contract over a text: the text is one of the tables' -/
def jm_Ti (Y : jm_Y) (s : Int) (y : MethodName) (b : ByteArray) (maxL : Nat) (ret : Option FieldType) (rm : Room) (M : jm_M) (As : tw_G → (Nat → Nat) → List Value) (g : jm_R) : Prop := ((0 ≤ s ∧ s < 11) ∧ y.cls = "java/lang/String") ∧ jm_Ci Y y b maxL ret rm M As g
theorem cS1_indexOf (M : jm_M) (s c : Int) (hs : 0 ≤ s ∧ s < 11) (hc : jm_in c) : jm_Ti wd1 s yJ0_indexOf_0f7a4 cJ0_indexOf_0f7a4 2 (some .int) rmT3 M (fun G _ => [jm_sv G s, jm_i c]) (fS_indexOf M s c) := ⟨⟨hs, rfl⟩, cS_indexOf wd1 M s c hs hc⟩
theorem cS2_indexOf (M : jm_M) (s c : Int) (hs : 0 ≤ s ∧ s < 11) (hc : jm_in c) : jm_Ti wd2 s yJ0_indexOf_0f7a4 cJ0_indexOf_0f7a4 2 (some .int) rmT3 M (fun G _ => [jm_sv G s, jm_i c]) (fS_indexOf M s c) := ⟨⟨hs, rfl⟩, cS_indexOf wd2 M s c hs hc⟩
theorem j_callTi1 {Y : jm_Y} {jq : jm_Q} {cc : ByteArray} {nL : Nat} {own : String} {rm : Room} {X : jm_X} {M : jm_M} {lv : List (Nat × Value)} {pc : Nat} {y : MethodName} {b : ByteArray} {maxL : Nat} {ret : Option FieldType} {rm2 : Room} {As : tw_G → (Nat → Nat) → List Value} {g : jm_R} {K : Int → jm_M → jm_R} {idx n : Nat} {rest : List Value} {v1 : Value} {i : Int} (hC : jm_Ti Y i y b maxL ret rm2 M As g) (k1 : Cond.methodLink own idx y ∈ lw_g) (k2 : tw_kM y b maxL ret n) (k3 : tw_kV y) (hr0 : rm2.cells = 0) (hs0 : rm2.slots = 0) (hR : rm2.frames + 1 ≤ rm.frames ∧ 8 + (maxL + 11) + rm2.locals ≤ rm.locals) (hn : 1 = n) (hAs : As (xG X) (xad X) = [jm_vs X i, v1]) (hW : (rest.map fun v => v.category).sum ≤ 8) (hd : decode cc pc = .ok (.invokevirtual idx, 3)) (kk : ∀ (r : Int) (M1 : jm_M), jm_in r → jm_J Y jq cc nL own rm X M1 lv (jm_i r :: rest) (pc + 3) (K r M1)) : jm_J Y jq cc nL own rm X M lv (v1 :: jm_vs X i :: rest) pc (jm_b g K) := fun F hj hx hM H locs ls hH hl => by
  obtain ⟨v, M1, hg, hx⟩ := jm_bs hx
  have hMet := hC.2 (xl X) (xG X) (xad X) H.size v M1 hg hM
  rw [hAs] at hMet
  refine tw_calli F hH (tw_runT (i := i.toNat) (As := [v1]) F hH (by have := hC.1.1; omega) hMet k1 k2 k3 hC.1.2 hr0 hs0 hR hn hl.1 rfl hW hd ⟨Nat.zero_le _, Nat.zero_le _⟩) (fun r w1 H1 locs1 hp _ hH1 => ?_)
  obtain ⟨rfl, rfl, hM1, hr⟩ := hp
  exact kk v M1 hr F hj hx hM1 H1 locs1 ls hH1 hl
