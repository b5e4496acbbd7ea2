/-- the end, from the row that counts on -/
theorem law_out {p : Program} {l : Launch} {e : Env} {s : State} {m : MethodId} {below : List Frame} {meth : Method} {c : Code} {G : tw_G} {b : Nat} (F : tw_F p m c code 7 s #[Value.ref b] RL G (fun q => s.heap.size ≤ q)) (hr : meth.sig.returnType = ret) (hlk : meth.locks = false) {H : Heap} {locs : List Loc} {cells slots : Nat} (hS : va_S (fun q => s.heap.size ≤ q) s.heap H locs) (h1 : cells ≤ 601024) (h2 : slots ≤ 7293034) {ls : Array Slot} : W p l e room_1 s m #[Value.ref b] below meth c H locs cells slots (lw_Z below #[Value.ref b] s) (F0 m 1897 ls []) := by
  have hx := F.1.1
  have hb := F.1.2.1
  refine lv_iconst (v := 1) hx hb dL_law_1897 (by decide) ?_
  refine va_forget (fun q hq => hS.2.2 q hq) ?_
  refine W.widen (k := 601024) (n := 7293034) h1 h2 ?_
  exact lw_ret hx hb hr hlk dL_law_1898
set_option maxHeartbeats 4000000 in
set_option maxRecDepth 100000 in
theorem law_switch {p : Program} {l : Launch} {e : Env} {s : State} {m : MethodId} {below : List Frame} {meth : Method} {c : Code} {G : tw_G} {b L t : Nat} {xs : Nat → Int32} (hst : l.stackTraces = false) (F : tw_F p m c code 7 s #[Value.ref b] RL G (fun q => s.heap.size ≤ q)) (hX : va_X b L xs s s.heap) (hbl : b < s.heap.size) (ht : 7 * t + 7 ≤ L) (hL : L ≤ 3584) {ad1 ad2 : Nat → Nat} {M N : jm_M} (iv : IY M N) {H : Heap} {locs : List Loc} {cells slots : Nat} {ls : Array Slot} (h2 : tw_2 G 245 ad1 (jm_c wd1 G ad1 M) 80 ad2 (jm_c wd2 G ad2 N) (fun q => s.heap.size ≤ q) s H locs) (hl : lv_has ls 7 (law_lv b (ad1 0) (ad2 0) (ad1 244) t)) (hc : cells + 1 ≤ 601024) (hs : slots + 6 ≤ 7293034) (hk : law_K p l e s m below meth c G b t ad1 ad2 cells slots) : W p l e room_1 s m #[Value.ref b] below meth c H locs cells slots (lw_Z below #[Value.ref b] s) (F0 m 33 ls []) := by
  have hx := F.1.1
  have hb := F.1.2.1
  have hbA : ¬ (fun q : Nat => s.heap.size ≤ q) b := Nat.not_le.mpr hbl
  refine lv_aload_n hx hb dL_law_33 rfl (lv_at hl 4 rfl) ?_
  refine lv_iload hx hb dL_law_34 (lv_at hl 0 rfl) ?_
  refine va_sld hx hb hX hbl hbA h2.1.2.2 (tw_ix (j := 7 * t) (nI_toInt (by omega)) (by omega)).1 dL_law_36 ?_
  refine lv_bipush (v := 63) hx hb dL_law_37 (by decide) ?_
  refine lv_iand hx hb dL_law_39 ?_
  obtain ⟨j, hj, ej⟩ := pk_andE (xs (Int32.ofNat (7 * t)).toNatClampNeg) (m := 63) 6 (by decide)
  refine tw_cv (v := nI j) ej ?_
  have ejt : (nI j).toInt = (j : Int) := nI_toInt (by omega)
  rcases (by omega : j = 0 ∨ j = 1 ∨ j = 2 ∨ j = 3 ∨ j = 4 ∨ j = 5 ∨ j = 6 ∨ j = 7 ∨ j = 8 ∨ j = 9 ∨ j = 10 ∨ j = 11 ∨ j = 12 ∨ j = 13 ∨ j = 14 ∨ j = 15 ∨ j = 16 ∨ j = 17 ∨ j = 18 ∨ j = 19 ∨ j = 20 ∨ j = 21 ∨ j = 22 ∨ j = 23 ∨ j = 24 ∨ j = 25 ∨ j = 26 ∨ j = 27 ∨ j = 28 ∨ j = 29 ∨ j = 30 ∨ j = 31 ∨ j = 32 ∨ j = 33 ∨ j = 34 ∨ j = 35 ∨ j = 36 ∨ j = 37 ∨ j = 38 ∨ j = 39 ∨ 40 ≤ j) with rfl | rfl | rfl | rfl | rfl | rfl | rfl | rfl | rfl | rfl | rfl | rfl | rfl | rfl | rfl | rfl | rfl | rfl | rfl | rfl | rfl | rfl | rfl | rfl | rfl | rfl | rfl | rfl | rfl | rfl | rfl | rfl | rfl | rfl | rfl | rfl | rfl | rfl | rfl | rfl | hj2
  · refine lv_tableIn (off := 176) (tgt := 216) hx hb dL_law_40 (by decide) (by decide) (by decide) (by decide) ?_
    exact law_case_0 hst F hX hbl ht hL iv h2 hl hc hs hk
  · refine lv_tableIn (off := 213) (tgt := 253) hx hb dL_law_40 (by decide) (by decide) (by decide) (by decide) ?_
    exact law_case_1 hst F hX hbl ht hL iv h2 hl hc hs hk
  · refine lv_tableIn (off := 262) (tgt := 302) hx hb dL_law_40 (by decide) (by decide) (by decide) (by decide) ?_
    exact law_case_2 hst F hX hbl ht hL iv h2 hl hc hs hk
  · refine lv_tableIn (off := 311) (tgt := 351) hx hb dL_law_40 (by decide) (by decide) (by decide) (by decide) ?_
    exact law_case_3 hst F hX hbl ht hL iv h2 hl hc hs hk
  · refine lv_tableIn (off := 348) (tgt := 388) hx hb dL_law_40 (by decide) (by decide) (by decide) (by decide) ?_
    exact law_case_4 hst F hX hbl ht hL iv h2 hl hc hs hk
  · refine lv_tableIn (off := 397) (tgt := 437) hx hb dL_law_40 (by decide) (by decide) (by decide) (by decide) ?_
    exact law_case_5 hst F hX hbl ht hL iv h2 hl hc hs hk
  · refine lv_tableIn (off := 458) (tgt := 498) hx hb dL_law_40 (by decide) (by decide) (by decide) (by decide) ?_
    exact law_case_6 hst F hX hbl ht hL iv h2 hl hc hs hk
  · refine lv_tableIn (off := 545) (tgt := 585) hx hb dL_law_40 (by decide) (by decide) (by decide) (by decide) ?_
    exact law_case_7 hst F hX hbl ht hL iv h2 hl hc hs hk
  · refine lv_tableIn (off := 594) (tgt := 634) hx hb dL_law_40 (by decide) (by decide) (by decide) (by decide) ?_
    exact law_case_8 hst F hX hbl ht hL iv h2 hl hc hs hk
  · refine lv_tableIn (off := 655) (tgt := 695) hx hb dL_law_40 (by decide) (by decide) (by decide) (by decide) ?_
    exact law_case_9 hst F hX hbl ht hL iv h2 hl hc hs hk
  · refine lv_tableIn (off := 716) (tgt := 756) hx hb dL_law_40 (by decide) (by decide) (by decide) (by decide) ?_
    exact law_case_10 hst F hX hbl ht hL iv h2 hl hc hs hk
  · refine lv_tableIn (off := 753) (tgt := 793) hx hb dL_law_40 (by decide) (by decide) (by decide) (by decide) ?_
    exact law_case_11 hst F hX hbl ht hL iv h2 hl hc hs hk
  · refine lv_tableIn (off := 778) (tgt := 818) hx hb dL_law_40 (by decide) (by decide) (by decide) (by decide) ?_
    exact law_case_12 hst F hX hbl ht hL iv h2 hl hc hs hk
  · refine lv_tableIn (off := 803) (tgt := 843) hx hb dL_law_40 (by decide) (by decide) (by decide) (by decide) ?_
    exact law_case_13 hst F hX hbl ht hL iv h2 hl hc hs hk
  · refine lv_tableIn (off := 828) (tgt := 868) hx hb dL_law_40 (by decide) (by decide) (by decide) (by decide) ?_
    exact law_case_14 hst F hX hbl ht hL iv h2 hl hc hs hk
  · refine lv_tableIn (off := 868) (tgt := 908) hx hb dL_law_40 (by decide) (by decide) (by decide) (by decide) ?_
    exact law_case_15 hst F hX hbl ht hL iv h2 hl hc hs hk
  · refine lv_tableIn (off := 917) (tgt := 957) hx hb dL_law_40 (by decide) (by decide) (by decide) (by decide) ?_
    exact law_case_16 hst F hX hbl ht hL iv h2 hl hc hs hk
  · refine lv_tableIn (off := 954) (tgt := 994) hx hb dL_law_40 (by decide) (by decide) (by decide) (by decide) ?_
    exact law_case_17 hst F hX hbl ht hL iv h2 hl hc hs hk
  · refine lv_tableIn (off := 979) (tgt := 1019) hx hb dL_law_40 (by decide) (by decide) (by decide) (by decide) ?_
    exact law_case_18 hst F hX hbl ht hL iv h2 hl hc hs hk
  · refine lv_tableIn (off := 992) (tgt := 1032) hx hb dL_law_40 (by decide) (by decide) (by decide) (by decide) ?_
    exact law_case_19 hst F hX hbl ht hL iv h2 hl hc hs hk
  · refine lv_tableIn (off := 1017) (tgt := 1057) hx hb dL_law_40 (by decide) (by decide) (by decide) (by decide) ?_
    exact law_case_20 hst F hX hbl ht hL iv h2 hl hc hs hk
  · refine lv_tableIn (off := 1042) (tgt := 1082) hx hb dL_law_40 (by decide) (by decide) (by decide) (by decide) ?_
    exact law_case_21 hst F hX hbl ht hL iv h2 hl hc hs hk
  · refine lv_tableIn (off := 1067) (tgt := 1107) hx hb dL_law_40 (by decide) (by decide) (by decide) (by decide) ?_
    exact law_case_22 hst F hX hbl ht hL iv h2 hl hc hs hk
  · refine lv_tableIn (off := 1128) (tgt := 1168) hx hb dL_law_40 (by decide) (by decide) (by decide) (by decide) ?_
    exact law_case_23 hst F hX hbl ht hL iv h2 hl hc hs hk
  · refine lv_tableIn (off := 1165) (tgt := 1205) hx hb dL_law_40 (by decide) (by decide) (by decide) (by decide) ?_
    exact law_case_24 hst F hX hbl ht hL iv h2 hl hc hs hk
  · refine lv_tableIn (off := 1202) (tgt := 1242) hx hb dL_law_40 (by decide) (by decide) (by decide) (by decide) ?_
    exact law_case_25 hst F hX hbl ht hL iv h2 hl hc hs hk
  · refine lv_tableIn (off := 1242) (tgt := 1282) hx hb dL_law_40 (by decide) (by decide) (by decide) (by decide) ?_
    exact law_case_26 hst F hX hbl ht hL iv h2 hl hc hs hk
  · refine lv_tableIn (off := 1279) (tgt := 1319) hx hb dL_law_40 (by decide) (by decide) (by decide) (by decide) ?_
    exact law_case_27 hst F hX hbl ht hL iv h2 hl hc hs hk
  · refine lv_tableIn (off := 1304) (tgt := 1344) hx hb dL_law_40 (by decide) (by decide) (by decide) (by decide) ?_
    exact law_case_28 hst F hX hbl ht hL iv h2 hl hc hs hk
  · refine lv_tableIn (off := 1365) (tgt := 1405) hx hb dL_law_40 (by decide) (by decide) (by decide) (by decide) ?_
    exact law_case_29 hst F hX hbl ht hL iv h2 hl hc hs hk
  · refine lv_tableIn (off := 1414) (tgt := 1454) hx hb dL_law_40 (by decide) (by decide) (by decide) (by decide) ?_
    exact law_case_30 hst F hX hbl ht hL iv h2 hl hc hs hk
  · refine lv_tableIn (off := 1463) (tgt := 1503) hx hb dL_law_40 (by decide) (by decide) (by decide) (by decide) ?_
    exact law_case_31 hst F hX hbl ht hL iv h2 hl hc hs hk
  · refine lv_tableIn (off := 1512) (tgt := 1552) hx hb dL_law_40 (by decide) (by decide) (by decide) (by decide) ?_
    exact law_case_32 hst F hX hbl ht hL iv h2 hl hc hs hk
  · refine lv_tableIn (off := 1525) (tgt := 1565) hx hb dL_law_40 (by decide) (by decide) (by decide) (by decide) ?_
    exact law_case_33 hst F hX hbl ht hL iv h2 hl hc hs hk
  · refine lv_tableIn (off := 1574) (tgt := 1614) hx hb dL_law_40 (by decide) (by decide) (by decide) (by decide) ?_
    exact law_case_34 hst F hX hbl ht hL iv h2 hl hc hs hk
  · refine lv_tableIn (off := 1627) (tgt := 1667) hx hb dL_law_40 (by decide) (by decide) (by decide) (by decide) ?_
    exact law_case_35 hst F hX hbl ht hL iv h2 hl hc hs hk
  · refine lv_tableIn (off := 1688) (tgt := 1728) hx hb dL_law_40 (by decide) (by decide) (by decide) (by decide) ?_
    exact law_case_36 hst F hX hbl ht hL iv h2 hl hc hs hk
  · refine lv_tableIn (off := 1749) (tgt := 1789) hx hb dL_law_40 (by decide) (by decide) (by decide) (by decide) ?_
    exact law_case_37 hst F hX hbl ht hL iv h2 hl hc hs hk
  · refine lv_tableIn (off := 1786) (tgt := 1826) hx hb dL_law_40 (by decide) (by decide) (by decide) (by decide) ?_
    exact law_case_38 hst F hX hbl ht hL iv h2 hl hc hs hk
  · refine lv_tableIn (off := 1823) (tgt := 1863) hx hb dL_law_40 (by decide) (by decide) (by decide) (by decide) ?_
    exact law_case_39 hst F hX hbl ht hL iv h2 hl hc hs hk
  · refine lv_tableOut (tgt := 1891) hx hb dL_law_40 (Or.inr (by omega)) (by decide) ?_
    exact hk M N H locs ls cells slots iv h2 hl (Nat.le_succ _) (Nat.le_add_right _ _)
set_option maxHeartbeats 4000000 in
set_option maxRecDepth 100000 in
theorem law_loop {p : Program} {l : Launch} {e : Env} {s : State} {m : MethodId} {below : List Frame} {meth : Method} {c : Code} {G : tw_G} {b L : Nat} {xs : Nat → Int32} (hst : l.stackTraces = false) (F : tw_F p m c code 7 s #[Value.ref b] RL G (fun q => s.heap.size ≤ q)) (hr : meth.sig.returnType = ret) (hlk : meth.locks = false) (hX : va_X b L xs s s.heap) (hbl : b < s.heap.size) (hL : L ≤ 3584) {ad1 ad2 : Nat → Nat} : ∀ (n t : Nat) (M N : jm_M) (H : Heap) (locs : List Loc) (cells slots : Nat) (ls : Array Slot), 512 < n + t → 7 * t ≤ L → IY M N → tw_2 G 245 ad1 (jm_c wd1 G ad1 M) 80 ad2 (jm_c wd2 G ad2 N) (fun q => s.heap.size ≤ q) s H locs → lv_has ls 7 (law_lv b (ad1 0) (ad2 0) (ad1 244) t) → cells ≤ 1000 + t → slots ≤ 20000 + 6 * t → W p l e room_1 s m #[Value.ref b] below meth c H locs cells slots (lw_Z below #[Value.ref b] s) (F0 m 23 ls []) := by
  have hx := F.1.1
  have hb := F.1.2.1
  have hbA : ¬ (fun q : Nat => s.heap.size ≤ q) b := Nat.not_le.mpr hbl
  intro n
  induction n with
  | zero => intro t M N H locs cells slots ls h1 h3; exfalso; omega
  | succ n ih =>
    intro t M N H locs cells slots ls h1 h3 iv h2 hl hc hs
    refine lv_iload hx hb dL_law_23 (lv_at hl 0 rfl) ?_
    refine lv_aload_n hx hb dL_law_25 rfl (lv_at hl 4 rfl) ?_
    refine va_slen hx hb hX hbl hbA h2.1.2.2 dL_law_26 ?_
    refine lv_bipush (v := 7) hx hb dL_law_27 (by decide) ?_
    refine lv_isub hx hb dL_law_29 ?_
    have et : (Int32.ofNat (7 * t)).toInt = ((7 * t : Nat) : Int) := nI_toInt (by omega)
    have eL : (Int32.ofNat L - 7).toInt = (L : Int) - 7 := by
      have e1 : Int32.ofNat L - 7 = Int32.ofInt ((L : Int) - 7) := by
        rw [Int32.ofInt_sub]; rfl
      rw [e1, jm_ti (jm_inL (by omega) (by omega))]
    refine lv_icmp_gt (tgt := 1897) hx hb dL_law_30 (by decide) (fun h => ?_) (fun h => ?_)
    · exact law_out F hr hlk h2.1.2.2 (by omega) (by omega)
    · have h4 : ¬ (L : Int) - 7 < ((7 * t : Nat) : Int) := fun q => h ((tw_lt eL et).mpr q)
      refine law_switch hst F hX hbl (by omega) hL iv h2 hl (by omega) (by omega) (fun M N H locs ls c1 s1 iv h2 hl hc1 hs1 => ?_)
      refine lv_iinc (v := Int32.ofNat (7 * (t + 1))) (lv' := law_lv b (ad1 0) (ad2 0) (ad1 244) (t + 1)) hx hb dL_law_1891 hl (k := 0) rfl (by rw [Nat.mul_add, Int32.ofNat_add]; rfl) (by decide) rfl (fun ls hl => ?_)
      refine lv_goto (tgt := 23) hx hb dL_law_1894 (by decide) ?_
      exact ih (t + 1) M N H locs c1 s1 ls (by omega) (by omega) iv h2 hl (by omega) (by omega)
set_option maxHeartbeats 4000000 in
set_option maxRecDepth 100000 in
theorem whole_start {p : Program} {e : Env} {s : State} {m : MethodId} {below : List Frame} {meth : Method} {c : Code} (l : Launch) (hflags : l.flags = flags0) {b L : Nat} {xs : Nat → Int32} (hL : L ≤ 3584) (C0 : lw_At p s m meth c b L xs) : W p l e room_1 s m #[Value.ref b] below meth c s.heap [] 0 0 (lw_Z below #[Value.ref b] s) (entryFrame m ([Value.ref b] : List Value).toArray 7) := by
  obtain ⟨hx, hb, hr, hml, hown, hts, hX, hbl, hlk, hgv⟩ := C0
  have hst : l.stackTraces = false := by simp [Launch.stackTraces, hflags, flags0]
  have hg := flat_of_before _ hgv
  obtain ⟨G, hE⟩ := st_start hts hg
  have F : tw_F p m c code 7 s #[Value.ref b] RL G (fun q => s.heap.size ≤ q) := ⟨⟨hx, hb, hml, hown, fun w h => hts w (List.mem_filter.mp h).1⟩, hE, fun _ h => h⟩
  have hbA : ¬ (fun q : Nat => s.heap.size ≤ q) b := Nat.not_le.mpr hbl
  have hl := lv_entry ([.ref b]) (n := 7) (Nat.le_of_ble_eq_true rfl)
  rw [lg_entry_eq]
  generalize (lg_sl ([.ref b]) ++ List.replicate (7 - (lg_sl ([.ref b])).length) Slot.unset).toArray = ls at hl ⊢
  have hl : lv_has ls 7 [(0, .ref b)] := hl
  have hH : tw_H G 0 (fun _ => 0) (fun _ => .inr (0, [])) (fun q => s.heap.size ≤ q) s s.heap [] := ⟨fun k q h => by simp [tw_W] at h, ⟨fun i j p q h => by simp [tw_W] at h, fun k q h => by simp [tw_W] at h⟩, va_S.rf⟩
  refine tw_new (ci := 11) (T := TX11) F hH rfl iw_X11 tyX11 tyX11_ok (tw_gl kw_26 rfl) (tw_gl kw_27 rfl) (tw_gl kw_1 rfl) kd_X11 (Nat.le_of_ble_eq_true rfl) (Nat.le_of_ble_eq_true rfl) dL_law_0 (fun H locs ad1 w1 ha1 hw1 hne1 hH => ?_)
  refine lv_dup hx hb dL_law_3 rfl ?_
  refine tw_calln F hH (tw_runI (r := 0) (As := []) (rest := [.ref (ad1 0)]) F hH (c_X11_init l G ad1 w1 H.size hw1) (tw_gl kw_28 rfl) km_X11_init (tw_gl kw_29 rfl) rfl rfl rfl ⟨(Nat.le_of_ble_eq_true rfl), (Nat.le_of_ble_eq_true rfl)⟩ rfl hl.1 rfl (Nat.le_of_ble_eq_true rfl) dL_law_4 ⟨(Nat.le_of_ble_eq_true rfl), (Nat.le_of_ble_eq_true rfl)⟩) (fun ad3 w3 H locs hp1 ha3 _ hH => ?_)
  rw [show ad1 0 = ad3 0 from (ha3 0 (by decide)).symm]
  refine lv_astore_n (lv' := [(1, .ref (ad3 0)), (0, .ref b)]) hx hb dL_law_7 rfl hl (by decide) rfl (fun ls hl => ?_)
  refine tw_new2 (ci := 12) (T := TX12) F hH rfl iw_X12 tyX12 tyX12_ok (tw_gl kw_1784 rfl) (tw_gl kw_1354 rfl) (tw_gl kw_14 rfl) kd_X12 (Nat.le_of_ble_eq_true rfl) (Nat.le_of_ble_eq_true rfl) dL_law_8 (fun H ad4 w4 hw4 h2 => ?_)
  refine lv_dup hx hb dL_law_11 rfl ?_
  refine tw_calln_2 F h2 (tw_runI (r := 0) (As := []) (rest := [.ref (ad4 0)]) F h2.2.1 (c_X12_init l G ad4 w4 H.size hw4) (tw_gl kw_1785 rfl) km_X12_init (tw_gl kw_1786 rfl) rfl rfl rfl ⟨(Nat.le_of_ble_eq_true rfl), (Nat.le_of_ble_eq_true rfl)⟩ rfl hl.1 rfl (Nat.le_of_ble_eq_true rfl) dL_law_12 ⟨(Nat.le_of_ble_eq_true rfl), (Nat.le_of_ble_eq_true rfl)⟩) (fun ad5 w5 H locs hp2 ha5 h2 => ?_)
  rw [show ad4 0 = ad5 0 from (ha5 0 (by decide)).symm]
  refine lv_astore_n (lv' := [(2, .ref (ad5 0)), (1, .ref (ad3 0)), (0, .ref b)]) hx hb dL_law_15 rfl hl (by decide) rfl (fun ls hl => ?_)
  refine lv_iconst (v := 1) hx hb dL_law_16 (by decide) ?_
  refine tw_newa3 (t := 5) (atype := .long) (ty := .long) (n' := 1) (a0 := (1, .inr (.inl (fun _ => 0)))) F h2 rfl (fun C h => by cases h) (tw_gl kw_2086 rfl) rfl (fun _ => rfl) (by decide) rfl (Nat.le_of_ble_eq_true rfl) (Nat.le_of_ble_eq_true rfl) (Nat.le_of_ble_eq_true rfl) dL_law_17 (fun ao H h2 => ?_)
  refine lv_astore_n (lv' := [(3, .ref ao), (2, .ref (ad5 0)), (1, .ref (ad3 0)), (0, .ref b)]) hx hb dL_law_19 rfl hl (by decide) rfl (fun ls hl => ?_)
  refine lv_iconst (v := 0) hx hb dL_law_20 (by decide) ?_
  refine lv_istore (lv' := [(4, .int (0 : Int32)), (3, .ref ao), (2, .ref (ad5 0)), (1, .ref (ad3 0)), (0, .ref b)]) hx hb dL_law_21 hl (by decide) rfl (fun ls hl => ?_)
  obtain ⟨⟨⟨⟨k1_19, k1_20, k1_18, k1_21, k1_22, k1_23, k1_24, k1_25, k1_26, k1_27, k1_28, k1_29, k1_30, k1_31, k1_32, k1_33, k1_34⟩, ⟨k1_36, k1_35, k1_37, k1_38, k1_39, k1_40⟩, ⟨k1_42, k1_43, k1_41, k1_44, k1_45, k1_46, k1_47, k1_48, k1_49, k1_50, k1_51, k1_52, k1_53, k1_54, k1_55, k1_56, k1_57⟩, ⟨k1_59, k1_58, k1_60, k1_61, k1_62, k1_63⟩, ⟨k1_65, k1_66, k1_64, k1_67, k1_68, k1_69, k1_70, k1_71, k1_72, k1_73, k1_74, k1_75, k1_76, k1_77, k1_78, k1_79, k1_80⟩, ⟨k1_82, k1_81, k1_83, k1_84, k1_85, k1_86⟩, ⟨k1_88, k1_89, k1_87, k1_90, k1_91, k1_92, k1_93, k1_94, k1_95, k1_96, k1_97, k1_98, k1_99, k1_100, k1_101, k1_102, k1_103⟩, ⟨k1_105, k1_104, k1_106, k1_107, k1_108, k1_109⟩, ⟨k1_111, k1_112, k1_110, k1_113, k1_114, k1_115, k1_116, k1_117, k1_118, k1_119, k1_120, k1_121, k1_122, k1_123, k1_124, k1_125, k1_126⟩, ⟨k1_128, k1_127, k1_129, k1_130, k1_131, k1_132⟩, ⟨k1_134, k1_135, k1_133, k1_136, k1_137, k1_138, k1_139, k1_140, k1_141, k1_142, k1_143, k1_144, k1_145, k1_146, k1_147, k1_148, k1_149⟩, ⟨k1_151, k1_150, k1_152, k1_153, k1_154, k1_155⟩⟩, ⟨⟨k1_162, k1_161, k1_163, k1_164, k1_165, k1_166⟩, ⟨k1_168, k1_167, k1_169, k1_170, k1_171, k1_172⟩, ⟨k1_174, k1_173, k1_175, k1_176, k1_177, k1_178⟩, ⟨k1_180, k1_179, k1_181, k1_182, k1_183, k1_184⟩, ⟨k1_186, k1_185, k1_187, k1_188, k1_189, k1_190⟩, ⟨k1_192, k1_191, k1_193, k1_194, k1_195, k1_196⟩, ⟨k1_198, k1_197, k1_199, k1_200, k1_201, k1_202⟩, ⟨k1_204, k1_203, k1_205, k1_206, k1_207, k1_208⟩, ⟨k1_210, k1_209, k1_211, k1_212, k1_213, k1_214⟩, ⟨k1_216, k1_215, k1_217, k1_218, k1_219, k1_220⟩⟩⟩, k1_1, k1_2, k1_3, k1_4, k1_5, k1_6, k1_7, k1_8, k1_9, k1_10, k1_11, k1_12, k1_13, k1_0, k1_14, k1_15, k1_16, k1_17, k1_156, k1_157, k1_158, k1_159, k1_160, k1_221, k1_222, k1_223, k1_224, k1_225, k1_226, k1_227, k1_228, k1_229, k1_230, k1_231, k1_232, k1_233, k1_234, k1_235, k1_236, k1_237, k1_238, k1_239, k1_240, k1_241, k1_242, k1_243, -⟩ := hp1
  obtain ⟨-, k2_0, k2_1, k2_2, k2_3, k2_4, k2_5, k2_6, k2_7, k2_8, k2_9, k2_10, k2_11, k2_12, k2_13, k2_14, k2_15, k2_16, k2_17, k2_18, k2_19, k2_20, k2_21, k2_22, k2_23, k2_24, k2_25, k2_26, k2_27, k2_28, k2_29, k2_30, k2_31, k2_32, k2_33, k2_34, k2_35, k2_36, k2_37, k2_38, k2_39, k2_40, k2_41, k2_42, k2_43, k2_44, k2_45, k2_46, k2_47, k2_48, k2_49, k2_50, k2_51, k2_52, k2_53, k2_54, k2_55, k2_56, k2_57, k2_58, k2_59, k2_60, k2_61, k2_62, k2_63, k2_64, k2_65, k2_66, k2_67, k2_68, k2_69, k2_70, k2_71, k2_72, k2_73, k2_74, k2_75, k2_76, k2_77, k2_78, k2_79, -⟩ := hp2
  have g1 : ∀ r : Nat, r < 245 → ∀ (a : Nat) (H : Heap), va_at G.1 vwCl (a, va_up w3 244 (.inl (G.2.1 5, 1, .inr (.inl (fun _ => 0)))) r) H → va_at G.1 vwCl (a, jm_c wd1 G (va_up ad3 244 ao) M0a r) H := fun r hr a H h => match r, hr, h with
    | 0, _, h => by rw [← z1_0 G (va_up ad3 244 ao)]; rw [show va_up w3 244 _ 0 = _ from k1_0] at h; exact h
    | 1, _, h => by rw [← z1_1 G (va_up ad3 244 ao)]; rw [show va_up w3 244 _ 1 = _ from k1_1] at h; exact h
    | 2, _, h => by rw [← z1_2 G (va_up ad3 244 ao)]; rw [show va_up w3 244 _ 2 = _ from k1_2] at h; exact h
    | 3, _, h => by rw [← z1_3 G (va_up ad3 244 ao)]; rw [show va_up w3 244 _ 3 = _ from k1_3] at h; exact h
    | 4, _, h => by rw [← z1_4 G (va_up ad3 244 ao)]; rw [show va_up w3 244 _ 4 = _ from k1_4] at h; exact h
    | 5, _, h => by rw [← z1_5 G (va_up ad3 244 ao)]; rw [show va_up w3 244 _ 5 = _ from k1_5] at h; exact h
    | 6, _, h => by rw [← z1_6 G (va_up ad3 244 ao)]; rw [show va_up w3 244 _ 6 = _ from k1_6] at h; exact h
    | 7, _, h => by rw [← z1_7 G (va_up ad3 244 ao)]; rw [show va_up w3 244 _ 7 = _ from k1_7] at h; exact h
    | 8, _, h => by rw [← z1_8 G (va_up ad3 244 ao)]; rw [show va_up w3 244 _ 8 = _ from k1_8] at h; exact h
    | 9, _, h => by rw [← z1_9 G (va_up ad3 244 ao)]; rw [show va_up w3 244 _ 9 = _ from k1_9] at h; exact h
    | 10, _, h => by rw [← z1_10 G (va_up ad3 244 ao)]; rw [show va_up w3 244 _ 10 = _ from k1_10] at h; exact h
    | 11, _, h => by rw [← z1_11 G (va_up ad3 244 ao)]; rw [show va_up w3 244 _ 11 = _ from k1_11] at h; exact h
    | 12, _, h => by rw [← z1_12 G (va_up ad3 244 ao)]; rw [show va_up w3 244 _ 12 = _ from k1_12] at h; exact h
    | 13, _, h => by rw [← z1_13 G (va_up ad3 244 ao)]; rw [show va_up w3 244 _ 13 = _ from k1_13] at h; exact h
    | 14, _, h => by rw [← z1_14 G (va_up ad3 244 ao)]; rw [show va_up w3 244 _ 14 = _ from k1_14] at h; exact h
    | 15, _, h => by rw [← z1_15 G (va_up ad3 244 ao)]; rw [show va_up w3 244 _ 15 = _ from k1_15] at h; exact h
    | 16, _, h => by rw [← z1_16 G (va_up ad3 244 ao)]; rw [show va_up w3 244 _ 16 = _ from k1_16] at h; exact h
    | 17, _, h => by rw [← z1_17 G (va_up ad3 244 ao)]; rw [show va_up w3 244 _ 17 = _ from k1_17] at h; exact h
    | 18, _, h => by rw [← z1_18 G (va_up ad3 244 ao)]; rw [show va_up w3 244 _ 18 = _ from k1_18] at h; exact h
    | 19, _, h => by rw [← z1_19 G (va_up ad3 244 ao)]; rw [show va_up w3 244 _ 19 = _ from k1_19] at h; exact h
    | 20, _, h => by rw [← z1_20 G (va_up ad3 244 ao)]; rw [show va_up w3 244 _ 20 = _ from k1_20] at h; exact h
    | 21, _, h => by rw [← z1_21 G (va_up ad3 244 ao)]; rw [show va_up w3 244 _ 21 = _ from k1_21] at h; exact h
    | 22, _, h => by rw [← z1_22 G (va_up ad3 244 ao)]; rw [show va_up w3 244 _ 22 = _ from k1_22] at h; exact h
    | 23, _, h => by rw [← z1_23 G (va_up ad3 244 ao)]; rw [show va_up w3 244 _ 23 = _ from k1_23] at h; exact h
    | 24, _, h => by rw [← z1_24 G (va_up ad3 244 ao)]; rw [show va_up w3 244 _ 24 = _ from k1_24] at h; exact h
    | 25, _, h => by rw [← z1_25 G (va_up ad3 244 ao)]; rw [show va_up w3 244 _ 25 = _ from k1_25] at h; exact h
    | 26, _, h => by rw [← z1_26 G (va_up ad3 244 ao)]; rw [show va_up w3 244 _ 26 = _ from k1_26] at h; exact h
    | 27, _, h => by rw [← z1_27 G (va_up ad3 244 ao)]; rw [show va_up w3 244 _ 27 = _ from k1_27] at h; exact h
    | 28, _, h => by rw [← z1_28 G (va_up ad3 244 ao)]; rw [show va_up w3 244 _ 28 = _ from k1_28] at h; exact h
    | 29, _, h => by rw [← z1_29 G (va_up ad3 244 ao)]; rw [show va_up w3 244 _ 29 = _ from k1_29] at h; exact h
    | 30, _, h => by rw [← z1_30 G (va_up ad3 244 ao)]; rw [show va_up w3 244 _ 30 = _ from k1_30] at h; exact h
    | 31, _, h => by rw [← z1_31 G (va_up ad3 244 ao)]; rw [show va_up w3 244 _ 31 = _ from k1_31] at h; exact h
    | 32, _, h => by rw [← z1_32 G (va_up ad3 244 ao)]; rw [show va_up w3 244 _ 32 = _ from k1_32] at h; exact h
    | 33, _, h => by rw [← z1_33 G (va_up ad3 244 ao)]; rw [show va_up w3 244 _ 33 = _ from k1_33] at h; exact h
    | 34, _, h => by rw [← z1_34 G (va_up ad3 244 ao)]; rw [show va_up w3 244 _ 34 = _ from k1_34] at h; exact h
    | 35, _, h => by rw [← z1_35 G (va_up ad3 244 ao)]; rw [show va_up w3 244 _ 35 = _ from k1_35] at h; exact h
    | 36, _, h => by rw [← z1_36 G (va_up ad3 244 ao)]; rw [show va_up w3 244 _ 36 = _ from k1_36] at h; exact h
    | 37, _, h => by rw [← z1_37 G (va_up ad3 244 ao)]; rw [show va_up w3 244 _ 37 = _ from k1_37] at h; exact h
    | 38, _, h => by rw [← z1_38 G (va_up ad3 244 ao)]; rw [show va_up w3 244 _ 38 = _ from k1_38] at h; exact h
    | 39, _, h => by rw [← z1_39 G (va_up ad3 244 ao)]; rw [show va_up w3 244 _ 39 = _ from k1_39] at h; exact h
    | 40, _, h => by rw [← z1_40 G (va_up ad3 244 ao)]; rw [show va_up w3 244 _ 40 = _ from k1_40] at h; exact h
    | 41, _, h => by rw [← z1_41 G (va_up ad3 244 ao)]; rw [show va_up w3 244 _ 41 = _ from k1_41] at h; exact h
    | 42, _, h => by rw [← z1_42 G (va_up ad3 244 ao)]; rw [show va_up w3 244 _ 42 = _ from k1_42] at h; exact h
    | 43, _, h => by rw [← z1_43 G (va_up ad3 244 ao)]; rw [show va_up w3 244 _ 43 = _ from k1_43] at h; exact h
    | 44, _, h => by rw [← z1_44 G (va_up ad3 244 ao)]; rw [show va_up w3 244 _ 44 = _ from k1_44] at h; exact h
    | 45, _, h => by rw [← z1_45 G (va_up ad3 244 ao)]; rw [show va_up w3 244 _ 45 = _ from k1_45] at h; exact h
    | 46, _, h => by rw [← z1_46 G (va_up ad3 244 ao)]; rw [show va_up w3 244 _ 46 = _ from k1_46] at h; exact h
    | 47, _, h => by rw [← z1_47 G (va_up ad3 244 ao)]; rw [show va_up w3 244 _ 47 = _ from k1_47] at h; exact h
    | 48, _, h => by rw [← z1_48 G (va_up ad3 244 ao)]; rw [show va_up w3 244 _ 48 = _ from k1_48] at h; exact h
    | 49, _, h => by rw [← z1_49 G (va_up ad3 244 ao)]; rw [show va_up w3 244 _ 49 = _ from k1_49] at h; exact h
    | 50, _, h => by rw [← z1_50 G (va_up ad3 244 ao)]; rw [show va_up w3 244 _ 50 = _ from k1_50] at h; exact h
    | 51, _, h => by rw [← z1_51 G (va_up ad3 244 ao)]; rw [show va_up w3 244 _ 51 = _ from k1_51] at h; exact h
    | 52, _, h => by rw [← z1_52 G (va_up ad3 244 ao)]; rw [show va_up w3 244 _ 52 = _ from k1_52] at h; exact h
    | 53, _, h => by rw [← z1_53 G (va_up ad3 244 ao)]; rw [show va_up w3 244 _ 53 = _ from k1_53] at h; exact h
    | 54, _, h => by rw [← z1_54 G (va_up ad3 244 ao)]; rw [show va_up w3 244 _ 54 = _ from k1_54] at h; exact h
    | 55, _, h => by rw [← z1_55 G (va_up ad3 244 ao)]; rw [show va_up w3 244 _ 55 = _ from k1_55] at h; exact h
    | 56, _, h => by rw [← z1_56 G (va_up ad3 244 ao)]; rw [show va_up w3 244 _ 56 = _ from k1_56] at h; exact h
    | 57, _, h => by rw [← z1_57 G (va_up ad3 244 ao)]; rw [show va_up w3 244 _ 57 = _ from k1_57] at h; exact h
    | 58, _, h => by rw [← z1_58 G (va_up ad3 244 ao)]; rw [show va_up w3 244 _ 58 = _ from k1_58] at h; exact h
    | 59, _, h => by rw [← z1_59 G (va_up ad3 244 ao)]; rw [show va_up w3 244 _ 59 = _ from k1_59] at h; exact h
    | 60, _, h => by rw [← z1_60 G (va_up ad3 244 ao)]; rw [show va_up w3 244 _ 60 = _ from k1_60] at h; exact h
    | 61, _, h => by rw [← z1_61 G (va_up ad3 244 ao)]; rw [show va_up w3 244 _ 61 = _ from k1_61] at h; exact h
    | 62, _, h => by rw [← z1_62 G (va_up ad3 244 ao)]; rw [show va_up w3 244 _ 62 = _ from k1_62] at h; exact h
    | 63, _, h => by rw [← z1_63 G (va_up ad3 244 ao)]; rw [show va_up w3 244 _ 63 = _ from k1_63] at h; exact h
    | 64, _, h => by rw [← z1_64 G (va_up ad3 244 ao)]; rw [show va_up w3 244 _ 64 = _ from k1_64] at h; exact h
    | 65, _, h => by rw [← z1_65 G (va_up ad3 244 ao)]; rw [show va_up w3 244 _ 65 = _ from k1_65] at h; exact h
    | 66, _, h => by rw [← z1_66 G (va_up ad3 244 ao)]; rw [show va_up w3 244 _ 66 = _ from k1_66] at h; exact h
    | 67, _, h => by rw [← z1_67 G (va_up ad3 244 ao)]; rw [show va_up w3 244 _ 67 = _ from k1_67] at h; exact h
    | 68, _, h => by rw [← z1_68 G (va_up ad3 244 ao)]; rw [show va_up w3 244 _ 68 = _ from k1_68] at h; exact h
    | 69, _, h => by rw [← z1_69 G (va_up ad3 244 ao)]; rw [show va_up w3 244 _ 69 = _ from k1_69] at h; exact h
    | 70, _, h => by rw [← z1_70 G (va_up ad3 244 ao)]; rw [show va_up w3 244 _ 70 = _ from k1_70] at h; exact h
    | 71, _, h => by rw [← z1_71 G (va_up ad3 244 ao)]; rw [show va_up w3 244 _ 71 = _ from k1_71] at h; exact h
    | 72, _, h => by rw [← z1_72 G (va_up ad3 244 ao)]; rw [show va_up w3 244 _ 72 = _ from k1_72] at h; exact h
    | 73, _, h => by rw [← z1_73 G (va_up ad3 244 ao)]; rw [show va_up w3 244 _ 73 = _ from k1_73] at h; exact h
    | 74, _, h => by rw [← z1_74 G (va_up ad3 244 ao)]; rw [show va_up w3 244 _ 74 = _ from k1_74] at h; exact h
    | 75, _, h => by rw [← z1_75 G (va_up ad3 244 ao)]; rw [show va_up w3 244 _ 75 = _ from k1_75] at h; exact h
    | 76, _, h => by rw [← z1_76 G (va_up ad3 244 ao)]; rw [show va_up w3 244 _ 76 = _ from k1_76] at h; exact h
    | 77, _, h => by rw [← z1_77 G (va_up ad3 244 ao)]; rw [show va_up w3 244 _ 77 = _ from k1_77] at h; exact h
    | 78, _, h => by rw [← z1_78 G (va_up ad3 244 ao)]; rw [show va_up w3 244 _ 78 = _ from k1_78] at h; exact h
    | 79, _, h => by rw [← z1_79 G (va_up ad3 244 ao)]; rw [show va_up w3 244 _ 79 = _ from k1_79] at h; exact h
    | 80, _, h => by rw [← z1_80 G (va_up ad3 244 ao)]; rw [show va_up w3 244 _ 80 = _ from k1_80] at h; exact h
    | 81, _, h => by rw [← z1_81 G (va_up ad3 244 ao)]; rw [show va_up w3 244 _ 81 = _ from k1_81] at h; exact h
    | 82, _, h => by rw [← z1_82 G (va_up ad3 244 ao)]; rw [show va_up w3 244 _ 82 = _ from k1_82] at h; exact h
    | 83, _, h => by rw [← z1_83 G (va_up ad3 244 ao)]; rw [show va_up w3 244 _ 83 = _ from k1_83] at h; exact h
    | 84, _, h => by rw [← z1_84 G (va_up ad3 244 ao)]; rw [show va_up w3 244 _ 84 = _ from k1_84] at h; exact h
    | 85, _, h => by rw [← z1_85 G (va_up ad3 244 ao)]; rw [show va_up w3 244 _ 85 = _ from k1_85] at h; exact h
    | 86, _, h => by rw [← z1_86 G (va_up ad3 244 ao)]; rw [show va_up w3 244 _ 86 = _ from k1_86] at h; exact h
    | 87, _, h => by rw [← z1_87 G (va_up ad3 244 ao)]; rw [show va_up w3 244 _ 87 = _ from k1_87] at h; exact h
    | 88, _, h => by rw [← z1_88 G (va_up ad3 244 ao)]; rw [show va_up w3 244 _ 88 = _ from k1_88] at h; exact h
    | 89, _, h => by rw [← z1_89 G (va_up ad3 244 ao)]; rw [show va_up w3 244 _ 89 = _ from k1_89] at h; exact h
    | 90, _, h => by rw [← z1_90 G (va_up ad3 244 ao)]; rw [show va_up w3 244 _ 90 = _ from k1_90] at h; exact h
    | 91, _, h => by rw [← z1_91 G (va_up ad3 244 ao)]; rw [show va_up w3 244 _ 91 = _ from k1_91] at h; exact h
    | 92, _, h => by rw [← z1_92 G (va_up ad3 244 ao)]; rw [show va_up w3 244 _ 92 = _ from k1_92] at h; exact h
    | 93, _, h => by rw [← z1_93 G (va_up ad3 244 ao)]; rw [show va_up w3 244 _ 93 = _ from k1_93] at h; exact h
    | 94, _, h => by rw [← z1_94 G (va_up ad3 244 ao)]; rw [show va_up w3 244 _ 94 = _ from k1_94] at h; exact h
    | 95, _, h => by rw [← z1_95 G (va_up ad3 244 ao)]; rw [show va_up w3 244 _ 95 = _ from k1_95] at h; exact h
    | 96, _, h => by rw [← z1_96 G (va_up ad3 244 ao)]; rw [show va_up w3 244 _ 96 = _ from k1_96] at h; exact h
    | 97, _, h => by rw [← z1_97 G (va_up ad3 244 ao)]; rw [show va_up w3 244 _ 97 = _ from k1_97] at h; exact h
    | 98, _, h => by rw [← z1_98 G (va_up ad3 244 ao)]; rw [show va_up w3 244 _ 98 = _ from k1_98] at h; exact h
    | 99, _, h => by rw [← z1_99 G (va_up ad3 244 ao)]; rw [show va_up w3 244 _ 99 = _ from k1_99] at h; exact h
    | 100, _, h => by rw [← z1_100 G (va_up ad3 244 ao)]; rw [show va_up w3 244 _ 100 = _ from k1_100] at h; exact h
    | 101, _, h => by rw [← z1_101 G (va_up ad3 244 ao)]; rw [show va_up w3 244 _ 101 = _ from k1_101] at h; exact h
    | 102, _, h => by rw [← z1_102 G (va_up ad3 244 ao)]; rw [show va_up w3 244 _ 102 = _ from k1_102] at h; exact h
    | 103, _, h => by rw [← z1_103 G (va_up ad3 244 ao)]; rw [show va_up w3 244 _ 103 = _ from k1_103] at h; exact h
    | 104, _, h => by rw [← z1_104 G (va_up ad3 244 ao)]; rw [show va_up w3 244 _ 104 = _ from k1_104] at h; exact h
    | 105, _, h => by rw [← z1_105 G (va_up ad3 244 ao)]; rw [show va_up w3 244 _ 105 = _ from k1_105] at h; exact h
    | 106, _, h => by rw [← z1_106 G (va_up ad3 244 ao)]; rw [show va_up w3 244 _ 106 = _ from k1_106] at h; exact h
    | 107, _, h => by rw [← z1_107 G (va_up ad3 244 ao)]; rw [show va_up w3 244 _ 107 = _ from k1_107] at h; exact h
    | 108, _, h => by rw [← z1_108 G (va_up ad3 244 ao)]; rw [show va_up w3 244 _ 108 = _ from k1_108] at h; exact h
    | 109, _, h => by rw [← z1_109 G (va_up ad3 244 ao)]; rw [show va_up w3 244 _ 109 = _ from k1_109] at h; exact h
    | 110, _, h => by rw [← z1_110 G (va_up ad3 244 ao)]; rw [show va_up w3 244 _ 110 = _ from k1_110] at h; exact h
    | 111, _, h => by rw [← z1_111 G (va_up ad3 244 ao)]; rw [show va_up w3 244 _ 111 = _ from k1_111] at h; exact h
    | 112, _, h => by rw [← z1_112 G (va_up ad3 244 ao)]; rw [show va_up w3 244 _ 112 = _ from k1_112] at h; exact h
    | 113, _, h => by rw [← z1_113 G (va_up ad3 244 ao)]; rw [show va_up w3 244 _ 113 = _ from k1_113] at h; exact h
    | 114, _, h => by rw [← z1_114 G (va_up ad3 244 ao)]; rw [show va_up w3 244 _ 114 = _ from k1_114] at h; exact h
    | 115, _, h => by rw [← z1_115 G (va_up ad3 244 ao)]; rw [show va_up w3 244 _ 115 = _ from k1_115] at h; exact h
    | 116, _, h => by rw [← z1_116 G (va_up ad3 244 ao)]; rw [show va_up w3 244 _ 116 = _ from k1_116] at h; exact h
    | 117, _, h => by rw [← z1_117 G (va_up ad3 244 ao)]; rw [show va_up w3 244 _ 117 = _ from k1_117] at h; exact h
    | 118, _, h => by rw [← z1_118 G (va_up ad3 244 ao)]; rw [show va_up w3 244 _ 118 = _ from k1_118] at h; exact h
    | 119, _, h => by rw [← z1_119 G (va_up ad3 244 ao)]; rw [show va_up w3 244 _ 119 = _ from k1_119] at h; exact h
    | 120, _, h => by rw [← z1_120 G (va_up ad3 244 ao)]; rw [show va_up w3 244 _ 120 = _ from k1_120] at h; exact h
    | 121, _, h => by rw [← z1_121 G (va_up ad3 244 ao)]; rw [show va_up w3 244 _ 121 = _ from k1_121] at h; exact h
    | 122, _, h => by rw [← z1_122 G (va_up ad3 244 ao)]; rw [show va_up w3 244 _ 122 = _ from k1_122] at h; exact h
    | 123, _, h => by rw [← z1_123 G (va_up ad3 244 ao)]; rw [show va_up w3 244 _ 123 = _ from k1_123] at h; exact h
    | 124, _, h => by rw [← z1_124 G (va_up ad3 244 ao)]; rw [show va_up w3 244 _ 124 = _ from k1_124] at h; exact h
    | 125, _, h => by rw [← z1_125 G (va_up ad3 244 ao)]; rw [show va_up w3 244 _ 125 = _ from k1_125] at h; exact h
    | 126, _, h => by rw [← z1_126 G (va_up ad3 244 ao)]; rw [show va_up w3 244 _ 126 = _ from k1_126] at h; exact h
    | 127, _, h => by rw [← z1_127 G (va_up ad3 244 ao)]; rw [show va_up w3 244 _ 127 = _ from k1_127] at h; exact h
    | 128, _, h => by rw [← z1_128 G (va_up ad3 244 ao)]; rw [show va_up w3 244 _ 128 = _ from k1_128] at h; exact h
    | 129, _, h => by rw [← z1_129 G (va_up ad3 244 ao)]; rw [show va_up w3 244 _ 129 = _ from k1_129] at h; exact h
    | 130, _, h => by rw [← z1_130 G (va_up ad3 244 ao)]; rw [show va_up w3 244 _ 130 = _ from k1_130] at h; exact h
    | 131, _, h => by rw [← z1_131 G (va_up ad3 244 ao)]; rw [show va_up w3 244 _ 131 = _ from k1_131] at h; exact h
    | 132, _, h => by rw [← z1_132 G (va_up ad3 244 ao)]; rw [show va_up w3 244 _ 132 = _ from k1_132] at h; exact h
    | 133, _, h => by rw [← z1_133 G (va_up ad3 244 ao)]; rw [show va_up w3 244 _ 133 = _ from k1_133] at h; exact h
    | 134, _, h => by rw [← z1_134 G (va_up ad3 244 ao)]; rw [show va_up w3 244 _ 134 = _ from k1_134] at h; exact h
    | 135, _, h => by rw [← z1_135 G (va_up ad3 244 ao)]; rw [show va_up w3 244 _ 135 = _ from k1_135] at h; exact h
    | 136, _, h => by rw [← z1_136 G (va_up ad3 244 ao)]; rw [show va_up w3 244 _ 136 = _ from k1_136] at h; exact h
    | 137, _, h => by rw [← z1_137 G (va_up ad3 244 ao)]; rw [show va_up w3 244 _ 137 = _ from k1_137] at h; exact h
    | 138, _, h => by rw [← z1_138 G (va_up ad3 244 ao)]; rw [show va_up w3 244 _ 138 = _ from k1_138] at h; exact h
    | 139, _, h => by rw [← z1_139 G (va_up ad3 244 ao)]; rw [show va_up w3 244 _ 139 = _ from k1_139] at h; exact h
    | 140, _, h => by rw [← z1_140 G (va_up ad3 244 ao)]; rw [show va_up w3 244 _ 140 = _ from k1_140] at h; exact h
    | 141, _, h => by rw [← z1_141 G (va_up ad3 244 ao)]; rw [show va_up w3 244 _ 141 = _ from k1_141] at h; exact h
    | 142, _, h => by rw [← z1_142 G (va_up ad3 244 ao)]; rw [show va_up w3 244 _ 142 = _ from k1_142] at h; exact h
    | 143, _, h => by rw [← z1_143 G (va_up ad3 244 ao)]; rw [show va_up w3 244 _ 143 = _ from k1_143] at h; exact h
    | 144, _, h => by rw [← z1_144 G (va_up ad3 244 ao)]; rw [show va_up w3 244 _ 144 = _ from k1_144] at h; exact h
    | 145, _, h => by rw [← z1_145 G (va_up ad3 244 ao)]; rw [show va_up w3 244 _ 145 = _ from k1_145] at h; exact h
    | 146, _, h => by rw [← z1_146 G (va_up ad3 244 ao)]; rw [show va_up w3 244 _ 146 = _ from k1_146] at h; exact h
    | 147, _, h => by rw [← z1_147 G (va_up ad3 244 ao)]; rw [show va_up w3 244 _ 147 = _ from k1_147] at h; exact h
    | 148, _, h => by rw [← z1_148 G (va_up ad3 244 ao)]; rw [show va_up w3 244 _ 148 = _ from k1_148] at h; exact h
    | 149, _, h => by rw [← z1_149 G (va_up ad3 244 ao)]; rw [show va_up w3 244 _ 149 = _ from k1_149] at h; exact h
    | 150, _, h => by rw [← z1_150 G (va_up ad3 244 ao)]; rw [show va_up w3 244 _ 150 = _ from k1_150] at h; exact h
    | 151, _, h => by rw [← z1_151 G (va_up ad3 244 ao)]; rw [show va_up w3 244 _ 151 = _ from k1_151] at h; exact h
    | 152, _, h => by rw [← z1_152 G (va_up ad3 244 ao)]; rw [show va_up w3 244 _ 152 = _ from k1_152] at h; exact h
    | 153, _, h => by rw [← z1_153 G (va_up ad3 244 ao)]; rw [show va_up w3 244 _ 153 = _ from k1_153] at h; exact h
    | 154, _, h => by rw [← z1_154 G (va_up ad3 244 ao)]; rw [show va_up w3 244 _ 154 = _ from k1_154] at h; exact h
    | 155, _, h => by rw [← z1_155 G (va_up ad3 244 ao)]; rw [show va_up w3 244 _ 155 = _ from k1_155] at h; exact h
    | 156, _, h => by rw [← z1_156 G (va_up ad3 244 ao)]; rw [show va_up w3 244 _ 156 = _ from k1_156] at h; exact h
    | 157, _, h => z1_157 G (va_up ad3 244 ao) a H (by rw [show va_up w3 244 _ 157 = _ from k1_157] at h; exact h)
    | 158, _, h => by rw [← z1_158 G (va_up ad3 244 ao)]; rw [show va_up w3 244 _ 158 = _ from k1_158] at h; exact h
    | 159, _, h => by rw [← z1_159 G (va_up ad3 244 ao)]; rw [show va_up w3 244 _ 159 = _ from k1_159] at h; exact h
    | 160, _, h => by rw [← z1_160 G (va_up ad3 244 ao)]; rw [show va_up w3 244 _ 160 = _ from k1_160] at h; exact h
    | 161, _, h => by rw [← z1_161 G (va_up ad3 244 ao)]; rw [show va_up w3 244 _ 161 = _ from k1_161] at h; exact h
    | 162, _, h => by rw [← z1_162 G (va_up ad3 244 ao)]; rw [show va_up w3 244 _ 162 = _ from k1_162] at h; exact h
    | 163, _, h => by rw [← z1_163 G (va_up ad3 244 ao)]; rw [show va_up w3 244 _ 163 = _ from k1_163] at h; exact h
    | 164, _, h => by rw [← z1_164 G (va_up ad3 244 ao)]; rw [show va_up w3 244 _ 164 = _ from k1_164] at h; exact h
    | 165, _, h => by rw [← z1_165 G (va_up ad3 244 ao)]; rw [show va_up w3 244 _ 165 = _ from k1_165] at h; exact h
    | 166, _, h => by rw [← z1_166 G (va_up ad3 244 ao)]; rw [show va_up w3 244 _ 166 = _ from k1_166] at h; exact h
    | 167, _, h => by rw [← z1_167 G (va_up ad3 244 ao)]; rw [show va_up w3 244 _ 167 = _ from k1_167] at h; exact h
    | 168, _, h => by rw [← z1_168 G (va_up ad3 244 ao)]; rw [show va_up w3 244 _ 168 = _ from k1_168] at h; exact h
    | 169, _, h => by rw [← z1_169 G (va_up ad3 244 ao)]; rw [show va_up w3 244 _ 169 = _ from k1_169] at h; exact h
    | 170, _, h => by rw [← z1_170 G (va_up ad3 244 ao)]; rw [show va_up w3 244 _ 170 = _ from k1_170] at h; exact h
    | 171, _, h => by rw [← z1_171 G (va_up ad3 244 ao)]; rw [show va_up w3 244 _ 171 = _ from k1_171] at h; exact h
    | 172, _, h => by rw [← z1_172 G (va_up ad3 244 ao)]; rw [show va_up w3 244 _ 172 = _ from k1_172] at h; exact h
    | 173, _, h => by rw [← z1_173 G (va_up ad3 244 ao)]; rw [show va_up w3 244 _ 173 = _ from k1_173] at h; exact h
    | 174, _, h => by rw [← z1_174 G (va_up ad3 244 ao)]; rw [show va_up w3 244 _ 174 = _ from k1_174] at h; exact h
    | 175, _, h => by rw [← z1_175 G (va_up ad3 244 ao)]; rw [show va_up w3 244 _ 175 = _ from k1_175] at h; exact h
    | 176, _, h => by rw [← z1_176 G (va_up ad3 244 ao)]; rw [show va_up w3 244 _ 176 = _ from k1_176] at h; exact h
    | 177, _, h => by rw [← z1_177 G (va_up ad3 244 ao)]; rw [show va_up w3 244 _ 177 = _ from k1_177] at h; exact h
    | 178, _, h => by rw [← z1_178 G (va_up ad3 244 ao)]; rw [show va_up w3 244 _ 178 = _ from k1_178] at h; exact h
    | 179, _, h => by rw [← z1_179 G (va_up ad3 244 ao)]; rw [show va_up w3 244 _ 179 = _ from k1_179] at h; exact h
    | 180, _, h => by rw [← z1_180 G (va_up ad3 244 ao)]; rw [show va_up w3 244 _ 180 = _ from k1_180] at h; exact h
    | 181, _, h => by rw [← z1_181 G (va_up ad3 244 ao)]; rw [show va_up w3 244 _ 181 = _ from k1_181] at h; exact h
    | 182, _, h => by rw [← z1_182 G (va_up ad3 244 ao)]; rw [show va_up w3 244 _ 182 = _ from k1_182] at h; exact h
    | 183, _, h => by rw [← z1_183 G (va_up ad3 244 ao)]; rw [show va_up w3 244 _ 183 = _ from k1_183] at h; exact h
    | 184, _, h => by rw [← z1_184 G (va_up ad3 244 ao)]; rw [show va_up w3 244 _ 184 = _ from k1_184] at h; exact h
    | 185, _, h => by rw [← z1_185 G (va_up ad3 244 ao)]; rw [show va_up w3 244 _ 185 = _ from k1_185] at h; exact h
    | 186, _, h => by rw [← z1_186 G (va_up ad3 244 ao)]; rw [show va_up w3 244 _ 186 = _ from k1_186] at h; exact h
    | 187, _, h => by rw [← z1_187 G (va_up ad3 244 ao)]; rw [show va_up w3 244 _ 187 = _ from k1_187] at h; exact h
    | 188, _, h => by rw [← z1_188 G (va_up ad3 244 ao)]; rw [show va_up w3 244 _ 188 = _ from k1_188] at h; exact h
    | 189, _, h => by rw [← z1_189 G (va_up ad3 244 ao)]; rw [show va_up w3 244 _ 189 = _ from k1_189] at h; exact h
    | 190, _, h => by rw [← z1_190 G (va_up ad3 244 ao)]; rw [show va_up w3 244 _ 190 = _ from k1_190] at h; exact h
    | 191, _, h => by rw [← z1_191 G (va_up ad3 244 ao)]; rw [show va_up w3 244 _ 191 = _ from k1_191] at h; exact h
    | 192, _, h => by rw [← z1_192 G (va_up ad3 244 ao)]; rw [show va_up w3 244 _ 192 = _ from k1_192] at h; exact h
    | 193, _, h => by rw [← z1_193 G (va_up ad3 244 ao)]; rw [show va_up w3 244 _ 193 = _ from k1_193] at h; exact h
    | 194, _, h => by rw [← z1_194 G (va_up ad3 244 ao)]; rw [show va_up w3 244 _ 194 = _ from k1_194] at h; exact h
    | 195, _, h => by rw [← z1_195 G (va_up ad3 244 ao)]; rw [show va_up w3 244 _ 195 = _ from k1_195] at h; exact h
    | 196, _, h => by rw [← z1_196 G (va_up ad3 244 ao)]; rw [show va_up w3 244 _ 196 = _ from k1_196] at h; exact h
    | 197, _, h => by rw [← z1_197 G (va_up ad3 244 ao)]; rw [show va_up w3 244 _ 197 = _ from k1_197] at h; exact h
    | 198, _, h => by rw [← z1_198 G (va_up ad3 244 ao)]; rw [show va_up w3 244 _ 198 = _ from k1_198] at h; exact h
    | 199, _, h => by rw [← z1_199 G (va_up ad3 244 ao)]; rw [show va_up w3 244 _ 199 = _ from k1_199] at h; exact h
    | 200, _, h => by rw [← z1_200 G (va_up ad3 244 ao)]; rw [show va_up w3 244 _ 200 = _ from k1_200] at h; exact h
    | 201, _, h => by rw [← z1_201 G (va_up ad3 244 ao)]; rw [show va_up w3 244 _ 201 = _ from k1_201] at h; exact h
    | 202, _, h => by rw [← z1_202 G (va_up ad3 244 ao)]; rw [show va_up w3 244 _ 202 = _ from k1_202] at h; exact h
    | 203, _, h => by rw [← z1_203 G (va_up ad3 244 ao)]; rw [show va_up w3 244 _ 203 = _ from k1_203] at h; exact h
    | 204, _, h => by rw [← z1_204 G (va_up ad3 244 ao)]; rw [show va_up w3 244 _ 204 = _ from k1_204] at h; exact h
    | 205, _, h => by rw [← z1_205 G (va_up ad3 244 ao)]; rw [show va_up w3 244 _ 205 = _ from k1_205] at h; exact h
    | 206, _, h => by rw [← z1_206 G (va_up ad3 244 ao)]; rw [show va_up w3 244 _ 206 = _ from k1_206] at h; exact h
    | 207, _, h => by rw [← z1_207 G (va_up ad3 244 ao)]; rw [show va_up w3 244 _ 207 = _ from k1_207] at h; exact h
    | 208, _, h => by rw [← z1_208 G (va_up ad3 244 ao)]; rw [show va_up w3 244 _ 208 = _ from k1_208] at h; exact h
    | 209, _, h => by rw [← z1_209 G (va_up ad3 244 ao)]; rw [show va_up w3 244 _ 209 = _ from k1_209] at h; exact h
    | 210, _, h => by rw [← z1_210 G (va_up ad3 244 ao)]; rw [show va_up w3 244 _ 210 = _ from k1_210] at h; exact h
    | 211, _, h => by rw [← z1_211 G (va_up ad3 244 ao)]; rw [show va_up w3 244 _ 211 = _ from k1_211] at h; exact h
    | 212, _, h => by rw [← z1_212 G (va_up ad3 244 ao)]; rw [show va_up w3 244 _ 212 = _ from k1_212] at h; exact h
    | 213, _, h => by rw [← z1_213 G (va_up ad3 244 ao)]; rw [show va_up w3 244 _ 213 = _ from k1_213] at h; exact h
    | 214, _, h => by rw [← z1_214 G (va_up ad3 244 ao)]; rw [show va_up w3 244 _ 214 = _ from k1_214] at h; exact h
    | 215, _, h => by rw [← z1_215 G (va_up ad3 244 ao)]; rw [show va_up w3 244 _ 215 = _ from k1_215] at h; exact h
    | 216, _, h => by rw [← z1_216 G (va_up ad3 244 ao)]; rw [show va_up w3 244 _ 216 = _ from k1_216] at h; exact h
    | 217, _, h => by rw [← z1_217 G (va_up ad3 244 ao)]; rw [show va_up w3 244 _ 217 = _ from k1_217] at h; exact h
    | 218, _, h => by rw [← z1_218 G (va_up ad3 244 ao)]; rw [show va_up w3 244 _ 218 = _ from k1_218] at h; exact h
    | 219, _, h => by rw [← z1_219 G (va_up ad3 244 ao)]; rw [show va_up w3 244 _ 219 = _ from k1_219] at h; exact h
    | 220, _, h => by rw [← z1_220 G (va_up ad3 244 ao)]; rw [show va_up w3 244 _ 220 = _ from k1_220] at h; exact h
    | 221, _, h => by rw [← z1_221 G (va_up ad3 244 ao)]; rw [show va_up w3 244 _ 221 = _ from k1_221] at h; exact h
    | 222, _, h => by rw [← z1_222 G (va_up ad3 244 ao)]; rw [show va_up w3 244 _ 222 = _ from k1_222] at h; exact h
    | 223, _, h => by rw [← z1_223 G (va_up ad3 244 ao)]; rw [show va_up w3 244 _ 223 = _ from k1_223] at h; exact h
    | 224, _, h => by rw [← z1_224 G (va_up ad3 244 ao)]; rw [show va_up w3 244 _ 224 = _ from k1_224] at h; exact h
    | 225, _, h => by rw [← z1_225 G (va_up ad3 244 ao)]; rw [show va_up w3 244 _ 225 = _ from k1_225] at h; exact h
    | 226, _, h => by rw [← z1_226 G (va_up ad3 244 ao)]; rw [show va_up w3 244 _ 226 = _ from k1_226] at h; exact h
    | 227, _, h => by rw [← z1_227 G (va_up ad3 244 ao)]; rw [show va_up w3 244 _ 227 = _ from k1_227] at h; exact h
    | 228, _, h => by rw [← z1_228 G (va_up ad3 244 ao)]; rw [show va_up w3 244 _ 228 = _ from k1_228] at h; exact h
    | 229, _, h => by rw [← z1_229 G (va_up ad3 244 ao)]; rw [show va_up w3 244 _ 229 = _ from k1_229] at h; exact h
    | 230, _, h => by rw [← z1_230 G (va_up ad3 244 ao)]; rw [show va_up w3 244 _ 230 = _ from k1_230] at h; exact h
    | 231, _, h => by rw [← z1_231 G (va_up ad3 244 ao)]; rw [show va_up w3 244 _ 231 = _ from k1_231] at h; exact h
    | 232, _, h => by rw [← z1_232 G (va_up ad3 244 ao)]; rw [show va_up w3 244 _ 232 = _ from k1_232] at h; exact h
    | 233, _, h => by rw [← z1_233 G (va_up ad3 244 ao)]; rw [show va_up w3 244 _ 233 = _ from k1_233] at h; exact h
    | 234, _, h => by rw [← z1_234 G (va_up ad3 244 ao)]; rw [show va_up w3 244 _ 234 = _ from k1_234] at h; exact h
    | 235, _, h => by rw [← z1_235 G (va_up ad3 244 ao)]; rw [show va_up w3 244 _ 235 = _ from k1_235] at h; exact h
    | 236, _, h => by rw [← z1_236 G (va_up ad3 244 ao)]; rw [show va_up w3 244 _ 236 = _ from k1_236] at h; exact h
    | 237, _, h => by rw [← z1_237 G (va_up ad3 244 ao)]; rw [show va_up w3 244 _ 237 = _ from k1_237] at h; exact h
    | 238, _, h => by rw [← z1_238 G (va_up ad3 244 ao)]; rw [show va_up w3 244 _ 238 = _ from k1_238] at h; exact h
    | 239, _, h => by rw [← z1_239 G (va_up ad3 244 ao)]; rw [show va_up w3 244 _ 239 = _ from k1_239] at h; exact h
    | 240, _, h => by rw [← z1_240 G (va_up ad3 244 ao)]; rw [show va_up w3 244 _ 240 = _ from k1_240] at h; exact h
    | 241, _, h => by rw [← z1_241 G (va_up ad3 244 ao)]; rw [show va_up w3 244 _ 241 = _ from k1_241] at h; exact h
    | 242, _, h => by rw [← z1_242 G (va_up ad3 244 ao)]; rw [show va_up w3 244 _ 242 = _ from k1_242] at h; exact h
    | 243, _, h => by rw [← z1_243 G (va_up ad3 244 ao)]; rw [show va_up w3 244 _ 243 = _ from k1_243] at h; exact h
    | 244, _, h => h
    | r + 245, hr, _ => absurd hr (by omega)
  have g2 : ∀ r : Nat, r < 80 → ∀ (a : Nat) (H : Heap), va_at G.1 vwCl (a, w5 r) H → va_at G.1 vwCl (a, jm_c wd2 G ad5 M0b r) H := fun r hr a H h => match r, hr, h with
    | 0, _, h => by rw [← z2_0 G ad5]; rw [show w5 0 = _ from k2_0] at h; exact h
    | 1, _, h => by rw [← z2_1 G ad5]; rw [show w5 1 = _ from k2_1] at h; exact h
    | 2, _, h => by rw [← z2_2 G ad5]; rw [show w5 2 = _ from k2_2] at h; exact h
    | 3, _, h => by rw [← z2_3 G ad5]; rw [show w5 3 = _ from k2_3] at h; exact h
    | 4, _, h => by rw [← z2_4 G ad5]; rw [show w5 4 = _ from k2_4] at h; exact h
    | 5, _, h => by rw [← z2_5 G ad5]; rw [show w5 5 = _ from k2_5] at h; exact h
    | 6, _, h => by rw [← z2_6 G ad5]; rw [show w5 6 = _ from k2_6] at h; exact h
    | 7, _, h => by rw [← z2_7 G ad5]; rw [show w5 7 = _ from k2_7] at h; exact h
    | 8, _, h => by rw [← z2_8 G ad5]; rw [show w5 8 = _ from k2_8] at h; exact h
    | 9, _, h => by rw [← z2_9 G ad5]; rw [show w5 9 = _ from k2_9] at h; exact h
    | 10, _, h => by rw [← z2_10 G ad5]; rw [show w5 10 = _ from k2_10] at h; exact h
    | 11, _, h => by rw [← z2_11 G ad5]; rw [show w5 11 = _ from k2_11] at h; exact h
    | 12, _, h => by rw [← z2_12 G ad5]; rw [show w5 12 = _ from k2_12] at h; exact h
    | 13, _, h => by rw [← z2_13 G ad5]; rw [show w5 13 = _ from k2_13] at h; exact h
    | 14, _, h => by rw [← z2_14 G ad5]; rw [show w5 14 = _ from k2_14] at h; exact h
    | 15, _, h => by rw [← z2_15 G ad5]; rw [show w5 15 = _ from k2_15] at h; exact h
    | 16, _, h => by rw [← z2_16 G ad5]; rw [show w5 16 = _ from k2_16] at h; exact h
    | 17, _, h => by rw [← z2_17 G ad5]; rw [show w5 17 = _ from k2_17] at h; exact h
    | 18, _, h => by rw [← z2_18 G ad5]; rw [show w5 18 = _ from k2_18] at h; exact h
    | 19, _, h => by rw [← z2_19 G ad5]; rw [show w5 19 = _ from k2_19] at h; exact h
    | 20, _, h => by rw [← z2_20 G ad5]; rw [show w5 20 = _ from k2_20] at h; exact h
    | 21, _, h => by rw [← z2_21 G ad5]; rw [show w5 21 = _ from k2_21] at h; exact h
    | 22, _, h => by rw [← z2_22 G ad5]; rw [show w5 22 = _ from k2_22] at h; exact h
    | 23, _, h => by rw [← z2_23 G ad5]; rw [show w5 23 = _ from k2_23] at h; exact h
    | 24, _, h => by rw [← z2_24 G ad5]; rw [show w5 24 = _ from k2_24] at h; exact h
    | 25, _, h => by rw [← z2_25 G ad5]; rw [show w5 25 = _ from k2_25] at h; exact h
    | 26, _, h => by rw [← z2_26 G ad5]; rw [show w5 26 = _ from k2_26] at h; exact h
    | 27, _, h => by rw [← z2_27 G ad5]; rw [show w5 27 = _ from k2_27] at h; exact h
    | 28, _, h => by rw [← z2_28 G ad5]; rw [show w5 28 = _ from k2_28] at h; exact h
    | 29, _, h => by rw [← z2_29 G ad5]; rw [show w5 29 = _ from k2_29] at h; exact h
    | 30, _, h => by rw [← z2_30 G ad5]; rw [show w5 30 = _ from k2_30] at h; exact h
    | 31, _, h => by rw [← z2_31 G ad5]; rw [show w5 31 = _ from k2_31] at h; exact h
    | 32, _, h => by rw [← z2_32 G ad5]; rw [show w5 32 = _ from k2_32] at h; exact h
    | 33, _, h => by rw [← z2_33 G ad5]; rw [show w5 33 = _ from k2_33] at h; exact h
    | 34, _, h => by rw [← z2_34 G ad5]; rw [show w5 34 = _ from k2_34] at h; exact h
    | 35, _, h => by rw [← z2_35 G ad5]; rw [show w5 35 = _ from k2_35] at h; exact h
    | 36, _, h => by rw [← z2_36 G ad5]; rw [show w5 36 = _ from k2_36] at h; exact h
    | 37, _, h => by rw [← z2_37 G ad5]; rw [show w5 37 = _ from k2_37] at h; exact h
    | 38, _, h => by rw [← z2_38 G ad5]; rw [show w5 38 = _ from k2_38] at h; exact h
    | 39, _, h => by rw [← z2_39 G ad5]; rw [show w5 39 = _ from k2_39] at h; exact h
    | 40, _, h => by rw [← z2_40 G ad5]; rw [show w5 40 = _ from k2_40] at h; exact h
    | 41, _, h => by rw [← z2_41 G ad5]; rw [show w5 41 = _ from k2_41] at h; exact h
    | 42, _, h => by rw [← z2_42 G ad5]; rw [show w5 42 = _ from k2_42] at h; exact h
    | 43, _, h => by rw [← z2_43 G ad5]; rw [show w5 43 = _ from k2_43] at h; exact h
    | 44, _, h => by rw [← z2_44 G ad5]; rw [show w5 44 = _ from k2_44] at h; exact h
    | 45, _, h => by rw [← z2_45 G ad5]; rw [show w5 45 = _ from k2_45] at h; exact h
    | 46, _, h => by rw [← z2_46 G ad5]; rw [show w5 46 = _ from k2_46] at h; exact h
    | 47, _, h => by rw [← z2_47 G ad5]; rw [show w5 47 = _ from k2_47] at h; exact h
    | 48, _, h => by rw [← z2_48 G ad5]; rw [show w5 48 = _ from k2_48] at h; exact h
    | 49, _, h => by rw [← z2_49 G ad5]; rw [show w5 49 = _ from k2_49] at h; exact h
    | 50, _, h => by rw [← z2_50 G ad5]; rw [show w5 50 = _ from k2_50] at h; exact h
    | 51, _, h => by rw [← z2_51 G ad5]; rw [show w5 51 = _ from k2_51] at h; exact h
    | 52, _, h => by rw [← z2_52 G ad5]; rw [show w5 52 = _ from k2_52] at h; exact h
    | 53, _, h => by rw [← z2_53 G ad5]; rw [show w5 53 = _ from k2_53] at h; exact h
    | 54, _, h => by rw [← z2_54 G ad5]; rw [show w5 54 = _ from k2_54] at h; exact h
    | 55, _, h => by rw [← z2_55 G ad5]; rw [show w5 55 = _ from k2_55] at h; exact h
    | 56, _, h => by rw [← z2_56 G ad5]; rw [show w5 56 = _ from k2_56] at h; exact h
    | 57, _, h => by rw [← z2_57 G ad5]; rw [show w5 57 = _ from k2_57] at h; exact h
    | 58, _, h => by rw [← z2_58 G ad5]; rw [show w5 58 = _ from k2_58] at h; exact h
    | 59, _, h => by rw [← z2_59 G ad5]; rw [show w5 59 = _ from k2_59] at h; exact h
    | 60, _, h => by rw [← z2_60 G ad5]; rw [show w5 60 = _ from k2_60] at h; exact h
    | 61, _, h => by rw [← z2_61 G ad5]; rw [show w5 61 = _ from k2_61] at h; exact h
    | 62, _, h => by rw [← z2_62 G ad5]; rw [show w5 62 = _ from k2_62] at h; exact h
    | 63, _, h => by rw [← z2_63 G ad5]; rw [show w5 63 = _ from k2_63] at h; exact h
    | 64, _, h => by rw [← z2_64 G ad5]; rw [show w5 64 = _ from k2_64] at h; exact h
    | 65, _, h => by rw [← z2_65 G ad5]; rw [show w5 65 = _ from k2_65] at h; exact h
    | 66, _, h => by rw [← z2_66 G ad5]; rw [show w5 66 = _ from k2_66] at h; exact h
    | 67, _, h => by rw [← z2_67 G ad5]; rw [show w5 67 = _ from k2_67] at h; exact h
    | 68, _, h => by rw [← z2_68 G ad5]; rw [show w5 68 = _ from k2_68] at h; exact h
    | 69, _, h => by rw [← z2_69 G ad5]; rw [show w5 69 = _ from k2_69] at h; exact h
    | 70, _, h => by rw [← z2_70 G ad5]; rw [show w5 70 = _ from k2_70] at h; exact h
    | 71, _, h => by rw [← z2_71 G ad5]; rw [show w5 71 = _ from k2_71] at h; exact h
    | 72, _, h => by rw [← z2_72 G ad5]; rw [show w5 72 = _ from k2_72] at h; exact h
    | 73, _, h => by rw [← z2_73 G ad5]; rw [show w5 73 = _ from k2_73] at h; exact h
    | 74, _, h => by rw [← z2_74 G ad5]; rw [show w5 74 = _ from k2_74] at h; exact h
    | 75, _, h => by rw [← z2_75 G ad5]; rw [show w5 75 = _ from k2_75] at h; exact h
    | 76, _, h => by rw [← z2_76 G ad5]; rw [show w5 76 = _ from k2_76] at h; exact h
    | 77, _, h => by rw [← z2_77 G ad5]; rw [show w5 77 = _ from k2_77] at h; exact h
    | 78, _, h => by rw [← z2_78 G ad5]; rw [show w5 78 = _ from k2_78] at h; exact h
    | 79, _, h => by rw [← z2_79 G ad5]; rw [show w5 79 = _ from k2_79] at h; exact h
    | r + 80, hr, _ => absurd hr (by omega)
  have h2 := tw_2.congr h2 g1 g2
  refine law_loop (ad1 := va_up ad3 244 ao) (ad2 := ad5) hst F hr hlk hX hbl hL 513 0 M0a M0b H locs _ _ ls (by decide) (Nat.zero_le _) m0_IY h2 hl (Nat.le_of_ble_eq_true rfl) (Nat.le_of_ble_eq_true rfl)
