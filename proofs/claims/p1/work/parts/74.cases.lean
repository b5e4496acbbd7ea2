set_option maxHeartbeats 4000000 in
set_option maxRecDepth 100000 in
theorem law_case_14 {p : Program} {l : Launch} {e : Env} {s : State} {m : MethodId} {below : List Frame} {meth : Method} {c : Code} {G : tw_G} {b : Nat} {xs : Nat → Int32} (hst : l.stackTraces = false) (F : tw_F p m c code 7 s #[Value.ref b] RL G (fun q => s.heap.size ≤ q)) (hr : meth.sig.returnType = ret) (hlk : meth.locks = false) (hX : va_X b 7 xs s s.heap) (hbl : b < s.heap.size) {ad1 ad2 : Nat → Nat} {w1 w2 : Nat → va_E} {ao : Nat} (k1_0 : w1 0 = .inr (11, [.ref (ad1 4), .ref (ad1 14), .ref (ad1 156), .ref (ad1 221), .ref (ad1 225), .ref (ad1 233), .ref (ad1 236), .int (0 : Int32), .ref (ad1 237), .int (0 : Int32), .ref (ad1 238)])) (k1_14 : w1 14 = .inr (2, [.ref (ad1 4), .ref (ad1 1), .ref (ad1 15), .ref (ad1 16), .ref (ad1 17), .int (0 : Int32), .int (0 : Int32), .int (0 : Int32)])) (k2_0 : w2 0 = .inr (12, [.int (0 : Int32), .int (2 : Int32), .int (1 : Int32), .ref (ad2 1), .ref (ad2 2), .ref (ad2 3), .ref (ad2 4), .ref (ad2 5), .int (0 : Int32), .ref (ad2 6), .ref (ad2 7), .ref (ad2 8), .int (0 : Int32), .ref (ad2 9), .ref (ad2 10), .ref (ad2 11), .ref (ad2 12), .int (0 : Int32), .ref (ad2 13), .ref (ad2 14), .ref (ad2 15), .ref (ad2 16), .ref (ad2 17), .ref (ad2 18), .ref (ad2 19), .ref (ad2 20), .ref (ad2 21), .ref (ad2 22), .ref (ad2 23), .ref (ad2 24), .ref (ad2 25), .ref (ad2 26), .ref (ad2 27), .ref (ad2 28), .ref (ad2 29), .ref (ad2 30), .ref (ad2 31), .ref (ad2 32), .ref (ad2 33), .ref (ad2 34), .int (0 : Int32), .int (0 : Int32), .int (0 : Int32), .ref (G.2.2 (100 + 10)), .ref (ad2 35), .ref (ad2 36), .ref (ad2 37), .int (0 : Int32), .ref (ad2 38), .ref (ad2 39), .ref (ad2 40), .ref (ad2 41), .ref (ad2 42), .ref (ad2 43), .ref (ad2 44), .ref (ad2 45), .ref (ad2 46), .ref (ad2 47), .ref (ad2 48), .ref (ad2 49), .ref (ad2 50), .ref (ad2 51), .ref (ad2 52), .ref (ad2 53), .ref (ad2 54), .ref (ad2 55), .ref (ad2 56), .ref (ad2 57), .ref (ad2 58), .ref (ad2 59), .int (0 : Int32), .ref (ad2 60), .int (0 : Int32), .ref (ad2 61), .ref (ad2 62), .int (0 : Int32), .ref (ad2 63), .ref (ad2 64), .ref (ad2 65), .ref (ad2 66), .ref (ad2 67), .ref (ad2 68), .int (0 : Int32), .ref (ad2 69), .ref (ad2 70), .ref (ad2 71), .ref (ad2 72), .ref (ad2 73), .int (0 : Int32), .int (0 : Int32), .int (0 : Int32), .ref (ad2 74), .ref (ad2 75), .ref (ad2 76), .ref (ad2 77), .ref (ad2 78), .ref (ad2 79)])) {H : Heap} {locs : List Loc} (h2 : tw_2 G 244 ad1 w1 80 ad2 w2 (fun q => s.heap.size ≤ q) s H locs) {ls : Array Slot} (hl : lv_has ls 7 [(4, .int (0 : Int32)), (3, .ref ao), (2, .ref (ad2 0)), (1, .ref (ad1 0)), (0, .ref b)]) {cells slots : Nat} (h3 : cells ≤ 1000) (h4 : slots ≤ 20000) : W p l e room_1 s m #[Value.ref b] below meth c H locs cells slots (lw_Z below #[Value.ref b] s) (F0 m 868 ls []) := by
  refine W.widen (k := 1000) (n := 20000) h3 h4 ?_
  have hx := F.1.1
  have hb := F.1.2.1
  have hbA : ¬ (fun q : Nat => s.heap.size ≤ q) b := Nat.not_le.mpr hbl
  refine lv_aload_n hx hb dL_law_868 rfl (lv_at hl 3 rfl) ?_
  refine lv_aload_n hx hb dL_law_869 rfl (lv_at hl 4 rfl) ?_
  refine lv_iload hx hb dL_law_870 (lv_at hl 0 rfl) ?_
  refine lv_iconst (v := 1) hx hb dL_law_872 (by decide) ?_
  refine lv_iadd hx hb dL_law_873 ?_
  refine tw_cv (v := (1 : Int32)) (by decide) ?_
  refine va_sld hx hb hX hbl hbA h2.1.2.2 (tw_ix (j := 1) (by decide) (by decide)).1 dL_law_874 ?_
  refine tw_cv (v := xs 1) rfl ?_
  refine lv_aload_n hx hb dL_law_875 rfl (lv_at hl 4 rfl) ?_
  refine lv_iload hx hb dL_law_876 (lv_at hl 0 rfl) ?_
  refine lv_iconst (v := 2) hx hb dL_law_878 (by decide) ?_
  refine lv_iadd hx hb dL_law_879 ?_
  refine tw_cv (v := (2 : Int32)) (by decide) ?_
  refine va_sld hx hb hX hbl hbA h2.1.2.2 (tw_ix (j := 2) (by decide) (by decide)).1 dL_law_880 ?_
  refine tw_cv (v := xs 2) rfl ?_
  refine lv_aload_n hx hb dL_law_881 rfl (lv_at hl 1 rfl) ?_
  refine tw_calli_1 F h2 (tw_runSW (n := 4) (hh := [(0, 10, 13, 13)]) (As := [.ref (ad1 0), .int (xs 1), .int (xs 2), .ref ao]) (rest := []) F h2.1 (c_L_of l G hst ad1 w1 H.size (xs 1) ((xs 1).toInt) rfl (xs 2) ((xs 2).toInt) rfl ao k1_0 k1_14) (tw_gl kw_1252 rfl) (tw_gl kw_1253 rfl) (tw_gl kw_0 rfl) tw_g_of (by decide)  rfl rfl ⟨(Nat.le_of_ble_eq_true rfl), (Nat.le_of_ble_eq_true rfl)⟩ rfl hl.1 rfl (Nat.le_of_ble_eq_true rfl) dL_law_882 ⟨(Nat.le_of_ble_eq_true rfl), (Nat.le_of_ble_eq_true rfl)⟩) (fun r1 wv2 H locs hp3 h2 => ?_)
  obtain ⟨rfl, -, rfl⟩ := hp3
  refine lv_istore (lv' := [(5, .int (1 : Int32)), (4, .int (0 : Int32)), (3, .ref ao), (2, .ref (ad2 0)), (1, .ref (ad1 0)), (0, .ref b)]) hx hb dL_law_885 hl (by decide) rfl (fun ls hl => ?_)
  refine lv_aload_n hx hb dL_law_887 rfl (lv_at hl 3 rfl) ?_
  refine lv_aload_n hx hb dL_law_888 rfl (lv_at hl 5 rfl) ?_
  refine lv_iload hx hb dL_law_889 (lv_at hl 1 rfl) ?_
  refine lv_iconst (v := 1) hx hb dL_law_891 (by decide) ?_
  refine lv_iadd hx hb dL_law_892 ?_
  refine tw_cv (v := (1 : Int32)) (by decide) ?_
  refine va_sld hx hb hX hbl hbA h2.1.2.2 (tw_ix (j := 1) (by decide) (by decide)).1 dL_law_893 ?_
  refine tw_cv (v := xs 1) rfl ?_
  refine lv_aload_n hx hb dL_law_894 rfl (lv_at hl 5 rfl) ?_
  refine lv_iload hx hb dL_law_895 (lv_at hl 1 rfl) ?_
  refine lv_iconst (v := 2) hx hb dL_law_897 (by decide) ?_
  refine lv_iadd hx hb dL_law_898 ?_
  refine tw_cv (v := (2 : Int32)) (by decide) ?_
  refine va_sld hx hb hX hbl hbA h2.1.2.2 (tw_ix (j := 2) (by decide) (by decide)).1 dL_law_899 ?_
  refine tw_cv (v := xs 2) rfl ?_
  refine tw_calli_2 F h2 (tw_runV (r := 0) (As := [.int (xs 1), .int (xs 2)]) (rest := []) F h2.2.1 (c_X12_of l G ad2 w2 H.size (xs 1) ((xs 1).toInt) rfl (xs 2) ((xs 2).toInt) rfl k2_0) (tw_gl kw_1533 rfl) km_X12_of kv_X12_of rfl rfl ⟨(Nat.le_of_ble_eq_true rfl), (Nat.le_of_ble_eq_true rfl)⟩ (by decide) k2_0 rfl rfl hl.1 rfl (Nat.le_of_ble_eq_true rfl) dL_law_900 ⟨(Nat.le_of_ble_eq_true rfl), (Nat.le_of_ble_eq_true rfl)⟩) (fun r5 wv6 H locs hp7 h2 => ?_)
  obtain ⟨rfl, hc8, hu9, -⟩ := hp7
  refine lv_istore (lv' := [(6, .int (0 : Int32)), (5, .int (1 : Int32)), (4, .int (0 : Int32)), (3, .ref ao), (2, .ref (ad2 0)), (1, .ref (ad1 0)), (0, .ref b)]) hx hb dL_law_903 hl (by decide) rfl (fun ls hl => ?_)
  refine lv_aload_n hx hb dL_law_905 rfl (lv_at hl 4 rfl) ?_
  refine tw_calli_2 F h2 (tw_runV (r := 0) (As := []) (rest := []) F h2.2.1 (c_X12_thrown l G ad2 wv6 H.size hu9) (tw_gl kw_1341 rfl) km_X12_thrown kv_X12_thrown rfl rfl ⟨(Nat.le_of_ble_eq_true rfl), (Nat.le_of_ble_eq_true rfl)⟩ (by decide) hu9 rfl rfl hl.1 rfl (Nat.le_of_ble_eq_true rfl) dL_law_906 ⟨(Nat.le_of_ble_eq_true rfl), (Nat.le_of_ble_eq_true rfl)⟩) (fun r10 wv11 H locs hp12 h2 => ?_)
  obtain ⟨rfl, -, rfl⟩ := hp12
  refine lv_iload hx hb dL_law_909 (lv_at hl 1 rfl) ?_
  refine lv_icmp_eq (tgt := 916) hx hb dL_law_911 (by decide) (fun _ => ?_) (fun c => absurd c (by decide))
  refine lv_iload hx hb dL_law_916 (lv_at hl 1 rfl) ?_
  refine lv_if_ne (tgt := 933) hx hb dL_law_918 (by decide) (fun _ => ?_) (fun c => absurd c (by decide))
  refine lv_goto (tgt := 1975) hx hb dL_law_933 (by decide) ?_
  exact law_tail F hr hlk hX hbl h2.1.2.2 (Nat.le_of_ble_eq_true rfl) (Nat.le_of_ble_eq_true rfl) (lv_sub hl [2, 3, 4, 5, 6] rfl)
set_option maxHeartbeats 4000000 in
set_option maxRecDepth 100000 in
theorem law_case_15 {p : Program} {l : Launch} {e : Env} {s : State} {m : MethodId} {below : List Frame} {meth : Method} {c : Code} {G : tw_G} {b : Nat} {xs : Nat → Int32} (hst : l.stackTraces = false) (F : tw_F p m c code 7 s #[Value.ref b] RL G (fun q => s.heap.size ≤ q)) (hr : meth.sig.returnType = ret) (hlk : meth.locks = false) (hX : va_X b 7 xs s s.heap) (hbl : b < s.heap.size) {ad1 ad2 : Nat → Nat} {w1 w2 : Nat → va_E} {ao : Nat} (k1_0 : w1 0 = .inr (11, [.ref (ad1 4), .ref (ad1 14), .ref (ad1 156), .ref (ad1 221), .ref (ad1 225), .ref (ad1 233), .ref (ad1 236), .int (0 : Int32), .ref (ad1 237), .int (0 : Int32), .ref (ad1 238)])) (k1_14 : w1 14 = .inr (2, [.ref (ad1 4), .ref (ad1 1), .ref (ad1 15), .ref (ad1 16), .ref (ad1 17), .int (0 : Int32), .int (0 : Int32), .int (0 : Int32)])) (k2_0 : w2 0 = .inr (12, [.int (0 : Int32), .int (2 : Int32), .int (1 : Int32), .ref (ad2 1), .ref (ad2 2), .ref (ad2 3), .ref (ad2 4), .ref (ad2 5), .int (0 : Int32), .ref (ad2 6), .ref (ad2 7), .ref (ad2 8), .int (0 : Int32), .ref (ad2 9), .ref (ad2 10), .ref (ad2 11), .ref (ad2 12), .int (0 : Int32), .ref (ad2 13), .ref (ad2 14), .ref (ad2 15), .ref (ad2 16), .ref (ad2 17), .ref (ad2 18), .ref (ad2 19), .ref (ad2 20), .ref (ad2 21), .ref (ad2 22), .ref (ad2 23), .ref (ad2 24), .ref (ad2 25), .ref (ad2 26), .ref (ad2 27), .ref (ad2 28), .ref (ad2 29), .ref (ad2 30), .ref (ad2 31), .ref (ad2 32), .ref (ad2 33), .ref (ad2 34), .int (0 : Int32), .int (0 : Int32), .int (0 : Int32), .ref (G.2.2 (100 + 10)), .ref (ad2 35), .ref (ad2 36), .ref (ad2 37), .int (0 : Int32), .ref (ad2 38), .ref (ad2 39), .ref (ad2 40), .ref (ad2 41), .ref (ad2 42), .ref (ad2 43), .ref (ad2 44), .ref (ad2 45), .ref (ad2 46), .ref (ad2 47), .ref (ad2 48), .ref (ad2 49), .ref (ad2 50), .ref (ad2 51), .ref (ad2 52), .ref (ad2 53), .ref (ad2 54), .ref (ad2 55), .ref (ad2 56), .ref (ad2 57), .ref (ad2 58), .ref (ad2 59), .int (0 : Int32), .ref (ad2 60), .int (0 : Int32), .ref (ad2 61), .ref (ad2 62), .int (0 : Int32), .ref (ad2 63), .ref (ad2 64), .ref (ad2 65), .ref (ad2 66), .ref (ad2 67), .ref (ad2 68), .int (0 : Int32), .ref (ad2 69), .ref (ad2 70), .ref (ad2 71), .ref (ad2 72), .ref (ad2 73), .int (0 : Int32), .int (0 : Int32), .int (0 : Int32), .ref (ad2 74), .ref (ad2 75), .ref (ad2 76), .ref (ad2 77), .ref (ad2 78), .ref (ad2 79)])) {H : Heap} {locs : List Loc} (h2 : tw_2 G 244 ad1 w1 80 ad2 w2 (fun q => s.heap.size ≤ q) s H locs) {ls : Array Slot} (hl : lv_has ls 7 [(4, .int (0 : Int32)), (3, .ref ao), (2, .ref (ad2 0)), (1, .ref (ad1 0)), (0, .ref b)]) {cells slots : Nat} (h3 : cells ≤ 1000) (h4 : slots ≤ 20000) : W p l e room_1 s m #[Value.ref b] below meth c H locs cells slots (lw_Z below #[Value.ref b] s) (F0 m 936 ls []) := by
  refine W.widen (k := 1000) (n := 20000) h3 h4 ?_
  have hx := F.1.1
  have hb := F.1.2.1
  have hbA : ¬ (fun q : Nat => s.heap.size ≤ q) b := Nat.not_le.mpr hbl
  refine lv_aload_n hx hb dL_law_936 rfl (lv_at hl 3 rfl) ?_
  refine lv_aload_n hx hb dL_law_937 rfl (lv_at hl 4 rfl) ?_
  refine lv_iload hx hb dL_law_938 (lv_at hl 0 rfl) ?_
  refine lv_iconst (v := 1) hx hb dL_law_940 (by decide) ?_
  refine lv_iadd hx hb dL_law_941 ?_
  refine tw_cv (v := (1 : Int32)) (by decide) ?_
  refine va_sld hx hb hX hbl hbA h2.1.2.2 (tw_ix (j := 1) (by decide) (by decide)).1 dL_law_942 ?_
  refine tw_cv (v := xs 1) rfl ?_
  refine lv_aload_n hx hb dL_law_943 rfl (lv_at hl 4 rfl) ?_
  refine lv_iload hx hb dL_law_944 (lv_at hl 0 rfl) ?_
  refine lv_iconst (v := 2) hx hb dL_law_946 (by decide) ?_
  refine lv_iadd hx hb dL_law_947 ?_
  refine tw_cv (v := (2 : Int32)) (by decide) ?_
  refine va_sld hx hb hX hbl hbA h2.1.2.2 (tw_ix (j := 2) (by decide) (by decide)).1 dL_law_948 ?_
  refine tw_cv (v := xs 2) rfl ?_
  refine lv_aload_n hx hb dL_law_949 rfl (lv_at hl 4 rfl) ?_
  refine lv_iload hx hb dL_law_950 (lv_at hl 0 rfl) ?_
  refine lv_iconst (v := 3) hx hb dL_law_952 (by decide) ?_
  refine lv_iadd hx hb dL_law_953 ?_
  refine tw_cv (v := (3 : Int32)) (by decide) ?_
  refine va_sld hx hb hX hbl hbA h2.1.2.2 (tw_ix (j := 3) (by decide) (by decide)).1 dL_law_954 ?_
  refine tw_cv (v := xs 3) rfl ?_
  refine tw_calli_1 F h2 (tw_runV (r := 0) (As := [.int (xs 1), .int (xs 2), .int (xs 3)]) (rest := []) F h2.1 (c_X11_at l G ad1 w1 H.size (xs 1) ((xs 1).toInt) rfl (xs 2) ((xs 2).toInt) rfl (xs 3) ((xs 3).toInt) rfl k1_0 k1_14) (tw_gl kw_848 rfl) km_X11_at kv_X11_at rfl rfl ⟨(Nat.le_of_ble_eq_true rfl), (Nat.le_of_ble_eq_true rfl)⟩ (by decide) k1_0 rfl rfl hl.1 rfl (Nat.le_of_ble_eq_true rfl) dL_law_955 ⟨(Nat.le_of_ble_eq_true rfl), (Nat.le_of_ble_eq_true rfl)⟩) (fun r1 wv2 H locs hp3 h2 => ?_)
  obtain ⟨rfl, hc4⟩ := hp3
  refine lv_aload_n hx hb dL_law_958 rfl (lv_at hl 2 rfl) ?_
  refine lv_aload_n hx hb dL_law_959 rfl (lv_at hl 4 rfl) ?_
  refine lv_iload hx hb dL_law_960 (lv_at hl 0 rfl) ?_
  refine lv_iconst (v := 1) hx hb dL_law_962 (by decide) ?_
  refine lv_iadd hx hb dL_law_963 ?_
  refine tw_cv (v := (1 : Int32)) (by decide) ?_
  refine va_sld hx hb hX hbl hbA h2.1.2.2 (tw_ix (j := 1) (by decide) (by decide)).1 dL_law_964 ?_
  refine tw_cv (v := xs 1) rfl ?_
  refine lv_aload_n hx hb dL_law_965 rfl (lv_at hl 4 rfl) ?_
  refine lv_iload hx hb dL_law_966 (lv_at hl 0 rfl) ?_
  refine lv_iconst (v := 2) hx hb dL_law_968 (by decide) ?_
  refine lv_iadd hx hb dL_law_969 ?_
  refine tw_cv (v := (2 : Int32)) (by decide) ?_
  refine va_sld hx hb hX hbl hbA h2.1.2.2 (tw_ix (j := 2) (by decide) (by decide)).1 dL_law_970 ?_
  refine tw_cv (v := xs 2) rfl ?_
  refine lv_aload_n hx hb dL_law_971 rfl (lv_at hl 4 rfl) ?_
  refine lv_iload hx hb dL_law_972 (lv_at hl 0 rfl) ?_
  refine lv_iconst (v := 3) hx hb dL_law_974 (by decide) ?_
  refine lv_iadd hx hb dL_law_975 ?_
  refine tw_cv (v := (3 : Int32)) (by decide) ?_
  refine va_sld hx hb hX hbl hbA h2.1.2.2 (tw_ix (j := 3) (by decide) (by decide)).1 dL_law_976 ?_
  refine tw_cv (v := xs 3) rfl ?_
  refine tw_calli_2 F h2 (tw_runV (r := 0) (As := [.int (xs 1), .int (xs 2), .int (xs 3)]) (rest := [.int (-1 : Int32)]) F h2.2.1 (c_X12_at l G ad2 w2 H.size (xs 1) ((xs 1).toInt) rfl (xs 2) ((xs 2).toInt) rfl (xs 3) ((xs 3).toInt) rfl k2_0) (tw_gl kw_1627 rfl) km_X12_at kv_X12_at rfl rfl ⟨(Nat.le_of_ble_eq_true rfl), (Nat.le_of_ble_eq_true rfl)⟩ (by decide) k2_0 rfl rfl hl.1 rfl (Nat.le_of_ble_eq_true rfl) dL_law_977 ⟨(Nat.le_of_ble_eq_true rfl), (Nat.le_of_ble_eq_true rfl)⟩) (fun r5 wv6 H locs hp7 h2 => ?_)
  obtain ⟨rfl, hc8⟩ := hp7
  refine lv_icmp_eq (tgt := 1975) hx hb dL_law_980 (by decide) (fun _ => ?_) (fun c => absurd c (by decide))
  exact law_tail F hr hlk hX hbl h2.1.2.2 (Nat.le_of_ble_eq_true rfl) (Nat.le_of_ble_eq_true rfl) (lv_sub hl [0, 1, 2, 3, 4] rfl)
set_option maxHeartbeats 4000000 in
set_option maxRecDepth 100000 in
theorem law_case_16 {p : Program} {l : Launch} {e : Env} {s : State} {m : MethodId} {below : List Frame} {meth : Method} {c : Code} {G : tw_G} {b : Nat} {xs : Nat → Int32} (hst : l.stackTraces = false) (F : tw_F p m c code 7 s #[Value.ref b] RL G (fun q => s.heap.size ≤ q)) (hr : meth.sig.returnType = ret) (hlk : meth.locks = false) (hX : va_X b 7 xs s s.heap) (hbl : b < s.heap.size) {ad1 ad2 : Nat → Nat} {w1 w2 : Nat → va_E} {ao : Nat} (k1_0 : w1 0 = .inr (11, [.ref (ad1 4), .ref (ad1 14), .ref (ad1 156), .ref (ad1 221), .ref (ad1 225), .ref (ad1 233), .ref (ad1 236), .int (0 : Int32), .ref (ad1 237), .int (0 : Int32), .ref (ad1 238)])) (k1_4 : w1 4 = .inr (9, [.int (2 : Int32), .int (1 : Int32), .ref (ad1 5), .ref (ad1 6), .ref (ad1 7), .ref (ad1 8), .ref (ad1 9), .ref (ad1 10), .ref (ad1 12)])) (k1_14 : w1 14 = .inr (2, [.ref (ad1 4), .ref (ad1 1), .ref (ad1 15), .ref (ad1 16), .ref (ad1 17), .int (0 : Int32), .int (0 : Int32), .int (0 : Int32)])) (k2_0 : w2 0 = .inr (12, [.int (0 : Int32), .int (2 : Int32), .int (1 : Int32), .ref (ad2 1), .ref (ad2 2), .ref (ad2 3), .ref (ad2 4), .ref (ad2 5), .int (0 : Int32), .ref (ad2 6), .ref (ad2 7), .ref (ad2 8), .int (0 : Int32), .ref (ad2 9), .ref (ad2 10), .ref (ad2 11), .ref (ad2 12), .int (0 : Int32), .ref (ad2 13), .ref (ad2 14), .ref (ad2 15), .ref (ad2 16), .ref (ad2 17), .ref (ad2 18), .ref (ad2 19), .ref (ad2 20), .ref (ad2 21), .ref (ad2 22), .ref (ad2 23), .ref (ad2 24), .ref (ad2 25), .ref (ad2 26), .ref (ad2 27), .ref (ad2 28), .ref (ad2 29), .ref (ad2 30), .ref (ad2 31), .ref (ad2 32), .ref (ad2 33), .ref (ad2 34), .int (0 : Int32), .int (0 : Int32), .int (0 : Int32), .ref (G.2.2 (100 + 10)), .ref (ad2 35), .ref (ad2 36), .ref (ad2 37), .int (0 : Int32), .ref (ad2 38), .ref (ad2 39), .ref (ad2 40), .ref (ad2 41), .ref (ad2 42), .ref (ad2 43), .ref (ad2 44), .ref (ad2 45), .ref (ad2 46), .ref (ad2 47), .ref (ad2 48), .ref (ad2 49), .ref (ad2 50), .ref (ad2 51), .ref (ad2 52), .ref (ad2 53), .ref (ad2 54), .ref (ad2 55), .ref (ad2 56), .ref (ad2 57), .ref (ad2 58), .ref (ad2 59), .int (0 : Int32), .ref (ad2 60), .int (0 : Int32), .ref (ad2 61), .ref (ad2 62), .int (0 : Int32), .ref (ad2 63), .ref (ad2 64), .ref (ad2 65), .ref (ad2 66), .ref (ad2 67), .ref (ad2 68), .int (0 : Int32), .ref (ad2 69), .ref (ad2 70), .ref (ad2 71), .ref (ad2 72), .ref (ad2 73), .int (0 : Int32), .int (0 : Int32), .int (0 : Int32), .ref (ad2 74), .ref (ad2 75), .ref (ad2 76), .ref (ad2 77), .ref (ad2 78), .ref (ad2 79)])) (k2_58 : w2 58 = .inl (G.2.1 0, 4, .inl (fun _ => 0))) {H : Heap} {locs : List Loc} (h2 : tw_2 G 244 ad1 w1 80 ad2 w2 (fun q => s.heap.size ≤ q) s H locs) {ls : Array Slot} (hl : lv_has ls 7 [(4, .int (0 : Int32)), (3, .ref ao), (2, .ref (ad2 0)), (1, .ref (ad1 0)), (0, .ref b)]) {cells slots : Nat} (h3 : cells ≤ 1000) (h4 : slots ≤ 20000) : W p l e room_1 s m #[Value.ref b] below meth c H locs cells slots (lw_Z below #[Value.ref b] s) (F0 m 985 ls []) := by
  refine W.widen (k := 1000) (n := 20000) h3 h4 ?_
  have hx := F.1.1
  have hb := F.1.2.1
  have hbA : ¬ (fun q : Nat => s.heap.size ≤ q) b := Nat.not_le.mpr hbl
  refine lv_aload_n hx hb dL_law_985 rfl (lv_at hl 3 rfl) ?_
  refine lv_aload_n hx hb dL_law_986 rfl (lv_at hl 4 rfl) ?_
  refine lv_iload hx hb dL_law_987 (lv_at hl 0 rfl) ?_
  refine lv_iconst (v := 1) hx hb dL_law_989 (by decide) ?_
  refine lv_iadd hx hb dL_law_990 ?_
  refine tw_cv (v := (1 : Int32)) (by decide) ?_
  refine va_sld hx hb hX hbl hbA h2.1.2.2 (tw_ix (j := 1) (by decide) (by decide)).1 dL_law_991 ?_
  refine tw_cv (v := xs 1) rfl ?_
  refine lv_aload_n hx hb dL_law_992 rfl (lv_at hl 4 rfl) ?_
  refine lv_iload hx hb dL_law_993 (lv_at hl 0 rfl) ?_
  refine lv_iconst (v := 2) hx hb dL_law_995 (by decide) ?_
  refine lv_iadd hx hb dL_law_996 ?_
  refine tw_cv (v := (2 : Int32)) (by decide) ?_
  refine va_sld hx hb hX hbl hbA h2.1.2.2 (tw_ix (j := 2) (by decide) (by decide)).1 dL_law_997 ?_
  refine tw_cv (v := xs 2) rfl ?_
  refine tw_calli_1 F h2 (tw_runV (r := 0) (As := [.int (xs 1), .int (xs 2)]) (rest := []) F h2.1 (c_X11_led l G ad1 w1 H.size (xs 1) ((xs 1).toInt) rfl (xs 2) ((xs 2).toInt) rfl k1_0 k1_4 k1_14) (tw_gl kw_1023 rfl) km_X11_led kv_X11_led rfl rfl ⟨(Nat.le_of_ble_eq_true rfl), (Nat.le_of_ble_eq_true rfl)⟩ (by decide) k1_0 rfl rfl hl.1 rfl (Nat.le_of_ble_eq_true rfl) dL_law_998 ⟨(Nat.le_of_ble_eq_true rfl), (Nat.le_of_ble_eq_true rfl)⟩) (fun r1 wv2 H locs hp3 h2 => ?_)
  obtain ⟨rfl, hc4⟩ := hp3
  refine lv_aload_n hx hb dL_law_1001 rfl (lv_at hl 2 rfl) ?_
  refine lv_aload_n hx hb dL_law_1002 rfl (lv_at hl 4 rfl) ?_
  refine lv_iload hx hb dL_law_1003 (lv_at hl 0 rfl) ?_
  refine lv_iconst (v := 1) hx hb dL_law_1005 (by decide) ?_
  refine lv_iadd hx hb dL_law_1006 ?_
  refine tw_cv (v := (1 : Int32)) (by decide) ?_
  refine va_sld hx hb hX hbl hbA h2.1.2.2 (tw_ix (j := 1) (by decide) (by decide)).1 dL_law_1007 ?_
  refine tw_cv (v := xs 1) rfl ?_
  refine lv_aload_n hx hb dL_law_1008 rfl (lv_at hl 4 rfl) ?_
  refine lv_iload hx hb dL_law_1009 (lv_at hl 0 rfl) ?_
  refine lv_iconst (v := 2) hx hb dL_law_1011 (by decide) ?_
  refine lv_iadd hx hb dL_law_1012 ?_
  refine tw_cv (v := (2 : Int32)) (by decide) ?_
  refine va_sld hx hb hX hbl hbA h2.1.2.2 (tw_ix (j := 2) (by decide) (by decide)).1 dL_law_1013 ?_
  refine tw_cv (v := xs 2) rfl ?_
  refine tw_calli_2 F h2 (tw_runV (r := 0) (As := [.int (xs 1), .int (xs 2)]) (rest := [.int (-1 : Int32)]) F h2.2.1 (c_X12_led l G ad2 w2 H.size (xs 1) ((xs 1).toInt) rfl (xs 2) ((xs 2).toInt) rfl k2_0 k2_58) (tw_gl kw_1631 rfl) km_X12_led kv_X12_led rfl rfl ⟨(Nat.le_of_ble_eq_true rfl), (Nat.le_of_ble_eq_true rfl)⟩ (by decide) k2_0 rfl rfl hl.1 rfl (Nat.le_of_ble_eq_true rfl) dL_law_1014 ⟨(Nat.le_of_ble_eq_true rfl), (Nat.le_of_ble_eq_true rfl)⟩) (fun r5 wv6 H locs hp7 h2 => ?_)
  obtain ⟨rfl, hc8⟩ := hp7
  refine lv_icmp_eq (tgt := 1975) hx hb dL_law_1017 (by decide) (fun _ => ?_) (fun c => absurd c (by decide))
  exact law_tail F hr hlk hX hbl h2.1.2.2 (Nat.le_of_ble_eq_true rfl) (Nat.le_of_ble_eq_true rfl) (lv_sub hl [0, 1, 2, 3, 4] rfl)
set_option maxHeartbeats 4000000 in
set_option maxRecDepth 100000 in
theorem law_case_17 {p : Program} {l : Launch} {e : Env} {s : State} {m : MethodId} {below : List Frame} {meth : Method} {c : Code} {G : tw_G} {b : Nat} {xs : Nat → Int32} (hst : l.stackTraces = false) (F : tw_F p m c code 7 s #[Value.ref b] RL G (fun q => s.heap.size ≤ q)) (hr : meth.sig.returnType = ret) (hlk : meth.locks = false) (hX : va_X b 7 xs s s.heap) (hbl : b < s.heap.size) {ad1 ad2 : Nat → Nat} {w1 w2 : Nat → va_E} {ao : Nat} (k1_0 : w1 0 = .inr (11, [.ref (ad1 4), .ref (ad1 14), .ref (ad1 156), .ref (ad1 221), .ref (ad1 225), .ref (ad1 233), .ref (ad1 236), .int (0 : Int32), .ref (ad1 237), .int (0 : Int32), .ref (ad1 238)])) (k1_14 : w1 14 = .inr (2, [.ref (ad1 4), .ref (ad1 1), .ref (ad1 15), .ref (ad1 16), .ref (ad1 17), .int (0 : Int32), .int (0 : Int32), .int (0 : Int32)])) (k2_0 : w2 0 = .inr (12, [.int (0 : Int32), .int (2 : Int32), .int (1 : Int32), .ref (ad2 1), .ref (ad2 2), .ref (ad2 3), .ref (ad2 4), .ref (ad2 5), .int (0 : Int32), .ref (ad2 6), .ref (ad2 7), .ref (ad2 8), .int (0 : Int32), .ref (ad2 9), .ref (ad2 10), .ref (ad2 11), .ref (ad2 12), .int (0 : Int32), .ref (ad2 13), .ref (ad2 14), .ref (ad2 15), .ref (ad2 16), .ref (ad2 17), .ref (ad2 18), .ref (ad2 19), .ref (ad2 20), .ref (ad2 21), .ref (ad2 22), .ref (ad2 23), .ref (ad2 24), .ref (ad2 25), .ref (ad2 26), .ref (ad2 27), .ref (ad2 28), .ref (ad2 29), .ref (ad2 30), .ref (ad2 31), .ref (ad2 32), .ref (ad2 33), .ref (ad2 34), .int (0 : Int32), .int (0 : Int32), .int (0 : Int32), .ref (G.2.2 (100 + 10)), .ref (ad2 35), .ref (ad2 36), .ref (ad2 37), .int (0 : Int32), .ref (ad2 38), .ref (ad2 39), .ref (ad2 40), .ref (ad2 41), .ref (ad2 42), .ref (ad2 43), .ref (ad2 44), .ref (ad2 45), .ref (ad2 46), .ref (ad2 47), .ref (ad2 48), .ref (ad2 49), .ref (ad2 50), .ref (ad2 51), .ref (ad2 52), .ref (ad2 53), .ref (ad2 54), .ref (ad2 55), .ref (ad2 56), .ref (ad2 57), .ref (ad2 58), .ref (ad2 59), .int (0 : Int32), .ref (ad2 60), .int (0 : Int32), .ref (ad2 61), .ref (ad2 62), .int (0 : Int32), .ref (ad2 63), .ref (ad2 64), .ref (ad2 65), .ref (ad2 66), .ref (ad2 67), .ref (ad2 68), .int (0 : Int32), .ref (ad2 69), .ref (ad2 70), .ref (ad2 71), .ref (ad2 72), .ref (ad2 73), .int (0 : Int32), .int (0 : Int32), .int (0 : Int32), .ref (ad2 74), .ref (ad2 75), .ref (ad2 76), .ref (ad2 77), .ref (ad2 78), .ref (ad2 79)])) {H : Heap} {locs : List Loc} (h2 : tw_2 G 244 ad1 w1 80 ad2 w2 (fun q => s.heap.size ≤ q) s H locs) {ls : Array Slot} (hl : lv_has ls 7 [(4, .int (0 : Int32)), (3, .ref ao), (2, .ref (ad2 0)), (1, .ref (ad1 0)), (0, .ref b)]) {cells slots : Nat} (h3 : cells ≤ 1000) (h4 : slots ≤ 20000) : W p l e room_1 s m #[Value.ref b] below meth c H locs cells slots (lw_Z below #[Value.ref b] s) (F0 m 1022 ls []) := by
  refine W.widen (k := 1000) (n := 20000) h3 h4 ?_
  have hx := F.1.1
  have hb := F.1.2.1
  have hbA : ¬ (fun q : Nat => s.heap.size ≤ q) b := Nat.not_le.mpr hbl
  refine lv_aload_n hx hb dL_law_1022 rfl (lv_at hl 3 rfl) ?_
  refine lv_aload_n hx hb dL_law_1023 rfl (lv_at hl 4 rfl) ?_
  refine lv_iload hx hb dL_law_1024 (lv_at hl 0 rfl) ?_
  refine lv_iconst (v := 1) hx hb dL_law_1026 (by decide) ?_
  refine lv_iadd hx hb dL_law_1027 ?_
  refine tw_cv (v := (1 : Int32)) (by decide) ?_
  refine va_sld hx hb hX hbl hbA h2.1.2.2 (tw_ix (j := 1) (by decide) (by decide)).1 dL_law_1028 ?_
  refine tw_cv (v := xs 1) rfl ?_
  refine tw_calli_1 F h2 (tw_runV (r := 0) (As := [.int (xs 1)]) (rest := []) F h2.1 (c_X11_waited l G ad1 w1 H.size (xs 1) ((xs 1).toInt) rfl k1_0 k1_14) (tw_gl kw_1035 rfl) km_X11_waited kv_X11_waited rfl rfl ⟨(Nat.le_of_ble_eq_true rfl), (Nat.le_of_ble_eq_true rfl)⟩ (by decide) k1_0 rfl rfl hl.1 rfl (Nat.le_of_ble_eq_true rfl) dL_law_1029 ⟨(Nat.le_of_ble_eq_true rfl), (Nat.le_of_ble_eq_true rfl)⟩) (fun r1 wv2 H locs hp3 h2 => ?_)
  obtain ⟨rfl, hc4⟩ := hp3
  refine lv_aload_n hx hb dL_law_1032 rfl (lv_at hl 2 rfl) ?_
  refine lv_aload_n hx hb dL_law_1033 rfl (lv_at hl 4 rfl) ?_
  refine lv_iload hx hb dL_law_1034 (lv_at hl 0 rfl) ?_
  refine lv_iconst (v := 1) hx hb dL_law_1036 (by decide) ?_
  refine lv_iadd hx hb dL_law_1037 ?_
  refine tw_cv (v := (1 : Int32)) (by decide) ?_
  refine va_sld hx hb hX hbl hbA h2.1.2.2 (tw_ix (j := 1) (by decide) (by decide)).1 dL_law_1038 ?_
  refine tw_cv (v := xs 1) rfl ?_
  refine tw_calli_2 F h2 (tw_runV (r := 0) (As := [.int (xs 1)]) (rest := [.int (-1 : Int32)]) F h2.2.1 (c_X12_waited l G ad2 w2 H.size (xs 1) ((xs 1).toInt) rfl k2_0) (tw_gl kw_1639 rfl) km_X12_waited kv_X12_waited rfl rfl ⟨(Nat.le_of_ble_eq_true rfl), (Nat.le_of_ble_eq_true rfl)⟩ (by decide) k2_0 rfl rfl hl.1 rfl (Nat.le_of_ble_eq_true rfl) dL_law_1039 ⟨(Nat.le_of_ble_eq_true rfl), (Nat.le_of_ble_eq_true rfl)⟩) (fun r5 wv6 H locs hp7 h2 => ?_)
  obtain ⟨rfl, hc8⟩ := hp7
  refine lv_icmp_eq (tgt := 1975) hx hb dL_law_1042 (by decide) (fun _ => ?_) (fun c => absurd c (by decide))
  exact law_tail F hr hlk hX hbl h2.1.2.2 (Nat.le_of_ble_eq_true rfl) (Nat.le_of_ble_eq_true rfl) (lv_sub hl [0, 1, 2, 3, 4] rfl)
set_option maxHeartbeats 4000000 in
set_option maxRecDepth 100000 in
theorem law_case_18 {p : Program} {l : Launch} {e : Env} {s : State} {m : MethodId} {below : List Frame} {meth : Method} {c : Code} {G : tw_G} {b : Nat} {xs : Nat → Int32} (hst : l.stackTraces = false) (F : tw_F p m c code 7 s #[Value.ref b] RL G (fun q => s.heap.size ≤ q)) (hr : meth.sig.returnType = ret) (hlk : meth.locks = false) (hX : va_X b 7 xs s s.heap) (hbl : b < s.heap.size) {ad1 ad2 : Nat → Nat} {w1 w2 : Nat → va_E} {ao : Nat} (k1_0 : w1 0 = .inr (11, [.ref (ad1 4), .ref (ad1 14), .ref (ad1 156), .ref (ad1 221), .ref (ad1 225), .ref (ad1 233), .ref (ad1 236), .int (0 : Int32), .ref (ad1 237), .int (0 : Int32), .ref (ad1 238)])) (k1_14 : w1 14 = .inr (2, [.ref (ad1 4), .ref (ad1 1), .ref (ad1 15), .ref (ad1 16), .ref (ad1 17), .int (0 : Int32), .int (0 : Int32), .int (0 : Int32)])) (k1_17 : w1 17 = .inl (G.2.1 0, 4, .inl (fun _ => 0))) (k1_4 : w1 4 = .inr (9, [.int (2 : Int32), .int (1 : Int32), .ref (ad1 5), .ref (ad1 6), .ref (ad1 7), .ref (ad1 8), .ref (ad1 9), .ref (ad1 10), .ref (ad1 12)])) (k2_0 : w2 0 = .inr (12, [.int (0 : Int32), .int (2 : Int32), .int (1 : Int32), .ref (ad2 1), .ref (ad2 2), .ref (ad2 3), .ref (ad2 4), .ref (ad2 5), .int (0 : Int32), .ref (ad2 6), .ref (ad2 7), .ref (ad2 8), .int (0 : Int32), .ref (ad2 9), .ref (ad2 10), .ref (ad2 11), .ref (ad2 12), .int (0 : Int32), .ref (ad2 13), .ref (ad2 14), .ref (ad2 15), .ref (ad2 16), .ref (ad2 17), .ref (ad2 18), .ref (ad2 19), .ref (ad2 20), .ref (ad2 21), .ref (ad2 22), .ref (ad2 23), .ref (ad2 24), .ref (ad2 25), .ref (ad2 26), .ref (ad2 27), .ref (ad2 28), .ref (ad2 29), .ref (ad2 30), .ref (ad2 31), .ref (ad2 32), .ref (ad2 33), .ref (ad2 34), .int (0 : Int32), .int (0 : Int32), .int (0 : Int32), .ref (G.2.2 (100 + 10)), .ref (ad2 35), .ref (ad2 36), .ref (ad2 37), .int (0 : Int32), .ref (ad2 38), .ref (ad2 39), .ref (ad2 40), .ref (ad2 41), .ref (ad2 42), .ref (ad2 43), .ref (ad2 44), .ref (ad2 45), .ref (ad2 46), .ref (ad2 47), .ref (ad2 48), .ref (ad2 49), .ref (ad2 50), .ref (ad2 51), .ref (ad2 52), .ref (ad2 53), .ref (ad2 54), .ref (ad2 55), .ref (ad2 56), .ref (ad2 57), .ref (ad2 58), .ref (ad2 59), .int (0 : Int32), .ref (ad2 60), .int (0 : Int32), .ref (ad2 61), .ref (ad2 62), .int (0 : Int32), .ref (ad2 63), .ref (ad2 64), .ref (ad2 65), .ref (ad2 66), .ref (ad2 67), .ref (ad2 68), .int (0 : Int32), .ref (ad2 69), .ref (ad2 70), .ref (ad2 71), .ref (ad2 72), .ref (ad2 73), .int (0 : Int32), .int (0 : Int32), .int (0 : Int32), .ref (ad2 74), .ref (ad2 75), .ref (ad2 76), .ref (ad2 77), .ref (ad2 78), .ref (ad2 79)])) (k2_58 : w2 58 = .inl (G.2.1 0, 4, .inl (fun _ => 0))) {H : Heap} {locs : List Loc} (h2 : tw_2 G 244 ad1 w1 80 ad2 w2 (fun q => s.heap.size ≤ q) s H locs) {ls : Array Slot} (hl : lv_has ls 7 [(4, .int (0 : Int32)), (3, .ref ao), (2, .ref (ad2 0)), (1, .ref (ad1 0)), (0, .ref b)]) {cells slots : Nat} (h3 : cells ≤ 1000) (h4 : slots ≤ 20000) : W p l e room_1 s m #[Value.ref b] below meth c H locs cells slots (lw_Z below #[Value.ref b] s) (F0 m 1047 ls []) := by
  refine W.widen (k := 1000) (n := 20000) h3 h4 ?_
  have hx := F.1.1
  have hb := F.1.2.1
  have hbA : ¬ (fun q : Nat => s.heap.size ≤ q) b := Nat.not_le.mpr hbl
  refine lv_aload_n hx hb dL_law_1047 rfl (lv_at hl 3 rfl) ?_
  refine tw_calli_1 F h2 (tw_runV (r := 0) (As := []) (rest := []) F h2.1 (c_X11_leads l G ad1 w1 H.size k1_0 k1_14 k1_17 k1_4) (tw_gl kw_1039 rfl) km_X11_leads kv_X11_leads rfl rfl ⟨(Nat.le_of_ble_eq_true rfl), (Nat.le_of_ble_eq_true rfl)⟩ (by decide) k1_0 rfl rfl hl.1 rfl (Nat.le_of_ble_eq_true rfl) dL_law_1048 ⟨(Nat.le_of_ble_eq_true rfl), (Nat.le_of_ble_eq_true rfl)⟩) (fun r1 wv2 H locs hp3 h2 => ?_)
  obtain ⟨rfl, hc4⟩ := hp3
  refine lv_aload_n hx hb dL_law_1051 rfl (lv_at hl 2 rfl) ?_
  refine tw_calli_2 F h2 (tw_runV (r := 0) (As := []) (rest := [.int (0 : Int32)]) F h2.2.1 (c_X12_leads l G ad2 w2 H.size k2_0 k2_58) (tw_gl kw_1643 rfl) km_X12_leads kv_X12_leads rfl rfl ⟨(Nat.le_of_ble_eq_true rfl), (Nat.le_of_ble_eq_true rfl)⟩ (by decide) k2_0 rfl rfl hl.1 rfl (Nat.le_of_ble_eq_true rfl) dL_law_1052 ⟨(Nat.le_of_ble_eq_true rfl), (Nat.le_of_ble_eq_true rfl)⟩) (fun r5 wv6 H locs hp7 h2 => ?_)
  obtain ⟨rfl, -⟩ := hp7
  refine lv_icmp_eq (tgt := 1975) hx hb dL_law_1055 (by decide) (fun _ => ?_) (fun c => absurd c (by decide))
  exact law_tail F hr hlk hX hbl h2.1.2.2 (Nat.le_of_ble_eq_true rfl) (Nat.le_of_ble_eq_true rfl) (lv_sub hl [0, 1, 2, 3, 4] rfl)
set_option maxHeartbeats 4000000 in
set_option maxRecDepth 100000 in
theorem law_case_19 {p : Program} {l : Launch} {e : Env} {s : State} {m : MethodId} {below : List Frame} {meth : Method} {c : Code} {G : tw_G} {b : Nat} {xs : Nat → Int32} (hst : l.stackTraces = false) (F : tw_F p m c code 7 s #[Value.ref b] RL G (fun q => s.heap.size ≤ q)) (hr : meth.sig.returnType = ret) (hlk : meth.locks = false) (hX : va_X b 7 xs s s.heap) (hbl : b < s.heap.size) {ad1 ad2 : Nat → Nat} {w1 w2 : Nat → va_E} {ao : Nat} (k1_0 : w1 0 = .inr (11, [.ref (ad1 4), .ref (ad1 14), .ref (ad1 156), .ref (ad1 221), .ref (ad1 225), .ref (ad1 233), .ref (ad1 236), .int (0 : Int32), .ref (ad1 237), .int (0 : Int32), .ref (ad1 238)])) (k1_236 : w1 236 = .inl (G.2.1 0, 100, .inl (fun _ => 0))) (k2_0 : w2 0 = .inr (12, [.int (0 : Int32), .int (2 : Int32), .int (1 : Int32), .ref (ad2 1), .ref (ad2 2), .ref (ad2 3), .ref (ad2 4), .ref (ad2 5), .int (0 : Int32), .ref (ad2 6), .ref (ad2 7), .ref (ad2 8), .int (0 : Int32), .ref (ad2 9), .ref (ad2 10), .ref (ad2 11), .ref (ad2 12), .int (0 : Int32), .ref (ad2 13), .ref (ad2 14), .ref (ad2 15), .ref (ad2 16), .ref (ad2 17), .ref (ad2 18), .ref (ad2 19), .ref (ad2 20), .ref (ad2 21), .ref (ad2 22), .ref (ad2 23), .ref (ad2 24), .ref (ad2 25), .ref (ad2 26), .ref (ad2 27), .ref (ad2 28), .ref (ad2 29), .ref (ad2 30), .ref (ad2 31), .ref (ad2 32), .ref (ad2 33), .ref (ad2 34), .int (0 : Int32), .int (0 : Int32), .int (0 : Int32), .ref (G.2.2 (100 + 10)), .ref (ad2 35), .ref (ad2 36), .ref (ad2 37), .int (0 : Int32), .ref (ad2 38), .ref (ad2 39), .ref (ad2 40), .ref (ad2 41), .ref (ad2 42), .ref (ad2 43), .ref (ad2 44), .ref (ad2 45), .ref (ad2 46), .ref (ad2 47), .ref (ad2 48), .ref (ad2 49), .ref (ad2 50), .ref (ad2 51), .ref (ad2 52), .ref (ad2 53), .ref (ad2 54), .ref (ad2 55), .ref (ad2 56), .ref (ad2 57), .ref (ad2 58), .ref (ad2 59), .int (0 : Int32), .ref (ad2 60), .int (0 : Int32), .ref (ad2 61), .ref (ad2 62), .int (0 : Int32), .ref (ad2 63), .ref (ad2 64), .ref (ad2 65), .ref (ad2 66), .ref (ad2 67), .ref (ad2 68), .int (0 : Int32), .ref (ad2 69), .ref (ad2 70), .ref (ad2 71), .ref (ad2 72), .ref (ad2 73), .int (0 : Int32), .int (0 : Int32), .int (0 : Int32), .ref (ad2 74), .ref (ad2 75), .ref (ad2 76), .ref (ad2 77), .ref (ad2 78), .ref (ad2 79)])) (k2_34 : w2 34 = .inl (G.2.1 0, 100, .inl (fun _ => 0))) {H : Heap} {locs : List Loc} (h2 : tw_2 G 244 ad1 w1 80 ad2 w2 (fun q => s.heap.size ≤ q) s H locs) {ls : Array Slot} (hl : lv_has ls 7 [(4, .int (0 : Int32)), (3, .ref ao), (2, .ref (ad2 0)), (1, .ref (ad1 0)), (0, .ref b)]) {cells slots : Nat} (h3 : cells ≤ 1000) (h4 : slots ≤ 20000) : W p l e room_1 s m #[Value.ref b] below meth c H locs cells slots (lw_Z below #[Value.ref b] s) (F0 m 1060 ls []) := by
  refine W.widen (k := 1000) (n := 20000) h3 h4 ?_
  have hx := F.1.1
  have hb := F.1.2.1
  have hbA : ¬ (fun q : Nat => s.heap.size ≤ q) b := Nat.not_le.mpr hbl
  refine lv_aload_n hx hb dL_law_1060 rfl (lv_at hl 3 rfl) ?_
  refine lv_aload_n hx hb dL_law_1061 rfl (lv_at hl 4 rfl) ?_
  refine lv_iload hx hb dL_law_1062 (lv_at hl 0 rfl) ?_
  refine lv_iconst (v := 1) hx hb dL_law_1064 (by decide) ?_
  refine lv_iadd hx hb dL_law_1065 ?_
  refine tw_cv (v := (1 : Int32)) (by decide) ?_
  refine va_sld hx hb hX hbl hbA h2.1.2.2 (tw_ix (j := 1) (by decide) (by decide)).1 dL_law_1066 ?_
  refine tw_cv (v := xs 1) rfl ?_
  refine tw_calli_1 F h2 (tw_runV (r := 0) (As := [.int (xs 1)]) (rest := []) F h2.1 (c_X11_sign l G ad1 w1 H.size (xs 1) ((xs 1).toInt) rfl k1_0 k1_236) (tw_gl kw_1043 rfl) km_X11_sign kv_X11_sign rfl rfl ⟨(Nat.le_of_ble_eq_true rfl), (Nat.le_of_ble_eq_true rfl)⟩ (by decide) k1_0 rfl rfl hl.1 rfl (Nat.le_of_ble_eq_true rfl) dL_law_1067 ⟨(Nat.le_of_ble_eq_true rfl), (Nat.le_of_ble_eq_true rfl)⟩) (fun r1 wv2 H locs hp3 h2 => ?_)
  obtain ⟨rfl, -⟩ := hp3
  refine lv_aload_n hx hb dL_law_1070 rfl (lv_at hl 2 rfl) ?_
  refine lv_aload_n hx hb dL_law_1071 rfl (lv_at hl 4 rfl) ?_
  refine lv_iload hx hb dL_law_1072 (lv_at hl 0 rfl) ?_
  refine lv_iconst (v := 1) hx hb dL_law_1074 (by decide) ?_
  refine lv_iadd hx hb dL_law_1075 ?_
  refine tw_cv (v := (1 : Int32)) (by decide) ?_
  refine va_sld hx hb hX hbl hbA h2.1.2.2 (tw_ix (j := 1) (by decide) (by decide)).1 dL_law_1076 ?_
  refine tw_cv (v := xs 1) rfl ?_
  refine tw_calli_2 F h2 (tw_runV (r := 0) (As := [.int (xs 1)]) (rest := [.int (4 : Int32)]) F h2.2.1 (c_X12_sign l G ad2 w2 H.size (xs 1) ((xs 1).toInt) rfl k2_0 k2_34) (tw_gl kw_1448 rfl) km_X12_sign kv_X12_sign rfl rfl ⟨(Nat.le_of_ble_eq_true rfl), (Nat.le_of_ble_eq_true rfl)⟩ (by decide) k2_0 rfl rfl hl.1 rfl (Nat.le_of_ble_eq_true rfl) dL_law_1077 ⟨(Nat.le_of_ble_eq_true rfl), (Nat.le_of_ble_eq_true rfl)⟩) (fun r5 wv6 H locs hp7 h2 => ?_)
  obtain ⟨rfl, -⟩ := hp7
  refine lv_icmp_eq (tgt := 1975) hx hb dL_law_1080 (by decide) (fun _ => ?_) (fun c => absurd c (by decide))
  exact law_tail F hr hlk hX hbl h2.1.2.2 (Nat.le_of_ble_eq_true rfl) (Nat.le_of_ble_eq_true rfl) (lv_sub hl [0, 1, 2, 3, 4] rfl)
set_option maxHeartbeats 4000000 in
set_option maxRecDepth 100000 in
theorem law_case_20 {p : Program} {l : Launch} {e : Env} {s : State} {m : MethodId} {below : List Frame} {meth : Method} {c : Code} {G : tw_G} {b : Nat} {xs : Nat → Int32} (hst : l.stackTraces = false) (F : tw_F p m c code 7 s #[Value.ref b] RL G (fun q => s.heap.size ≤ q)) (hr : meth.sig.returnType = ret) (hlk : meth.locks = false) (hX : va_X b 7 xs s s.heap) (hbl : b < s.heap.size) {ad1 ad2 : Nat → Nat} {w1 w2 : Nat → va_E} {ao : Nat} (k1_0 : w1 0 = .inr (11, [.ref (ad1 4), .ref (ad1 14), .ref (ad1 156), .ref (ad1 221), .ref (ad1 225), .ref (ad1 233), .ref (ad1 236), .int (0 : Int32), .ref (ad1 237), .int (0 : Int32), .ref (ad1 238)])) (k2_0 : w2 0 = .inr (12, [.int (0 : Int32), .int (2 : Int32), .int (1 : Int32), .ref (ad2 1), .ref (ad2 2), .ref (ad2 3), .ref (ad2 4), .ref (ad2 5), .int (0 : Int32), .ref (ad2 6), .ref (ad2 7), .ref (ad2 8), .int (0 : Int32), .ref (ad2 9), .ref (ad2 10), .ref (ad2 11), .ref (ad2 12), .int (0 : Int32), .ref (ad2 13), .ref (ad2 14), .ref (ad2 15), .ref (ad2 16), .ref (ad2 17), .ref (ad2 18), .ref (ad2 19), .ref (ad2 20), .ref (ad2 21), .ref (ad2 22), .ref (ad2 23), .ref (ad2 24), .ref (ad2 25), .ref (ad2 26), .ref (ad2 27), .ref (ad2 28), .ref (ad2 29), .ref (ad2 30), .ref (ad2 31), .ref (ad2 32), .ref (ad2 33), .ref (ad2 34), .int (0 : Int32), .int (0 : Int32), .int (0 : Int32), .ref (G.2.2 (100 + 10)), .ref (ad2 35), .ref (ad2 36), .ref (ad2 37), .int (0 : Int32), .ref (ad2 38), .ref (ad2 39), .ref (ad2 40), .ref (ad2 41), .ref (ad2 42), .ref (ad2 43), .ref (ad2 44), .ref (ad2 45), .ref (ad2 46), .ref (ad2 47), .ref (ad2 48), .ref (ad2 49), .ref (ad2 50), .ref (ad2 51), .ref (ad2 52), .ref (ad2 53), .ref (ad2 54), .ref (ad2 55), .ref (ad2 56), .ref (ad2 57), .ref (ad2 58), .ref (ad2 59), .int (0 : Int32), .ref (ad2 60), .int (0 : Int32), .ref (ad2 61), .ref (ad2 62), .int (0 : Int32), .ref (ad2 63), .ref (ad2 64), .ref (ad2 65), .ref (ad2 66), .ref (ad2 67), .ref (ad2 68), .int (0 : Int32), .ref (ad2 69), .ref (ad2 70), .ref (ad2 71), .ref (ad2 72), .ref (ad2 73), .int (0 : Int32), .int (0 : Int32), .int (0 : Int32), .ref (ad2 74), .ref (ad2 75), .ref (ad2 76), .ref (ad2 77), .ref (ad2 78), .ref (ad2 79)])) {H : Heap} {locs : List Loc} (h2 : tw_2 G 244 ad1 w1 80 ad2 w2 (fun q => s.heap.size ≤ q) s H locs) {ls : Array Slot} (hl : lv_has ls 7 [(4, .int (0 : Int32)), (3, .ref ao), (2, .ref (ad2 0)), (1, .ref (ad1 0)), (0, .ref b)]) {cells slots : Nat} (h3 : cells ≤ 1000) (h4 : slots ≤ 20000) : W p l e room_1 s m #[Value.ref b] below meth c H locs cells slots (lw_Z below #[Value.ref b] s) (F0 m 1085 ls []) := by
  refine W.widen (k := 1000) (n := 20000) h3 h4 ?_
  have hx := F.1.1
  have hb := F.1.2.1
  have hbA : ¬ (fun q : Nat => s.heap.size ≤ q) b := Nat.not_le.mpr hbl
  refine lv_aload_n hx hb dL_law_1085 rfl (lv_at hl 3 rfl) ?_
  refine lv_aload_n hx hb dL_law_1086 rfl (lv_at hl 4 rfl) ?_
  refine lv_iload hx hb dL_law_1087 (lv_at hl 0 rfl) ?_
  refine lv_iconst (v := 1) hx hb dL_law_1089 (by decide) ?_
  refine lv_iadd hx hb dL_law_1090 ?_
  refine tw_cv (v := (1 : Int32)) (by decide) ?_
  refine va_sld hx hb hX hbl hbA h2.1.2.2 (tw_ix (j := 1) (by decide) (by decide)).1 dL_law_1091 ?_
  refine tw_cv (v := xs 1) rfl ?_
  refine tw_calli_1 F h2 (tw_runV (r := 0) (As := [.int (xs 1)]) (rest := []) F h2.1 (c_X11_end l G ad1 w1 H.size (xs 1) ((xs 1).toInt) rfl k1_0) (tw_gl kw_1047 rfl) km_X11_end kv_X11_end rfl rfl ⟨(Nat.le_of_ble_eq_true rfl), (Nat.le_of_ble_eq_true rfl)⟩ (by decide) k1_0 rfl rfl hl.1 rfl (Nat.le_of_ble_eq_true rfl) dL_law_1092 ⟨(Nat.le_of_ble_eq_true rfl), (Nat.le_of_ble_eq_true rfl)⟩) (fun r1 wv2 H locs hp3 h2 => ?_)
  rcases hp3 with ⟨rfl, hc4⟩ | ⟨rfl, hc5⟩
  · skip
    refine lv_aload_n hx hb dL_law_1095 rfl (lv_at hl 2 rfl) ?_
    refine lv_aload_n hx hb dL_law_1096 rfl (lv_at hl 4 rfl) ?_
    refine lv_iload hx hb dL_law_1097 (lv_at hl 0 rfl) ?_
    refine lv_iconst (v := 1) hx hb dL_law_1099 (by decide) ?_
    refine lv_iadd hx hb dL_law_1100 ?_
    refine tw_cv (v := (1 : Int32)) (by decide) ?_
    refine va_sld hx hb hX hbl hbA h2.1.2.2 (tw_ix (j := 1) (by decide) (by decide)).1 dL_law_1101 ?_
    refine tw_cv (v := xs 1) rfl ?_
    refine tw_calli_2 F h2 (tw_runV (r := 0) (As := [.int (xs 1)]) (rest := [.int (0 : Int32)]) F h2.2.1 (c_X12_end l G ad2 w2 H.size (xs 1) ((xs 1).toInt) rfl k2_0) (tw_gl kw_1452 rfl) km_X12_end kv_X12_end rfl rfl ⟨(Nat.le_of_ble_eq_true rfl), (Nat.le_of_ble_eq_true rfl)⟩ (by decide) k2_0 rfl rfl hl.1 rfl (Nat.le_of_ble_eq_true rfl) dL_law_1102 ⟨(Nat.le_of_ble_eq_true rfl), (Nat.le_of_ble_eq_true rfl)⟩) (fun r6 wv7 H locs hp8 h2 => ?_)
    rcases hp8 with ⟨rfl, hc9⟩ | ⟨rfl, hc10⟩
    · skip
      refine lv_icmp_eq (tgt := 1975) hx hb dL_law_1105 (by decide) (fun _ => ?_) (fun c => absurd c (by decide))
      exact law_tail F hr hlk hX hbl h2.1.2.2 (Nat.le_of_ble_eq_true rfl) (Nat.le_of_ble_eq_true rfl) (lv_sub hl [0, 1, 2, 3, 4] rfl)
    · exfalso; omega
  · skip
    refine lv_aload_n hx hb dL_law_1095 rfl (lv_at hl 2 rfl) ?_
    refine lv_aload_n hx hb dL_law_1096 rfl (lv_at hl 4 rfl) ?_
    refine lv_iload hx hb dL_law_1097 (lv_at hl 0 rfl) ?_
    refine lv_iconst (v := 1) hx hb dL_law_1099 (by decide) ?_
    refine lv_iadd hx hb dL_law_1100 ?_
    refine tw_cv (v := (1 : Int32)) (by decide) ?_
    refine va_sld hx hb hX hbl hbA h2.1.2.2 (tw_ix (j := 1) (by decide) (by decide)).1 dL_law_1101 ?_
    refine tw_cv (v := xs 1) rfl ?_
    refine tw_calli_2 F h2 (tw_runV (r := 0) (As := [.int (xs 1)]) (rest := [.int (1 : Int32)]) F h2.2.1 (c_X12_end l G ad2 w2 H.size (xs 1) ((xs 1).toInt) rfl k2_0) (tw_gl kw_1452 rfl) km_X12_end kv_X12_end rfl rfl ⟨(Nat.le_of_ble_eq_true rfl), (Nat.le_of_ble_eq_true rfl)⟩ (by decide) k2_0 rfl rfl hl.1 rfl (Nat.le_of_ble_eq_true rfl) dL_law_1102 ⟨(Nat.le_of_ble_eq_true rfl), (Nat.le_of_ble_eq_true rfl)⟩) (fun r11 wv12 H locs hp13 h2 => ?_)
    rcases hp13 with ⟨rfl, hc14⟩ | ⟨rfl, hc15⟩
    · exfalso; omega
    · skip
      refine lv_icmp_eq (tgt := 1975) hx hb dL_law_1105 (by decide) (fun _ => ?_) (fun c => absurd c (by decide))
      exact law_tail F hr hlk hX hbl h2.1.2.2 (Nat.le_of_ble_eq_true rfl) (Nat.le_of_ble_eq_true rfl) (lv_sub hl [0, 1, 2, 3, 4] rfl)
set_option maxHeartbeats 4000000 in
set_option maxRecDepth 100000 in
theorem law_case_21 {p : Program} {l : Launch} {e : Env} {s : State} {m : MethodId} {below : List Frame} {meth : Method} {c : Code} {G : tw_G} {b : Nat} {xs : Nat → Int32} (hst : l.stackTraces = false) (F : tw_F p m c code 7 s #[Value.ref b] RL G (fun q => s.heap.size ≤ q)) (hr : meth.sig.returnType = ret) (hlk : meth.locks = false) (hX : va_X b 7 xs s s.heap) (hbl : b < s.heap.size) {ad1 ad2 : Nat → Nat} {w1 w2 : Nat → va_E} {ao : Nat} (k1_0 : w1 0 = .inr (11, [.ref (ad1 4), .ref (ad1 14), .ref (ad1 156), .ref (ad1 221), .ref (ad1 225), .ref (ad1 233), .ref (ad1 236), .int (0 : Int32), .ref (ad1 237), .int (0 : Int32), .ref (ad1 238)])) (k1_156 : w1 156 = .inr (0, [.ref (ad1 1), .ref (ad1 157), .ref (ad1 158), .int (0 : Int32), .ref (ad1 159)])) (k1_233 : w1 233 = .inr (3, [.ref (ad1 234), .int (0 : Int32), .ref (ad1 235), .int (0 : Int32), .int (0 : Int32), .int (0 : Int32), .int (0 : Int32), .int (0 : Int32), .null])) (k1_238 : w1 238 = .inr (8, [.ref (ad1 239), .int (0 : Int32), .ref (ad1 240), .ref (ad1 241), .ref (ad1 242), .ref (ad1 243), .int (0 : Int32), .int (0 : Int32)])) (k2_0 : w2 0 = .inr (12, [.int (0 : Int32), .int (2 : Int32), .int (1 : Int32), .ref (ad2 1), .ref (ad2 2), .ref (ad2 3), .ref (ad2 4), .ref (ad2 5), .int (0 : Int32), .ref (ad2 6), .ref (ad2 7), .ref (ad2 8), .int (0 : Int32), .ref (ad2 9), .ref (ad2 10), .ref (ad2 11), .ref (ad2 12), .int (0 : Int32), .ref (ad2 13), .ref (ad2 14), .ref (ad2 15), .ref (ad2 16), .ref (ad2 17), .ref (ad2 18), .ref (ad2 19), .ref (ad2 20), .ref (ad2 21), .ref (ad2 22), .ref (ad2 23), .ref (ad2 24), .ref (ad2 25), .ref (ad2 26), .ref (ad2 27), .ref (ad2 28), .ref (ad2 29), .ref (ad2 30), .ref (ad2 31), .ref (ad2 32), .ref (ad2 33), .ref (ad2 34), .int (0 : Int32), .int (0 : Int32), .int (0 : Int32), .ref (G.2.2 (100 + 10)), .ref (ad2 35), .ref (ad2 36), .ref (ad2 37), .int (0 : Int32), .ref (ad2 38), .ref (ad2 39), .ref (ad2 40), .ref (ad2 41), .ref (ad2 42), .ref (ad2 43), .ref (ad2 44), .ref (ad2 45), .ref (ad2 46), .ref (ad2 47), .ref (ad2 48), .ref (ad2 49), .ref (ad2 50), .ref (ad2 51), .ref (ad2 52), .ref (ad2 53), .ref (ad2 54), .ref (ad2 55), .ref (ad2 56), .ref (ad2 57), .ref (ad2 58), .ref (ad2 59), .int (0 : Int32), .ref (ad2 60), .int (0 : Int32), .ref (ad2 61), .ref (ad2 62), .int (0 : Int32), .ref (ad2 63), .ref (ad2 64), .ref (ad2 65), .ref (ad2 66), .ref (ad2 67), .ref (ad2 68), .int (0 : Int32), .ref (ad2 69), .ref (ad2 70), .ref (ad2 71), .ref (ad2 72), .ref (ad2 73), .int (0 : Int32), .int (0 : Int32), .int (0 : Int32), .ref (ad2 74), .ref (ad2 75), .ref (ad2 76), .ref (ad2 77), .ref (ad2 78), .ref (ad2 79)])) (k2_36 : w2 36 = .inl (G.2.1 0, 17, .inl (fun _ => 0))) {H : Heap} {locs : List Loc} (h2 : tw_2 G 244 ad1 w1 80 ad2 w2 (fun q => s.heap.size ≤ q) s H locs) {ls : Array Slot} (hl : lv_has ls 7 [(4, .int (0 : Int32)), (3, .ref ao), (2, .ref (ad2 0)), (1, .ref (ad1 0)), (0, .ref b)]) {cells slots : Nat} (h3 : cells ≤ 1000) (h4 : slots ≤ 20000) : W p l e room_1 s m #[Value.ref b] below meth c H locs cells slots (lw_Z below #[Value.ref b] s) (F0 m 1110 ls []) := by
  refine W.widen (k := 1000) (n := 20000) h3 h4 ?_
  have hx := F.1.1
  have hb := F.1.2.1
  have hbA : ¬ (fun q : Nat => s.heap.size ≤ q) b := Nat.not_le.mpr hbl
  refine lv_aload_n hx hb dL_law_1110 rfl (lv_at hl 3 rfl) ?_
  refine lv_aload_n hx hb dL_law_1111 rfl (lv_at hl 4 rfl) ?_
  refine lv_iload hx hb dL_law_1112 (lv_at hl 0 rfl) ?_
  refine lv_iconst (v := 1) hx hb dL_law_1114 (by decide) ?_
  refine lv_iadd hx hb dL_law_1115 ?_
  refine tw_cv (v := (1 : Int32)) (by decide) ?_
  refine va_sld hx hb hX hbl hbA h2.1.2.2 (tw_ix (j := 1) (by decide) (by decide)).1 dL_law_1116 ?_
  refine tw_cv (v := xs 1) rfl ?_
  refine tw_calli_1 F h2 (tw_runV (r := 0) (As := [.int (xs 1)]) (rest := []) F h2.1 (c_X11_rule l G ad1 w1 H.size (xs 1) ((xs 1).toInt) rfl k1_0 k1_156 k1_233 k1_238) (tw_gl kw_1051 rfl) km_X11_rule kv_X11_rule rfl rfl ⟨(Nat.le_of_ble_eq_true rfl), (Nat.le_of_ble_eq_true rfl)⟩ (by decide) k1_0 rfl rfl hl.1 rfl (Nat.le_of_ble_eq_true rfl) dL_law_1117 ⟨(Nat.le_of_ble_eq_true rfl), (Nat.le_of_ble_eq_true rfl)⟩) (fun r1 wv2 H locs hp3 h2 => ?_)
  rcases hp3 with ⟨rfl, hc4⟩ | ⟨rfl, hc5⟩
  · skip
    refine lv_aload_n hx hb dL_law_1120 rfl (lv_at hl 2 rfl) ?_
    refine lv_aload_n hx hb dL_law_1121 rfl (lv_at hl 4 rfl) ?_
    refine lv_iload hx hb dL_law_1122 (lv_at hl 0 rfl) ?_
    refine lv_iconst (v := 1) hx hb dL_law_1124 (by decide) ?_
    refine lv_iadd hx hb dL_law_1125 ?_
    refine tw_cv (v := (1 : Int32)) (by decide) ?_
    refine va_sld hx hb hX hbl hbA h2.1.2.2 (tw_ix (j := 1) (by decide) (by decide)).1 dL_law_1126 ?_
    refine tw_cv (v := xs 1) rfl ?_
    refine tw_calli_2 F h2 (tw_runV (r := 0) (As := [.int (xs 1)]) (rest := [.int (-100 : Int32)]) F h2.2.1 (c_X12_rule l G ad2 w2 H.size (xs 1) ((xs 1).toInt) rfl k2_0 k2_36) (tw_gl kw_1647 rfl) km_X12_rule kv_X12_rule rfl rfl ⟨(Nat.le_of_ble_eq_true rfl), (Nat.le_of_ble_eq_true rfl)⟩ (by decide) k2_0 rfl rfl hl.1 rfl (Nat.le_of_ble_eq_true rfl) dL_law_1127 ⟨(Nat.le_of_ble_eq_true rfl), (Nat.le_of_ble_eq_true rfl)⟩) (fun r6 wv7 H locs hp8 h2 => ?_)
    rcases hp8 with ⟨rfl, hc9⟩ | ⟨rfl, hc10⟩
    · skip
      refine lv_icmp_eq (tgt := 1975) hx hb dL_law_1130 (by decide) (fun _ => ?_) (fun c => absurd c (by decide))
      exact law_tail F hr hlk hX hbl h2.1.2.2 (Nat.le_of_ble_eq_true rfl) (Nat.le_of_ble_eq_true rfl) (lv_sub hl [0, 1, 2, 3, 4] rfl)
    · exfalso; omega
  · skip
    refine lv_aload_n hx hb dL_law_1120 rfl (lv_at hl 2 rfl) ?_
    refine lv_aload_n hx hb dL_law_1121 rfl (lv_at hl 4 rfl) ?_
    refine lv_iload hx hb dL_law_1122 (lv_at hl 0 rfl) ?_
    refine lv_iconst (v := 1) hx hb dL_law_1124 (by decide) ?_
    refine lv_iadd hx hb dL_law_1125 ?_
    refine tw_cv (v := (1 : Int32)) (by decide) ?_
    refine va_sld hx hb hX hbl hbA h2.1.2.2 (tw_ix (j := 1) (by decide) (by decide)).1 dL_law_1126 ?_
    refine tw_cv (v := xs 1) rfl ?_
    refine tw_calli_2 F h2 (tw_runV (r := 0) (As := [.int (xs 1)]) (rest := [.int (-1 : Int32)]) F h2.2.1 (c_X12_rule l G ad2 w2 H.size (xs 1) ((xs 1).toInt) rfl k2_0 k2_36) (tw_gl kw_1647 rfl) km_X12_rule kv_X12_rule rfl rfl ⟨(Nat.le_of_ble_eq_true rfl), (Nat.le_of_ble_eq_true rfl)⟩ (by decide) k2_0 rfl rfl hl.1 rfl (Nat.le_of_ble_eq_true rfl) dL_law_1127 ⟨(Nat.le_of_ble_eq_true rfl), (Nat.le_of_ble_eq_true rfl)⟩) (fun r11 wv12 H locs hp13 h2 => ?_)
    rcases hp13 with ⟨rfl, hc14⟩ | ⟨rfl, hc15⟩
    · exfalso; omega
    · skip
      refine lv_icmp_eq (tgt := 1975) hx hb dL_law_1130 (by decide) (fun _ => ?_) (fun c => absurd c (by decide))
      exact law_tail F hr hlk hX hbl h2.1.2.2 (Nat.le_of_ble_eq_true rfl) (Nat.le_of_ble_eq_true rfl) (lv_sub hl [0, 1, 2, 3, 4] rfl)
set_option maxHeartbeats 4000000 in
set_option maxRecDepth 100000 in
theorem law_case_22 {p : Program} {l : Launch} {e : Env} {s : State} {m : MethodId} {below : List Frame} {meth : Method} {c : Code} {G : tw_G} {b : Nat} {xs : Nat → Int32} (hst : l.stackTraces = false) (F : tw_F p m c code 7 s #[Value.ref b] RL G (fun q => s.heap.size ≤ q)) (hr : meth.sig.returnType = ret) (hlk : meth.locks = false) (hX : va_X b 7 xs s s.heap) (hbl : b < s.heap.size) {ad1 ad2 : Nat → Nat} {w1 w2 : Nat → va_E} {ao : Nat} (k1_0 : w1 0 = .inr (11, [.ref (ad1 4), .ref (ad1 14), .ref (ad1 156), .ref (ad1 221), .ref (ad1 225), .ref (ad1 233), .ref (ad1 236), .int (0 : Int32), .ref (ad1 237), .int (0 : Int32), .ref (ad1 238)])) (k1_14 : w1 14 = .inr (2, [.ref (ad1 4), .ref (ad1 1), .ref (ad1 15), .ref (ad1 16), .ref (ad1 17), .int (0 : Int32), .int (0 : Int32), .int (0 : Int32)])) (k2_0 : w2 0 = .inr (12, [.int (0 : Int32), .int (2 : Int32), .int (1 : Int32), .ref (ad2 1), .ref (ad2 2), .ref (ad2 3), .ref (ad2 4), .ref (ad2 5), .int (0 : Int32), .ref (ad2 6), .ref (ad2 7), .ref (ad2 8), .int (0 : Int32), .ref (ad2 9), .ref (ad2 10), .ref (ad2 11), .ref (ad2 12), .int (0 : Int32), .ref (ad2 13), .ref (ad2 14), .ref (ad2 15), .ref (ad2 16), .ref (ad2 17), .ref (ad2 18), .ref (ad2 19), .ref (ad2 20), .ref (ad2 21), .ref (ad2 22), .ref (ad2 23), .ref (ad2 24), .ref (ad2 25), .ref (ad2 26), .ref (ad2 27), .ref (ad2 28), .ref (ad2 29), .ref (ad2 30), .ref (ad2 31), .ref (ad2 32), .ref (ad2 33), .ref (ad2 34), .int (0 : Int32), .int (0 : Int32), .int (0 : Int32), .ref (G.2.2 (100 + 10)), .ref (ad2 35), .ref (ad2 36), .ref (ad2 37), .int (0 : Int32), .ref (ad2 38), .ref (ad2 39), .ref (ad2 40), .ref (ad2 41), .ref (ad2 42), .ref (ad2 43), .ref (ad2 44), .ref (ad2 45), .ref (ad2 46), .ref (ad2 47), .ref (ad2 48), .ref (ad2 49), .ref (ad2 50), .ref (ad2 51), .ref (ad2 52), .ref (ad2 53), .ref (ad2 54), .ref (ad2 55), .ref (ad2 56), .ref (ad2 57), .ref (ad2 58), .ref (ad2 59), .int (0 : Int32), .ref (ad2 60), .int (0 : Int32), .ref (ad2 61), .ref (ad2 62), .int (0 : Int32), .ref (ad2 63), .ref (ad2 64), .ref (ad2 65), .ref (ad2 66), .ref (ad2 67), .ref (ad2 68), .int (0 : Int32), .ref (ad2 69), .ref (ad2 70), .ref (ad2 71), .ref (ad2 72), .ref (ad2 73), .int (0 : Int32), .int (0 : Int32), .int (0 : Int32), .ref (ad2 74), .ref (ad2 75), .ref (ad2 76), .ref (ad2 77), .ref (ad2 78), .ref (ad2 79)])) {H : Heap} {locs : List Loc} (h2 : tw_2 G 244 ad1 w1 80 ad2 w2 (fun q => s.heap.size ≤ q) s H locs) {ls : Array Slot} (hl : lv_has ls 7 [(4, .int (0 : Int32)), (3, .ref ao), (2, .ref (ad2 0)), (1, .ref (ad1 0)), (0, .ref b)]) {cells slots : Nat} (h3 : cells ≤ 1000) (h4 : slots ≤ 20000) : W p l e room_1 s m #[Value.ref b] below meth c H locs cells slots (lw_Z below #[Value.ref b] s) (F0 m 1135 ls []) := by
  refine W.widen (k := 1000) (n := 20000) h3 h4 ?_
  have hx := F.1.1
  have hb := F.1.2.1
  have hbA : ¬ (fun q : Nat => s.heap.size ≤ q) b := Nat.not_le.mpr hbl
  refine lv_aload_n hx hb dL_law_1135 rfl (lv_at hl 3 rfl) ?_
  refine lv_aload_n hx hb dL_law_1136 rfl (lv_at hl 4 rfl) ?_
  refine lv_iload hx hb dL_law_1137 (lv_at hl 0 rfl) ?_
  refine lv_iconst (v := 1) hx hb dL_law_1139 (by decide) ?_
  refine lv_iadd hx hb dL_law_1140 ?_
  refine tw_cv (v := (1 : Int32)) (by decide) ?_
  refine va_sld hx hb hX hbl hbA h2.1.2.2 (tw_ix (j := 1) (by decide) (by decide)).1 dL_law_1141 ?_
  refine tw_cv (v := xs 1) rfl ?_
  refine lv_aload_n hx hb dL_law_1142 rfl (lv_at hl 4 rfl) ?_
  refine lv_iload hx hb dL_law_1143 (lv_at hl 0 rfl) ?_
  refine lv_iconst (v := 2) hx hb dL_law_1145 (by decide) ?_
  refine lv_iadd hx hb dL_law_1146 ?_
  refine tw_cv (v := (2 : Int32)) (by decide) ?_
  refine va_sld hx hb hX hbl hbA h2.1.2.2 (tw_ix (j := 2) (by decide) (by decide)).1 dL_law_1147 ?_
  refine tw_cv (v := xs 2) rfl ?_
  refine lv_aload_n hx hb dL_law_1148 rfl (lv_at hl 4 rfl) ?_
  refine lv_iload hx hb dL_law_1149 (lv_at hl 0 rfl) ?_
  refine lv_iconst (v := 3) hx hb dL_law_1151 (by decide) ?_
  refine lv_iadd hx hb dL_law_1152 ?_
  refine tw_cv (v := (3 : Int32)) (by decide) ?_
  refine va_sld hx hb hX hbl hbA h2.1.2.2 (tw_ix (j := 3) (by decide) (by decide)).1 dL_law_1153 ?_
  refine tw_cv (v := xs 3) rfl ?_
  refine lv_aload_n hx hb dL_law_1154 rfl (lv_at hl 4 rfl) ?_
  refine lv_iload hx hb dL_law_1155 (lv_at hl 0 rfl) ?_
  refine lv_iconst (v := 4) hx hb dL_law_1157 (by decide) ?_
  refine lv_iadd hx hb dL_law_1158 ?_
  refine tw_cv (v := (4 : Int32)) (by decide) ?_
  refine va_sld hx hb hX hbl hbA h2.1.2.2 (tw_ix (j := 4) (by decide) (by decide)).1 dL_law_1159 ?_
  refine tw_cv (v := xs 4) rfl ?_
  refine tw_calli_1 F h2 (tw_runV (r := 0) (As := [.int (xs 1), .int (xs 2), .int (xs 3), .int (xs 4)]) (rest := []) F h2.1 (c_X11_finding l G ad1 w1 H.size (xs 1) ((xs 1).toInt) rfl (xs 2) ((xs 2).toInt) rfl (xs 3) ((xs 3).toInt) rfl (xs 4) ((xs 4).toInt) rfl k1_0 k1_14) (tw_gl kw_1063 rfl) km_X11_finding kv_X11_finding rfl rfl ⟨(Nat.le_of_ble_eq_true rfl), (Nat.le_of_ble_eq_true rfl)⟩ (by decide) k1_0 rfl rfl hl.1 rfl (Nat.le_of_ble_eq_true rfl) dL_law_1160 ⟨(Nat.le_of_ble_eq_true rfl), (Nat.le_of_ble_eq_true rfl)⟩) (fun r1 wv2 H locs hp3 h2 => ?_)
  obtain ⟨rfl, hc4⟩ := hp3
  refine lv_aload_n hx hb dL_law_1163 rfl (lv_at hl 2 rfl) ?_
  refine lv_aload_n hx hb dL_law_1164 rfl (lv_at hl 4 rfl) ?_
  refine lv_iload hx hb dL_law_1165 (lv_at hl 0 rfl) ?_
  refine lv_iconst (v := 1) hx hb dL_law_1167 (by decide) ?_
  refine lv_iadd hx hb dL_law_1168 ?_
  refine tw_cv (v := (1 : Int32)) (by decide) ?_
  refine va_sld hx hb hX hbl hbA h2.1.2.2 (tw_ix (j := 1) (by decide) (by decide)).1 dL_law_1169 ?_
  refine tw_cv (v := xs 1) rfl ?_
  refine lv_aload_n hx hb dL_law_1170 rfl (lv_at hl 4 rfl) ?_
  refine lv_iload hx hb dL_law_1171 (lv_at hl 0 rfl) ?_
  refine lv_iconst (v := 2) hx hb dL_law_1173 (by decide) ?_
  refine lv_iadd hx hb dL_law_1174 ?_
  refine tw_cv (v := (2 : Int32)) (by decide) ?_
  refine va_sld hx hb hX hbl hbA h2.1.2.2 (tw_ix (j := 2) (by decide) (by decide)).1 dL_law_1175 ?_
  refine tw_cv (v := xs 2) rfl ?_
  refine lv_aload_n hx hb dL_law_1176 rfl (lv_at hl 4 rfl) ?_
  refine lv_iload hx hb dL_law_1177 (lv_at hl 0 rfl) ?_
  refine lv_iconst (v := 3) hx hb dL_law_1179 (by decide) ?_
  refine lv_iadd hx hb dL_law_1180 ?_
  refine tw_cv (v := (3 : Int32)) (by decide) ?_
  refine va_sld hx hb hX hbl hbA h2.1.2.2 (tw_ix (j := 3) (by decide) (by decide)).1 dL_law_1181 ?_
  refine tw_cv (v := xs 3) rfl ?_
  refine lv_aload_n hx hb dL_law_1182 rfl (lv_at hl 4 rfl) ?_
  refine lv_iload hx hb dL_law_1183 (lv_at hl 0 rfl) ?_
  refine lv_iconst (v := 4) hx hb dL_law_1185 (by decide) ?_
  refine lv_iadd hx hb dL_law_1186 ?_
  refine tw_cv (v := (4 : Int32)) (by decide) ?_
  refine va_sld hx hb hX hbl hbA h2.1.2.2 (tw_ix (j := 4) (by decide) (by decide)).1 dL_law_1187 ?_
  refine tw_cv (v := xs 4) rfl ?_
  refine tw_calli_2 F h2 (tw_runV (r := 0) (As := [.int (xs 1), .int (xs 2), .int (xs 3), .int (xs 4)]) (rest := [.int (-1 : Int32)]) F h2.2.1 (c_X12_finding l G ad2 w2 H.size (xs 1) ((xs 1).toInt) rfl (xs 2) ((xs 2).toInt) rfl (xs 3) ((xs 3).toInt) rfl (xs 4) ((xs 4).toInt) rfl k2_0) (tw_gl kw_1655 rfl) km_X12_finding kv_X12_finding rfl rfl ⟨(Nat.le_of_ble_eq_true rfl), (Nat.le_of_ble_eq_true rfl)⟩ (by decide) k2_0 rfl rfl hl.1 rfl (Nat.le_of_ble_eq_true rfl) dL_law_1188 ⟨(Nat.le_of_ble_eq_true rfl), (Nat.le_of_ble_eq_true rfl)⟩) (fun r5 wv6 H locs hp7 h2 => ?_)
  obtain ⟨rfl, hc8⟩ := hp7
  refine lv_icmp_eq (tgt := 1975) hx hb dL_law_1191 (by decide) (fun _ => ?_) (fun c => absurd c (by decide))
  exact law_tail F hr hlk hX hbl h2.1.2.2 (Nat.le_of_ble_eq_true rfl) (Nat.le_of_ble_eq_true rfl) (lv_sub hl [0, 1, 2, 3, 4] rfl)
set_option maxHeartbeats 4000000 in
set_option maxRecDepth 100000 in
theorem law_case_23 {p : Program} {l : Launch} {e : Env} {s : State} {m : MethodId} {below : List Frame} {meth : Method} {c : Code} {G : tw_G} {b : Nat} {xs : Nat → Int32} (hst : l.stackTraces = false) (F : tw_F p m c code 7 s #[Value.ref b] RL G (fun q => s.heap.size ≤ q)) (hr : meth.sig.returnType = ret) (hlk : meth.locks = false) (hX : va_X b 7 xs s s.heap) (hbl : b < s.heap.size) {ad1 ad2 : Nat → Nat} {w1 w2 : Nat → va_E} {ao : Nat} (k1_0 : w1 0 = .inr (11, [.ref (ad1 4), .ref (ad1 14), .ref (ad1 156), .ref (ad1 221), .ref (ad1 225), .ref (ad1 233), .ref (ad1 236), .int (0 : Int32), .ref (ad1 237), .int (0 : Int32), .ref (ad1 238)])) (k1_14 : w1 14 = .inr (2, [.ref (ad1 4), .ref (ad1 1), .ref (ad1 15), .ref (ad1 16), .ref (ad1 17), .int (0 : Int32), .int (0 : Int32), .int (0 : Int32)])) (k2_0 : w2 0 = .inr (12, [.int (0 : Int32), .int (2 : Int32), .int (1 : Int32), .ref (ad2 1), .ref (ad2 2), .ref (ad2 3), .ref (ad2 4), .ref (ad2 5), .int (0 : Int32), .ref (ad2 6), .ref (ad2 7), .ref (ad2 8), .int (0 : Int32), .ref (ad2 9), .ref (ad2 10), .ref (ad2 11), .ref (ad2 12), .int (0 : Int32), .ref (ad2 13), .ref (ad2 14), .ref (ad2 15), .ref (ad2 16), .ref (ad2 17), .ref (ad2 18), .ref (ad2 19), .ref (ad2 20), .ref (ad2 21), .ref (ad2 22), .ref (ad2 23), .ref (ad2 24), .ref (ad2 25), .ref (ad2 26), .ref (ad2 27), .ref (ad2 28), .ref (ad2 29), .ref (ad2 30), .ref (ad2 31), .ref (ad2 32), .ref (ad2 33), .ref (ad2 34), .int (0 : Int32), .int (0 : Int32), .int (0 : Int32), .ref (G.2.2 (100 + 10)), .ref (ad2 35), .ref (ad2 36), .ref (ad2 37), .int (0 : Int32), .ref (ad2 38), .ref (ad2 39), .ref (ad2 40), .ref (ad2 41), .ref (ad2 42), .ref (ad2 43), .ref (ad2 44), .ref (ad2 45), .ref (ad2 46), .ref (ad2 47), .ref (ad2 48), .ref (ad2 49), .ref (ad2 50), .ref (ad2 51), .ref (ad2 52), .ref (ad2 53), .ref (ad2 54), .ref (ad2 55), .ref (ad2 56), .ref (ad2 57), .ref (ad2 58), .ref (ad2 59), .int (0 : Int32), .ref (ad2 60), .int (0 : Int32), .ref (ad2 61), .ref (ad2 62), .int (0 : Int32), .ref (ad2 63), .ref (ad2 64), .ref (ad2 65), .ref (ad2 66), .ref (ad2 67), .ref (ad2 68), .int (0 : Int32), .ref (ad2 69), .ref (ad2 70), .ref (ad2 71), .ref (ad2 72), .ref (ad2 73), .int (0 : Int32), .int (0 : Int32), .int (0 : Int32), .ref (ad2 74), .ref (ad2 75), .ref (ad2 76), .ref (ad2 77), .ref (ad2 78), .ref (ad2 79)])) {H : Heap} {locs : List Loc} (h2 : tw_2 G 244 ad1 w1 80 ad2 w2 (fun q => s.heap.size ≤ q) s H locs) {ls : Array Slot} (hl : lv_has ls 7 [(4, .int (0 : Int32)), (3, .ref ao), (2, .ref (ad2 0)), (1, .ref (ad1 0)), (0, .ref b)]) {cells slots : Nat} (h3 : cells ≤ 1000) (h4 : slots ≤ 20000) : W p l e room_1 s m #[Value.ref b] below meth c H locs cells slots (lw_Z below #[Value.ref b] s) (F0 m 1196 ls []) := by
  refine W.widen (k := 1000) (n := 20000) h3 h4 ?_
  have hx := F.1.1
  have hb := F.1.2.1
  have hbA : ¬ (fun q : Nat => s.heap.size ≤ q) b := Nat.not_le.mpr hbl
  refine lv_aload_n hx hb dL_law_1196 rfl (lv_at hl 3 rfl) ?_
  refine lv_aload_n hx hb dL_law_1197 rfl (lv_at hl 4 rfl) ?_
  refine lv_iload hx hb dL_law_1198 (lv_at hl 0 rfl) ?_
  refine lv_iconst (v := 1) hx hb dL_law_1200 (by decide) ?_
  refine lv_iadd hx hb dL_law_1201 ?_
  refine tw_cv (v := (1 : Int32)) (by decide) ?_
  refine va_sld hx hb hX hbl hbA h2.1.2.2 (tw_ix (j := 1) (by decide) (by decide)).1 dL_law_1202 ?_
  refine tw_cv (v := xs 1) rfl ?_
  refine lv_aload_n hx hb dL_law_1203 rfl (lv_at hl 4 rfl) ?_
  refine lv_iload hx hb dL_law_1204 (lv_at hl 0 rfl) ?_
  refine lv_iconst (v := 2) hx hb dL_law_1206 (by decide) ?_
  refine lv_iadd hx hb dL_law_1207 ?_
  refine tw_cv (v := (2 : Int32)) (by decide) ?_
  refine va_sld hx hb hX hbl hbA h2.1.2.2 (tw_ix (j := 2) (by decide) (by decide)).1 dL_law_1208 ?_
  refine tw_cv (v := xs 2) rfl ?_
  refine tw_calli_1 F h2 (tw_runV (r := 0) (As := [.int (xs 1), .int (xs 2)]) (rest := []) F h2.1 (c_X11_seconds l G ad1 w1 H.size (xs 1) ((xs 1).toInt) rfl (xs 2) ((xs 2).toInt) rfl k1_0 k1_14) (tw_gl kw_1068 rfl) km_X11_seconds kv_X11_seconds rfl rfl ⟨(Nat.le_of_ble_eq_true rfl), (Nat.le_of_ble_eq_true rfl)⟩ (by decide) k1_0 rfl rfl hl.1 rfl (Nat.le_of_ble_eq_true rfl) dL_law_1209 ⟨(Nat.le_of_ble_eq_true rfl), (Nat.le_of_ble_eq_true rfl)⟩) (fun r1 wv2 H locs hp3 h2 => ?_)
  obtain ⟨rfl, hc4⟩ := hp3
  refine lv_aload_n hx hb dL_law_1212 rfl (lv_at hl 2 rfl) ?_
  refine lv_aload_n hx hb dL_law_1213 rfl (lv_at hl 4 rfl) ?_
  refine lv_iload hx hb dL_law_1214 (lv_at hl 0 rfl) ?_
  refine lv_iconst (v := 1) hx hb dL_law_1216 (by decide) ?_
  refine lv_iadd hx hb dL_law_1217 ?_
  refine tw_cv (v := (1 : Int32)) (by decide) ?_
  refine va_sld hx hb hX hbl hbA h2.1.2.2 (tw_ix (j := 1) (by decide) (by decide)).1 dL_law_1218 ?_
  refine tw_cv (v := xs 1) rfl ?_
  refine lv_aload_n hx hb dL_law_1219 rfl (lv_at hl 4 rfl) ?_
  refine lv_iload hx hb dL_law_1220 (lv_at hl 0 rfl) ?_
  refine lv_iconst (v := 2) hx hb dL_law_1222 (by decide) ?_
  refine lv_iadd hx hb dL_law_1223 ?_
  refine tw_cv (v := (2 : Int32)) (by decide) ?_
  refine va_sld hx hb hX hbl hbA h2.1.2.2 (tw_ix (j := 2) (by decide) (by decide)).1 dL_law_1224 ?_
  refine tw_cv (v := xs 2) rfl ?_
  refine tw_calli_2 F h2 (tw_runV (r := 0) (As := [.int (xs 1), .int (xs 2)]) (rest := [.int (-1 : Int32)]) F h2.2.1 (c_X12_seconds l G ad2 w2 H.size (xs 1) ((xs 1).toInt) rfl (xs 2) ((xs 2).toInt) rfl k2_0) (tw_gl kw_1661 rfl) km_X12_seconds kv_X12_seconds rfl rfl ⟨(Nat.le_of_ble_eq_true rfl), (Nat.le_of_ble_eq_true rfl)⟩ (by decide) k2_0 rfl rfl hl.1 rfl (Nat.le_of_ble_eq_true rfl) dL_law_1225 ⟨(Nat.le_of_ble_eq_true rfl), (Nat.le_of_ble_eq_true rfl)⟩) (fun r5 wv6 H locs hp7 h2 => ?_)
  obtain ⟨rfl, hc8⟩ := hp7
  refine lv_icmp_eq (tgt := 1975) hx hb dL_law_1228 (by decide) (fun _ => ?_) (fun c => absurd c (by decide))
  exact law_tail F hr hlk hX hbl h2.1.2.2 (Nat.le_of_ble_eq_true rfl) (Nat.le_of_ble_eq_true rfl) (lv_sub hl [0, 1, 2, 3, 4] rfl)
set_option maxHeartbeats 4000000 in
set_option maxRecDepth 100000 in
theorem law_case_24 {p : Program} {l : Launch} {e : Env} {s : State} {m : MethodId} {below : List Frame} {meth : Method} {c : Code} {G : tw_G} {b : Nat} {xs : Nat → Int32} (hst : l.stackTraces = false) (F : tw_F p m c code 7 s #[Value.ref b] RL G (fun q => s.heap.size ≤ q)) (hr : meth.sig.returnType = ret) (hlk : meth.locks = false) (hX : va_X b 7 xs s s.heap) (hbl : b < s.heap.size) {ad1 ad2 : Nat → Nat} {w1 w2 : Nat → va_E} {ao : Nat} (k1_0 : w1 0 = .inr (11, [.ref (ad1 4), .ref (ad1 14), .ref (ad1 156), .ref (ad1 221), .ref (ad1 225), .ref (ad1 233), .ref (ad1 236), .int (0 : Int32), .ref (ad1 237), .int (0 : Int32), .ref (ad1 238)])) (k1_14 : w1 14 = .inr (2, [.ref (ad1 4), .ref (ad1 1), .ref (ad1 15), .ref (ad1 16), .ref (ad1 17), .int (0 : Int32), .int (0 : Int32), .int (0 : Int32)])) (k2_0 : w2 0 = .inr (12, [.int (0 : Int32), .int (2 : Int32), .int (1 : Int32), .ref (ad2 1), .ref (ad2 2), .ref (ad2 3), .ref (ad2 4), .ref (ad2 5), .int (0 : Int32), .ref (ad2 6), .ref (ad2 7), .ref (ad2 8), .int (0 : Int32), .ref (ad2 9), .ref (ad2 10), .ref (ad2 11), .ref (ad2 12), .int (0 : Int32), .ref (ad2 13), .ref (ad2 14), .ref (ad2 15), .ref (ad2 16), .ref (ad2 17), .ref (ad2 18), .ref (ad2 19), .ref (ad2 20), .ref (ad2 21), .ref (ad2 22), .ref (ad2 23), .ref (ad2 24), .ref (ad2 25), .ref (ad2 26), .ref (ad2 27), .ref (ad2 28), .ref (ad2 29), .ref (ad2 30), .ref (ad2 31), .ref (ad2 32), .ref (ad2 33), .ref (ad2 34), .int (0 : Int32), .int (0 : Int32), .int (0 : Int32), .ref (G.2.2 (100 + 10)), .ref (ad2 35), .ref (ad2 36), .ref (ad2 37), .int (0 : Int32), .ref (ad2 38), .ref (ad2 39), .ref (ad2 40), .ref (ad2 41), .ref (ad2 42), .ref (ad2 43), .ref (ad2 44), .ref (ad2 45), .ref (ad2 46), .ref (ad2 47), .ref (ad2 48), .ref (ad2 49), .ref (ad2 50), .ref (ad2 51), .ref (ad2 52), .ref (ad2 53), .ref (ad2 54), .ref (ad2 55), .ref (ad2 56), .ref (ad2 57), .ref (ad2 58), .ref (ad2 59), .int (0 : Int32), .ref (ad2 60), .int (0 : Int32), .ref (ad2 61), .ref (ad2 62), .int (0 : Int32), .ref (ad2 63), .ref (ad2 64), .ref (ad2 65), .ref (ad2 66), .ref (ad2 67), .ref (ad2 68), .int (0 : Int32), .ref (ad2 69), .ref (ad2 70), .ref (ad2 71), .ref (ad2 72), .ref (ad2 73), .int (0 : Int32), .int (0 : Int32), .int (0 : Int32), .ref (ad2 74), .ref (ad2 75), .ref (ad2 76), .ref (ad2 77), .ref (ad2 78), .ref (ad2 79)])) {H : Heap} {locs : List Loc} (h2 : tw_2 G 244 ad1 w1 80 ad2 w2 (fun q => s.heap.size ≤ q) s H locs) {ls : Array Slot} (hl : lv_has ls 7 [(4, .int (0 : Int32)), (3, .ref ao), (2, .ref (ad2 0)), (1, .ref (ad1 0)), (0, .ref b)]) {cells slots : Nat} (h3 : cells ≤ 1000) (h4 : slots ≤ 20000) : W p l e room_1 s m #[Value.ref b] below meth c H locs cells slots (lw_Z below #[Value.ref b] s) (F0 m 1233 ls []) := by
  refine W.widen (k := 1000) (n := 20000) h3 h4 ?_
  have hx := F.1.1
  have hb := F.1.2.1
  have hbA : ¬ (fun q : Nat => s.heap.size ≤ q) b := Nat.not_le.mpr hbl
  refine lv_aload_n hx hb dL_law_1233 rfl (lv_at hl 3 rfl) ?_
  refine lv_aload_n hx hb dL_law_1234 rfl (lv_at hl 4 rfl) ?_
  refine lv_iload hx hb dL_law_1235 (lv_at hl 0 rfl) ?_
  refine lv_iconst (v := 1) hx hb dL_law_1237 (by decide) ?_
  refine lv_iadd hx hb dL_law_1238 ?_
  refine tw_cv (v := (1 : Int32)) (by decide) ?_
  refine va_sld hx hb hX hbl hbA h2.1.2.2 (tw_ix (j := 1) (by decide) (by decide)).1 dL_law_1239 ?_
  refine tw_cv (v := xs 1) rfl ?_
  refine lv_aload_n hx hb dL_law_1240 rfl (lv_at hl 4 rfl) ?_
  refine lv_iload hx hb dL_law_1241 (lv_at hl 0 rfl) ?_
  refine lv_iconst (v := 2) hx hb dL_law_1243 (by decide) ?_
  refine lv_iadd hx hb dL_law_1244 ?_
  refine tw_cv (v := (2 : Int32)) (by decide) ?_
  refine va_sld hx hb hX hbl hbA h2.1.2.2 (tw_ix (j := 2) (by decide) (by decide)).1 dL_law_1245 ?_
  refine tw_cv (v := xs 2) rfl ?_
  refine tw_calli_1 F h2 (tw_runV (r := 0) (As := [.int (xs 1), .int (xs 2)]) (rest := []) F h2.1 (c_X11_place l G ad1 w1 H.size (xs 1) ((xs 1).toInt) rfl (xs 2) ((xs 2).toInt) rfl k1_0 k1_14) (tw_gl kw_1097 rfl) km_X11_place kv_X11_place rfl rfl ⟨(Nat.le_of_ble_eq_true rfl), (Nat.le_of_ble_eq_true rfl)⟩ (by decide) k1_0 rfl rfl hl.1 rfl (Nat.le_of_ble_eq_true rfl) dL_law_1246 ⟨(Nat.le_of_ble_eq_true rfl), (Nat.le_of_ble_eq_true rfl)⟩) (fun r1 wv2 H locs hp3 h2 => ?_)
  obtain ⟨rfl, hc4⟩ := hp3
  refine lv_aload_n hx hb dL_law_1249 rfl (lv_at hl 2 rfl) ?_
  refine lv_aload_n hx hb dL_law_1250 rfl (lv_at hl 4 rfl) ?_
  refine lv_iload hx hb dL_law_1251 (lv_at hl 0 rfl) ?_
  refine lv_iconst (v := 1) hx hb dL_law_1253 (by decide) ?_
  refine lv_iadd hx hb dL_law_1254 ?_
  refine tw_cv (v := (1 : Int32)) (by decide) ?_
  refine va_sld hx hb hX hbl hbA h2.1.2.2 (tw_ix (j := 1) (by decide) (by decide)).1 dL_law_1255 ?_
  refine tw_cv (v := xs 1) rfl ?_
  refine lv_aload_n hx hb dL_law_1256 rfl (lv_at hl 4 rfl) ?_
  refine lv_iload hx hb dL_law_1257 (lv_at hl 0 rfl) ?_
  refine lv_iconst (v := 2) hx hb dL_law_1259 (by decide) ?_
  refine lv_iadd hx hb dL_law_1260 ?_
  refine tw_cv (v := (2 : Int32)) (by decide) ?_
  refine va_sld hx hb hX hbl hbA h2.1.2.2 (tw_ix (j := 2) (by decide) (by decide)).1 dL_law_1261 ?_
  refine tw_cv (v := xs 2) rfl ?_
  refine tw_calli_2 F h2 (tw_runV (r := 0) (As := [.int (xs 1), .int (xs 2)]) (rest := [.int (-1 : Int32)]) F h2.2.1 (c_X12_place l G ad2 w2 H.size (xs 1) ((xs 1).toInt) rfl (xs 2) ((xs 2).toInt) rfl k2_0) (tw_gl kw_1673 rfl) km_X12_place kv_X12_place rfl rfl ⟨(Nat.le_of_ble_eq_true rfl), (Nat.le_of_ble_eq_true rfl)⟩ (by decide) k2_0 rfl rfl hl.1 rfl (Nat.le_of_ble_eq_true rfl) dL_law_1262 ⟨(Nat.le_of_ble_eq_true rfl), (Nat.le_of_ble_eq_true rfl)⟩) (fun r5 wv6 H locs hp7 h2 => ?_)
  obtain ⟨rfl, hc8⟩ := hp7
  refine lv_icmp_eq (tgt := 1975) hx hb dL_law_1265 (by decide) (fun _ => ?_) (fun c => absurd c (by decide))
  exact law_tail F hr hlk hX hbl h2.1.2.2 (Nat.le_of_ble_eq_true rfl) (Nat.le_of_ble_eq_true rfl) (lv_sub hl [0, 1, 2, 3, 4] rfl)
set_option maxHeartbeats 4000000 in
set_option maxRecDepth 100000 in
theorem law_case_25 {p : Program} {l : Launch} {e : Env} {s : State} {m : MethodId} {below : List Frame} {meth : Method} {c : Code} {G : tw_G} {b : Nat} {xs : Nat → Int32} (hst : l.stackTraces = false) (F : tw_F p m c code 7 s #[Value.ref b] RL G (fun q => s.heap.size ≤ q)) (hr : meth.sig.returnType = ret) (hlk : meth.locks = false) (hX : va_X b 7 xs s s.heap) (hbl : b < s.heap.size) {ad1 ad2 : Nat → Nat} {w1 w2 : Nat → va_E} {ao : Nat} (k1_0 : w1 0 = .inr (11, [.ref (ad1 4), .ref (ad1 14), .ref (ad1 156), .ref (ad1 221), .ref (ad1 225), .ref (ad1 233), .ref (ad1 236), .int (0 : Int32), .ref (ad1 237), .int (0 : Int32), .ref (ad1 238)])) (k1_14 : w1 14 = .inr (2, [.ref (ad1 4), .ref (ad1 1), .ref (ad1 15), .ref (ad1 16), .ref (ad1 17), .int (0 : Int32), .int (0 : Int32), .int (0 : Int32)])) (k2_0 : w2 0 = .inr (12, [.int (0 : Int32), .int (2 : Int32), .int (1 : Int32), .ref (ad2 1), .ref (ad2 2), .ref (ad2 3), .ref (ad2 4), .ref (ad2 5), .int (0 : Int32), .ref (ad2 6), .ref (ad2 7), .ref (ad2 8), .int (0 : Int32), .ref (ad2 9), .ref (ad2 10), .ref (ad2 11), .ref (ad2 12), .int (0 : Int32), .ref (ad2 13), .ref (ad2 14), .ref (ad2 15), .ref (ad2 16), .ref (ad2 17), .ref (ad2 18), .ref (ad2 19), .ref (ad2 20), .ref (ad2 21), .ref (ad2 22), .ref (ad2 23), .ref (ad2 24), .ref (ad2 25), .ref (ad2 26), .ref (ad2 27), .ref (ad2 28), .ref (ad2 29), .ref (ad2 30), .ref (ad2 31), .ref (ad2 32), .ref (ad2 33), .ref (ad2 34), .int (0 : Int32), .int (0 : Int32), .int (0 : Int32), .ref (G.2.2 (100 + 10)), .ref (ad2 35), .ref (ad2 36), .ref (ad2 37), .int (0 : Int32), .ref (ad2 38), .ref (ad2 39), .ref (ad2 40), .ref (ad2 41), .ref (ad2 42), .ref (ad2 43), .ref (ad2 44), .ref (ad2 45), .ref (ad2 46), .ref (ad2 47), .ref (ad2 48), .ref (ad2 49), .ref (ad2 50), .ref (ad2 51), .ref (ad2 52), .ref (ad2 53), .ref (ad2 54), .ref (ad2 55), .ref (ad2 56), .ref (ad2 57), .ref (ad2 58), .ref (ad2 59), .int (0 : Int32), .ref (ad2 60), .int (0 : Int32), .ref (ad2 61), .ref (ad2 62), .int (0 : Int32), .ref (ad2 63), .ref (ad2 64), .ref (ad2 65), .ref (ad2 66), .ref (ad2 67), .ref (ad2 68), .int (0 : Int32), .ref (ad2 69), .ref (ad2 70), .ref (ad2 71), .ref (ad2 72), .ref (ad2 73), .int (0 : Int32), .int (0 : Int32), .int (0 : Int32), .ref (ad2 74), .ref (ad2 75), .ref (ad2 76), .ref (ad2 77), .ref (ad2 78), .ref (ad2 79)])) {H : Heap} {locs : List Loc} (h2 : tw_2 G 244 ad1 w1 80 ad2 w2 (fun q => s.heap.size ≤ q) s H locs) {ls : Array Slot} (hl : lv_has ls 7 [(4, .int (0 : Int32)), (3, .ref ao), (2, .ref (ad2 0)), (1, .ref (ad1 0)), (0, .ref b)]) {cells slots : Nat} (h3 : cells ≤ 1000) (h4 : slots ≤ 20000) : W p l e room_1 s m #[Value.ref b] below meth c H locs cells slots (lw_Z below #[Value.ref b] s) (F0 m 1270 ls []) := by
  refine W.widen (k := 1000) (n := 20000) h3 h4 ?_
  have hx := F.1.1
  have hb := F.1.2.1
  have hbA : ¬ (fun q : Nat => s.heap.size ≤ q) b := Nat.not_le.mpr hbl
  refine lv_aload_n hx hb dL_law_1270 rfl (lv_at hl 3 rfl) ?_
  refine lv_aload_n hx hb dL_law_1271 rfl (lv_at hl 4 rfl) ?_
  refine lv_iload hx hb dL_law_1272 (lv_at hl 0 rfl) ?_
  refine lv_iconst (v := 1) hx hb dL_law_1274 (by decide) ?_
  refine lv_iadd hx hb dL_law_1275 ?_
  refine tw_cv (v := (1 : Int32)) (by decide) ?_
  refine va_sld hx hb hX hbl hbA h2.1.2.2 (tw_ix (j := 1) (by decide) (by decide)).1 dL_law_1276 ?_
  refine tw_cv (v := xs 1) rfl ?_
  refine lv_aload_n hx hb dL_law_1277 rfl (lv_at hl 4 rfl) ?_
  refine lv_iload hx hb dL_law_1278 (lv_at hl 0 rfl) ?_
  refine lv_iconst (v := 2) hx hb dL_law_1280 (by decide) ?_
  refine lv_iadd hx hb dL_law_1281 ?_
  refine tw_cv (v := (2 : Int32)) (by decide) ?_
  refine va_sld hx hb hX hbl hbA h2.1.2.2 (tw_ix (j := 2) (by decide) (by decide)).1 dL_law_1282 ?_
  refine tw_cv (v := xs 2) rfl ?_
  refine lv_aload_n hx hb dL_law_1283 rfl (lv_at hl 1 rfl) ?_
  refine tw_calli_1 F h2 (tw_runSW (n := 4) (hh := [(0, 10, 13, 13)]) (As := [.ref (ad1 0), .int (xs 1), .int (xs 2), .ref ao]) (rest := []) F h2.1 (c_L_sum l G hst ad1 w1 H.size (xs 1) ((xs 1).toInt) rfl (xs 2) ((xs 2).toInt) rfl ao k1_0 k1_14) (tw_gl kw_1327 rfl) (tw_gl kw_1328 rfl) (tw_gl kw_0 rfl) tw_g_sum (by decide)  rfl rfl ⟨(Nat.le_of_ble_eq_true rfl), (Nat.le_of_ble_eq_true rfl)⟩ rfl hl.1 rfl (Nat.le_of_ble_eq_true rfl) dL_law_1284 ⟨(Nat.le_of_ble_eq_true rfl), (Nat.le_of_ble_eq_true rfl)⟩) (fun r1 wv2 H locs hp3 h2 => ?_)
  obtain ⟨rfl, -, rfl⟩ := hp3
  refine lv_istore (lv' := [(5, .int (1 : Int32)), (4, .int (0 : Int32)), (3, .ref ao), (2, .ref (ad2 0)), (1, .ref (ad1 0)), (0, .ref b)]) hx hb dL_law_1287 hl (by decide) rfl (fun ls hl => ?_)
  refine lv_aload_n hx hb dL_law_1289 rfl (lv_at hl 3 rfl) ?_
  refine lv_aload_n hx hb dL_law_1290 rfl (lv_at hl 5 rfl) ?_
  refine lv_iload hx hb dL_law_1291 (lv_at hl 1 rfl) ?_
  refine lv_iconst (v := 1) hx hb dL_law_1293 (by decide) ?_
  refine lv_iadd hx hb dL_law_1294 ?_
  refine tw_cv (v := (1 : Int32)) (by decide) ?_
  refine va_sld hx hb hX hbl hbA h2.1.2.2 (tw_ix (j := 1) (by decide) (by decide)).1 dL_law_1295 ?_
  refine tw_cv (v := xs 1) rfl ?_
  refine lv_aload_n hx hb dL_law_1296 rfl (lv_at hl 5 rfl) ?_
  refine lv_iload hx hb dL_law_1297 (lv_at hl 1 rfl) ?_
  refine lv_iconst (v := 2) hx hb dL_law_1299 (by decide) ?_
  refine lv_iadd hx hb dL_law_1300 ?_
  refine tw_cv (v := (2 : Int32)) (by decide) ?_
  refine va_sld hx hb hX hbl hbA h2.1.2.2 (tw_ix (j := 2) (by decide) (by decide)).1 dL_law_1301 ?_
  refine tw_cv (v := xs 2) rfl ?_
  refine tw_calli_2 F h2 (tw_runV (r := 0) (As := [.int (xs 1), .int (xs 2)]) (rest := []) F h2.2.1 (c_X12_sum l G ad2 w2 H.size (xs 1) ((xs 1).toInt) rfl (xs 2) ((xs 2).toInt) rfl k2_0) (tw_gl kw_1693 rfl) km_X12_sum kv_X12_sum rfl rfl ⟨(Nat.le_of_ble_eq_true rfl), (Nat.le_of_ble_eq_true rfl)⟩ (by decide) k2_0 rfl rfl hl.1 rfl (Nat.le_of_ble_eq_true rfl) dL_law_1302 ⟨(Nat.le_of_ble_eq_true rfl), (Nat.le_of_ble_eq_true rfl)⟩) (fun r5 wv6 H locs hp7 h2 => ?_)
  obtain ⟨rfl, hc8, hu9, -⟩ := hp7
  refine lv_istore (lv' := [(6, .int (0 : Int32)), (5, .int (1 : Int32)), (4, .int (0 : Int32)), (3, .ref ao), (2, .ref (ad2 0)), (1, .ref (ad1 0)), (0, .ref b)]) hx hb dL_law_1305 hl (by decide) rfl (fun ls hl => ?_)
  refine lv_aload_n hx hb dL_law_1307 rfl (lv_at hl 4 rfl) ?_
  refine tw_calli_2 F h2 (tw_runV (r := 0) (As := []) (rest := []) F h2.2.1 (c_X12_thrown l G ad2 wv6 H.size hu9) (tw_gl kw_1341 rfl) km_X12_thrown kv_X12_thrown rfl rfl ⟨(Nat.le_of_ble_eq_true rfl), (Nat.le_of_ble_eq_true rfl)⟩ (by decide) hu9 rfl rfl hl.1 rfl (Nat.le_of_ble_eq_true rfl) dL_law_1308 ⟨(Nat.le_of_ble_eq_true rfl), (Nat.le_of_ble_eq_true rfl)⟩) (fun r10 wv11 H locs hp12 h2 => ?_)
  obtain ⟨rfl, -, rfl⟩ := hp12
  refine lv_iload hx hb dL_law_1311 (lv_at hl 1 rfl) ?_
  refine lv_icmp_eq (tgt := 1318) hx hb dL_law_1313 (by decide) (fun _ => ?_) (fun c => absurd c (by decide))
  refine lv_iload hx hb dL_law_1318 (lv_at hl 1 rfl) ?_
  refine lv_if_ne (tgt := 1335) hx hb dL_law_1320 (by decide) (fun _ => ?_) (fun c => absurd c (by decide))
  refine lv_goto (tgt := 1975) hx hb dL_law_1335 (by decide) ?_
  exact law_tail F hr hlk hX hbl h2.1.2.2 (Nat.le_of_ble_eq_true rfl) (Nat.le_of_ble_eq_true rfl) (lv_sub hl [2, 3, 4, 5, 6] rfl)
set_option maxHeartbeats 4000000 in
set_option maxRecDepth 100000 in
theorem law_case_26 {p : Program} {l : Launch} {e : Env} {s : State} {m : MethodId} {below : List Frame} {meth : Method} {c : Code} {G : tw_G} {b : Nat} {xs : Nat → Int32} (hst : l.stackTraces = false) (F : tw_F p m c code 7 s #[Value.ref b] RL G (fun q => s.heap.size ≤ q)) (hr : meth.sig.returnType = ret) (hlk : meth.locks = false) (hX : va_X b 7 xs s s.heap) (hbl : b < s.heap.size) {ad1 ad2 : Nat → Nat} {w1 w2 : Nat → va_E} {ao : Nat} (k1_0 : w1 0 = .inr (11, [.ref (ad1 4), .ref (ad1 14), .ref (ad1 156), .ref (ad1 221), .ref (ad1 225), .ref (ad1 233), .ref (ad1 236), .int (0 : Int32), .ref (ad1 237), .int (0 : Int32), .ref (ad1 238)])) (k1_14 : w1 14 = .inr (2, [.ref (ad1 4), .ref (ad1 1), .ref (ad1 15), .ref (ad1 16), .ref (ad1 17), .int (0 : Int32), .int (0 : Int32), .int (0 : Int32)])) (k2_0 : w2 0 = .inr (12, [.int (0 : Int32), .int (2 : Int32), .int (1 : Int32), .ref (ad2 1), .ref (ad2 2), .ref (ad2 3), .ref (ad2 4), .ref (ad2 5), .int (0 : Int32), .ref (ad2 6), .ref (ad2 7), .ref (ad2 8), .int (0 : Int32), .ref (ad2 9), .ref (ad2 10), .ref (ad2 11), .ref (ad2 12), .int (0 : Int32), .ref (ad2 13), .ref (ad2 14), .ref (ad2 15), .ref (ad2 16), .ref (ad2 17), .ref (ad2 18), .ref (ad2 19), .ref (ad2 20), .ref (ad2 21), .ref (ad2 22), .ref (ad2 23), .ref (ad2 24), .ref (ad2 25), .ref (ad2 26), .ref (ad2 27), .ref (ad2 28), .ref (ad2 29), .ref (ad2 30), .ref (ad2 31), .ref (ad2 32), .ref (ad2 33), .ref (ad2 34), .int (0 : Int32), .int (0 : Int32), .int (0 : Int32), .ref (G.2.2 (100 + 10)), .ref (ad2 35), .ref (ad2 36), .ref (ad2 37), .int (0 : Int32), .ref (ad2 38), .ref (ad2 39), .ref (ad2 40), .ref (ad2 41), .ref (ad2 42), .ref (ad2 43), .ref (ad2 44), .ref (ad2 45), .ref (ad2 46), .ref (ad2 47), .ref (ad2 48), .ref (ad2 49), .ref (ad2 50), .ref (ad2 51), .ref (ad2 52), .ref (ad2 53), .ref (ad2 54), .ref (ad2 55), .ref (ad2 56), .ref (ad2 57), .ref (ad2 58), .ref (ad2 59), .int (0 : Int32), .ref (ad2 60), .int (0 : Int32), .ref (ad2 61), .ref (ad2 62), .int (0 : Int32), .ref (ad2 63), .ref (ad2 64), .ref (ad2 65), .ref (ad2 66), .ref (ad2 67), .ref (ad2 68), .int (0 : Int32), .ref (ad2 69), .ref (ad2 70), .ref (ad2 71), .ref (ad2 72), .ref (ad2 73), .int (0 : Int32), .int (0 : Int32), .int (0 : Int32), .ref (ad2 74), .ref (ad2 75), .ref (ad2 76), .ref (ad2 77), .ref (ad2 78), .ref (ad2 79)])) {H : Heap} {locs : List Loc} (h2 : tw_2 G 244 ad1 w1 80 ad2 w2 (fun q => s.heap.size ≤ q) s H locs) {ls : Array Slot} (hl : lv_has ls 7 [(4, .int (0 : Int32)), (3, .ref ao), (2, .ref (ad2 0)), (1, .ref (ad1 0)), (0, .ref b)]) {cells slots : Nat} (h3 : cells ≤ 1000) (h4 : slots ≤ 20000) : W p l e room_1 s m #[Value.ref b] below meth c H locs cells slots (lw_Z below #[Value.ref b] s) (F0 m 1338 ls []) := by
  refine W.widen (k := 1000) (n := 20000) h3 h4 ?_
  have hx := F.1.1
  have hb := F.1.2.1
  have hbA : ¬ (fun q : Nat => s.heap.size ≤ q) b := Nat.not_le.mpr hbl
  refine lv_aload_n hx hb dL_law_1338 rfl (lv_at hl 3 rfl) ?_
  refine lv_aload_n hx hb dL_law_1339 rfl (lv_at hl 4 rfl) ?_
  refine lv_iload hx hb dL_law_1340 (lv_at hl 0 rfl) ?_
  refine lv_iconst (v := 1) hx hb dL_law_1342 (by decide) ?_
  refine lv_iadd hx hb dL_law_1343 ?_
  refine tw_cv (v := (1 : Int32)) (by decide) ?_
  refine va_sld hx hb hX hbl hbA h2.1.2.2 (tw_ix (j := 1) (by decide) (by decide)).1 dL_law_1344 ?_
  refine tw_cv (v := xs 1) rfl ?_
  refine lv_aload_n hx hb dL_law_1345 rfl (lv_at hl 4 rfl) ?_
  refine lv_iload hx hb dL_law_1346 (lv_at hl 0 rfl) ?_
  refine lv_iconst (v := 2) hx hb dL_law_1348 (by decide) ?_
  refine lv_iadd hx hb dL_law_1349 ?_
  refine tw_cv (v := (2 : Int32)) (by decide) ?_
  refine va_sld hx hb hX hbl hbA h2.1.2.2 (tw_ix (j := 2) (by decide) (by decide)).1 dL_law_1350 ?_
  refine tw_cv (v := xs 2) rfl ?_
  refine tw_calli_1 F h2 (tw_runV (r := 0) (As := [.int (xs 1), .int (xs 2)]) (rest := []) F h2.1 (c_X11_within l G ad1 w1 H.size (xs 1) ((xs 1).toInt) rfl (xs 2) ((xs 2).toInt) rfl k1_0 k1_14) (tw_gl kw_1121 rfl) km_X11_within kv_X11_within rfl rfl ⟨(Nat.le_of_ble_eq_true rfl), (Nat.le_of_ble_eq_true rfl)⟩ (by decide) k1_0 rfl rfl hl.1 rfl (Nat.le_of_ble_eq_true rfl) dL_law_1351 ⟨(Nat.le_of_ble_eq_true rfl), (Nat.le_of_ble_eq_true rfl)⟩) (fun r1 wv2 H locs hp3 h2 => ?_)
  obtain ⟨rfl, hc4⟩ := hp3
  refine lv_aload_n hx hb dL_law_1354 rfl (lv_at hl 2 rfl) ?_
  refine lv_aload_n hx hb dL_law_1355 rfl (lv_at hl 4 rfl) ?_
  refine lv_iload hx hb dL_law_1356 (lv_at hl 0 rfl) ?_
  refine lv_iconst (v := 1) hx hb dL_law_1358 (by decide) ?_
  refine lv_iadd hx hb dL_law_1359 ?_
  refine tw_cv (v := (1 : Int32)) (by decide) ?_
  refine va_sld hx hb hX hbl hbA h2.1.2.2 (tw_ix (j := 1) (by decide) (by decide)).1 dL_law_1360 ?_
  refine tw_cv (v := xs 1) rfl ?_
  refine lv_aload_n hx hb dL_law_1361 rfl (lv_at hl 4 rfl) ?_
  refine lv_iload hx hb dL_law_1362 (lv_at hl 0 rfl) ?_
  refine lv_iconst (v := 2) hx hb dL_law_1364 (by decide) ?_
  refine lv_iadd hx hb dL_law_1365 ?_
  refine tw_cv (v := (2 : Int32)) (by decide) ?_
  refine va_sld hx hb hX hbl hbA h2.1.2.2 (tw_ix (j := 2) (by decide) (by decide)).1 dL_law_1366 ?_
  refine tw_cv (v := xs 2) rfl ?_
  refine tw_calli_2 F h2 (tw_runV (r := 0) (As := [.int (xs 1), .int (xs 2)]) (rest := [.int (-1 : Int32)]) F h2.2.1 (c_X12_within l G ad2 w2 H.size (xs 1) ((xs 1).toInt) rfl (xs 2) ((xs 2).toInt) rfl k2_0) (tw_gl kw_1697 rfl) km_X12_within kv_X12_within rfl rfl ⟨(Nat.le_of_ble_eq_true rfl), (Nat.le_of_ble_eq_true rfl)⟩ (by decide) k2_0 rfl rfl hl.1 rfl (Nat.le_of_ble_eq_true rfl) dL_law_1367 ⟨(Nat.le_of_ble_eq_true rfl), (Nat.le_of_ble_eq_true rfl)⟩) (fun r5 wv6 H locs hp7 h2 => ?_)
  obtain ⟨rfl, hc8⟩ := hp7
  refine lv_icmp_eq (tgt := 1975) hx hb dL_law_1370 (by decide) (fun _ => ?_) (fun c => absurd c (by decide))
  exact law_tail F hr hlk hX hbl h2.1.2.2 (Nat.le_of_ble_eq_true rfl) (Nat.le_of_ble_eq_true rfl) (lv_sub hl [0, 1, 2, 3, 4] rfl)
set_option maxHeartbeats 4000000 in
set_option maxRecDepth 100000 in
theorem law_case_27 {p : Program} {l : Launch} {e : Env} {s : State} {m : MethodId} {below : List Frame} {meth : Method} {c : Code} {G : tw_G} {b : Nat} {xs : Nat → Int32} (hst : l.stackTraces = false) (F : tw_F p m c code 7 s #[Value.ref b] RL G (fun q => s.heap.size ≤ q)) (hr : meth.sig.returnType = ret) (hlk : meth.locks = false) (hX : va_X b 7 xs s s.heap) (hbl : b < s.heap.size) {ad1 ad2 : Nat → Nat} {w1 w2 : Nat → va_E} {ao : Nat} (k1_0 : w1 0 = .inr (11, [.ref (ad1 4), .ref (ad1 14), .ref (ad1 156), .ref (ad1 221), .ref (ad1 225), .ref (ad1 233), .ref (ad1 236), .int (0 : Int32), .ref (ad1 237), .int (0 : Int32), .ref (ad1 238)])) (k1_14 : w1 14 = .inr (2, [.ref (ad1 4), .ref (ad1 1), .ref (ad1 15), .ref (ad1 16), .ref (ad1 17), .int (0 : Int32), .int (0 : Int32), .int (0 : Int32)])) (k1_17 : w1 17 = .inl (G.2.1 0, 4, .inl (fun _ => 0))) (k1_221 : w1 221 = .inr (5, [.ref (ad1 14), .ref (ad1 156), .ref (ad1 222), .ref (ad1 223), .ref (ad1 224)])) (k2_0 : w2 0 = .inr (12, [.int (0 : Int32), .int (2 : Int32), .int (1 : Int32), .ref (ad2 1), .ref (ad2 2), .ref (ad2 3), .ref (ad2 4), .ref (ad2 5), .int (0 : Int32), .ref (ad2 6), .ref (ad2 7), .ref (ad2 8), .int (0 : Int32), .ref (ad2 9), .ref (ad2 10), .ref (ad2 11), .ref (ad2 12), .int (0 : Int32), .ref (ad2 13), .ref (ad2 14), .ref (ad2 15), .ref (ad2 16), .ref (ad2 17), .ref (ad2 18), .ref (ad2 19), .ref (ad2 20), .ref (ad2 21), .ref (ad2 22), .ref (ad2 23), .ref (ad2 24), .ref (ad2 25), .ref (ad2 26), .ref (ad2 27), .ref (ad2 28), .ref (ad2 29), .ref (ad2 30), .ref (ad2 31), .ref (ad2 32), .ref (ad2 33), .ref (ad2 34), .int (0 : Int32), .int (0 : Int32), .int (0 : Int32), .ref (G.2.2 (100 + 10)), .ref (ad2 35), .ref (ad2 36), .ref (ad2 37), .int (0 : Int32), .ref (ad2 38), .ref (ad2 39), .ref (ad2 40), .ref (ad2 41), .ref (ad2 42), .ref (ad2 43), .ref (ad2 44), .ref (ad2 45), .ref (ad2 46), .ref (ad2 47), .ref (ad2 48), .ref (ad2 49), .ref (ad2 50), .ref (ad2 51), .ref (ad2 52), .ref (ad2 53), .ref (ad2 54), .ref (ad2 55), .ref (ad2 56), .ref (ad2 57), .ref (ad2 58), .ref (ad2 59), .int (0 : Int32), .ref (ad2 60), .int (0 : Int32), .ref (ad2 61), .ref (ad2 62), .int (0 : Int32), .ref (ad2 63), .ref (ad2 64), .ref (ad2 65), .ref (ad2 66), .ref (ad2 67), .ref (ad2 68), .int (0 : Int32), .ref (ad2 69), .ref (ad2 70), .ref (ad2 71), .ref (ad2 72), .ref (ad2 73), .int (0 : Int32), .int (0 : Int32), .int (0 : Int32), .ref (ad2 74), .ref (ad2 75), .ref (ad2 76), .ref (ad2 77), .ref (ad2 78), .ref (ad2 79)])) (k2_58 : w2 58 = .inl (G.2.1 0, 4, .inl (fun _ => 0))) {H : Heap} {locs : List Loc} (h2 : tw_2 G 244 ad1 w1 80 ad2 w2 (fun q => s.heap.size ≤ q) s H locs) {ls : Array Slot} (hl : lv_has ls 7 [(4, .int (0 : Int32)), (3, .ref ao), (2, .ref (ad2 0)), (1, .ref (ad1 0)), (0, .ref b)]) {cells slots : Nat} (h3 : cells ≤ 1000) (h4 : slots ≤ 20000) : W p l e room_1 s m #[Value.ref b] below meth c H locs cells slots (lw_Z below #[Value.ref b] s) (F0 m 1375 ls []) := by
  refine W.widen (k := 1000) (n := 20000) h3 h4 ?_
  have hx := F.1.1
  have hb := F.1.2.1
  have hbA : ¬ (fun q : Nat => s.heap.size ≤ q) b := Nat.not_le.mpr hbl
  refine lv_aload_n hx hb dL_law_1375 rfl (lv_at hl 3 rfl) ?_
  refine lv_aload_n hx hb dL_law_1376 rfl (lv_at hl 4 rfl) ?_
  refine lv_iload hx hb dL_law_1377 (lv_at hl 0 rfl) ?_
  refine lv_iconst (v := 1) hx hb dL_law_1379 (by decide) ?_
  refine lv_iadd hx hb dL_law_1380 ?_
  refine tw_cv (v := (1 : Int32)) (by decide) ?_
  refine va_sld hx hb hX hbl hbA h2.1.2.2 (tw_ix (j := 1) (by decide) (by decide)).1 dL_law_1381 ?_
  refine tw_cv (v := xs 1) rfl ?_
  refine tw_calli_1 F h2 (tw_runV (r := 0) (As := [.int (xs 1)]) (rest := []) F h2.1 (c_X11_result l G ad1 w1 H.size (xs 1) ((xs 1).toInt) rfl k1_0 k1_14 k1_17 k1_221) (tw_gl kw_1125 rfl) km_X11_result kv_X11_result rfl rfl ⟨(Nat.le_of_ble_eq_true rfl), (Nat.le_of_ble_eq_true rfl)⟩ (by decide) k1_0 rfl rfl hl.1 rfl (Nat.le_of_ble_eq_true rfl) dL_law_1382 ⟨(Nat.le_of_ble_eq_true rfl), (Nat.le_of_ble_eq_true rfl)⟩) (fun r1 wv2 H locs hp3 h2 => ?_)
  rcases hp3 with ⟨rfl, hc4⟩ | ⟨rfl, hc5⟩
  · skip
    refine lv_aload_n hx hb dL_law_1385 rfl (lv_at hl 2 rfl) ?_
    refine lv_aload_n hx hb dL_law_1386 rfl (lv_at hl 4 rfl) ?_
    refine lv_iload hx hb dL_law_1387 (lv_at hl 0 rfl) ?_
    refine lv_iconst (v := 1) hx hb dL_law_1389 (by decide) ?_
    refine lv_iadd hx hb dL_law_1390 ?_
    refine tw_cv (v := (1 : Int32)) (by decide) ?_
    refine va_sld hx hb hX hbl hbA h2.1.2.2 (tw_ix (j := 1) (by decide) (by decide)).1 dL_law_1391 ?_
    refine tw_cv (v := xs 1) rfl ?_
    refine tw_calli_2 F h2 (tw_runV (r := 0) (As := [.int (xs 1)]) (rest := [.int (-1 : Int32)]) F h2.2.1 (c_X12_result l G ad2 w2 H.size (xs 1) ((xs 1).toInt) rfl k2_0 k2_58) (tw_gl kw_1701 rfl) km_X12_result kv_X12_result rfl rfl ⟨(Nat.le_of_ble_eq_true rfl), (Nat.le_of_ble_eq_true rfl)⟩ (by decide) k2_0 rfl rfl hl.1 rfl (Nat.le_of_ble_eq_true rfl) dL_law_1392 ⟨(Nat.le_of_ble_eq_true rfl), (Nat.le_of_ble_eq_true rfl)⟩) (fun r6 wv7 H locs hp8 h2 => ?_)
    rcases hp8 with ⟨rfl, hc9⟩ | ⟨rfl, hc10⟩
    · skip
      refine lv_icmp_eq (tgt := 1975) hx hb dL_law_1395 (by decide) (fun _ => ?_) (fun c => absurd c (by decide))
      exact law_tail F hr hlk hX hbl h2.1.2.2 (Nat.le_of_ble_eq_true rfl) (Nat.le_of_ble_eq_true rfl) (lv_sub hl [0, 1, 2, 3, 4] rfl)
    · exfalso; omega
  · skip
    refine lv_aload_n hx hb dL_law_1385 rfl (lv_at hl 2 rfl) ?_
    refine lv_aload_n hx hb dL_law_1386 rfl (lv_at hl 4 rfl) ?_
    refine lv_iload hx hb dL_law_1387 (lv_at hl 0 rfl) ?_
    refine lv_iconst (v := 1) hx hb dL_law_1389 (by decide) ?_
    refine lv_iadd hx hb dL_law_1390 ?_
    refine tw_cv (v := (1 : Int32)) (by decide) ?_
    refine va_sld hx hb hX hbl hbA h2.1.2.2 (tw_ix (j := 1) (by decide) (by decide)).1 dL_law_1391 ?_
    refine tw_cv (v := xs 1) rfl ?_
    refine tw_calli_2 F h2 (tw_runV (r := 0) (As := [.int (xs 1)]) (rest := [.int (0 : Int32)]) F h2.2.1 (c_X12_result l G ad2 w2 H.size (xs 1) ((xs 1).toInt) rfl k2_0 k2_58) (tw_gl kw_1701 rfl) km_X12_result kv_X12_result rfl rfl ⟨(Nat.le_of_ble_eq_true rfl), (Nat.le_of_ble_eq_true rfl)⟩ (by decide) k2_0 rfl rfl hl.1 rfl (Nat.le_of_ble_eq_true rfl) dL_law_1392 ⟨(Nat.le_of_ble_eq_true rfl), (Nat.le_of_ble_eq_true rfl)⟩) (fun r11 wv12 H locs hp13 h2 => ?_)
    rcases hp13 with ⟨rfl, hc14⟩ | ⟨rfl, hc15⟩
    · exfalso; omega
    · skip
      refine lv_icmp_eq (tgt := 1975) hx hb dL_law_1395 (by decide) (fun _ => ?_) (fun c => absurd c (by decide))
      exact law_tail F hr hlk hX hbl h2.1.2.2 (Nat.le_of_ble_eq_true rfl) (Nat.le_of_ble_eq_true rfl) (lv_sub hl [0, 1, 2, 3, 4] rfl)
