set_option maxRecDepth 100000 in
theorem st_z0 {b : Nat} {s : State} (hts : ∀ w ∈ lw_tbl, w.before #[Value.ref b] s = true) (hg : ∀ w ∈ flatC (Jvm.Cond.and given_1 narrow_1), w.before #[Value.ref b] s = true) : ∃ t : Nat, va_Z RX11 "NUMBERS_AT_FIRST" "[I" (.ref t) (fun q => s.heap.size ≤ q) s s.heap ∧ va_T .int t 8 (fun j => .int (tw_zv 0 j)) (fun q => s.heap.size ≤ q) s s.heap := by
  have hA : ∀ q : Nat, q < s.heap.size → ¬ (fun q : Nat => s.heap.size ≤ q) q := fun q h => Nat.not_le.mpr h
  have hel : ∀ j : Nat, j < 8 → (Jvm.Term.elem (Jvm.Term.static "RaceByLaps" "NUMBERS_AT_FIRST" "[I") (.int (Int32.ofNat j))).eval #[Value.ref b] s none [] s = some (.int (tw_zv 0 j)) := fun j hj => match j, hj with
    | 0, _ => va_eqt (hg (Jvm.Cond.eq (.elem (Jvm.Term.static "RaceByLaps" "NUMBERS_AT_FIRST" "[I") (.int 0)) (.int 500)) (by decide +kernel))
    | 1, _ => va_eqt (hg (Jvm.Cond.eq (.elem (Jvm.Term.static "RaceByLaps" "NUMBERS_AT_FIRST" "[I") (.int 1)) (.int 5)) (by decide +kernel))
    | 2, _ => va_eqt (hg (Jvm.Cond.eq (.elem (Jvm.Term.static "RaceByLaps" "NUMBERS_AT_FIRST" "[I") (.int 2)) (.int 200)) (by decide +kernel))
    | 3, _ => va_eqt (hg (Jvm.Cond.eq (.elem (Jvm.Term.static "RaceByLaps" "NUMBERS_AT_FIRST" "[I") (.int 3)) (.int 15000)) (by decide +kernel))
    | 4, _ => va_eqt (hg (Jvm.Cond.eq (.elem (Jvm.Term.static "RaceByLaps" "NUMBERS_AT_FIRST" "[I") (.int 4)) (.int 3000)) (by decide +kernel))
    | 5, _ => va_eqt (hg (Jvm.Cond.eq (.elem (Jvm.Term.static "RaceByLaps" "NUMBERS_AT_FIRST" "[I") (.int 5)) (.int 50)) (by decide +kernel))
    | 6, _ => va_eqt (hg (Jvm.Cond.eq (.elem (Jvm.Term.static "RaceByLaps" "NUMBERS_AT_FIRST" "[I") (.int 6)) (.int 300)) (by decide +kernel))
    | 7, _ => va_eqt (hg (Jvm.Cond.eq (.elem (Jvm.Term.static "RaceByLaps" "NUMBERS_AT_FIRST" "[I") (.int 7)) (.int 0)) (by decide +kernel))
    | j + 8, h => absurd h (by omega)
  obtain ⟨t, h1, h2⟩ := va_Tof (args := #[Value.ref b]) (s := s) (tm := (Jvm.Term.static "RaceByLaps" "NUMBERS_AT_FIRST" "[I")) (ty := .int) (N := 8) (f := fun j => .int (tw_zv 0 j)) (by decide) (hg (Jvm.Cond.arrayOf (Jvm.Term.static "RaceByLaps" "NUMBERS_AT_FIRST" "[I") .int) (by decide +kernel)) (va_eqt (hg (Jvm.Cond.eq (.length (Jvm.Term.static "RaceByLaps" "NUMBERS_AT_FIRST" "[I")) (.int 8)) (by decide +kernel))) hel hA
  exact ⟨t, va_Zref (hts _ kw_87) (hts _ kw_1) h1 hA, h2⟩
set_option maxRecDepth 100000 in
theorem st_z1 {b : Nat} {s : State} (hts : ∀ w ∈ lw_tbl, w.before #[Value.ref b] s = true) (hg : ∀ w ∈ flatC (Jvm.Cond.and given_1 narrow_1), w.before #[Value.ref b] s = true) : ∃ t : Nat, va_Z RX11 "NUMBERS_LEAST" "[I" (.ref t) (fun q => s.heap.size ≤ q) s s.heap ∧ va_T .int t 8 (fun j => .int (tw_zv 1 j)) (fun q => s.heap.size ≤ q) s s.heap := by
  have hA : ∀ q : Nat, q < s.heap.size → ¬ (fun q : Nat => s.heap.size ≤ q) q := fun q h => Nat.not_le.mpr h
  have hel : ∀ j : Nat, j < 8 → (Jvm.Term.elem (Jvm.Term.static "RaceByLaps" "NUMBERS_LEAST" "[I") (.int (Int32.ofNat j))).eval #[Value.ref b] s none [] s = some (.int (tw_zv 1 j)) := fun j hj => match j, hj with
    | 0, _ => va_eqt (hg (Jvm.Cond.eq (.elem (Jvm.Term.static "RaceByLaps" "NUMBERS_LEAST" "[I") (.int 0)) (.int 100)) (by decide +kernel))
    | 1, _ => va_eqt (hg (Jvm.Cond.eq (.elem (Jvm.Term.static "RaceByLaps" "NUMBERS_LEAST" "[I") (.int 1)) (.int 0)) (by decide +kernel))
    | 2, _ => va_eqt (hg (Jvm.Cond.eq (.elem (Jvm.Term.static "RaceByLaps" "NUMBERS_LEAST" "[I") (.int 2)) (.int 0)) (by decide +kernel))
    | 3, _ => va_eqt (hg (Jvm.Cond.eq (.elem (Jvm.Term.static "RaceByLaps" "NUMBERS_LEAST" "[I") (.int 3)) (.int 0)) (by decide +kernel))
    | 4, _ => va_eqt (hg (Jvm.Cond.eq (.elem (Jvm.Term.static "RaceByLaps" "NUMBERS_LEAST" "[I") (.int 4)) (.int 0)) (by decide +kernel))
    | 5, _ => va_eqt (hg (Jvm.Cond.eq (.elem (Jvm.Term.static "RaceByLaps" "NUMBERS_LEAST" "[I") (.int 5)) (.int 0)) (by decide +kernel))
    | 6, _ => va_eqt (hg (Jvm.Cond.eq (.elem (Jvm.Term.static "RaceByLaps" "NUMBERS_LEAST" "[I") (.int 6)) (.int 0)) (by decide +kernel))
    | 7, _ => va_eqt (hg (Jvm.Cond.eq (.elem (Jvm.Term.static "RaceByLaps" "NUMBERS_LEAST" "[I") (.int 7)) (.int 0)) (by decide +kernel))
    | j + 8, h => absurd h (by omega)
  obtain ⟨t, h1, h2⟩ := va_Tof (args := #[Value.ref b]) (s := s) (tm := (Jvm.Term.static "RaceByLaps" "NUMBERS_LEAST" "[I")) (ty := .int) (N := 8) (f := fun j => .int (tw_zv 1 j)) (by decide) (hg (Jvm.Cond.arrayOf (Jvm.Term.static "RaceByLaps" "NUMBERS_LEAST" "[I") .int) (by decide +kernel)) (va_eqt (hg (Jvm.Cond.eq (.length (Jvm.Term.static "RaceByLaps" "NUMBERS_LEAST" "[I")) (.int 8)) (by decide +kernel))) hel hA
  exact ⟨t, va_Zref (hts _ kw_584) (hts _ kw_1) h1 hA, h2⟩
set_option maxRecDepth 100000 in
theorem st_z2 {b : Nat} {s : State} (hts : ∀ w ∈ lw_tbl, w.before #[Value.ref b] s = true) (hg : ∀ w ∈ flatC (Jvm.Cond.and given_1 narrow_1), w.before #[Value.ref b] s = true) : ∃ t : Nat, va_Z RX11 "NUMBERS_MOST" "[I" (.ref t) (fun q => s.heap.size ≤ q) s s.heap ∧ va_T .int t 8 (fun j => .int (tw_zv 2 j)) (fun q => s.heap.size ≤ q) s s.heap := by
  have hA : ∀ q : Nat, q < s.heap.size → ¬ (fun q : Nat => s.heap.size ≤ q) q := fun q h => Nat.not_le.mpr h
  have hel : ∀ j : Nat, j < 8 → (Jvm.Term.elem (Jvm.Term.static "RaceByLaps" "NUMBERS_MOST" "[I") (.int (Int32.ofNat j))).eval #[Value.ref b] s none [] s = some (.int (tw_zv 2 j)) := fun j hj => match j, hj with
    | 0, _ => va_eqt (hg (Jvm.Cond.eq (.elem (Jvm.Term.static "RaceByLaps" "NUMBERS_MOST" "[I") (.int 0)) (.int 2000)) (by decide +kernel))
    | 1, _ => va_eqt (hg (Jvm.Cond.eq (.elem (Jvm.Term.static "RaceByLaps" "NUMBERS_MOST" "[I") (.int 1)) (.int 50)) (by decide +kernel))
    | 2, _ => va_eqt (hg (Jvm.Cond.eq (.elem (Jvm.Term.static "RaceByLaps" "NUMBERS_MOST" "[I") (.int 2)) (.int 500)) (by decide +kernel))
    | 3, _ => va_eqt (hg (Jvm.Cond.eq (.elem (Jvm.Term.static "RaceByLaps" "NUMBERS_MOST" "[I") (.int 3)) (.int 60000)) (by decide +kernel))
    | 4, _ => va_eqt (hg (Jvm.Cond.eq (.elem (Jvm.Term.static "RaceByLaps" "NUMBERS_MOST" "[I") (.int 4)) (.int 20000)) (by decide +kernel))
    | 5, _ => va_eqt (hg (Jvm.Cond.eq (.elem (Jvm.Term.static "RaceByLaps" "NUMBERS_MOST" "[I") (.int 5)) (.int 200)) (by decide +kernel))
    | 6, _ => va_eqt (hg (Jvm.Cond.eq (.elem (Jvm.Term.static "RaceByLaps" "NUMBERS_MOST" "[I") (.int 6)) (.int 2000)) (by decide +kernel))
    | 7, _ => va_eqt (hg (Jvm.Cond.eq (.elem (Jvm.Term.static "RaceByLaps" "NUMBERS_MOST" "[I") (.int 7)) (.int 9)) (by decide +kernel))
    | j + 8, h => absurd h (by omega)
  obtain ⟨t, h1, h2⟩ := va_Tof (args := #[Value.ref b]) (s := s) (tm := (Jvm.Term.static "RaceByLaps" "NUMBERS_MOST" "[I")) (ty := .int) (N := 8) (f := fun j => .int (tw_zv 2 j)) (by decide) (hg (Jvm.Cond.arrayOf (Jvm.Term.static "RaceByLaps" "NUMBERS_MOST" "[I") .int) (by decide +kernel)) (va_eqt (hg (Jvm.Cond.eq (.length (Jvm.Term.static "RaceByLaps" "NUMBERS_MOST" "[I")) (.int 8)) (by decide +kernel))) hel hA
  exact ⟨t, va_Zref (hts _ kw_586) (hts _ kw_1) h1 hA, h2⟩
set_option maxRecDepth 100000 in
theorem st_z3 {b : Nat} {s : State} (hts : ∀ w ∈ lw_tbl, w.before #[Value.ref b] s = true) (hg : ∀ w ∈ flatC (Jvm.Cond.and given_1 narrow_1), w.before #[Value.ref b] s = true) : ∃ t : Nat, va_Z RX11 "TYRES_AT_FIRST" "[I" (.ref t) (fun q => s.heap.size ≤ q) s s.heap ∧ va_T .int t 6 (fun j => .int (tw_zv 3 j)) (fun q => s.heap.size ≤ q) s s.heap := by
  have hA : ∀ q : Nat, q < s.heap.size → ¬ (fun q : Nat => s.heap.size ≤ q) q := fun q h => Nat.not_le.mpr h
  have hel : ∀ j : Nat, j < 6 → (Jvm.Term.elem (Jvm.Term.static "RaceByLaps" "TYRES_AT_FIRST" "[I") (.int (Int32.ofNat j))).eval #[Value.ref b] s none [] s = some (.int (tw_zv 3 j)) := fun j hj => match j, hj with
    | 0, _ => va_eqt (hg (Jvm.Cond.eq (.elem (Jvm.Term.static "RaceByLaps" "TYRES_AT_FIRST" "[I") (.int 0)) (.int 0)) (by decide +kernel))
    | 1, _ => va_eqt (hg (Jvm.Cond.eq (.elem (Jvm.Term.static "RaceByLaps" "TYRES_AT_FIRST" "[I") (.int 1)) (.int 10)) (by decide +kernel))
    | 2, _ => va_eqt (hg (Jvm.Cond.eq (.elem (Jvm.Term.static "RaceByLaps" "TYRES_AT_FIRST" "[I") (.int 2)) (.int 40)) (by decide +kernel))
    | 3, _ => va_eqt (hg (Jvm.Cond.eq (.elem (Jvm.Term.static "RaceByLaps" "TYRES_AT_FIRST" "[I") (.int 3)) (.int 1000)) (by decide +kernel))
    | 4, _ => va_eqt (hg (Jvm.Cond.eq (.elem (Jvm.Term.static "RaceByLaps" "TYRES_AT_FIRST" "[I") (.int 4)) (.int 0)) (by decide +kernel))
    | 5, _ => va_eqt (hg (Jvm.Cond.eq (.elem (Jvm.Term.static "RaceByLaps" "TYRES_AT_FIRST" "[I") (.int 5)) (.int 5)) (by decide +kernel))
    | j + 6, h => absurd h (by omega)
  obtain ⟨t, h1, h2⟩ := va_Tof (args := #[Value.ref b]) (s := s) (tm := (Jvm.Term.static "RaceByLaps" "TYRES_AT_FIRST" "[I")) (ty := .int) (N := 6) (f := fun j => .int (tw_zv 3 j)) (by decide) (hg (Jvm.Cond.arrayOf (Jvm.Term.static "RaceByLaps" "TYRES_AT_FIRST" "[I") .int) (by decide +kernel)) (va_eqt (hg (Jvm.Cond.eq (.length (Jvm.Term.static "RaceByLaps" "TYRES_AT_FIRST" "[I")) (.int 6)) (by decide +kernel))) hel hA
  exact ⟨t, va_Zref (hts _ kw_85) (hts _ kw_1) h1 hA, h2⟩
set_option maxRecDepth 100000 in
theorem st_z4 {b : Nat} {s : State} (hts : ∀ w ∈ lw_tbl, w.before #[Value.ref b] s = true) (hg : ∀ w ∈ flatC (Jvm.Cond.and given_1 narrow_1), w.before #[Value.ref b] s = true) : ∃ t : Nat, va_Z RX11 "TYRES_MOST" "[I" (.ref t) (fun q => s.heap.size ≤ q) s s.heap ∧ va_T .int t 6 (fun j => .int (tw_zv 4 j)) (fun q => s.heap.size ≤ q) s s.heap := by
  have hA : ∀ q : Nat, q < s.heap.size → ¬ (fun q : Nat => s.heap.size ≤ q) q := fun q h => Nat.not_le.mpr h
  have hel : ∀ j : Nat, j < 6 → (Jvm.Term.elem (Jvm.Term.static "RaceByLaps" "TYRES_MOST" "[I") (.int (Int32.ofNat j))).eval #[Value.ref b] s none [] s = some (.int (tw_zv 4 j)) := fun j hj => match j, hj with
    | 0, _ => va_eqt (hg (Jvm.Cond.eq (.elem (Jvm.Term.static "RaceByLaps" "TYRES_MOST" "[I") (.int 0)) (.int 3000)) (by decide +kernel))
    | 1, _ => va_eqt (hg (Jvm.Cond.eq (.elem (Jvm.Term.static "RaceByLaps" "TYRES_MOST" "[I") (.int 1)) (.int 100)) (by decide +kernel))
    | 2, _ => va_eqt (hg (Jvm.Cond.eq (.elem (Jvm.Term.static "RaceByLaps" "TYRES_MOST" "[I") (.int 2)) (.int 200)) (by decide +kernel))
    | 3, _ => va_eqt (hg (Jvm.Cond.eq (.elem (Jvm.Term.static "RaceByLaps" "TYRES_MOST" "[I") (.int 3)) (.int 5000)) (by decide +kernel))
    | 4, _ => va_eqt (hg (Jvm.Cond.eq (.elem (Jvm.Term.static "RaceByLaps" "TYRES_MOST" "[I") (.int 4)) (.int 100)) (by decide +kernel))
    | 5, _ => va_eqt (hg (Jvm.Cond.eq (.elem (Jvm.Term.static "RaceByLaps" "TYRES_MOST" "[I") (.int 5)) (.int 100)) (by decide +kernel))
    | j + 6, h => absurd h (by omega)
  obtain ⟨t, h1, h2⟩ := va_Tof (args := #[Value.ref b]) (s := s) (tm := (Jvm.Term.static "RaceByLaps" "TYRES_MOST" "[I")) (ty := .int) (N := 6) (f := fun j => .int (tw_zv 4 j)) (by decide) (hg (Jvm.Cond.arrayOf (Jvm.Term.static "RaceByLaps" "TYRES_MOST" "[I") .int) (by decide +kernel)) (va_eqt (hg (Jvm.Cond.eq (.length (Jvm.Term.static "RaceByLaps" "TYRES_MOST" "[I")) (.int 6)) (by decide +kernel))) hel hA
  exact ⟨t, va_Zref (hts _ kw_574) (hts _ kw_1) h1 hA, h2⟩
set_option maxRecDepth 100000 in
theorem st_s0 {b : Nat} {s : State} (hts : ∀ w ∈ lw_tbl, w.before #[Value.ref b] s = true) (hg : ∀ w ∈ flatC (Jvm.Cond.and given_1 narrow_1), w.before #[Value.ref b] s = true) : ∃ q v : Nat, vk_R "RaceByLaps$Reader" 125 "lrpafnokwvyth" q s ∧ (va_O "java/lang/String" q (fun q => s.heap.size ≤ q) s s.heap ∧ va_OF "java/lang/String" "coder" "B" (.int 0) q (fun q => s.heap.size ≤ q) s s.heap ∧ va_OF "java/lang/String" "value" "[B" (.ref v) q (fun q => s.heap.size ≤ q) s s.heap ∧ va_T .byte v 13 (fun j => .int (([(108 : Int32), (114 : Int32), (112 : Int32), (97 : Int32), (102 : Int32), (110 : Int32), (111 : Int32), (107 : Int32), (119 : Int32), (118 : Int32), (121 : Int32), (116 : Int32), (104 : Int32)] : List Int32).getD j 0)) (fun q => s.heap.size ≤ q) s s.heap) := by
  have hA : ∀ q : Nat, q < s.heap.size → ¬ (fun q : Nat => s.heap.size ≤ q) q := fun q h => Nat.not_le.mpr h
  have hm : ∀ j : Nat, j < 13 → (Jvm.Cond.eq (.elem (.field (Jvm.Term.string "RaceByLaps$Reader" 125) "java/lang/String" "value" "[B") (.int (Int32.ofNat j))) (.int (([(108 : Int32), (114 : Int32), (112 : Int32), (97 : Int32), (102 : Int32), (110 : Int32), (111 : Int32), (107 : Int32), (119 : Int32), (118 : Int32), (121 : Int32), (116 : Int32), (104 : Int32)] : List Int32).getD j 0))) ∈ flatC (Jvm.Cond.and given_1 narrow_1) := by decide +kernel
  obtain ⟨adK, adV, hS, hev⟩ := vk_Sof (args := #[Value.ref b]) (s := s) (N := 1) (tm := fun _ => (Jvm.Term.string "RaceByLaps$Reader" 125)) (len := [13]) (byt := [[(108 : Int32), (114 : Int32), (112 : Int32), (97 : Int32), (102 : Int32), (110 : Int32), (111 : Int32), (107 : Int32), (119 : Int32), (118 : Int32), (121 : Int32), (116 : Int32), (104 : Int32)]]) (A := fun q => s.heap.size ≤ q) (fun i hi => by rw [show i = 0 by omega]; decide) (fun i hi => hg _ (by decide +kernel)) (fun i hi => hg _ (by decide +kernel)) (fun i hi => hg _ (by decide +kernel)) (fun i hi => by rw [show i = 0 by omega]; exact hg _ (by decide +kernel)) (fun i hi j hj => by rw [show i = 0 by omega] at hj ⊢; exact hg _ (hm j hj)) (fun i j hi hj h => absurd (show i = j by omega) h) hA
  exact ⟨adK 0, adV 0, vk_R.of (hts _ kw_685) (hev 0 (by decide)), hS.1 0 (by decide)⟩
set_option maxRecDepth 100000 in
theorem st_s1 {b : Nat} {s : State} (hts : ∀ w ∈ lw_tbl, w.before #[Value.ref b] s = true) (hg : ∀ w ∈ flatC (Jvm.Cond.and given_1 narrow_1), w.before #[Value.ref b] s = true) : ∃ q v : Nat, vk_R "RaceByLaps$Reader" 127 "skplwcoft" q s ∧ (va_O "java/lang/String" q (fun q => s.heap.size ≤ q) s s.heap ∧ va_OF "java/lang/String" "coder" "B" (.int 0) q (fun q => s.heap.size ≤ q) s s.heap ∧ va_OF "java/lang/String" "value" "[B" (.ref v) q (fun q => s.heap.size ≤ q) s s.heap ∧ va_T .byte v 9 (fun j => .int (([(115 : Int32), (107 : Int32), (112 : Int32), (108 : Int32), (119 : Int32), (99 : Int32), (111 : Int32), (102 : Int32), (116 : Int32)] : List Int32).getD j 0)) (fun q => s.heap.size ≤ q) s s.heap) := by
  have hA : ∀ q : Nat, q < s.heap.size → ¬ (fun q : Nat => s.heap.size ≤ q) q := fun q h => Nat.not_le.mpr h
  have hm : ∀ j : Nat, j < 9 → (Jvm.Cond.eq (.elem (.field (Jvm.Term.string "RaceByLaps$Reader" 127) "java/lang/String" "value" "[B") (.int (Int32.ofNat j))) (.int (([(115 : Int32), (107 : Int32), (112 : Int32), (108 : Int32), (119 : Int32), (99 : Int32), (111 : Int32), (102 : Int32), (116 : Int32)] : List Int32).getD j 0))) ∈ flatC (Jvm.Cond.and given_1 narrow_1) := by decide +kernel
  obtain ⟨adK, adV, hS, hev⟩ := vk_Sof (args := #[Value.ref b]) (s := s) (N := 1) (tm := fun _ => (Jvm.Term.string "RaceByLaps$Reader" 127)) (len := [9]) (byt := [[(115 : Int32), (107 : Int32), (112 : Int32), (108 : Int32), (119 : Int32), (99 : Int32), (111 : Int32), (102 : Int32), (116 : Int32)]]) (A := fun q => s.heap.size ≤ q) (fun i hi => by rw [show i = 0 by omega]; decide) (fun i hi => hg _ (by decide +kernel)) (fun i hi => hg _ (by decide +kernel)) (fun i hi => hg _ (by decide +kernel)) (fun i hi => by rw [show i = 0 by omega]; exact hg _ (by decide +kernel)) (fun i hi j hj => by rw [show i = 0 by omega] at hj ⊢; exact hg _ (hm j hj)) (fun i j hi hj h => absurd (show i = j by omega) h) hA
  exact ⟨adK 0, adV 0, vk_R.of (hts _ kw_686) (hev 0 (by decide)), hS.1 0 (by decide)⟩
set_option maxRecDepth 100000 in
theorem st_s2 {b : Nat} {s : State} (hts : ∀ w ∈ lw_tbl, w.before #[Value.ref b] s = true) (hg : ∀ w ∈ flatC (Jvm.Cond.and given_1 narrow_1), w.before #[Value.ref b] s = true) : ∃ q v : Nat, vk_R "RaceByLapsModel" 278 "lrpafnokwvyth" q s ∧ (va_O "java/lang/String" q (fun q => s.heap.size ≤ q) s s.heap ∧ va_OF "java/lang/String" "coder" "B" (.int 0) q (fun q => s.heap.size ≤ q) s s.heap ∧ va_OF "java/lang/String" "value" "[B" (.ref v) q (fun q => s.heap.size ≤ q) s s.heap ∧ va_T .byte v 13 (fun j => .int (([(108 : Int32), (114 : Int32), (112 : Int32), (97 : Int32), (102 : Int32), (110 : Int32), (111 : Int32), (107 : Int32), (119 : Int32), (118 : Int32), (121 : Int32), (116 : Int32), (104 : Int32)] : List Int32).getD j 0)) (fun q => s.heap.size ≤ q) s s.heap) := by
  have hA : ∀ q : Nat, q < s.heap.size → ¬ (fun q : Nat => s.heap.size ≤ q) q := fun q h => Nat.not_le.mpr h
  have hm : ∀ j : Nat, j < 13 → (Jvm.Cond.eq (.elem (.field (Jvm.Term.string "RaceByLapsModel" 278) "java/lang/String" "value" "[B") (.int (Int32.ofNat j))) (.int (([(108 : Int32), (114 : Int32), (112 : Int32), (97 : Int32), (102 : Int32), (110 : Int32), (111 : Int32), (107 : Int32), (119 : Int32), (118 : Int32), (121 : Int32), (116 : Int32), (104 : Int32)] : List Int32).getD j 0))) ∈ flatC (Jvm.Cond.and given_1 narrow_1) := by decide +kernel
  obtain ⟨adK, adV, hS, hev⟩ := vk_Sof (args := #[Value.ref b]) (s := s) (N := 1) (tm := fun _ => (Jvm.Term.string "RaceByLapsModel" 278)) (len := [13]) (byt := [[(108 : Int32), (114 : Int32), (112 : Int32), (97 : Int32), (102 : Int32), (110 : Int32), (111 : Int32), (107 : Int32), (119 : Int32), (118 : Int32), (121 : Int32), (116 : Int32), (104 : Int32)]]) (A := fun q => s.heap.size ≤ q) (fun i hi => by rw [show i = 0 by omega]; decide) (fun i hi => hg _ (by decide +kernel)) (fun i hi => hg _ (by decide +kernel)) (fun i hi => hg _ (by decide +kernel)) (fun i hi => by rw [show i = 0 by omega]; exact hg _ (by decide +kernel)) (fun i hi j hj => by rw [show i = 0 by omega] at hj ⊢; exact hg _ (hm j hj)) (fun i j hi hj h => absurd (show i = j by omega) h) hA
  exact ⟨adK 0, adV 0, vk_R.of (hts _ kw_1461) (hev 0 (by decide)), hS.1 0 (by decide)⟩
set_option maxRecDepth 100000 in
theorem st_s3 {b : Nat} {s : State} (hts : ∀ w ∈ lw_tbl, w.before #[Value.ref b] s = true) (hg : ∀ w ∈ flatC (Jvm.Cond.and given_1 narrow_1), w.before #[Value.ref b] s = true) : ∃ q v : Nat, vk_R "RaceByLapsModel" 280 "skplwcoft" q s ∧ (va_O "java/lang/String" q (fun q => s.heap.size ≤ q) s s.heap ∧ va_OF "java/lang/String" "coder" "B" (.int 0) q (fun q => s.heap.size ≤ q) s s.heap ∧ va_OF "java/lang/String" "value" "[B" (.ref v) q (fun q => s.heap.size ≤ q) s s.heap ∧ va_T .byte v 9 (fun j => .int (([(115 : Int32), (107 : Int32), (112 : Int32), (108 : Int32), (119 : Int32), (99 : Int32), (111 : Int32), (102 : Int32), (116 : Int32)] : List Int32).getD j 0)) (fun q => s.heap.size ≤ q) s s.heap) := by
  have hA : ∀ q : Nat, q < s.heap.size → ¬ (fun q : Nat => s.heap.size ≤ q) q := fun q h => Nat.not_le.mpr h
  have hm : ∀ j : Nat, j < 9 → (Jvm.Cond.eq (.elem (.field (Jvm.Term.string "RaceByLapsModel" 280) "java/lang/String" "value" "[B") (.int (Int32.ofNat j))) (.int (([(115 : Int32), (107 : Int32), (112 : Int32), (108 : Int32), (119 : Int32), (99 : Int32), (111 : Int32), (102 : Int32), (116 : Int32)] : List Int32).getD j 0))) ∈ flatC (Jvm.Cond.and given_1 narrow_1) := by decide +kernel
  obtain ⟨adK, adV, hS, hev⟩ := vk_Sof (args := #[Value.ref b]) (s := s) (N := 1) (tm := fun _ => (Jvm.Term.string "RaceByLapsModel" 280)) (len := [9]) (byt := [[(115 : Int32), (107 : Int32), (112 : Int32), (108 : Int32), (119 : Int32), (99 : Int32), (111 : Int32), (102 : Int32), (116 : Int32)]]) (A := fun q => s.heap.size ≤ q) (fun i hi => by rw [show i = 0 by omega]; decide) (fun i hi => hg _ (by decide +kernel)) (fun i hi => hg _ (by decide +kernel)) (fun i hi => hg _ (by decide +kernel)) (fun i hi => by rw [show i = 0 by omega]; exact hg _ (by decide +kernel)) (fun i hi j hj => by rw [show i = 0 by omega] at hj ⊢; exact hg _ (hm j hj)) (fun i j hi hj h => absurd (show i = j by omega) h) hA
  exact ⟨adK 0, adV 0, vk_R.of (hts _ kw_1462) (hev 0 (by decide)), hS.1 0 (by decide)⟩
set_option maxRecDepth 100000 in
theorem st_s4 {b : Nat} {s : State} (hts : ∀ w ∈ lw_tbl, w.before #[Value.ref b] s = true) (hg : ∀ w ∈ flatC (Jvm.Cond.and given_1 narrow_1), w.before #[Value.ref b] s = true) : ∃ q v : Nat, vk_R "RaceByLapsModel" 235 "!-" q s ∧ (va_O "java/lang/String" q (fun q => s.heap.size ≤ q) s s.heap ∧ va_OF "java/lang/String" "coder" "B" (.int 0) q (fun q => s.heap.size ≤ q) s s.heap ∧ va_OF "java/lang/String" "value" "[B" (.ref v) q (fun q => s.heap.size ≤ q) s s.heap ∧ va_T .byte v 2 (fun j => .int (([(33 : Int32), (45 : Int32)] : List Int32).getD j 0)) (fun q => s.heap.size ≤ q) s s.heap) := by
  have hA : ∀ q : Nat, q < s.heap.size → ¬ (fun q : Nat => s.heap.size ≤ q) q := fun q h => Nat.not_le.mpr h
  have hm : ∀ j : Nat, j < 2 → (Jvm.Cond.eq (.elem (.field (Jvm.Term.string "RaceByLapsModel" 235) "java/lang/String" "value" "[B") (.int (Int32.ofNat j))) (.int (([(33 : Int32), (45 : Int32)] : List Int32).getD j 0))) ∈ flatC (Jvm.Cond.and given_1 narrow_1) := by decide +kernel
  obtain ⟨adK, adV, hS, hev⟩ := vk_Sof (args := #[Value.ref b]) (s := s) (N := 1) (tm := fun _ => (Jvm.Term.string "RaceByLapsModel" 235)) (len := [2]) (byt := [[(33 : Int32), (45 : Int32)]]) (A := fun q => s.heap.size ≤ q) (fun i hi => by rw [show i = 0 by omega]; decide) (fun i hi => hg _ (by decide +kernel)) (fun i hi => hg _ (by decide +kernel)) (fun i hi => hg _ (by decide +kernel)) (fun i hi => by rw [show i = 0 by omega]; exact hg _ (by decide +kernel)) (fun i hi j hj => by rw [show i = 0 by omega] at hj ⊢; exact hg _ (hm j hj)) (fun i j hi hj h => absurd (show i = j by omega) h) hA
  exact ⟨adK 0, adV 0, vk_R.of (hts _ kw_1503) (hev 0 (by decide)), hS.1 0 (by decide)⟩
set_option maxRecDepth 100000 in
theorem st_s5 {b : Nat} {s : State} (hts : ∀ w ∈ lw_tbl, w.before #[Value.ref b] s = true) (hg : ∀ w ∈ flatC (Jvm.Cond.and given_1 narrow_1), w.before #[Value.ref b] s = true) : ∃ q v : Nat, vk_R "RaceByLapsModel" 211 "0123456789" q s ∧ (va_O "java/lang/String" q (fun q => s.heap.size ≤ q) s s.heap ∧ va_OF "java/lang/String" "coder" "B" (.int 0) q (fun q => s.heap.size ≤ q) s s.heap ∧ va_OF "java/lang/String" "value" "[B" (.ref v) q (fun q => s.heap.size ≤ q) s s.heap ∧ va_T .byte v 10 (fun j => .int (([(48 : Int32), (49 : Int32), (50 : Int32), (51 : Int32), (52 : Int32), (53 : Int32), (54 : Int32), (55 : Int32), (56 : Int32), (57 : Int32)] : List Int32).getD j 0)) (fun q => s.heap.size ≤ q) s s.heap) := by
  have hA : ∀ q : Nat, q < s.heap.size → ¬ (fun q : Nat => s.heap.size ≤ q) q := fun q h => Nat.not_le.mpr h
  have hm : ∀ j : Nat, j < 10 → (Jvm.Cond.eq (.elem (.field (Jvm.Term.string "RaceByLapsModel" 211) "java/lang/String" "value" "[B") (.int (Int32.ofNat j))) (.int (([(48 : Int32), (49 : Int32), (50 : Int32), (51 : Int32), (52 : Int32), (53 : Int32), (54 : Int32), (55 : Int32), (56 : Int32), (57 : Int32)] : List Int32).getD j 0))) ∈ flatC (Jvm.Cond.and given_1 narrow_1) := by decide +kernel
  obtain ⟨adK, adV, hS, hev⟩ := vk_Sof (args := #[Value.ref b]) (s := s) (N := 1) (tm := fun _ => (Jvm.Term.string "RaceByLapsModel" 211)) (len := [10]) (byt := [[(48 : Int32), (49 : Int32), (50 : Int32), (51 : Int32), (52 : Int32), (53 : Int32), (54 : Int32), (55 : Int32), (56 : Int32), (57 : Int32)]]) (A := fun q => s.heap.size ≤ q) (fun i hi => by rw [show i = 0 by omega]; decide) (fun i hi => hg _ (by decide +kernel)) (fun i hi => hg _ (by decide +kernel)) (fun i hi => hg _ (by decide +kernel)) (fun i hi => by rw [show i = 0 by omega]; exact hg _ (by decide +kernel)) (fun i hi j hj => by rw [show i = 0 by omega] at hj ⊢; exact hg _ (hm j hj)) (fun i j hi hj h => absurd (show i = j by omega) h) hA
  exact ⟨adK 0, adV 0, vk_R.of (hts _ kw_1513) (hev 0 (by decide)), hS.1 0 (by decide)⟩
set_option maxRecDepth 100000 in
theorem st_s6 {b : Nat} {s : State} (hts : ∀ w ∈ lw_tbl, w.before #[Value.ref b] s = true) (hg : ∀ w ∈ flatC (Jvm.Cond.and given_1 narrow_1), w.before #[Value.ref b] s = true) : ∃ q v : Nat, vk_R "RaceByLapsModel" 249 "+-" q s ∧ (va_O "java/lang/String" q (fun q => s.heap.size ≤ q) s s.heap ∧ va_OF "java/lang/String" "coder" "B" (.int 0) q (fun q => s.heap.size ≤ q) s s.heap ∧ va_OF "java/lang/String" "value" "[B" (.ref v) q (fun q => s.heap.size ≤ q) s s.heap ∧ va_T .byte v 2 (fun j => .int (([(43 : Int32), (45 : Int32)] : List Int32).getD j 0)) (fun q => s.heap.size ≤ q) s s.heap) := by
  have hA : ∀ q : Nat, q < s.heap.size → ¬ (fun q : Nat => s.heap.size ≤ q) q := fun q h => Nat.not_le.mpr h
  have hm : ∀ j : Nat, j < 2 → (Jvm.Cond.eq (.elem (.field (Jvm.Term.string "RaceByLapsModel" 249) "java/lang/String" "value" "[B") (.int (Int32.ofNat j))) (.int (([(43 : Int32), (45 : Int32)] : List Int32).getD j 0))) ∈ flatC (Jvm.Cond.and given_1 narrow_1) := by decide +kernel
  obtain ⟨adK, adV, hS, hev⟩ := vk_Sof (args := #[Value.ref b]) (s := s) (N := 1) (tm := fun _ => (Jvm.Term.string "RaceByLapsModel" 249)) (len := [2]) (byt := [[(43 : Int32), (45 : Int32)]]) (A := fun q => s.heap.size ≤ q) (fun i hi => by rw [show i = 0 by omega]; decide) (fun i hi => hg _ (by decide +kernel)) (fun i hi => hg _ (by decide +kernel)) (fun i hi => hg _ (by decide +kernel)) (fun i hi => by rw [show i = 0 by omega]; exact hg _ (by decide +kernel)) (fun i hi j hj => by rw [show i = 0 by omega] at hj ⊢; exact hg _ (hm j hj)) (fun i j hi hj h => absurd (show i = j by omega) h) hA
  exact ⟨adK 0, adV 0, vk_R.of (hts _ kw_1521) (hev 0 (by decide)), hS.1 0 (by decide)⟩
set_option maxRecDepth 100000 in
theorem st_s7 {b : Nat} {s : State} (hts : ∀ w ∈ lw_tbl, w.before #[Value.ref b] s = true) (hg : ∀ w ∈ flatC (Jvm.Cond.and given_1 narrow_1), w.before #[Value.ref b] s = true) : ∃ q v : Nat, vk_R "RaceByLapsModel" 254 "<>=" q s ∧ (va_O "java/lang/String" q (fun q => s.heap.size ≤ q) s s.heap ∧ va_OF "java/lang/String" "coder" "B" (.int 0) q (fun q => s.heap.size ≤ q) s s.heap ∧ va_OF "java/lang/String" "value" "[B" (.ref v) q (fun q => s.heap.size ≤ q) s s.heap ∧ va_T .byte v 3 (fun j => .int (([(60 : Int32), (62 : Int32), (61 : Int32)] : List Int32).getD j 0)) (fun q => s.heap.size ≤ q) s s.heap) := by
  have hA : ∀ q : Nat, q < s.heap.size → ¬ (fun q : Nat => s.heap.size ≤ q) q := fun q h => Nat.not_le.mpr h
  have hm : ∀ j : Nat, j < 3 → (Jvm.Cond.eq (.elem (.field (Jvm.Term.string "RaceByLapsModel" 254) "java/lang/String" "value" "[B") (.int (Int32.ofNat j))) (.int (([(60 : Int32), (62 : Int32), (61 : Int32)] : List Int32).getD j 0))) ∈ flatC (Jvm.Cond.and given_1 narrow_1) := by decide +kernel
  obtain ⟨adK, adV, hS, hev⟩ := vk_Sof (args := #[Value.ref b]) (s := s) (N := 1) (tm := fun _ => (Jvm.Term.string "RaceByLapsModel" 254)) (len := [3]) (byt := [[(60 : Int32), (62 : Int32), (61 : Int32)]]) (A := fun q => s.heap.size ≤ q) (fun i hi => by rw [show i = 0 by omega]; decide) (fun i hi => hg _ (by decide +kernel)) (fun i hi => hg _ (by decide +kernel)) (fun i hi => hg _ (by decide +kernel)) (fun i hi => by rw [show i = 0 by omega]; exact hg _ (by decide +kernel)) (fun i hi j hj => by rw [show i = 0 by omega] at hj ⊢; exact hg _ (hm j hj)) (fun i j hi hj h => absurd (show i = j by omega) h) hA
  exact ⟨adK 0, adV 0, vk_R.of (hts _ kw_1522) (hev 0 (by decide)), hS.1 0 (by decide)⟩
set_option maxRecDepth 100000 in
theorem st_s8 {b : Nat} {s : State} (hts : ∀ w ∈ lw_tbl, w.before #[Value.ref b] s = true) (hg : ∀ w ∈ flatC (Jvm.Cond.and given_1 narrow_1), w.before #[Value.ref b] s = true) : ∃ q v : Nat, vk_R "RaceByLapsModel" 262 "b+=-gh." q s ∧ (va_O "java/lang/String" q (fun q => s.heap.size ≤ q) s s.heap ∧ va_OF "java/lang/String" "coder" "B" (.int 0) q (fun q => s.heap.size ≤ q) s s.heap ∧ va_OF "java/lang/String" "value" "[B" (.ref v) q (fun q => s.heap.size ≤ q) s s.heap ∧ va_T .byte v 7 (fun j => .int (([(98 : Int32), (43 : Int32), (61 : Int32), (45 : Int32), (103 : Int32), (104 : Int32), (46 : Int32)] : List Int32).getD j 0)) (fun q => s.heap.size ≤ q) s s.heap) := by
  have hA : ∀ q : Nat, q < s.heap.size → ¬ (fun q : Nat => s.heap.size ≤ q) q := fun q h => Nat.not_le.mpr h
  have hm : ∀ j : Nat, j < 7 → (Jvm.Cond.eq (.elem (.field (Jvm.Term.string "RaceByLapsModel" 262) "java/lang/String" "value" "[B") (.int (Int32.ofNat j))) (.int (([(98 : Int32), (43 : Int32), (61 : Int32), (45 : Int32), (103 : Int32), (104 : Int32), (46 : Int32)] : List Int32).getD j 0))) ∈ flatC (Jvm.Cond.and given_1 narrow_1) := by decide +kernel
  obtain ⟨adK, adV, hS, hev⟩ := vk_Sof (args := #[Value.ref b]) (s := s) (N := 1) (tm := fun _ => (Jvm.Term.string "RaceByLapsModel" 262)) (len := [7]) (byt := [[(98 : Int32), (43 : Int32), (61 : Int32), (45 : Int32), (103 : Int32), (104 : Int32), (46 : Int32)]]) (A := fun q => s.heap.size ≤ q) (fun i hi => by rw [show i = 0 by omega]; decide) (fun i hi => hg _ (by decide +kernel)) (fun i hi => hg _ (by decide +kernel)) (fun i hi => hg _ (by decide +kernel)) (fun i hi => by rw [show i = 0 by omega]; exact hg _ (by decide +kernel)) (fun i hi j hj => by rw [show i = 0 by omega] at hj ⊢; exact hg _ (hm j hj)) (fun i j hi hj h => absurd (show i = j by omega) h) hA
  exact ⟨adK 0, adV 0, vk_R.of (hts _ kw_1523) (hev 0 (by decide)), hS.1 0 (by decide)⟩
set_option maxRecDepth 100000 in
theorem st_s9 {b : Nat} {s : State} (hts : ∀ w ∈ lw_tbl, w.before #[Value.ref b] s = true) (hg : ∀ w ∈ flatC (Jvm.Cond.and given_1 narrow_1), w.before #[Value.ref b] s = true) : ∃ q v : Nat, vk_R "RaceByLapsModel" 264 "0123" q s ∧ (va_O "java/lang/String" q (fun q => s.heap.size ≤ q) s s.heap ∧ va_OF "java/lang/String" "coder" "B" (.int 0) q (fun q => s.heap.size ≤ q) s s.heap ∧ va_OF "java/lang/String" "value" "[B" (.ref v) q (fun q => s.heap.size ≤ q) s s.heap ∧ va_T .byte v 4 (fun j => .int (([(48 : Int32), (49 : Int32), (50 : Int32), (51 : Int32)] : List Int32).getD j 0)) (fun q => s.heap.size ≤ q) s s.heap) := by
  have hA : ∀ q : Nat, q < s.heap.size → ¬ (fun q : Nat => s.heap.size ≤ q) q := fun q h => Nat.not_le.mpr h
  have hm : ∀ j : Nat, j < 4 → (Jvm.Cond.eq (.elem (.field (Jvm.Term.string "RaceByLapsModel" 264) "java/lang/String" "value" "[B") (.int (Int32.ofNat j))) (.int (([(48 : Int32), (49 : Int32), (50 : Int32), (51 : Int32)] : List Int32).getD j 0))) ∈ flatC (Jvm.Cond.and given_1 narrow_1) := by decide +kernel
  obtain ⟨adK, adV, hS, hev⟩ := vk_Sof (args := #[Value.ref b]) (s := s) (N := 1) (tm := fun _ => (Jvm.Term.string "RaceByLapsModel" 264)) (len := [4]) (byt := [[(48 : Int32), (49 : Int32), (50 : Int32), (51 : Int32)]]) (A := fun q => s.heap.size ≤ q) (fun i hi => by rw [show i = 0 by omega]; decide) (fun i hi => hg _ (by decide +kernel)) (fun i hi => hg _ (by decide +kernel)) (fun i hi => hg _ (by decide +kernel)) (fun i hi => by rw [show i = 0 by omega]; exact hg _ (by decide +kernel)) (fun i hi j hj => by rw [show i = 0 by omega] at hj ⊢; exact hg _ (hm j hj)) (fun i j hi hj h => absurd (show i = j by omega) h) hA
  exact ⟨adK 0, adV 0, vk_R.of (hts _ kw_1524) (hev 0 (by decide)), hS.1 0 (by decide)⟩
set_option maxRecDepth 100000 in
theorem st_s10 {b : Nat} {s : State} (hts : ∀ w ∈ lw_tbl, w.before #[Value.ref b] s = true) (hg : ∀ w ∈ flatC (Jvm.Cond.and given_1 narrow_1), w.before #[Value.ref b] s = true) : ∃ q v : Nat, vk_R "RaceByLapsModel" 595 "" q s ∧ (va_O "java/lang/String" q (fun q => s.heap.size ≤ q) s s.heap ∧ va_OF "java/lang/String" "coder" "B" (.int 0) q (fun q => s.heap.size ≤ q) s s.heap ∧ va_OF "java/lang/String" "value" "[B" (.ref v) q (fun q => s.heap.size ≤ q) s s.heap ∧ va_T .byte v 0 (fun j => .int (([] : List Int32).getD j 0)) (fun q => s.heap.size ≤ q) s s.heap) := by
  have hA : ∀ q : Nat, q < s.heap.size → ¬ (fun q : Nat => s.heap.size ≤ q) q := fun q h => Nat.not_le.mpr h
  have hm : ∀ j : Nat, j < 0 → (Jvm.Cond.eq (.elem (.field (Jvm.Term.string "RaceByLapsModel" 595) "java/lang/String" "value" "[B") (.int (Int32.ofNat j))) (.int (([] : List Int32).getD j 0))) ∈ flatC (Jvm.Cond.and given_1 narrow_1) := by decide +kernel
  obtain ⟨adK, adV, hS, hev⟩ := vk_Sof (args := #[Value.ref b]) (s := s) (N := 1) (tm := fun _ => (Jvm.Term.string "RaceByLapsModel" 595)) (len := [0]) (byt := [[]]) (A := fun q => s.heap.size ≤ q) (fun i hi => by rw [show i = 0 by omega]; decide) (fun i hi => hg _ (by decide +kernel)) (fun i hi => hg _ (by decide +kernel)) (fun i hi => hg _ (by decide +kernel)) (fun i hi => by rw [show i = 0 by omega]; exact hg _ (by decide +kernel)) (fun i hi j hj => by rw [show i = 0 by omega] at hj ⊢; exact hg _ (hm j hj)) (fun i j hi hj h => absurd (show i = j by omega) h) hA
  exact ⟨adK 0, adV 0, vk_R.of (hts _ kw_1789) (hev 0 (by decide)), hS.1 0 (by decide)⟩
theorem st_arr {U : State} {args : Array Value} {ty : FieldType} (hn : ∀ C, ty ≠ .object C) (h : (Cond.arrayClass ty).before args U = true) : ∃ cA : ClassId, ArrOfT U cA ty ∧ va_RA U cA ty := by
  obtain ⟨c, k, comp, h1, h2, h3⟩ := Cond.arrayClass_spec h
  refine ⟨c, fun n z => ⟨(fun k h => by cases h), k, h2, comp, h3⟩, ?_⟩
  cases ty with
  | object C => exact absurd rfl (hn C)
  | _ => exact h1
theorem st_arrO {U : State} {args : Array Value} {C : String} (h : (Cond.arrayOver (.object C)).before args U = true) : ∃ cA : ClassId, ArrOfT U cA (.object C) ∧ va_RA U cA (.object C) := by
  obtain ⟨comp, c, k, h1, h2, h3, h4, h5⟩ := Cond.arrayOver_spec h
  exact ⟨c, fun n z => ⟨(fun k h => by cases h), k, h3, comp, h4⟩, k, comp, h3, h4, h1, h5⟩
set_option maxRecDepth 100000 in
theorem st_start {b : Nat} {s : State} (hts : ∀ w ∈ lw_tbl, w.before #[Value.ref b] s = true) (hg : ∀ w ∈ flatC (Jvm.Cond.and given_1 narrow_1), w.before #[Value.ref b] s = true) : ∃ G : tw_G, tw_E G (fun q => s.heap.size ≤ q) s := by
  have hgd : ∀ w ∈ lw_g, w.before #[Value.ref b] s = true := fun w h => hts w (List.mem_filter.mp h).1
  have hA : ∀ q : Nat, q < s.heap.size → ¬ (fun q : Nat => s.heap.size ≤ q) q := fun q h => Nat.not_le.mpr h
  obtain ⟨c0, i0, k0⟩ := u_known (C := RX0) (T := TX0) (N := 5) (n := 5) hgd iw_X0 (hts _ kw_384)
  obtain ⟨c1, i1, k1⟩ := u_known (C := RX1) (T := TX1) (N := 14) (n := 14) hgd iw_X1 (hts _ kw_145)
  obtain ⟨c2, i2, k2⟩ := u_known (C := RX2) (T := TX2) (N := 8) (n := 8) hgd iw_X2 (hts _ kw_136)
  obtain ⟨c3, i3, k3⟩ := u_known (C := RX3) (T := TX3) (N := 9) (n := 9) hgd iw_X3 (hts _ kw_479)
  obtain ⟨c4, i4, k4⟩ := u_known (C := RX4) (T := TX4) (N := 2) (n := 2) hgd iw_X4 (hts _ kw_35)
  obtain ⟨c5, i5, k5⟩ := u_known (C := RX5) (T := TX5) (N := 5) (n := 5) hgd iw_X5 (hts _ kw_413)
  obtain ⟨c6, i6, k6⟩ := u_known (C := RX6) (T := TX6) (N := 20) (n := 20) hgd iw_X6 (hts _ kw_257)
  obtain ⟨c7, i7, k7⟩ := u_known (C := RX7) (T := TX7) (N := 4) (n := 4) hgd iw_X7 (hts _ kw_55)
  obtain ⟨c8, i8, k8⟩ := u_known (C := RX8) (T := TX8) (N := 8) (n := 8) hgd iw_X8 (hts _ kw_153)
  obtain ⟨c9, i9, k9⟩ := u_known (C := RX9) (T := TX9) (N := 9) (n := 9) hgd iw_X9 (hts _ kw_49)
  obtain ⟨c10, i10, k10⟩ := u_known (C := RX10) (T := TX10) (N := 11) (n := 11) hgd iw_X10 (hts _ kw_437)
  obtain ⟨c11, i11, k11⟩ := u_known (C := RX11) (T := TX11) (N := 11) (n := 11) hgd iw_X11 (hts _ kw_27)
  obtain ⟨c12, i12, k12⟩ := u_known (C := RX12) (T := TX12) (N := 97) (n := 97) hgd iw_X12 (hts _ kw_1354)
  obtain ⟨a0, p0⟩ := st_arr (ty := .int) (fun C h => by cases h) (hts _ kw_47)
  obtain ⟨a1, p1⟩ := st_arr (ty := .boolean) (fun C h => by cases h) (hts _ kw_83)
  obtain ⟨a2, p2⟩ := st_arrO (C := "RaceByLaps$Car") (hts _ kw_142)
  obtain ⟨a3, p3⟩ := st_arrO (C := "RaceByLaps$Runner") (hts _ kw_144)
  obtain ⟨a4, p4⟩ := st_arrO (C := "RaceByLaps$Text") (hts _ kw_390)
  obtain ⟨a5, p5⟩ := st_arr (ty := .long) (fun C h => by cases h) (hts _ kw_2086)
  obtain ⟨t0, z0⟩ := st_z0 hts hg
  obtain ⟨t1, z1⟩ := st_z1 hts hg
  obtain ⟨t2, z2⟩ := st_z2 hts hg
  obtain ⟨t3, z3⟩ := st_z3 hts hg
  obtain ⟨t4, z4⟩ := st_z4 hts hg
  obtain ⟨s0, v0, r0, x0⟩ := st_s0 hts hg
  obtain ⟨s1, v1, r1, x1⟩ := st_s1 hts hg
  obtain ⟨s2, v2, r2, x2⟩ := st_s2 hts hg
  obtain ⟨s3, v3, r3, x3⟩ := st_s3 hts hg
  obtain ⟨s4, v4, r4, x4⟩ := st_s4 hts hg
  obtain ⟨s5, v5, r5, x5⟩ := st_s5 hts hg
  obtain ⟨s6, v6, r6, x6⟩ := st_s6 hts hg
  obtain ⟨s7, v7, r7, x7⟩ := st_s7 hts hg
  obtain ⟨s8, v8, r8, x8⟩ := st_s8 hts hg
  obtain ⟨s9, v9, r9, x9⟩ := st_s9 hts hg
  obtain ⟨s10, v10, r10, x10⟩ := st_s10 hts hg
  refine ⟨((fun k => [c0, c1, c2, c3, c4, c5, c6, c7, c8, c9, c10, c11, c12].getD k c0, fun k => [i0, i1, i2, i3, i4, i5, i6, i7, i8, i9, i10, i11, i12].getD k i0), fun k => [a0, a1, a2, a3, a4, a5].getD k a0, fun k => if k < 100 then [t0, t1, t2, t3, t4].getD k 0 else if k < 200 then [s0, s1, s2, s3, s4, s5, s6, s7, s8, s9, s10].getD (k - 100) 0 else [v0, v1, v2, v3, v4, v5, v6, v7, v8, v9, v10].getD (k - 200) 0), ⟨?_, ?_⟩, ⟨?_, ?_, ?_, ?_, ?_, ?_⟩, ⟨?_, ?_, ?_⟩, ?_, ?_, ?_, ?_, ?_, ?_⟩
  · intro k q hq
    match k, hq with
    | 0, hq => cases hq; exact k0
    | 1, hq => cases hq; exact k1
    | 2, hq => cases hq; exact k2
    | 3, hq => cases hq; exact k3
    | 4, hq => cases hq; exact k4
    | 5, hq => cases hq; exact k5
    | 6, hq => cases hq; exact k6
    | 7, hq => cases hq; exact k7
    | 8, hq => cases hq; exact k8
    | 9, hq => cases hq; exact k9
    | 10, hq => cases hq; exact k10
    | 11, hq => cases hq; exact k11
    | 12, hq => cases hq; exact k12
    | k + 13, hq => simp [vwCl] at hq
  · intro k q hq
    match k, hq with
    | 0, hq => cases hq; exact p0
    | 1, hq => cases hq; exact p1
    | 2, hq => cases hq; exact p2
    | 3, hq => cases hq; exact p3
    | 4, hq => cases hq; exact p4
    | 5, hq => cases hq; exact p5
    | k + 6, hq => simp [tw_tys] at hq
  · intro q hq
    simp only [tw_nwM, List.mem_cons, List.not_mem_nil, or_false] at hq
    rcases hq with rfl | rfl | rfl | rfl | rfl | rfl | rfl | rfl | rfl | rfl
    · exact va_Nw.of rfl (hts _ kw_561)
    · exact va_Nw.of rfl (hts _ kw_623)
    · exact va_Nw.of rfl (hts _ kw_680)
    · exact va_Nw.of rfl (hts _ kw_790)
    · exact va_Nw.of rfl (hts _ kw_916)
    · exact va_Nw.of rfl (hts _ kw_982)
    · exact va_Nw.of rfl (hts _ kw_1062)
    · exact va_Nw.of rfl (hts _ kw_1145)
    · exact va_Nw.of rfl (hts _ kw_1162)
    · exact va_Nw.of rfl (hts _ kw_1210)
  · intro q hq
    simp only [tw_nwF, List.mem_cons, List.not_mem_nil, or_false] at hq
    rcases hq with rfl | rfl
    · exact va_Nw.of rfl (hts _ kw_84)
    · exact va_Nw.of rfl (hts _ kw_86)
  · exact va_Nw.of rfl (hts _ kw_1262)
  · exact va_Nw.of rfl (hts _ kw_1263)
  · exact va_Nw.of rfl (hts _ kw_1265)
  · exact va_Nw.of rfl (hts _ kw_1267)
  · exact va_AO.of (hts _ kw_142)
  · exact va_AO.of (hts _ kw_144)
  · exact va_AO.of (hts _ kw_390)
  · intro k hk
    match k, hk with
    | 0, _ => exact z0
    | 1, _ => exact z1
    | 2, _ => exact z2
    | 3, _ => exact z3
    | 4, _ => exact z4
    | k + 5, h => exact absurd h (by omega)
  · intro i hi
    match i, hi with
    | 0, _ => exact r0
    | 1, _ => exact r1
    | 2, _ => exact r2
    | 3, _ => exact r3
    | 4, _ => exact r4
    | 5, _ => exact r5
    | 6, _ => exact r6
    | 7, _ => exact r7
    | 8, _ => exact r8
    | 9, _ => exact r9
    | 10, _ => exact r10
    | i + 11, h => exact absurd h (by omega)
  · exact vx_Zqof (hts _ kw_1287) (hts _ kw_20) (hg (Jvm.Cond.isRef (Jvm.Term.static "java/lang/Throwable" "UNASSIGNED_STACK" "[Ljava/lang/StackTraceElement;")) (by decide +kernel)) hA
  · exact vx_Zqof (hts _ kw_1289) (hts _ kw_20) (hg (Jvm.Cond.isRef (Jvm.Term.static "java/lang/Throwable" "SUPPRESSED_SENTINEL" "Ljava/util/List;")) (by decide +kernel)) hA
  · exact va_Zof (hts _ kw_700) (hts _ kw_15) (va_eqt (hg (Jvm.Cond.eq (Jvm.Term.static "java/lang/String" "COMPACT_STRINGS" "Z") (.int 1)) (by decide +kernel))) hA
  · intro i hi
    match i, hi with
    | 0, _ => exact x0
    | 1, _ => exact x1
    | 2, _ => exact x2
    | 3, _ => exact x3
    | 4, _ => exact x4
    | 5, _ => exact x5
    | 6, _ => exact x6
    | 7, _ => exact x7
    | 8, _ => exact x8
    | 9, _ => exact x9
    | 10, _ => exact x10
    | i + 11, h => exact absurd h (by omega)
