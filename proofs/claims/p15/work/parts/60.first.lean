theorem m0_z : jm_in 0 := jm_inL (by decide) (by decide)
/-! the memories at first -/
def M0a : jm_M := fun f i k => match f with
  | 0 => if k = 10 then 16 else 0
  | 1 => if k = 0 then 2 else if k = 1 then 1 else 0
  | 6 => if k = 8 then (-1) else 0
  | 8 => if k = 11 then (if 0 ≤ i ∧ i < 6 then i else 0) else 0
  | 10 => if k = 0 then lim1 i else if k = 1 then wid1 i else 0
  | 14 => (jm_ur (jm_ur (jm_ur (jm_ur (jm_ur (fun _ => 0) 0 20000) 1 20000) 2 20000) 3 20000) 4 20000) k
  | 15 => (jm_ur (jm_ur (jm_ur (jm_ur (jm_ur (fun _ => 0) 0 300) 1 300) 2 300) 3 300) 4 300) k
  | 17 => (jm_ur (jm_ur (jm_ur (jm_ur (jm_ur (jm_ur (jm_ur (jm_ur (jm_ur (jm_ur (jm_ur (jm_ur (jm_ur (jm_ur (jm_ur (jm_ur (jm_ur (jm_ur (jm_ur (jm_ur (jm_ur (jm_ur (jm_ur (jm_ur (fun _ => 0) 0 0) 1 10) 2 40) 3 1000) 4 0) 5 5) 6 0) 7 10) 8 40) 9 1000) 10 0) 11 5) 12 0) 13 10) 14 40) 15 1000) 16 0) 17 5) 18 0) 19 10) 20 40) 21 1000) 22 0) 23 5) k
  | 18 => (jm_ur (jm_ur (jm_ur (jm_ur (jm_ur (jm_ur (jm_ur (jm_ur (fun _ => 0) 0 500) 1 5) 2 200) 3 15000) 4 3000) 5 50) 6 300) 7 0) k
  | 48 => if 0 ≤ k ∧ k < 10 then k + 6 else 0
  | _ => 0
def M0b : jm_M := fun f i k => match f with
  | 0 => if k = 1 then 2 else if k = 2 then 1 else if k = 43 then 10 else 0
  | 1 => (jm_ur (jm_ur (jm_ur (jm_ur (jm_ur (fun _ => 0) 0 20000) 1 20000) 2 20000) 3 20000) 4 20000) k
  | 2 => (jm_ur (jm_ur (jm_ur (jm_ur (jm_ur (fun _ => 0) 0 300) 1 300) 2 300) 3 300) 4 300) k
  | 4 => (jm_ur (jm_ur (jm_ur (jm_ur (jm_ur (jm_ur (jm_ur (jm_ur (jm_ur (jm_ur (jm_ur (jm_ur (jm_ur (jm_ur (jm_ur (jm_ur (fun _ => 0) 1 10) 2 40) 3 1000) 5 5) 7 10) 8 40) 9 1000) 11 5) 13 10) 14 40) 15 1000) 17 5) 19 10) 20 40) 21 1000) 23 5) k
  | 5 => (jm_ur (jm_ur (jm_ur (jm_ur (jm_ur (jm_ur (jm_ur (fun _ => 0) 0 500) 1 5) 2 200) 3 15000) 4 3000) 5 50) 6 300) k
  | _ => 0
theorem m0_upd0 {h : Nat → Int32} (k : Nat) {x : Int32} (hx : x = Int32.ofInt 0) (e : h = fun _ : Nat => Int32.ofInt 0) : upd h k x = fun _ : Nat => Int32.ofInt 0 := by
  subst hx; subst e
  funext j
  unfold upd
  split <;> rfl
theorem m0_upd {h : Nat → Int32} {g : Int → Int} (k : Nat) (v : Int) {x : Int32} (hx : x = Int32.ofInt v) (e : h = fun j : Nat => Int32.ofInt (g j)) : upd h k x = fun j : Nat => Int32.ofInt (jm_ur g k v j) := by
  subst hx; subst e
  funext j
  unfold upd jm_ur
  by_cases hj : j = k
  · rw [if_pos hj, if_pos (by omega)]
  · rw [if_neg hj, if_neg (by omega)]
theorem z1_0 (G : tw_G) (ad : Nat → Nat) : (.inr (11, [.ref (ad 4), .ref (ad 14), .ref (ad 156), .ref (ad 221), .ref (ad 225), .ref (ad 233), .ref (ad 236), .int (0 : Int32), .ref (ad 237), .int (0 : Int32), .ref (ad 238)]) : va_E) = jm_c wd1 G ad M0a 0 := rfl
theorem z1_1 (G : tw_G) (ad : Nat → Nat) : (.inr (4, [.ref (ad 2), .ref (ad 3)]) : va_E) = jm_c wd1 G ad M0a 1 := rfl
theorem z1_2 (G : tw_G) (ad : Nat → Nat) : (.inl (G.2.1 0, 26, .inl (fun _ => 0)) : va_E) = jm_c wd1 G ad M0a 2 := rfl
theorem z1_3 (G : tw_G) (ad : Nat → Nat) : (.inl (G.2.1 0, 60, .inl (fun _ => 0)) : va_E) = jm_c wd1 G ad M0a 3 := rfl
theorem z1_4 (G : tw_G) (ad : Nat → Nat) : (.inr (9, [.int (2 : Int32), .int (1 : Int32), .ref (ad 5), .ref (ad 6), .ref (ad 7), .ref (ad 8), .ref (ad 9), .ref (ad 10), .ref (ad 12)]) : va_E) = jm_c wd1 G ad M0a 4 := rfl
theorem z1_5 (G : tw_G) (ad : Nat → Nat) : (.inl (G.2.1 0, 5, .inl (upd (upd (upd (upd (upd (fun _ => 0) 0 (20000 : Int32)) 1 (20000 : Int32)) 2 (20000 : Int32)) 3 (20000 : Int32)) 4 (20000 : Int32))) : va_E) = jm_c wd1 G ad M0a 5 := congrArg (fun z : Nat → Int32 => (.inl (G.2.1 0, 5, .inl z) : va_E)) (m0_upd 4 20000 (by decide) (m0_upd 3 20000 (by decide) (m0_upd 2 20000 (by decide) (m0_upd 1 20000 (by decide) (m0_upd 0 20000 (by decide) rfl)))))
theorem z1_6 (G : tw_G) (ad : Nat → Nat) : (.inl (G.2.1 0, 5, .inl (upd (upd (upd (upd (upd (fun _ => 0) 0 (300 : Int32)) 1 (300 : Int32)) 2 (300 : Int32)) 3 (300 : Int32)) 4 (300 : Int32))) : va_E) = jm_c wd1 G ad M0a 6 := congrArg (fun z : Nat → Int32 => (.inl (G.2.1 0, 5, .inl z) : va_E)) (m0_upd 4 300 (by decide) (m0_upd 3 300 (by decide) (m0_upd 2 300 (by decide) (m0_upd 1 300 (by decide) (m0_upd 0 300 (by decide) rfl)))))
theorem z1_7 (G : tw_G) (ad : Nat → Nat) : (.inl (G.2.1 1, 5, .inl (upd (upd (upd (upd (upd (fun _ => 0) 0 (0 : Int32)) 1 (0 : Int32)) 2 (0 : Int32)) 3 (0 : Int32)) 4 (0 : Int32))) : va_E) = jm_c wd1 G ad M0a 7 := congrArg (fun z : Nat → Int32 => (.inl (G.2.1 1, 5, .inl z) : va_E)) (m0_upd0 4 (by decide) (m0_upd0 3 (by decide) (m0_upd0 2 (by decide) (m0_upd0 1 (by decide) (m0_upd0 0 (by decide) rfl)))))
theorem z1_8 (G : tw_G) (ad : Nat → Nat) : (.inl (G.2.1 0, 24, .inl (upd (upd (upd (upd (upd (upd (upd (upd (upd (upd (upd (upd (upd (upd (upd (upd (upd (upd (upd (upd (upd (upd (upd (upd (fun _ => 0) 0 (0 : Int32)) 1 (10 : Int32)) 2 (40 : Int32)) 3 (1000 : Int32)) 4 (0 : Int32)) 5 (5 : Int32)) 6 (0 : Int32)) 7 (10 : Int32)) 8 (40 : Int32)) 9 (1000 : Int32)) 10 (0 : Int32)) 11 (5 : Int32)) 12 (0 : Int32)) 13 (10 : Int32)) 14 (40 : Int32)) 15 (1000 : Int32)) 16 (0 : Int32)) 17 (5 : Int32)) 18 (0 : Int32)) 19 (10 : Int32)) 20 (40 : Int32)) 21 (1000 : Int32)) 22 (0 : Int32)) 23 (5 : Int32))) : va_E) = jm_c wd1 G ad M0a 8 := congrArg (fun z : Nat → Int32 => (.inl (G.2.1 0, 24, .inl z) : va_E)) (m0_upd 23 5 (by decide) (m0_upd 22 0 (by decide) (m0_upd 21 1000 (by decide) (m0_upd 20 40 (by decide) (m0_upd 19 10 (by decide) (m0_upd 18 0 (by decide) (m0_upd 17 5 (by decide) (m0_upd 16 0 (by decide) (m0_upd 15 1000 (by decide) (m0_upd 14 40 (by decide) (m0_upd 13 10 (by decide) (m0_upd 12 0 (by decide) (m0_upd 11 5 (by decide) (m0_upd 10 0 (by decide) (m0_upd 9 1000 (by decide) (m0_upd 8 40 (by decide) (m0_upd 7 10 (by decide) (m0_upd 6 0 (by decide) (m0_upd 5 5 (by decide) (m0_upd 4 0 (by decide) (m0_upd 3 1000 (by decide) (m0_upd 2 40 (by decide) (m0_upd 1 10 (by decide) (m0_upd 0 0 (by decide) rfl))))))))))))))))))))))))
theorem z1_9 (G : tw_G) (ad : Nat → Nat) : (.inl (G.2.1 0, 8, .inl (upd (upd (upd (upd (upd (upd (upd (upd (fun _ => 0) 0 (500 : Int32)) 1 (5 : Int32)) 2 (200 : Int32)) 3 (15000 : Int32)) 4 (3000 : Int32)) 5 (50 : Int32)) 6 (300 : Int32)) 7 (0 : Int32))) : va_E) = jm_c wd1 G ad M0a 9 := congrArg (fun z : Nat → Int32 => (.inl (G.2.1 0, 8, .inl z) : va_E)) (m0_upd 7 0 (by decide) (m0_upd 6 300 (by decide) (m0_upd 5 50 (by decide) (m0_upd 4 3000 (by decide) (m0_upd 3 15000 (by decide) (m0_upd 2 200 (by decide) (m0_upd 1 5 (by decide) (m0_upd 0 500 (by decide) rfl))))))))
theorem z1_10 (G : tw_G) (ad : Nat → Nat) : (.inr (7, [.int (30 : Int32), .int (3 : Int32), .ref (ad 11), .int (0 : Int32)]) : va_E) = jm_c wd1 G ad M0a 10 := rfl
theorem z1_11 (G : tw_G) (ad : Nat → Nat) : (.inl (G.2.1 0, 90, .inl (fun _ => 0)) : va_E) = jm_c wd1 G ad M0a 11 := rfl
theorem z1_12 (G : tw_G) (ad : Nat → Nat) : (.inr (7, [.int (20 : Int32), .int (4 : Int32), .ref (ad 13), .int (0 : Int32)]) : va_E) = jm_c wd1 G ad M0a 12 := rfl
theorem z1_13 (G : tw_G) (ad : Nat → Nat) : (.inl (G.2.1 0, 80, .inl (fun _ => 0)) : va_E) = jm_c wd1 G ad M0a 13 := rfl
theorem z1_14 (G : tw_G) (ad : Nat → Nat) : (.inr (2, [.ref (ad 4), .ref (ad 1), .ref (ad 15), .ref (ad 16), .ref (ad 17), .int (0 : Int32), .int (0 : Int32), .int (0 : Int32)]) : va_E) = jm_c wd1 G ad M0a 14 := rfl
theorem z1_15 (G : tw_G) (ad : Nat → Nat) : (.inl (G.2.1 2, 6, .inr (.inr (.inr (.inr (va_up (va_up (va_up (va_up (va_up (va_up (fun _ => none) 0 (some (ad 18))) 1 (some (ad 41))) 2 (some (ad 64))) 3 (some (ad 87))) 4 (some (ad 110))) 5 (some (ad 133))))))) : va_E) = jm_c wd1 G ad M0a 15 := rfl
theorem z1_16 (G : tw_G) (ad : Nat → Nat) : (.inl (G.2.1 3, 6, .inr (.inr (.inr (.inr (va_up (va_up (va_up (va_up (va_up (va_up (fun _ => none) 0 (some (ad 35))) 1 (some (ad 58))) 2 (some (ad 81))) 3 (some (ad 104))) 4 (some (ad 127))) 5 (some (ad 150))))))) : va_E) = jm_c wd1 G ad M0a 16 := rfl
theorem z1_17 (G : tw_G) (ad : Nat → Nat) : (.inl (G.2.1 0, 4, .inl (fun _ => 0)) : va_E) = jm_c wd1 G ad M0a 17 := rfl
theorem z1_18 (G : tw_G) (ad : Nat → Nat) : (.inr (1, [.int (0 : Int32), .int (0 : Int32), .int (0 : Int32), .int (0 : Int32), .int (0 : Int32), .int (0 : Int32), .ref (ad 19), .ref (ad 21), .ref (ad 23), .ref (ad 25), .ref (ad 27), .ref (ad 29), .int (0 : Int32), .int (0 : Int32)]) : va_E) = jm_c wd1 G ad M0a 18 := rfl
theorem z1_19 (G : tw_G) (ad : Nat → Nat) : (.inr (7, [.int (4 : Int32), .int (2 : Int32), .ref (ad 20), .int (0 : Int32)]) : va_E) = jm_c wd1 G ad M0a 19 := rfl
theorem z1_20 (G : tw_G) (ad : Nat → Nat) : (.inl (G.2.1 0, 8, .inl (fun _ => 0)) : va_E) = jm_c wd1 G ad M0a 20 := rfl
theorem z1_21 (G : tw_G) (ad : Nat → Nat) : (.inr (7, [.int (12 : Int32), .int (3 : Int32), .ref (ad 22), .int (0 : Int32)]) : va_E) = jm_c wd1 G ad M0a 21 := rfl
theorem z1_22 (G : tw_G) (ad : Nat → Nat) : (.inl (G.2.1 0, 36, .inl (fun _ => 0)) : va_E) = jm_c wd1 G ad M0a 22 := rfl
theorem z1_23 (G : tw_G) (ad : Nat → Nat) : (.inr (7, [.int (5 : Int32), .int (3 : Int32), .ref (ad 24), .int (0 : Int32)]) : va_E) = jm_c wd1 G ad M0a 23 := rfl
theorem z1_24 (G : tw_G) (ad : Nat → Nat) : (.inl (G.2.1 0, 15, .inl (fun _ => 0)) : va_E) = jm_c wd1 G ad M0a 24 := rfl
theorem z1_25 (G : tw_G) (ad : Nat → Nat) : (.inr (7, [.int (4 : Int32), .int (2 : Int32), .ref (ad 26), .int (0 : Int32)]) : va_E) = jm_c wd1 G ad M0a 25 := rfl
theorem z1_26 (G : tw_G) (ad : Nat → Nat) : (.inl (G.2.1 0, 8, .inl (fun _ => 0)) : va_E) = jm_c wd1 G ad M0a 26 := rfl
theorem z1_27 (G : tw_G) (ad : Nat → Nat) : (.inr (7, [.int (2 : Int32), .int (3 : Int32), .ref (ad 28), .int (0 : Int32)]) : va_E) = jm_c wd1 G ad M0a 27 := rfl
theorem z1_28 (G : tw_G) (ad : Nat → Nat) : (.inl (G.2.1 0, 6, .inl (fun _ => 0)) : va_E) = jm_c wd1 G ad M0a 28 := rfl
theorem z1_29 (G : tw_G) (ad : Nat → Nat) : (.inr (8, [.ref (ad 30), .int (0 : Int32), .ref (ad 31), .ref (ad 32), .ref (ad 33), .ref (ad 34), .int (0 : Int32), .int (0 : Int32)]) : va_E) = jm_c wd1 G ad M0a 29 := rfl
theorem z1_30 (G : tw_G) (ad : Nat → Nat) : (.inl (G.2.1 0, 60, .inl (fun _ => 0)) : va_E) = jm_c wd1 G ad M0a 30 := rfl
theorem z1_31 (G : tw_G) (ad : Nat → Nat) : (.inl (G.2.1 0, 21, .inl (fun _ => 0)) : va_E) = jm_c wd1 G ad M0a 31 := rfl
theorem z1_32 (G : tw_G) (ad : Nat → Nat) : (.inl (G.2.1 0, 21, .inl (fun _ => 0)) : va_E) = jm_c wd1 G ad M0a 32 := rfl
theorem z1_33 (G : tw_G) (ad : Nat → Nat) : (.inl (G.2.1 0, 21, .inl (fun _ => 0)) : va_E) = jm_c wd1 G ad M0a 33 := rfl
theorem z1_34 (G : tw_G) (ad : Nat → Nat) : (.inl (G.2.1 0, 21, .inl (fun _ => 0)) : va_E) = jm_c wd1 G ad M0a 34 := rfl
theorem z1_35 (G : tw_G) (ad : Nat → Nat) : (.inr (6, [.int (0 : Int32), .int (0 : Int32), .int (0 : Int32), .int (0 : Int32), .int (0 : Int32), .int (0 : Int32), .int (0 : Int32), .int (0 : Int32), .int (0 : Int32), .int (0 : Int32), .int (0 : Int32), .int (0 : Int32), .int (0 : Int32), .int (0 : Int32), .int (0 : Int32), .ref (ad 36), .ref (ad 37), .ref (ad 38), .ref (ad 39), .ref (ad 40)]) : va_E) = jm_c wd1 G ad M0a 35 := rfl
theorem z1_36 (G : tw_G) (ad : Nat → Nat) : (.inl (G.2.1 0, 4, .inl (fun _ => 0)) : va_E) = jm_c wd1 G ad M0a 36 := rfl
theorem z1_37 (G : tw_G) (ad : Nat → Nat) : (.inl (G.2.1 0, 60, .inl (fun _ => 0)) : va_E) = jm_c wd1 G ad M0a 37 := rfl
theorem z1_38 (G : tw_G) (ad : Nat → Nat) : (.inl (G.2.1 0, 12, .inl (fun _ => 0)) : va_E) = jm_c wd1 G ad M0a 38 := rfl
theorem z1_39 (G : tw_G) (ad : Nat → Nat) : (.inl (G.2.1 0, 5, .inl (fun _ => 0)) : va_E) = jm_c wd1 G ad M0a 39 := rfl
theorem z1_40 (G : tw_G) (ad : Nat → Nat) : (.inl (G.2.1 0, 5, .inl (fun _ => 0)) : va_E) = jm_c wd1 G ad M0a 40 := rfl
theorem z1_41 (G : tw_G) (ad : Nat → Nat) : (.inr (1, [.int (0 : Int32), .int (0 : Int32), .int (0 : Int32), .int (0 : Int32), .int (0 : Int32), .int (0 : Int32), .ref (ad 42), .ref (ad 44), .ref (ad 46), .ref (ad 48), .ref (ad 50), .ref (ad 52), .int (0 : Int32), .int (0 : Int32)]) : va_E) = jm_c wd1 G ad M0a 41 := rfl
theorem z1_42 (G : tw_G) (ad : Nat → Nat) : (.inr (7, [.int (4 : Int32), .int (2 : Int32), .ref (ad 43), .int (0 : Int32)]) : va_E) = jm_c wd1 G ad M0a 42 := rfl
theorem z1_43 (G : tw_G) (ad : Nat → Nat) : (.inl (G.2.1 0, 8, .inl (fun _ => 0)) : va_E) = jm_c wd1 G ad M0a 43 := rfl
theorem z1_44 (G : tw_G) (ad : Nat → Nat) : (.inr (7, [.int (12 : Int32), .int (3 : Int32), .ref (ad 45), .int (0 : Int32)]) : va_E) = jm_c wd1 G ad M0a 44 := rfl
theorem z1_45 (G : tw_G) (ad : Nat → Nat) : (.inl (G.2.1 0, 36, .inl (fun _ => 0)) : va_E) = jm_c wd1 G ad M0a 45 := rfl
theorem z1_46 (G : tw_G) (ad : Nat → Nat) : (.inr (7, [.int (5 : Int32), .int (3 : Int32), .ref (ad 47), .int (0 : Int32)]) : va_E) = jm_c wd1 G ad M0a 46 := rfl
theorem z1_47 (G : tw_G) (ad : Nat → Nat) : (.inl (G.2.1 0, 15, .inl (fun _ => 0)) : va_E) = jm_c wd1 G ad M0a 47 := rfl
theorem z1_48 (G : tw_G) (ad : Nat → Nat) : (.inr (7, [.int (4 : Int32), .int (2 : Int32), .ref (ad 49), .int (0 : Int32)]) : va_E) = jm_c wd1 G ad M0a 48 := rfl
theorem z1_49 (G : tw_G) (ad : Nat → Nat) : (.inl (G.2.1 0, 8, .inl (fun _ => 0)) : va_E) = jm_c wd1 G ad M0a 49 := rfl
theorem z1_50 (G : tw_G) (ad : Nat → Nat) : (.inr (7, [.int (2 : Int32), .int (3 : Int32), .ref (ad 51), .int (0 : Int32)]) : va_E) = jm_c wd1 G ad M0a 50 := rfl
theorem z1_51 (G : tw_G) (ad : Nat → Nat) : (.inl (G.2.1 0, 6, .inl (fun _ => 0)) : va_E) = jm_c wd1 G ad M0a 51 := rfl
theorem z1_52 (G : tw_G) (ad : Nat → Nat) : (.inr (8, [.ref (ad 53), .int (0 : Int32), .ref (ad 54), .ref (ad 55), .ref (ad 56), .ref (ad 57), .int (0 : Int32), .int (0 : Int32)]) : va_E) = jm_c wd1 G ad M0a 52 := rfl
theorem z1_53 (G : tw_G) (ad : Nat → Nat) : (.inl (G.2.1 0, 60, .inl (fun _ => 0)) : va_E) = jm_c wd1 G ad M0a 53 := rfl
theorem z1_54 (G : tw_G) (ad : Nat → Nat) : (.inl (G.2.1 0, 21, .inl (fun _ => 0)) : va_E) = jm_c wd1 G ad M0a 54 := rfl
theorem z1_55 (G : tw_G) (ad : Nat → Nat) : (.inl (G.2.1 0, 21, .inl (fun _ => 0)) : va_E) = jm_c wd1 G ad M0a 55 := rfl
theorem z1_56 (G : tw_G) (ad : Nat → Nat) : (.inl (G.2.1 0, 21, .inl (fun _ => 0)) : va_E) = jm_c wd1 G ad M0a 56 := rfl
theorem z1_57 (G : tw_G) (ad : Nat → Nat) : (.inl (G.2.1 0, 21, .inl (fun _ => 0)) : va_E) = jm_c wd1 G ad M0a 57 := rfl
theorem z1_58 (G : tw_G) (ad : Nat → Nat) : (.inr (6, [.int (0 : Int32), .int (0 : Int32), .int (0 : Int32), .int (0 : Int32), .int (0 : Int32), .int (0 : Int32), .int (0 : Int32), .int (0 : Int32), .int (0 : Int32), .int (0 : Int32), .int (0 : Int32), .int (0 : Int32), .int (0 : Int32), .int (0 : Int32), .int (0 : Int32), .ref (ad 59), .ref (ad 60), .ref (ad 61), .ref (ad 62), .ref (ad 63)]) : va_E) = jm_c wd1 G ad M0a 58 := rfl
theorem z1_59 (G : tw_G) (ad : Nat → Nat) : (.inl (G.2.1 0, 4, .inl (fun _ => 0)) : va_E) = jm_c wd1 G ad M0a 59 := rfl
theorem z1_60 (G : tw_G) (ad : Nat → Nat) : (.inl (G.2.1 0, 60, .inl (fun _ => 0)) : va_E) = jm_c wd1 G ad M0a 60 := rfl
theorem z1_61 (G : tw_G) (ad : Nat → Nat) : (.inl (G.2.1 0, 12, .inl (fun _ => 0)) : va_E) = jm_c wd1 G ad M0a 61 := rfl
theorem z1_62 (G : tw_G) (ad : Nat → Nat) : (.inl (G.2.1 0, 5, .inl (fun _ => 0)) : va_E) = jm_c wd1 G ad M0a 62 := rfl
theorem z1_63 (G : tw_G) (ad : Nat → Nat) : (.inl (G.2.1 0, 5, .inl (fun _ => 0)) : va_E) = jm_c wd1 G ad M0a 63 := rfl
theorem z1_64 (G : tw_G) (ad : Nat → Nat) : (.inr (1, [.int (0 : Int32), .int (0 : Int32), .int (0 : Int32), .int (0 : Int32), .int (0 : Int32), .int (0 : Int32), .ref (ad 65), .ref (ad 67), .ref (ad 69), .ref (ad 71), .ref (ad 73), .ref (ad 75), .int (0 : Int32), .int (0 : Int32)]) : va_E) = jm_c wd1 G ad M0a 64 := rfl
theorem z1_65 (G : tw_G) (ad : Nat → Nat) : (.inr (7, [.int (4 : Int32), .int (2 : Int32), .ref (ad 66), .int (0 : Int32)]) : va_E) = jm_c wd1 G ad M0a 65 := rfl
theorem z1_66 (G : tw_G) (ad : Nat → Nat) : (.inl (G.2.1 0, 8, .inl (fun _ => 0)) : va_E) = jm_c wd1 G ad M0a 66 := rfl
theorem z1_67 (G : tw_G) (ad : Nat → Nat) : (.inr (7, [.int (12 : Int32), .int (3 : Int32), .ref (ad 68), .int (0 : Int32)]) : va_E) = jm_c wd1 G ad M0a 67 := rfl
theorem z1_68 (G : tw_G) (ad : Nat → Nat) : (.inl (G.2.1 0, 36, .inl (fun _ => 0)) : va_E) = jm_c wd1 G ad M0a 68 := rfl
theorem z1_69 (G : tw_G) (ad : Nat → Nat) : (.inr (7, [.int (5 : Int32), .int (3 : Int32), .ref (ad 70), .int (0 : Int32)]) : va_E) = jm_c wd1 G ad M0a 69 := rfl
theorem z1_70 (G : tw_G) (ad : Nat → Nat) : (.inl (G.2.1 0, 15, .inl (fun _ => 0)) : va_E) = jm_c wd1 G ad M0a 70 := rfl
theorem z1_71 (G : tw_G) (ad : Nat → Nat) : (.inr (7, [.int (4 : Int32), .int (2 : Int32), .ref (ad 72), .int (0 : Int32)]) : va_E) = jm_c wd1 G ad M0a 71 := rfl
theorem z1_72 (G : tw_G) (ad : Nat → Nat) : (.inl (G.2.1 0, 8, .inl (fun _ => 0)) : va_E) = jm_c wd1 G ad M0a 72 := rfl
theorem z1_73 (G : tw_G) (ad : Nat → Nat) : (.inr (7, [.int (2 : Int32), .int (3 : Int32), .ref (ad 74), .int (0 : Int32)]) : va_E) = jm_c wd1 G ad M0a 73 := rfl
theorem z1_74 (G : tw_G) (ad : Nat → Nat) : (.inl (G.2.1 0, 6, .inl (fun _ => 0)) : va_E) = jm_c wd1 G ad M0a 74 := rfl
theorem z1_75 (G : tw_G) (ad : Nat → Nat) : (.inr (8, [.ref (ad 76), .int (0 : Int32), .ref (ad 77), .ref (ad 78), .ref (ad 79), .ref (ad 80), .int (0 : Int32), .int (0 : Int32)]) : va_E) = jm_c wd1 G ad M0a 75 := rfl
theorem z1_76 (G : tw_G) (ad : Nat → Nat) : (.inl (G.2.1 0, 60, .inl (fun _ => 0)) : va_E) = jm_c wd1 G ad M0a 76 := rfl
theorem z1_77 (G : tw_G) (ad : Nat → Nat) : (.inl (G.2.1 0, 21, .inl (fun _ => 0)) : va_E) = jm_c wd1 G ad M0a 77 := rfl
theorem z1_78 (G : tw_G) (ad : Nat → Nat) : (.inl (G.2.1 0, 21, .inl (fun _ => 0)) : va_E) = jm_c wd1 G ad M0a 78 := rfl
theorem z1_79 (G : tw_G) (ad : Nat → Nat) : (.inl (G.2.1 0, 21, .inl (fun _ => 0)) : va_E) = jm_c wd1 G ad M0a 79 := rfl
theorem z1_80 (G : tw_G) (ad : Nat → Nat) : (.inl (G.2.1 0, 21, .inl (fun _ => 0)) : va_E) = jm_c wd1 G ad M0a 80 := rfl
theorem z1_81 (G : tw_G) (ad : Nat → Nat) : (.inr (6, [.int (0 : Int32), .int (0 : Int32), .int (0 : Int32), .int (0 : Int32), .int (0 : Int32), .int (0 : Int32), .int (0 : Int32), .int (0 : Int32), .int (0 : Int32), .int (0 : Int32), .int (0 : Int32), .int (0 : Int32), .int (0 : Int32), .int (0 : Int32), .int (0 : Int32), .ref (ad 82), .ref (ad 83), .ref (ad 84), .ref (ad 85), .ref (ad 86)]) : va_E) = jm_c wd1 G ad M0a 81 := rfl
theorem z1_82 (G : tw_G) (ad : Nat → Nat) : (.inl (G.2.1 0, 4, .inl (fun _ => 0)) : va_E) = jm_c wd1 G ad M0a 82 := rfl
theorem z1_83 (G : tw_G) (ad : Nat → Nat) : (.inl (G.2.1 0, 60, .inl (fun _ => 0)) : va_E) = jm_c wd1 G ad M0a 83 := rfl
theorem z1_84 (G : tw_G) (ad : Nat → Nat) : (.inl (G.2.1 0, 12, .inl (fun _ => 0)) : va_E) = jm_c wd1 G ad M0a 84 := rfl
theorem z1_85 (G : tw_G) (ad : Nat → Nat) : (.inl (G.2.1 0, 5, .inl (fun _ => 0)) : va_E) = jm_c wd1 G ad M0a 85 := rfl
theorem z1_86 (G : tw_G) (ad : Nat → Nat) : (.inl (G.2.1 0, 5, .inl (fun _ => 0)) : va_E) = jm_c wd1 G ad M0a 86 := rfl
theorem z1_87 (G : tw_G) (ad : Nat → Nat) : (.inr (1, [.int (0 : Int32), .int (0 : Int32), .int (0 : Int32), .int (0 : Int32), .int (0 : Int32), .int (0 : Int32), .ref (ad 88), .ref (ad 90), .ref (ad 92), .ref (ad 94), .ref (ad 96), .ref (ad 98), .int (0 : Int32), .int (0 : Int32)]) : va_E) = jm_c wd1 G ad M0a 87 := rfl
theorem z1_88 (G : tw_G) (ad : Nat → Nat) : (.inr (7, [.int (4 : Int32), .int (2 : Int32), .ref (ad 89), .int (0 : Int32)]) : va_E) = jm_c wd1 G ad M0a 88 := rfl
theorem z1_89 (G : tw_G) (ad : Nat → Nat) : (.inl (G.2.1 0, 8, .inl (fun _ => 0)) : va_E) = jm_c wd1 G ad M0a 89 := rfl
theorem z1_90 (G : tw_G) (ad : Nat → Nat) : (.inr (7, [.int (12 : Int32), .int (3 : Int32), .ref (ad 91), .int (0 : Int32)]) : va_E) = jm_c wd1 G ad M0a 90 := rfl
theorem z1_91 (G : tw_G) (ad : Nat → Nat) : (.inl (G.2.1 0, 36, .inl (fun _ => 0)) : va_E) = jm_c wd1 G ad M0a 91 := rfl
theorem z1_92 (G : tw_G) (ad : Nat → Nat) : (.inr (7, [.int (5 : Int32), .int (3 : Int32), .ref (ad 93), .int (0 : Int32)]) : va_E) = jm_c wd1 G ad M0a 92 := rfl
theorem z1_93 (G : tw_G) (ad : Nat → Nat) : (.inl (G.2.1 0, 15, .inl (fun _ => 0)) : va_E) = jm_c wd1 G ad M0a 93 := rfl
theorem z1_94 (G : tw_G) (ad : Nat → Nat) : (.inr (7, [.int (4 : Int32), .int (2 : Int32), .ref (ad 95), .int (0 : Int32)]) : va_E) = jm_c wd1 G ad M0a 94 := rfl
theorem z1_95 (G : tw_G) (ad : Nat → Nat) : (.inl (G.2.1 0, 8, .inl (fun _ => 0)) : va_E) = jm_c wd1 G ad M0a 95 := rfl
theorem z1_96 (G : tw_G) (ad : Nat → Nat) : (.inr (7, [.int (2 : Int32), .int (3 : Int32), .ref (ad 97), .int (0 : Int32)]) : va_E) = jm_c wd1 G ad M0a 96 := rfl
theorem z1_97 (G : tw_G) (ad : Nat → Nat) : (.inl (G.2.1 0, 6, .inl (fun _ => 0)) : va_E) = jm_c wd1 G ad M0a 97 := rfl
theorem z1_98 (G : tw_G) (ad : Nat → Nat) : (.inr (8, [.ref (ad 99), .int (0 : Int32), .ref (ad 100), .ref (ad 101), .ref (ad 102), .ref (ad 103), .int (0 : Int32), .int (0 : Int32)]) : va_E) = jm_c wd1 G ad M0a 98 := rfl
theorem z1_99 (G : tw_G) (ad : Nat → Nat) : (.inl (G.2.1 0, 60, .inl (fun _ => 0)) : va_E) = jm_c wd1 G ad M0a 99 := rfl
theorem z1_100 (G : tw_G) (ad : Nat → Nat) : (.inl (G.2.1 0, 21, .inl (fun _ => 0)) : va_E) = jm_c wd1 G ad M0a 100 := rfl
theorem z1_101 (G : tw_G) (ad : Nat → Nat) : (.inl (G.2.1 0, 21, .inl (fun _ => 0)) : va_E) = jm_c wd1 G ad M0a 101 := rfl
theorem z1_102 (G : tw_G) (ad : Nat → Nat) : (.inl (G.2.1 0, 21, .inl (fun _ => 0)) : va_E) = jm_c wd1 G ad M0a 102 := rfl
theorem z1_103 (G : tw_G) (ad : Nat → Nat) : (.inl (G.2.1 0, 21, .inl (fun _ => 0)) : va_E) = jm_c wd1 G ad M0a 103 := rfl
theorem z1_104 (G : tw_G) (ad : Nat → Nat) : (.inr (6, [.int (0 : Int32), .int (0 : Int32), .int (0 : Int32), .int (0 : Int32), .int (0 : Int32), .int (0 : Int32), .int (0 : Int32), .int (0 : Int32), .int (0 : Int32), .int (0 : Int32), .int (0 : Int32), .int (0 : Int32), .int (0 : Int32), .int (0 : Int32), .int (0 : Int32), .ref (ad 105), .ref (ad 106), .ref (ad 107), .ref (ad 108), .ref (ad 109)]) : va_E) = jm_c wd1 G ad M0a 104 := rfl
theorem z1_105 (G : tw_G) (ad : Nat → Nat) : (.inl (G.2.1 0, 4, .inl (fun _ => 0)) : va_E) = jm_c wd1 G ad M0a 105 := rfl
theorem z1_106 (G : tw_G) (ad : Nat → Nat) : (.inl (G.2.1 0, 60, .inl (fun _ => 0)) : va_E) = jm_c wd1 G ad M0a 106 := rfl
theorem z1_107 (G : tw_G) (ad : Nat → Nat) : (.inl (G.2.1 0, 12, .inl (fun _ => 0)) : va_E) = jm_c wd1 G ad M0a 107 := rfl
theorem z1_108 (G : tw_G) (ad : Nat → Nat) : (.inl (G.2.1 0, 5, .inl (fun _ => 0)) : va_E) = jm_c wd1 G ad M0a 108 := rfl
theorem z1_109 (G : tw_G) (ad : Nat → Nat) : (.inl (G.2.1 0, 5, .inl (fun _ => 0)) : va_E) = jm_c wd1 G ad M0a 109 := rfl
theorem z1_110 (G : tw_G) (ad : Nat → Nat) : (.inr (1, [.int (0 : Int32), .int (0 : Int32), .int (0 : Int32), .int (0 : Int32), .int (0 : Int32), .int (0 : Int32), .ref (ad 111), .ref (ad 113), .ref (ad 115), .ref (ad 117), .ref (ad 119), .ref (ad 121), .int (0 : Int32), .int (0 : Int32)]) : va_E) = jm_c wd1 G ad M0a 110 := rfl
theorem z1_111 (G : tw_G) (ad : Nat → Nat) : (.inr (7, [.int (4 : Int32), .int (2 : Int32), .ref (ad 112), .int (0 : Int32)]) : va_E) = jm_c wd1 G ad M0a 111 := rfl
theorem z1_112 (G : tw_G) (ad : Nat → Nat) : (.inl (G.2.1 0, 8, .inl (fun _ => 0)) : va_E) = jm_c wd1 G ad M0a 112 := rfl
theorem z1_113 (G : tw_G) (ad : Nat → Nat) : (.inr (7, [.int (12 : Int32), .int (3 : Int32), .ref (ad 114), .int (0 : Int32)]) : va_E) = jm_c wd1 G ad M0a 113 := rfl
theorem z1_114 (G : tw_G) (ad : Nat → Nat) : (.inl (G.2.1 0, 36, .inl (fun _ => 0)) : va_E) = jm_c wd1 G ad M0a 114 := rfl
theorem z1_115 (G : tw_G) (ad : Nat → Nat) : (.inr (7, [.int (5 : Int32), .int (3 : Int32), .ref (ad 116), .int (0 : Int32)]) : va_E) = jm_c wd1 G ad M0a 115 := rfl
theorem z1_116 (G : tw_G) (ad : Nat → Nat) : (.inl (G.2.1 0, 15, .inl (fun _ => 0)) : va_E) = jm_c wd1 G ad M0a 116 := rfl
theorem z1_117 (G : tw_G) (ad : Nat → Nat) : (.inr (7, [.int (4 : Int32), .int (2 : Int32), .ref (ad 118), .int (0 : Int32)]) : va_E) = jm_c wd1 G ad M0a 117 := rfl
theorem z1_118 (G : tw_G) (ad : Nat → Nat) : (.inl (G.2.1 0, 8, .inl (fun _ => 0)) : va_E) = jm_c wd1 G ad M0a 118 := rfl
theorem z1_119 (G : tw_G) (ad : Nat → Nat) : (.inr (7, [.int (2 : Int32), .int (3 : Int32), .ref (ad 120), .int (0 : Int32)]) : va_E) = jm_c wd1 G ad M0a 119 := rfl
theorem z1_120 (G : tw_G) (ad : Nat → Nat) : (.inl (G.2.1 0, 6, .inl (fun _ => 0)) : va_E) = jm_c wd1 G ad M0a 120 := rfl
theorem z1_121 (G : tw_G) (ad : Nat → Nat) : (.inr (8, [.ref (ad 122), .int (0 : Int32), .ref (ad 123), .ref (ad 124), .ref (ad 125), .ref (ad 126), .int (0 : Int32), .int (0 : Int32)]) : va_E) = jm_c wd1 G ad M0a 121 := rfl
theorem z1_122 (G : tw_G) (ad : Nat → Nat) : (.inl (G.2.1 0, 60, .inl (fun _ => 0)) : va_E) = jm_c wd1 G ad M0a 122 := rfl
theorem z1_123 (G : tw_G) (ad : Nat → Nat) : (.inl (G.2.1 0, 21, .inl (fun _ => 0)) : va_E) = jm_c wd1 G ad M0a 123 := rfl
theorem z1_124 (G : tw_G) (ad : Nat → Nat) : (.inl (G.2.1 0, 21, .inl (fun _ => 0)) : va_E) = jm_c wd1 G ad M0a 124 := rfl
theorem z1_125 (G : tw_G) (ad : Nat → Nat) : (.inl (G.2.1 0, 21, .inl (fun _ => 0)) : va_E) = jm_c wd1 G ad M0a 125 := rfl
theorem z1_126 (G : tw_G) (ad : Nat → Nat) : (.inl (G.2.1 0, 21, .inl (fun _ => 0)) : va_E) = jm_c wd1 G ad M0a 126 := rfl
theorem z1_127 (G : tw_G) (ad : Nat → Nat) : (.inr (6, [.int (0 : Int32), .int (0 : Int32), .int (0 : Int32), .int (0 : Int32), .int (0 : Int32), .int (0 : Int32), .int (0 : Int32), .int (0 : Int32), .int (0 : Int32), .int (0 : Int32), .int (0 : Int32), .int (0 : Int32), .int (0 : Int32), .int (0 : Int32), .int (0 : Int32), .ref (ad 128), .ref (ad 129), .ref (ad 130), .ref (ad 131), .ref (ad 132)]) : va_E) = jm_c wd1 G ad M0a 127 := rfl
theorem z1_128 (G : tw_G) (ad : Nat → Nat) : (.inl (G.2.1 0, 4, .inl (fun _ => 0)) : va_E) = jm_c wd1 G ad M0a 128 := rfl
theorem z1_129 (G : tw_G) (ad : Nat → Nat) : (.inl (G.2.1 0, 60, .inl (fun _ => 0)) : va_E) = jm_c wd1 G ad M0a 129 := rfl
theorem z1_130 (G : tw_G) (ad : Nat → Nat) : (.inl (G.2.1 0, 12, .inl (fun _ => 0)) : va_E) = jm_c wd1 G ad M0a 130 := rfl
theorem z1_131 (G : tw_G) (ad : Nat → Nat) : (.inl (G.2.1 0, 5, .inl (fun _ => 0)) : va_E) = jm_c wd1 G ad M0a 131 := rfl
theorem z1_132 (G : tw_G) (ad : Nat → Nat) : (.inl (G.2.1 0, 5, .inl (fun _ => 0)) : va_E) = jm_c wd1 G ad M0a 132 := rfl
theorem z1_133 (G : tw_G) (ad : Nat → Nat) : (.inr (1, [.int (0 : Int32), .int (0 : Int32), .int (0 : Int32), .int (0 : Int32), .int (0 : Int32), .int (0 : Int32), .ref (ad 134), .ref (ad 136), .ref (ad 138), .ref (ad 140), .ref (ad 142), .ref (ad 144), .int (0 : Int32), .int (0 : Int32)]) : va_E) = jm_c wd1 G ad M0a 133 := rfl
theorem z1_134 (G : tw_G) (ad : Nat → Nat) : (.inr (7, [.int (4 : Int32), .int (2 : Int32), .ref (ad 135), .int (0 : Int32)]) : va_E) = jm_c wd1 G ad M0a 134 := rfl
theorem z1_135 (G : tw_G) (ad : Nat → Nat) : (.inl (G.2.1 0, 8, .inl (fun _ => 0)) : va_E) = jm_c wd1 G ad M0a 135 := rfl
theorem z1_136 (G : tw_G) (ad : Nat → Nat) : (.inr (7, [.int (12 : Int32), .int (3 : Int32), .ref (ad 137), .int (0 : Int32)]) : va_E) = jm_c wd1 G ad M0a 136 := rfl
theorem z1_137 (G : tw_G) (ad : Nat → Nat) : (.inl (G.2.1 0, 36, .inl (fun _ => 0)) : va_E) = jm_c wd1 G ad M0a 137 := rfl
theorem z1_138 (G : tw_G) (ad : Nat → Nat) : (.inr (7, [.int (5 : Int32), .int (3 : Int32), .ref (ad 139), .int (0 : Int32)]) : va_E) = jm_c wd1 G ad M0a 138 := rfl
theorem z1_139 (G : tw_G) (ad : Nat → Nat) : (.inl (G.2.1 0, 15, .inl (fun _ => 0)) : va_E) = jm_c wd1 G ad M0a 139 := rfl
theorem z1_140 (G : tw_G) (ad : Nat → Nat) : (.inr (7, [.int (4 : Int32), .int (2 : Int32), .ref (ad 141), .int (0 : Int32)]) : va_E) = jm_c wd1 G ad M0a 140 := rfl
theorem z1_141 (G : tw_G) (ad : Nat → Nat) : (.inl (G.2.1 0, 8, .inl (fun _ => 0)) : va_E) = jm_c wd1 G ad M0a 141 := rfl
theorem z1_142 (G : tw_G) (ad : Nat → Nat) : (.inr (7, [.int (2 : Int32), .int (3 : Int32), .ref (ad 143), .int (0 : Int32)]) : va_E) = jm_c wd1 G ad M0a 142 := rfl
theorem z1_143 (G : tw_G) (ad : Nat → Nat) : (.inl (G.2.1 0, 6, .inl (fun _ => 0)) : va_E) = jm_c wd1 G ad M0a 143 := rfl
theorem z1_144 (G : tw_G) (ad : Nat → Nat) : (.inr (8, [.ref (ad 145), .int (0 : Int32), .ref (ad 146), .ref (ad 147), .ref (ad 148), .ref (ad 149), .int (0 : Int32), .int (0 : Int32)]) : va_E) = jm_c wd1 G ad M0a 144 := rfl
theorem z1_145 (G : tw_G) (ad : Nat → Nat) : (.inl (G.2.1 0, 60, .inl (fun _ => 0)) : va_E) = jm_c wd1 G ad M0a 145 := rfl
theorem z1_146 (G : tw_G) (ad : Nat → Nat) : (.inl (G.2.1 0, 21, .inl (fun _ => 0)) : va_E) = jm_c wd1 G ad M0a 146 := rfl
theorem z1_147 (G : tw_G) (ad : Nat → Nat) : (.inl (G.2.1 0, 21, .inl (fun _ => 0)) : va_E) = jm_c wd1 G ad M0a 147 := rfl
theorem z1_148 (G : tw_G) (ad : Nat → Nat) : (.inl (G.2.1 0, 21, .inl (fun _ => 0)) : va_E) = jm_c wd1 G ad M0a 148 := rfl
theorem z1_149 (G : tw_G) (ad : Nat → Nat) : (.inl (G.2.1 0, 21, .inl (fun _ => 0)) : va_E) = jm_c wd1 G ad M0a 149 := rfl
theorem z1_150 (G : tw_G) (ad : Nat → Nat) : (.inr (6, [.int (0 : Int32), .int (0 : Int32), .int (0 : Int32), .int (0 : Int32), .int (0 : Int32), .int (0 : Int32), .int (0 : Int32), .int (0 : Int32), .int (0 : Int32), .int (0 : Int32), .int (0 : Int32), .int (0 : Int32), .int (0 : Int32), .int (0 : Int32), .int (0 : Int32), .ref (ad 151), .ref (ad 152), .ref (ad 153), .ref (ad 154), .ref (ad 155)]) : va_E) = jm_c wd1 G ad M0a 150 := rfl
theorem z1_151 (G : tw_G) (ad : Nat → Nat) : (.inl (G.2.1 0, 4, .inl (fun _ => 0)) : va_E) = jm_c wd1 G ad M0a 151 := rfl
theorem z1_152 (G : tw_G) (ad : Nat → Nat) : (.inl (G.2.1 0, 60, .inl (fun _ => 0)) : va_E) = jm_c wd1 G ad M0a 152 := rfl
theorem z1_153 (G : tw_G) (ad : Nat → Nat) : (.inl (G.2.1 0, 12, .inl (fun _ => 0)) : va_E) = jm_c wd1 G ad M0a 153 := rfl
theorem z1_154 (G : tw_G) (ad : Nat → Nat) : (.inl (G.2.1 0, 5, .inl (fun _ => 0)) : va_E) = jm_c wd1 G ad M0a 154 := rfl
theorem z1_155 (G : tw_G) (ad : Nat → Nat) : (.inl (G.2.1 0, 5, .inl (fun _ => 0)) : va_E) = jm_c wd1 G ad M0a 155 := rfl
theorem z1_156 (G : tw_G) (ad : Nat → Nat) : (.inr (0, [.ref (ad 1), .ref (ad 157), .ref (ad 158), .int (0 : Int32), .ref (ad 159)]) : va_E) = jm_c wd1 G ad M0a 156 := rfl
theorem z1_rules (cA : ClassId) (ad : Nat → Nat) : vp_cell cA (10, .inr (.inr (.inr (.inr (va_up (va_up (va_up (va_up (va_up (va_up (va_up (va_up (va_up (va_up (fun _ => none) 0 (some (ad 161))) 1 (some (ad 167))) 2 (some (ad 173))) 3 (some (ad 179))) 4 (some (ad 185))) 5 (some (ad 191))) 6 (some (ad 197))) 7 (some (ad 203))) 8 (some (ad 209))) 9 (some (ad 215))))))) = vp_cell cA (10, .inr (.inr (.inr (.inr (fun j : Nat => if 0 ≤ M0a 48 0 j then some (ad (rr1 11 (M0a 48 0 j))) else none))))) := by
  have e0 : ∀ f : Nat → Option Nat, vp_cell cA (10, .inr (.inr (.inr (.inr f)))) = arrV cA 10 (fun j => va_rf (f j)) := fun _ => rfl
  rw [e0, e0]
  unfold arrV
  have e : ∀ j : Fin 10, va_rf ((va_up (va_up (va_up (va_up (va_up (va_up (va_up (va_up (va_up (va_up (fun _ => none) 0 (some (ad 161))) 1 (some (ad 167))) 2 (some (ad 173))) 3 (some (ad 179))) 4 (some (ad 185))) 5 (some (ad 191))) 6 (some (ad 197))) 7 (some (ad 203))) 8 (some (ad 209))) 9 (some (ad 215))) j.val) = va_rf (if 0 ≤ M0a 48 0 (j.val : Int) then some (ad (rr1 11 (M0a 48 0 (j.val : Int)))) else none) := fun ⟨j, hj⟩ => match j, hj with
    | 0, _ => rfl
    | 1, _ => rfl
    | 2, _ => rfl
    | 3, _ => rfl
    | 4, _ => rfl
    | 5, _ => rfl
    | 6, _ => rfl
    | 7, _ => rfl
    | 8, _ => rfl
    | 9, _ => rfl
    | n + 10, h => absurd h (by omega)
  congr 2
  exact funext e
theorem z1_157 (G : tw_G) (ad : Nat → Nat) (a : Nat) (H : Heap) (h : va_at G.1 vwCl (a, (.inl (G.2.1 4, 10, .inr (.inr (.inr (.inr (va_up (va_up (va_up (va_up (va_up (va_up (va_up (va_up (va_up (va_up (fun _ => none) 0 (some (ad 161))) 1 (some (ad 167))) 2 (some (ad 173))) 3 (some (ad 179))) 4 (some (ad 185))) 5 (some (ad 191))) 6 (some (ad 197))) 7 (some (ad 203))) 8 (some (ad 209))) 9 (some (ad 215))))))) : va_E)) H) : va_at G.1 vwCl (a, jm_c wd1 G ad M0a 157) H := by
  have h : H[a]? = some (vp_cell (G.2.1 4) (10, .inr (.inr (.inr (.inr (va_up (va_up (va_up (va_up (va_up (va_up (va_up (va_up (va_up (va_up (fun _ => none) 0 (some (ad 161))) 1 (some (ad 167))) 2 (some (ad 173))) 3 (some (ad 179))) 4 (some (ad 185))) 5 (some (ad 191))) 6 (some (ad 197))) 7 (some (ad 203))) 8 (some (ad 209))) 9 (some (ad 215)))))))) := h
  rw [z1_rules] at h
  exact h
theorem z1_158 (G : tw_G) (ad : Nat → Nat) : (.inl (G.2.1 0, 10, .inl (fun _ => 0)) : va_E) = jm_c wd1 G ad M0a 158 := rfl
theorem z1_159 (G : tw_G) (ad : Nat → Nat) : (.inr (7, [.int (20 : Int32), .int (4 : Int32), .ref (ad 160), .int (0 : Int32)]) : va_E) = jm_c wd1 G ad M0a 159 := rfl
theorem z1_160 (G : tw_G) (ad : Nat → Nat) : (.inl (G.2.1 0, 80, .inl (fun _ => 0)) : va_E) = jm_c wd1 G ad M0a 160 := rfl
theorem z1_161 (G : tw_G) (ad : Nat → Nat) : (.inr (8, [.ref (ad 162), .int (0 : Int32), .ref (ad 163), .ref (ad 164), .ref (ad 165), .ref (ad 166), .int (0 : Int32), .int (0 : Int32)]) : va_E) = jm_c wd1 G ad M0a 161 := rfl
theorem z1_162 (G : tw_G) (ad : Nat → Nat) : (.inl (G.2.1 0, 60, .inl (fun _ => 0)) : va_E) = jm_c wd1 G ad M0a 162 := rfl
theorem z1_163 (G : tw_G) (ad : Nat → Nat) : (.inl (G.2.1 0, 21, .inl (fun _ => 0)) : va_E) = jm_c wd1 G ad M0a 163 := rfl
theorem z1_164 (G : tw_G) (ad : Nat → Nat) : (.inl (G.2.1 0, 21, .inl (fun _ => 0)) : va_E) = jm_c wd1 G ad M0a 164 := rfl
theorem z1_165 (G : tw_G) (ad : Nat → Nat) : (.inl (G.2.1 0, 21, .inl (fun _ => 0)) : va_E) = jm_c wd1 G ad M0a 165 := rfl
theorem z1_166 (G : tw_G) (ad : Nat → Nat) : (.inl (G.2.1 0, 21, .inl (fun _ => 0)) : va_E) = jm_c wd1 G ad M0a 166 := rfl
theorem z1_167 (G : tw_G) (ad : Nat → Nat) : (.inr (8, [.ref (ad 168), .int (0 : Int32), .ref (ad 169), .ref (ad 170), .ref (ad 171), .ref (ad 172), .int (0 : Int32), .int (0 : Int32)]) : va_E) = jm_c wd1 G ad M0a 167 := rfl
theorem z1_168 (G : tw_G) (ad : Nat → Nat) : (.inl (G.2.1 0, 60, .inl (fun _ => 0)) : va_E) = jm_c wd1 G ad M0a 168 := rfl
theorem z1_169 (G : tw_G) (ad : Nat → Nat) : (.inl (G.2.1 0, 21, .inl (fun _ => 0)) : va_E) = jm_c wd1 G ad M0a 169 := rfl
theorem z1_170 (G : tw_G) (ad : Nat → Nat) : (.inl (G.2.1 0, 21, .inl (fun _ => 0)) : va_E) = jm_c wd1 G ad M0a 170 := rfl
theorem z1_171 (G : tw_G) (ad : Nat → Nat) : (.inl (G.2.1 0, 21, .inl (fun _ => 0)) : va_E) = jm_c wd1 G ad M0a 171 := rfl
theorem z1_172 (G : tw_G) (ad : Nat → Nat) : (.inl (G.2.1 0, 21, .inl (fun _ => 0)) : va_E) = jm_c wd1 G ad M0a 172 := rfl
theorem z1_173 (G : tw_G) (ad : Nat → Nat) : (.inr (8, [.ref (ad 174), .int (0 : Int32), .ref (ad 175), .ref (ad 176), .ref (ad 177), .ref (ad 178), .int (0 : Int32), .int (0 : Int32)]) : va_E) = jm_c wd1 G ad M0a 173 := rfl
theorem z1_174 (G : tw_G) (ad : Nat → Nat) : (.inl (G.2.1 0, 60, .inl (fun _ => 0)) : va_E) = jm_c wd1 G ad M0a 174 := rfl
theorem z1_175 (G : tw_G) (ad : Nat → Nat) : (.inl (G.2.1 0, 21, .inl (fun _ => 0)) : va_E) = jm_c wd1 G ad M0a 175 := rfl
theorem z1_176 (G : tw_G) (ad : Nat → Nat) : (.inl (G.2.1 0, 21, .inl (fun _ => 0)) : va_E) = jm_c wd1 G ad M0a 176 := rfl
theorem z1_177 (G : tw_G) (ad : Nat → Nat) : (.inl (G.2.1 0, 21, .inl (fun _ => 0)) : va_E) = jm_c wd1 G ad M0a 177 := rfl
theorem z1_178 (G : tw_G) (ad : Nat → Nat) : (.inl (G.2.1 0, 21, .inl (fun _ => 0)) : va_E) = jm_c wd1 G ad M0a 178 := rfl
theorem z1_179 (G : tw_G) (ad : Nat → Nat) : (.inr (8, [.ref (ad 180), .int (0 : Int32), .ref (ad 181), .ref (ad 182), .ref (ad 183), .ref (ad 184), .int (0 : Int32), .int (0 : Int32)]) : va_E) = jm_c wd1 G ad M0a 179 := rfl
theorem z1_180 (G : tw_G) (ad : Nat → Nat) : (.inl (G.2.1 0, 60, .inl (fun _ => 0)) : va_E) = jm_c wd1 G ad M0a 180 := rfl
theorem z1_181 (G : tw_G) (ad : Nat → Nat) : (.inl (G.2.1 0, 21, .inl (fun _ => 0)) : va_E) = jm_c wd1 G ad M0a 181 := rfl
theorem z1_182 (G : tw_G) (ad : Nat → Nat) : (.inl (G.2.1 0, 21, .inl (fun _ => 0)) : va_E) = jm_c wd1 G ad M0a 182 := rfl
theorem z1_183 (G : tw_G) (ad : Nat → Nat) : (.inl (G.2.1 0, 21, .inl (fun _ => 0)) : va_E) = jm_c wd1 G ad M0a 183 := rfl
theorem z1_184 (G : tw_G) (ad : Nat → Nat) : (.inl (G.2.1 0, 21, .inl (fun _ => 0)) : va_E) = jm_c wd1 G ad M0a 184 := rfl
theorem z1_185 (G : tw_G) (ad : Nat → Nat) : (.inr (8, [.ref (ad 186), .int (0 : Int32), .ref (ad 187), .ref (ad 188), .ref (ad 189), .ref (ad 190), .int (0 : Int32), .int (0 : Int32)]) : va_E) = jm_c wd1 G ad M0a 185 := rfl
theorem z1_186 (G : tw_G) (ad : Nat → Nat) : (.inl (G.2.1 0, 60, .inl (fun _ => 0)) : va_E) = jm_c wd1 G ad M0a 186 := rfl
theorem z1_187 (G : tw_G) (ad : Nat → Nat) : (.inl (G.2.1 0, 21, .inl (fun _ => 0)) : va_E) = jm_c wd1 G ad M0a 187 := rfl
theorem z1_188 (G : tw_G) (ad : Nat → Nat) : (.inl (G.2.1 0, 21, .inl (fun _ => 0)) : va_E) = jm_c wd1 G ad M0a 188 := rfl
theorem z1_189 (G : tw_G) (ad : Nat → Nat) : (.inl (G.2.1 0, 21, .inl (fun _ => 0)) : va_E) = jm_c wd1 G ad M0a 189 := rfl
theorem z1_190 (G : tw_G) (ad : Nat → Nat) : (.inl (G.2.1 0, 21, .inl (fun _ => 0)) : va_E) = jm_c wd1 G ad M0a 190 := rfl
theorem z1_191 (G : tw_G) (ad : Nat → Nat) : (.inr (8, [.ref (ad 192), .int (0 : Int32), .ref (ad 193), .ref (ad 194), .ref (ad 195), .ref (ad 196), .int (0 : Int32), .int (0 : Int32)]) : va_E) = jm_c wd1 G ad M0a 191 := rfl
theorem z1_192 (G : tw_G) (ad : Nat → Nat) : (.inl (G.2.1 0, 60, .inl (fun _ => 0)) : va_E) = jm_c wd1 G ad M0a 192 := rfl
theorem z1_193 (G : tw_G) (ad : Nat → Nat) : (.inl (G.2.1 0, 21, .inl (fun _ => 0)) : va_E) = jm_c wd1 G ad M0a 193 := rfl
theorem z1_194 (G : tw_G) (ad : Nat → Nat) : (.inl (G.2.1 0, 21, .inl (fun _ => 0)) : va_E) = jm_c wd1 G ad M0a 194 := rfl
theorem z1_195 (G : tw_G) (ad : Nat → Nat) : (.inl (G.2.1 0, 21, .inl (fun _ => 0)) : va_E) = jm_c wd1 G ad M0a 195 := rfl
theorem z1_196 (G : tw_G) (ad : Nat → Nat) : (.inl (G.2.1 0, 21, .inl (fun _ => 0)) : va_E) = jm_c wd1 G ad M0a 196 := rfl
theorem z1_197 (G : tw_G) (ad : Nat → Nat) : (.inr (8, [.ref (ad 198), .int (0 : Int32), .ref (ad 199), .ref (ad 200), .ref (ad 201), .ref (ad 202), .int (0 : Int32), .int (0 : Int32)]) : va_E) = jm_c wd1 G ad M0a 197 := rfl
theorem z1_198 (G : tw_G) (ad : Nat → Nat) : (.inl (G.2.1 0, 60, .inl (fun _ => 0)) : va_E) = jm_c wd1 G ad M0a 198 := rfl
theorem z1_199 (G : tw_G) (ad : Nat → Nat) : (.inl (G.2.1 0, 21, .inl (fun _ => 0)) : va_E) = jm_c wd1 G ad M0a 199 := rfl
theorem z1_200 (G : tw_G) (ad : Nat → Nat) : (.inl (G.2.1 0, 21, .inl (fun _ => 0)) : va_E) = jm_c wd1 G ad M0a 200 := rfl
theorem z1_201 (G : tw_G) (ad : Nat → Nat) : (.inl (G.2.1 0, 21, .inl (fun _ => 0)) : va_E) = jm_c wd1 G ad M0a 201 := rfl
theorem z1_202 (G : tw_G) (ad : Nat → Nat) : (.inl (G.2.1 0, 21, .inl (fun _ => 0)) : va_E) = jm_c wd1 G ad M0a 202 := rfl
theorem z1_203 (G : tw_G) (ad : Nat → Nat) : (.inr (8, [.ref (ad 204), .int (0 : Int32), .ref (ad 205), .ref (ad 206), .ref (ad 207), .ref (ad 208), .int (0 : Int32), .int (0 : Int32)]) : va_E) = jm_c wd1 G ad M0a 203 := rfl
theorem z1_204 (G : tw_G) (ad : Nat → Nat) : (.inl (G.2.1 0, 60, .inl (fun _ => 0)) : va_E) = jm_c wd1 G ad M0a 204 := rfl
theorem z1_205 (G : tw_G) (ad : Nat → Nat) : (.inl (G.2.1 0, 21, .inl (fun _ => 0)) : va_E) = jm_c wd1 G ad M0a 205 := rfl
theorem z1_206 (G : tw_G) (ad : Nat → Nat) : (.inl (G.2.1 0, 21, .inl (fun _ => 0)) : va_E) = jm_c wd1 G ad M0a 206 := rfl
theorem z1_207 (G : tw_G) (ad : Nat → Nat) : (.inl (G.2.1 0, 21, .inl (fun _ => 0)) : va_E) = jm_c wd1 G ad M0a 207 := rfl
theorem z1_208 (G : tw_G) (ad : Nat → Nat) : (.inl (G.2.1 0, 21, .inl (fun _ => 0)) : va_E) = jm_c wd1 G ad M0a 208 := rfl
theorem z1_209 (G : tw_G) (ad : Nat → Nat) : (.inr (8, [.ref (ad 210), .int (0 : Int32), .ref (ad 211), .ref (ad 212), .ref (ad 213), .ref (ad 214), .int (0 : Int32), .int (0 : Int32)]) : va_E) = jm_c wd1 G ad M0a 209 := rfl
theorem z1_210 (G : tw_G) (ad : Nat → Nat) : (.inl (G.2.1 0, 60, .inl (fun _ => 0)) : va_E) = jm_c wd1 G ad M0a 210 := rfl
theorem z1_211 (G : tw_G) (ad : Nat → Nat) : (.inl (G.2.1 0, 21, .inl (fun _ => 0)) : va_E) = jm_c wd1 G ad M0a 211 := rfl
theorem z1_212 (G : tw_G) (ad : Nat → Nat) : (.inl (G.2.1 0, 21, .inl (fun _ => 0)) : va_E) = jm_c wd1 G ad M0a 212 := rfl
theorem z1_213 (G : tw_G) (ad : Nat → Nat) : (.inl (G.2.1 0, 21, .inl (fun _ => 0)) : va_E) = jm_c wd1 G ad M0a 213 := rfl
theorem z1_214 (G : tw_G) (ad : Nat → Nat) : (.inl (G.2.1 0, 21, .inl (fun _ => 0)) : va_E) = jm_c wd1 G ad M0a 214 := rfl
theorem z1_215 (G : tw_G) (ad : Nat → Nat) : (.inr (8, [.ref (ad 216), .int (0 : Int32), .ref (ad 217), .ref (ad 218), .ref (ad 219), .ref (ad 220), .int (0 : Int32), .int (0 : Int32)]) : va_E) = jm_c wd1 G ad M0a 215 := rfl
theorem z1_216 (G : tw_G) (ad : Nat → Nat) : (.inl (G.2.1 0, 60, .inl (fun _ => 0)) : va_E) = jm_c wd1 G ad M0a 216 := rfl
theorem z1_217 (G : tw_G) (ad : Nat → Nat) : (.inl (G.2.1 0, 21, .inl (fun _ => 0)) : va_E) = jm_c wd1 G ad M0a 217 := rfl
theorem z1_218 (G : tw_G) (ad : Nat → Nat) : (.inl (G.2.1 0, 21, .inl (fun _ => 0)) : va_E) = jm_c wd1 G ad M0a 218 := rfl
theorem z1_219 (G : tw_G) (ad : Nat → Nat) : (.inl (G.2.1 0, 21, .inl (fun _ => 0)) : va_E) = jm_c wd1 G ad M0a 219 := rfl
theorem z1_220 (G : tw_G) (ad : Nat → Nat) : (.inl (G.2.1 0, 21, .inl (fun _ => 0)) : va_E) = jm_c wd1 G ad M0a 220 := rfl
theorem z1_221 (G : tw_G) (ad : Nat → Nat) : (.inr (5, [.ref (ad 14), .ref (ad 156), .ref (ad 222), .ref (ad 223), .ref (ad 224)]) : va_E) = jm_c wd1 G ad M0a 221 := rfl
theorem z1_222 (G : tw_G) (ad : Nat → Nat) : (.inl (G.2.1 1, 6, .inl (fun _ => 0)) : va_E) = jm_c wd1 G ad M0a 222 := rfl
theorem z1_223 (G : tw_G) (ad : Nat → Nat) : (.inl (G.2.1 0, 6, .inl (fun _ => 0)) : va_E) = jm_c wd1 G ad M0a 223 := rfl
theorem z1_224 (G : tw_G) (ad : Nat → Nat) : (.inl (G.2.1 0, 6, .inl (fun _ => 0)) : va_E) = jm_c wd1 G ad M0a 224 := rfl
theorem z1_225 (G : tw_G) (ad : Nat → Nat) : (.inr (10, [.ref (ad 14), .ref (ad 221), .ref (ad 226), .ref (ad 227), .ref (ad 228), .int (0 : Int32), .int (0 : Int32), .ref (ad 229), .ref (ad 230), .ref (ad 231), .ref (ad 232)]) : va_E) = jm_c wd1 G ad M0a 225 := rfl
theorem z1_226 (G : tw_G) (ad : Nat → Nat) : (.inl (G.2.1 0, 2, .inl (fun _ => 0)) : va_E) = jm_c wd1 G ad M0a 226 := rfl
theorem z1_227 (G : tw_G) (ad : Nat → Nat) : (.inl (G.2.1 0, 2, .inl (fun _ => 0)) : va_E) = jm_c wd1 G ad M0a 227 := rfl
theorem z1_228 (G : tw_G) (ad : Nat → Nat) : (.inl (G.2.1 0, 4, .inl (fun _ => 0)) : va_E) = jm_c wd1 G ad M0a 228 := rfl
theorem z1_229 (G : tw_G) (ad : Nat → Nat) : (.inl (G.2.1 0, 16, .inl (fun _ => 0)) : va_E) = jm_c wd1 G ad M0a 229 := rfl
theorem z1_230 (G : tw_G) (ad : Nat → Nat) : (.inl (G.2.1 0, 16, .inl (fun _ => 0)) : va_E) = jm_c wd1 G ad M0a 230 := rfl
theorem z1_231 (G : tw_G) (ad : Nat → Nat) : (.inl (G.2.1 0, 16, .inl (fun _ => 0)) : va_E) = jm_c wd1 G ad M0a 231 := rfl
theorem z1_232 (G : tw_G) (ad : Nat → Nat) : (.inl (G.2.1 0, 16, .inl (fun _ => 0)) : va_E) = jm_c wd1 G ad M0a 232 := rfl
theorem z1_233 (G : tw_G) (ad : Nat → Nat) : (.inr (3, [.ref (ad 234), .int (0 : Int32), .ref (ad 235), .int (0 : Int32), .int (0 : Int32), .int (0 : Int32), .int (0 : Int32), .int (0 : Int32), .null]) : va_E) = jm_c wd1 G ad M0a 233 := rfl
theorem z1_234 (G : tw_G) (ad : Nat → Nat) : (.inl (G.2.1 0, 60, .inl (fun _ => 0)) : va_E) = jm_c wd1 G ad M0a 234 := rfl
theorem z1_235 (G : tw_G) (ad : Nat → Nat) : (.inl (G.2.1 1, 60, .inl (fun _ => 0)) : va_E) = jm_c wd1 G ad M0a 235 := rfl
theorem z1_236 (G : tw_G) (ad : Nat → Nat) : (.inl (G.2.1 0, 100, .inl (fun _ => 0)) : va_E) = jm_c wd1 G ad M0a 236 := rfl
theorem z1_237 (G : tw_G) (ad : Nat → Nat) : (.inl (G.2.1 0, 6, .inl (fun _ => 0)) : va_E) = jm_c wd1 G ad M0a 237 := rfl
theorem z1_238 (G : tw_G) (ad : Nat → Nat) : (.inr (8, [.ref (ad 239), .int (0 : Int32), .ref (ad 240), .ref (ad 241), .ref (ad 242), .ref (ad 243), .int (0 : Int32), .int (0 : Int32)]) : va_E) = jm_c wd1 G ad M0a 238 := rfl
theorem z1_239 (G : tw_G) (ad : Nat → Nat) : (.inl (G.2.1 0, 60, .inl (fun _ => 0)) : va_E) = jm_c wd1 G ad M0a 239 := rfl
theorem z1_240 (G : tw_G) (ad : Nat → Nat) : (.inl (G.2.1 0, 21, .inl (fun _ => 0)) : va_E) = jm_c wd1 G ad M0a 240 := rfl
theorem z1_241 (G : tw_G) (ad : Nat → Nat) : (.inl (G.2.1 0, 21, .inl (fun _ => 0)) : va_E) = jm_c wd1 G ad M0a 241 := rfl
theorem z1_242 (G : tw_G) (ad : Nat → Nat) : (.inl (G.2.1 0, 21, .inl (fun _ => 0)) : va_E) = jm_c wd1 G ad M0a 242 := rfl
theorem z1_243 (G : tw_G) (ad : Nat → Nat) : (.inl (G.2.1 0, 21, .inl (fun _ => 0)) : va_E) = jm_c wd1 G ad M0a 243 := rfl
theorem z2_0 (G : tw_G) (ad : Nat → Nat) : (.inr (12, [.int (0 : Int32), .int (2 : Int32), .int (1 : Int32), .ref (ad 1), .ref (ad 2), .ref (ad 3), .ref (ad 4), .ref (ad 5), .int (0 : Int32), .ref (ad 6), .ref (ad 7), .ref (ad 8), .int (0 : Int32), .ref (ad 9), .ref (ad 10), .ref (ad 11), .ref (ad 12), .int (0 : Int32), .ref (ad 13), .ref (ad 14), .ref (ad 15), .ref (ad 16), .ref (ad 17), .ref (ad 18), .ref (ad 19), .ref (ad 20), .ref (ad 21), .ref (ad 22), .ref (ad 23), .ref (ad 24), .ref (ad 25), .ref (ad 26), .ref (ad 27), .ref (ad 28), .ref (ad 29), .ref (ad 30), .ref (ad 31), .ref (ad 32), .ref (ad 33), .ref (ad 34), .int (0 : Int32), .int (0 : Int32), .int (0 : Int32), .ref (G.2.2 (100 + 10)), .ref (ad 35), .ref (ad 36), .ref (ad 37), .int (0 : Int32), .ref (ad 38), .ref (ad 39), .ref (ad 40), .ref (ad 41), .ref (ad 42), .ref (ad 43), .ref (ad 44), .ref (ad 45), .ref (ad 46), .ref (ad 47), .ref (ad 48), .ref (ad 49), .ref (ad 50), .ref (ad 51), .ref (ad 52), .ref (ad 53), .ref (ad 54), .ref (ad 55), .ref (ad 56), .ref (ad 57), .ref (ad 58), .ref (ad 59), .int (0 : Int32), .ref (ad 60), .int (0 : Int32), .ref (ad 61), .ref (ad 62), .int (0 : Int32), .ref (ad 63), .ref (ad 64), .ref (ad 65), .ref (ad 66), .ref (ad 67), .ref (ad 68), .int (0 : Int32), .ref (ad 69), .ref (ad 70), .ref (ad 71), .ref (ad 72), .ref (ad 73), .int (0 : Int32), .int (0 : Int32), .int (0 : Int32), .ref (ad 74), .ref (ad 75), .ref (ad 76), .ref (ad 77), .ref (ad 78), .ref (ad 79)]) : va_E) = jm_c wd2 G ad M0b 0 := rfl
theorem z2_1 (G : tw_G) (ad : Nat → Nat) : (.inl (G.2.1 0, 5, .inl (upd (upd (upd (upd (upd (fun _ => 0) 0 (20000 : Int32)) 1 (20000 : Int32)) 2 (20000 : Int32)) 3 (20000 : Int32)) 4 (20000 : Int32))) : va_E) = jm_c wd2 G ad M0b 1 := congrArg (fun z : Nat → Int32 => (.inl (G.2.1 0, 5, .inl z) : va_E)) (m0_upd 4 20000 (by decide) (m0_upd 3 20000 (by decide) (m0_upd 2 20000 (by decide) (m0_upd 1 20000 (by decide) (m0_upd 0 20000 (by decide) rfl)))))
theorem z2_2 (G : tw_G) (ad : Nat → Nat) : (.inl (G.2.1 0, 5, .inl (upd (upd (upd (upd (upd (fun _ => 0) 0 (300 : Int32)) 1 (300 : Int32)) 2 (300 : Int32)) 3 (300 : Int32)) 4 (300 : Int32))) : va_E) = jm_c wd2 G ad M0b 2 := congrArg (fun z : Nat → Int32 => (.inl (G.2.1 0, 5, .inl z) : va_E)) (m0_upd 4 300 (by decide) (m0_upd 3 300 (by decide) (m0_upd 2 300 (by decide) (m0_upd 1 300 (by decide) (m0_upd 0 300 (by decide) rfl)))))
theorem z2_3 (G : tw_G) (ad : Nat → Nat) : (.inl (G.2.1 1, 5, .inl (upd (upd (upd (upd (upd (fun _ => 0) 0 (0 : Int32)) 1 (0 : Int32)) 2 (0 : Int32)) 3 (0 : Int32)) 4 (0 : Int32))) : va_E) = jm_c wd2 G ad M0b 3 := congrArg (fun z : Nat → Int32 => (.inl (G.2.1 1, 5, .inl z) : va_E)) (m0_upd0 4 (by decide) (m0_upd0 3 (by decide) (m0_upd0 2 (by decide) (m0_upd0 1 (by decide) (m0_upd0 0 (by decide) rfl)))))
theorem z2_4 (G : tw_G) (ad : Nat → Nat) : (.inl (G.2.1 0, 24, .inl (upd (upd (upd (upd (upd (upd (upd (upd (upd (upd (upd (upd (upd (upd (upd (upd (fun _ => 0) 1 (10 : Int32)) 2 (40 : Int32)) 3 (1000 : Int32)) 5 (5 : Int32)) 7 (10 : Int32)) 8 (40 : Int32)) 9 (1000 : Int32)) 11 (5 : Int32)) 13 (10 : Int32)) 14 (40 : Int32)) 15 (1000 : Int32)) 17 (5 : Int32)) 19 (10 : Int32)) 20 (40 : Int32)) 21 (1000 : Int32)) 23 (5 : Int32))) : va_E) = jm_c wd2 G ad M0b 4 := congrArg (fun z : Nat → Int32 => (.inl (G.2.1 0, 24, .inl z) : va_E)) (m0_upd 23 5 (by decide) (m0_upd 21 1000 (by decide) (m0_upd 20 40 (by decide) (m0_upd 19 10 (by decide) (m0_upd 17 5 (by decide) (m0_upd 15 1000 (by decide) (m0_upd 14 40 (by decide) (m0_upd 13 10 (by decide) (m0_upd 11 5 (by decide) (m0_upd 9 1000 (by decide) (m0_upd 8 40 (by decide) (m0_upd 7 10 (by decide) (m0_upd 5 5 (by decide) (m0_upd 3 1000 (by decide) (m0_upd 2 40 (by decide) (m0_upd 1 10 (by decide) rfl))))))))))))))))
theorem z2_5 (G : tw_G) (ad : Nat → Nat) : (.inl (G.2.1 0, 8, .inl (upd (upd (upd (upd (upd (upd (upd (fun _ => 0) 0 (500 : Int32)) 1 (5 : Int32)) 2 (200 : Int32)) 3 (15000 : Int32)) 4 (3000 : Int32)) 5 (50 : Int32)) 6 (300 : Int32))) : va_E) = jm_c wd2 G ad M0b 5 := congrArg (fun z : Nat → Int32 => (.inl (G.2.1 0, 8, .inl z) : va_E)) (m0_upd 6 300 (by decide) (m0_upd 5 50 (by decide) (m0_upd 4 3000 (by decide) (m0_upd 3 15000 (by decide) (m0_upd 2 200 (by decide) (m0_upd 1 5 (by decide) (m0_upd 0 500 (by decide) rfl)))))))
theorem z2_6 (G : tw_G) (ad : Nat → Nat) : (.inl (G.2.1 0, 30, .inl (fun _ => 0)) : va_E) = jm_c wd2 G ad M0b 6 := rfl
theorem z2_7 (G : tw_G) (ad : Nat → Nat) : (.inl (G.2.1 0, 30, .inl (fun _ => 0)) : va_E) = jm_c wd2 G ad M0b 7 := rfl
theorem z2_8 (G : tw_G) (ad : Nat → Nat) : (.inl (G.2.1 0, 30, .inl (fun _ => 0)) : va_E) = jm_c wd2 G ad M0b 8 := rfl
theorem z2_9 (G : tw_G) (ad : Nat → Nat) : (.inl (G.2.1 0, 20, .inl (fun _ => 0)) : va_E) = jm_c wd2 G ad M0b 9 := rfl
theorem z2_10 (G : tw_G) (ad : Nat → Nat) : (.inl (G.2.1 0, 20, .inl (fun _ => 0)) : va_E) = jm_c wd2 G ad M0b 10 := rfl
theorem z2_11 (G : tw_G) (ad : Nat → Nat) : (.inl (G.2.1 0, 20, .inl (fun _ => 0)) : va_E) = jm_c wd2 G ad M0b 11 := rfl
theorem z2_12 (G : tw_G) (ad : Nat → Nat) : (.inl (G.2.1 0, 20, .inl (fun _ => 0)) : va_E) = jm_c wd2 G ad M0b 12 := rfl
theorem z2_13 (G : tw_G) (ad : Nat → Nat) : (.inl (G.2.1 0, 6, .inl (fun _ => 0)) : va_E) = jm_c wd2 G ad M0b 13 := rfl
theorem z2_14 (G : tw_G) (ad : Nat → Nat) : (.inl (G.2.1 0, 6, .inl (fun _ => 0)) : va_E) = jm_c wd2 G ad M0b 14 := rfl
theorem z2_15 (G : tw_G) (ad : Nat → Nat) : (.inl (G.2.1 0, 6, .inl (fun _ => 0)) : va_E) = jm_c wd2 G ad M0b 15 := rfl
theorem z2_16 (G : tw_G) (ad : Nat → Nat) : (.inl (G.2.1 0, 6, .inl (fun _ => 0)) : va_E) = jm_c wd2 G ad M0b 16 := rfl
theorem z2_17 (G : tw_G) (ad : Nat → Nat) : (.inl (G.2.1 0, 6, .inl (fun _ => 0)) : va_E) = jm_c wd2 G ad M0b 17 := rfl
theorem z2_18 (G : tw_G) (ad : Nat → Nat) : (.inl (G.2.1 0, 6, .inl (fun _ => 0)) : va_E) = jm_c wd2 G ad M0b 18 := rfl
theorem z2_19 (G : tw_G) (ad : Nat → Nat) : (.inl (G.2.1 0, 6, .inl (fun _ => 0)) : va_E) = jm_c wd2 G ad M0b 19 := rfl
theorem z2_20 (G : tw_G) (ad : Nat → Nat) : (.inl (G.2.1 0, 24, .inl (fun _ => 0)) : va_E) = jm_c wd2 G ad M0b 20 := rfl
theorem z2_21 (G : tw_G) (ad : Nat → Nat) : (.inl (G.2.1 0, 24, .inl (fun _ => 0)) : va_E) = jm_c wd2 G ad M0b 21 := rfl
theorem z2_22 (G : tw_G) (ad : Nat → Nat) : (.inl (G.2.1 0, 6, .inl (fun _ => 0)) : va_E) = jm_c wd2 G ad M0b 22 := rfl
theorem z2_23 (G : tw_G) (ad : Nat → Nat) : (.inl (G.2.1 0, 72, .inl (fun _ => 0)) : va_E) = jm_c wd2 G ad M0b 23 := rfl
theorem z2_24 (G : tw_G) (ad : Nat → Nat) : (.inl (G.2.1 0, 72, .inl (fun _ => 0)) : va_E) = jm_c wd2 G ad M0b 24 := rfl
theorem z2_25 (G : tw_G) (ad : Nat → Nat) : (.inl (G.2.1 0, 72, .inl (fun _ => 0)) : va_E) = jm_c wd2 G ad M0b 25 := rfl
theorem z2_26 (G : tw_G) (ad : Nat → Nat) : (.inl (G.2.1 0, 6, .inl (fun _ => 0)) : va_E) = jm_c wd2 G ad M0b 26 := rfl
theorem z2_27 (G : tw_G) (ad : Nat → Nat) : (.inl (G.2.1 0, 30, .inl (fun _ => 0)) : va_E) = jm_c wd2 G ad M0b 27 := rfl
theorem z2_28 (G : tw_G) (ad : Nat → Nat) : (.inl (G.2.1 0, 30, .inl (fun _ => 0)) : va_E) = jm_c wd2 G ad M0b 28 := rfl
theorem z2_29 (G : tw_G) (ad : Nat → Nat) : (.inl (G.2.1 0, 30, .inl (fun _ => 0)) : va_E) = jm_c wd2 G ad M0b 29 := rfl
theorem z2_30 (G : tw_G) (ad : Nat → Nat) : (.inl (G.2.1 1, 6, .inl (fun _ => 0)) : va_E) = jm_c wd2 G ad M0b 30 := rfl
theorem z2_31 (G : tw_G) (ad : Nat → Nat) : (.inl (G.2.1 0, 6, .inl (upd (upd (upd (upd (upd (upd (fun _ => 0) 0 (0 : Int32)) 1 (0 : Int32)) 2 (0 : Int32)) 3 (0 : Int32)) 4 (0 : Int32)) 5 (0 : Int32))) : va_E) = jm_c wd2 G ad M0b 31 := congrArg (fun z : Nat → Int32 => (.inl (G.2.1 0, 6, .inl z) : va_E)) (m0_upd0 5 (by decide) (m0_upd0 4 (by decide) (m0_upd0 3 (by decide) (m0_upd0 2 (by decide) (m0_upd0 1 (by decide) (m0_upd0 0 (by decide) rfl))))))
theorem z2_32 (G : tw_G) (ad : Nat → Nat) : (.inl (G.2.1 0, 24, .inl (fun _ => 0)) : va_E) = jm_c wd2 G ad M0b 32 := rfl
theorem z2_33 (G : tw_G) (ad : Nat → Nat) : (.inl (G.2.1 0, 24, .inl (fun _ => 0)) : va_E) = jm_c wd2 G ad M0b 33 := rfl
theorem z2_34 (G : tw_G) (ad : Nat → Nat) : (.inl (G.2.1 0, 100, .inl (fun _ => 0)) : va_E) = jm_c wd2 G ad M0b 34 := rfl
theorem z2_35 (G : tw_G) (ad : Nat → Nat) : (.inl (G.2.1 0, 1700, .inl (fun _ => 0)) : va_E) = jm_c wd2 G ad M0b 35 := rfl
theorem z2_36 (G : tw_G) (ad : Nat → Nat) : (.inl (G.2.1 0, 17, .inl (fun _ => 0)) : va_E) = jm_c wd2 G ad M0b 36 := rfl
theorem z2_37 (G : tw_G) (ad : Nat → Nat) : (.inl (G.2.1 0, 100, .inl (fun _ => 0)) : va_E) = jm_c wd2 G ad M0b 37 := rfl
theorem z2_38 (G : tw_G) (ad : Nat → Nat) : (.inl (G.2.1 0, 13, .inl (fun _ => 0)) : va_E) = jm_c wd2 G ad M0b 38 := rfl
theorem z2_39 (G : tw_G) (ad : Nat → Nat) : (.inl (G.2.1 0, 6, .inl (fun _ => 0)) : va_E) = jm_c wd2 G ad M0b 39 := rfl
theorem z2_40 (G : tw_G) (ad : Nat → Nat) : (.inl (G.2.1 0, 6, .inl (fun _ => 0)) : va_E) = jm_c wd2 G ad M0b 40 := rfl
theorem z2_41 (G : tw_G) (ad : Nat → Nat) : (.inl (G.2.1 0, 6, .inl (fun _ => 0)) : va_E) = jm_c wd2 G ad M0b 41 := rfl
theorem z2_42 (G : tw_G) (ad : Nat → Nat) : (.inl (G.2.1 0, 6, .inl (fun _ => 0)) : va_E) = jm_c wd2 G ad M0b 42 := rfl
theorem z2_43 (G : tw_G) (ad : Nat → Nat) : (.inl (G.2.1 0, 6, .inl (fun _ => 0)) : va_E) = jm_c wd2 G ad M0b 43 := rfl
theorem z2_44 (G : tw_G) (ad : Nat → Nat) : (.inl (G.2.1 0, 6, .inl (fun _ => 0)) : va_E) = jm_c wd2 G ad M0b 44 := rfl
theorem z2_45 (G : tw_G) (ad : Nat → Nat) : (.inl (G.2.1 0, 6, .inl (fun _ => 0)) : va_E) = jm_c wd2 G ad M0b 45 := rfl
theorem z2_46 (G : tw_G) (ad : Nat → Nat) : (.inl (G.2.1 0, 24, .inl (fun _ => 0)) : va_E) = jm_c wd2 G ad M0b 46 := rfl
theorem z2_47 (G : tw_G) (ad : Nat → Nat) : (.inl (G.2.1 0, 6, .inl (fun _ => 0)) : va_E) = jm_c wd2 G ad M0b 47 := rfl
theorem z2_48 (G : tw_G) (ad : Nat → Nat) : (.inl (G.2.1 0, 6, .inl (fun _ => 0)) : va_E) = jm_c wd2 G ad M0b 48 := rfl
theorem z2_49 (G : tw_G) (ad : Nat → Nat) : (.inl (G.2.1 0, 6, .inl (fun _ => 0)) : va_E) = jm_c wd2 G ad M0b 49 := rfl
theorem z2_50 (G : tw_G) (ad : Nat → Nat) : (.inl (G.2.1 0, 6, .inl (fun _ => 0)) : va_E) = jm_c wd2 G ad M0b 50 := rfl
theorem z2_51 (G : tw_G) (ad : Nat → Nat) : (.inl (G.2.1 0, 6, .inl (fun _ => 0)) : va_E) = jm_c wd2 G ad M0b 51 := rfl
theorem z2_52 (G : tw_G) (ad : Nat → Nat) : (.inl (G.2.1 0, 6, .inl (fun _ => 0)) : va_E) = jm_c wd2 G ad M0b 52 := rfl
theorem z2_53 (G : tw_G) (ad : Nat → Nat) : (.inl (G.2.1 0, 6, .inl (fun _ => 0)) : va_E) = jm_c wd2 G ad M0b 53 := rfl
theorem z2_54 (G : tw_G) (ad : Nat → Nat) : (.inl (G.2.1 0, 6, .inl (fun _ => 0)) : va_E) = jm_c wd2 G ad M0b 54 := rfl
theorem z2_55 (G : tw_G) (ad : Nat → Nat) : (.inl (G.2.1 0, 360, .inl (fun _ => 0)) : va_E) = jm_c wd2 G ad M0b 55 := rfl
theorem z2_56 (G : tw_G) (ad : Nat → Nat) : (.inl (G.2.1 0, 30, .inl (fun _ => 0)) : va_E) = jm_c wd2 G ad M0b 56 := rfl
theorem z2_57 (G : tw_G) (ad : Nat → Nat) : (.inl (G.2.1 0, 30, .inl (fun _ => 0)) : va_E) = jm_c wd2 G ad M0b 57 := rfl
theorem z2_58 (G : tw_G) (ad : Nat → Nat) : (.inl (G.2.1 0, 4, .inl (fun _ => 0)) : va_E) = jm_c wd2 G ad M0b 58 := rfl
theorem z2_59 (G : tw_G) (ad : Nat → Nat) : (.inl (G.2.1 0, 72, .inl (fun _ => 0)) : va_E) = jm_c wd2 G ad M0b 59 := rfl
theorem z2_60 (G : tw_G) (ad : Nat → Nat) : (.inl (G.2.1 1, 6, .inl (fun _ => 0)) : va_E) = jm_c wd2 G ad M0b 60 := rfl
theorem z2_61 (G : tw_G) (ad : Nat → Nat) : (.inl (G.2.1 0, 10, .inl (fun _ => 0)) : va_E) = jm_c wd2 G ad M0b 61 := rfl
theorem z2_62 (G : tw_G) (ad : Nat → Nat) : (.inl (G.2.1 0, 11, .inl (fun _ => 0)) : va_E) = jm_c wd2 G ad M0b 62 := rfl
theorem z2_63 (G : tw_G) (ad : Nat → Nat) : (.inl (G.2.1 0, 20, .inl (fun _ => 0)) : va_E) = jm_c wd2 G ad M0b 63 := rfl
theorem z2_64 (G : tw_G) (ad : Nat → Nat) : (.inl (G.2.1 0, 20, .inl (fun _ => 0)) : va_E) = jm_c wd2 G ad M0b 64 := rfl
theorem z2_65 (G : tw_G) (ad : Nat → Nat) : (.inl (G.2.1 0, 20, .inl (fun _ => 0)) : va_E) = jm_c wd2 G ad M0b 65 := rfl
theorem z2_66 (G : tw_G) (ad : Nat → Nat) : (.inl (G.2.1 0, 20, .inl (fun _ => 0)) : va_E) = jm_c wd2 G ad M0b 66 := rfl
theorem z2_67 (G : tw_G) (ad : Nat → Nat) : (.inl (G.2.1 1, 6, .inl (fun _ => 0)) : va_E) = jm_c wd2 G ad M0b 67 := rfl
theorem z2_68 (G : tw_G) (ad : Nat → Nat) : (.inl (G.2.1 0, 6, .inl (fun _ => 0)) : va_E) = jm_c wd2 G ad M0b 68 := rfl
theorem z2_69 (G : tw_G) (ad : Nat → Nat) : (.inl (G.2.1 0, 6, .inl (fun _ => 0)) : va_E) = jm_c wd2 G ad M0b 69 := rfl
theorem z2_70 (G : tw_G) (ad : Nat → Nat) : (.inl (G.2.1 0, 30, .inl (fun _ => 0)) : va_E) = jm_c wd2 G ad M0b 70 := rfl
theorem z2_71 (G : tw_G) (ad : Nat → Nat) : (.inl (G.2.1 0, 30, .inl (fun _ => 0)) : va_E) = jm_c wd2 G ad M0b 71 := rfl
theorem z2_72 (G : tw_G) (ad : Nat → Nat) : (.inl (G.2.1 0, 30, .inl (fun _ => 0)) : va_E) = jm_c wd2 G ad M0b 72 := rfl
theorem z2_73 (G : tw_G) (ad : Nat → Nat) : (.inl (G.2.1 0, 6, .inl (fun _ => 0)) : va_E) = jm_c wd2 G ad M0b 73 := rfl
theorem z2_74 (G : tw_G) (ad : Nat → Nat) : (.inl (G.2.1 0, 2, .inl (fun _ => 0)) : va_E) = jm_c wd2 G ad M0b 74 := rfl
theorem z2_75 (G : tw_G) (ad : Nat → Nat) : (.inl (G.2.1 0, 2, .inl (fun _ => 0)) : va_E) = jm_c wd2 G ad M0b 75 := rfl
theorem z2_76 (G : tw_G) (ad : Nat → Nat) : (.inl (G.2.1 0, 16, .inl (fun _ => 0)) : va_E) = jm_c wd2 G ad M0b 76 := rfl
theorem z2_77 (G : tw_G) (ad : Nat → Nat) : (.inl (G.2.1 0, 16, .inl (fun _ => 0)) : va_E) = jm_c wd2 G ad M0b 77 := rfl
theorem z2_78 (G : tw_G) (ad : Nat → Nat) : (.inl (G.2.1 0, 16, .inl (fun _ => 0)) : va_E) = jm_c wd2 G ad M0b 78 := rfl
theorem z2_79 (G : tw_G) (ad : Nat → Nat) : (.inl (G.2.1 0, 16, .inl (fun _ => 0)) : va_E) = jm_c wd2 G ad M0b 79 := rfl
theorem jur_in {g : Int → Int} {a v : Int} (hv : jm_in v) (h : ∀ k : Int, jm_in (g k)) : ∀ k : Int, jm_in (jm_ur g a v k) := by
  intro k
  unfold jm_ur
  split
  · exact hv
  · exact h k
theorem bxo2_0 {k : Int} (h1 : k ≠ 1) (h2 : k ≠ 2) : bxo2 k 0 := by
  unfold bxo2
  rw [if_neg h1, if_neg h2]
  repeat' split
  all_goals first | omega | exact jm_inL (by decide) (by decide)
theorem m0_bxo (i k : Int) : bx2 0 i k (M0b 0 i k) := by
  show bxo2 k (if k = 1 then 2 else if k = 2 then 1 else if k = 43 then 10 else 0)
  by_cases h1 : k = 1
  · subst h1; exact (⟨by decide, by decide⟩ : (2 : Int) ≤ 2 ∧ (2 : Int) ≤ 5)
  · rw [if_neg h1]
    by_cases h2 : k = 2
    · subst h2; exact (⟨by decide, by decide⟩ : (1 : Int) ≤ 1 ∧ (1 : Int) ≤ 12)
    · rw [if_neg h2]
      by_cases h3 : k = 43
      · subst h3; exact (⟨by decide, by decide⟩ : (0 : Int) ≤ 10 ∧ (10 : Int) ≤ 10)
      · rw [if_neg h3]; exact bxo2_0 h1 h2
theorem m0_in1_14 : ∀ i k : Int, jm_in (M0a 14 i k) := fun _ => (jur_in (jm_inL (by decide) (by decide)) (jur_in (jm_inL (by decide) (by decide)) (jur_in (jm_inL (by decide) (by decide)) (jur_in (jm_inL (by decide) (by decide)) (jur_in (jm_inL (by decide) (by decide)) (fun _ => jm_inL (by decide) (by decide)))))))
theorem m0_in1_15 : ∀ i k : Int, jm_in (M0a 15 i k) := fun _ => (jur_in (jm_inL (by decide) (by decide)) (jur_in (jm_inL (by decide) (by decide)) (jur_in (jm_inL (by decide) (by decide)) (jur_in (jm_inL (by decide) (by decide)) (jur_in (jm_inL (by decide) (by decide)) (fun _ => jm_inL (by decide) (by decide)))))))
theorem m0_in1_17 : ∀ i k : Int, jm_in (M0a 17 i k) := fun _ => (jur_in (jm_inL (by decide) (by decide)) (jur_in (jm_inL (by decide) (by decide)) (jur_in (jm_inL (by decide) (by decide)) (jur_in (jm_inL (by decide) (by decide)) (jur_in (jm_inL (by decide) (by decide)) (jur_in (jm_inL (by decide) (by decide)) (jur_in (jm_inL (by decide) (by decide)) (jur_in (jm_inL (by decide) (by decide)) (jur_in (jm_inL (by decide) (by decide)) (jur_in (jm_inL (by decide) (by decide)) (jur_in (jm_inL (by decide) (by decide)) (jur_in (jm_inL (by decide) (by decide)) (jur_in (jm_inL (by decide) (by decide)) (jur_in (jm_inL (by decide) (by decide)) (jur_in (jm_inL (by decide) (by decide)) (jur_in (jm_inL (by decide) (by decide)) (jur_in (jm_inL (by decide) (by decide)) (jur_in (jm_inL (by decide) (by decide)) (jur_in (jm_inL (by decide) (by decide)) (jur_in (jm_inL (by decide) (by decide)) (jur_in (jm_inL (by decide) (by decide)) (jur_in (jm_inL (by decide) (by decide)) (jur_in (jm_inL (by decide) (by decide)) (jur_in (jm_inL (by decide) (by decide)) (fun _ => jm_inL (by decide) (by decide))))))))))))))))))))))))))
theorem m0_in1_18 : ∀ i k : Int, jm_in (M0a 18 i k) := fun _ => (jur_in (jm_inL (by decide) (by decide)) (jur_in (jm_inL (by decide) (by decide)) (jur_in (jm_inL (by decide) (by decide)) (jur_in (jm_inL (by decide) (by decide)) (jur_in (jm_inL (by decide) (by decide)) (jur_in (jm_inL (by decide) (by decide)) (jur_in (jm_inL (by decide) (by decide)) (jur_in (jm_inL (by decide) (by decide)) (fun _ => jm_inL (by decide) (by decide))))))))))
theorem m0_bI1 : bI bx1 M0a := by
  intro f i k
  have h1 := lim1_any i
  have h2 := wid1_any i
  match f with
  | 0 =>
    show bx1 0 i k (if k = 10 then 16 else 0)
    unfold bx1
    (try dsimp only)
    (repeat' split)
    all_goals first | omega | (unfold jm_in; omega) | skip
  | 1 =>
    show bx1 1 i k (if k = 0 then 2 else if k = 1 then 1 else 0)
    unfold bx1
    (try dsimp only)
    (repeat' split)
    all_goals first | omega | (unfold jm_in; omega) | skip
  | 2 =>
    show bx1 2 i k (0)
    unfold bx1
    (try dsimp only)
    (repeat' split)
    all_goals first | omega | (unfold jm_in; omega) | skip
  | 3 =>
    show bx1 3 i k (0)
    unfold bx1
    (try dsimp only)
    (repeat' split)
    all_goals first | omega | (unfold jm_in; omega) | skip
  | 4 => exact m0_z
  | 5 => exact m0_z
  | 6 =>
    show bx1 6 i k (if k = 8 then (-1) else 0)
    unfold bx1
    (try dsimp only)
    (repeat' split)
    all_goals first | omega | (unfold jm_in; omega) | skip
  | 7 => exact m0_z
  | 8 =>
    show bx1 8 i k (if k = 11 then (if 0 ≤ i ∧ i < 6 then i else 0) else 0)
    unfold bx1
    (try dsimp only)
    (repeat' split)
    all_goals first | omega | (unfold jm_in; omega) | skip
  | 9 =>
    show bx1 9 i k (0)
    unfold bx1
    (try dsimp only)
    (repeat' split)
    all_goals first | omega | (unfold jm_in; omega) | skip
  | 10 =>
    show bx1 10 i k (if k = 0 then lim1 i else if k = 1 then wid1 i else 0)
    unfold bx1
    (try dsimp only)
    (repeat' split)
    all_goals first | omega | (unfold jm_in; omega) | skip
  | 11 =>
    show bx1 11 i k (0)
    unfold bx1
    (try dsimp only)
    (repeat' split)
    all_goals first | omega | (unfold jm_in; omega) | skip
  | 12 => exact m0_z
  | 13 => exact m0_z
  | 14 => exact m0_in1_14 i k
  | 15 => exact m0_in1_15 i k
  | 16 => exact m0_z
  | 17 => exact m0_in1_17 i k
  | 18 => exact m0_in1_18 i k
  | 19 => exact m0_z
  | 20 => exact m0_z
  | 21 =>
    show bx1 21 i k (0)
    unfold bx1
    (try dsimp only)
    (repeat' split)
    all_goals first | omega | (unfold jm_in; omega) | skip
  | 22 => exact m0_z
  | 23 => exact m0_z
  | 24 => exact m0_z
  | 25 => exact m0_z
  | 26 =>
    show bx1 26 i k (0)
    unfold bx1
    (try dsimp only)
    (repeat' split)
    all_goals first | omega | (unfold jm_in; omega) | skip
  | 27 => exact m0_z
  | 28 => exact m0_z
  | 29 => exact m0_z
  | 30 => exact m0_z
  | 31 => exact m0_z
  | 32 => exact m0_z
  | 33 => exact m0_z
  | 34 => exact m0_z
  | 35 => exact m0_z
  | 36 => exact m0_z
  | 37 => exact m0_z
  | 38 => exact m0_z
  | 39 => exact m0_z
  | 40 => exact m0_z
  | 41 => exact m0_z
  | 42 => exact m0_z
  | 43 => exact m0_z
  | 44 => exact m0_z
  | 45 => exact m0_z
  | 46 => exact m0_z
  | 47 => exact m0_z
  | 48 =>
    show bx1 48 i k (if 0 ≤ k ∧ k < 10 then k + 6 else 0)
    unfold bx1
    (try dsimp only)
    (repeat' split)
    all_goals first | omega | (unfold jm_in; omega) | skip
  | 49 => exact m0_z
  | n + 50 =>
    show jm_in 0
    exact jm_inL (by decide) (by decide)
theorem m0_in2_1 : ∀ i k : Int, jm_in (M0b 1 i k) := fun _ => (jur_in (jm_inL (by decide) (by decide)) (jur_in (jm_inL (by decide) (by decide)) (jur_in (jm_inL (by decide) (by decide)) (jur_in (jm_inL (by decide) (by decide)) (jur_in (jm_inL (by decide) (by decide)) (fun _ => jm_inL (by decide) (by decide)))))))
theorem m0_in2_2 : ∀ i k : Int, jm_in (M0b 2 i k) := fun _ => (jur_in (jm_inL (by decide) (by decide)) (jur_in (jm_inL (by decide) (by decide)) (jur_in (jm_inL (by decide) (by decide)) (jur_in (jm_inL (by decide) (by decide)) (jur_in (jm_inL (by decide) (by decide)) (fun _ => jm_inL (by decide) (by decide)))))))
theorem m0_in2_4 : ∀ i k : Int, jm_in (M0b 4 i k) := fun _ => (jur_in (jm_inL (by decide) (by decide)) (jur_in (jm_inL (by decide) (by decide)) (jur_in (jm_inL (by decide) (by decide)) (jur_in (jm_inL (by decide) (by decide)) (jur_in (jm_inL (by decide) (by decide)) (jur_in (jm_inL (by decide) (by decide)) (jur_in (jm_inL (by decide) (by decide)) (jur_in (jm_inL (by decide) (by decide)) (jur_in (jm_inL (by decide) (by decide)) (jur_in (jm_inL (by decide) (by decide)) (jur_in (jm_inL (by decide) (by decide)) (jur_in (jm_inL (by decide) (by decide)) (jur_in (jm_inL (by decide) (by decide)) (jur_in (jm_inL (by decide) (by decide)) (jur_in (jm_inL (by decide) (by decide)) (jur_in (jm_inL (by decide) (by decide)) (fun _ => jm_inL (by decide) (by decide))))))))))))))))))
theorem m0_in2_5 : ∀ i k : Int, jm_in (M0b 5 i k) := fun _ => (jur_in (jm_inL (by decide) (by decide)) (jur_in (jm_inL (by decide) (by decide)) (jur_in (jm_inL (by decide) (by decide)) (jur_in (jm_inL (by decide) (by decide)) (jur_in (jm_inL (by decide) (by decide)) (jur_in (jm_inL (by decide) (by decide)) (jur_in (jm_inL (by decide) (by decide)) (fun _ => jm_inL (by decide) (by decide)))))))))
theorem m0_bI2 : bI bx2 M0b := by
  intro f i k
  have h1 := lim1_any i
  have h2 := wid1_any i
  match f with
  | 0 => exact m0_bxo i k
  | 1 => exact m0_in2_1 i k
  | 2 => exact m0_in2_2 i k
  | 3 => exact (show (0 : Int) ≤ 0 ∧ (0 : Int) ≤ 1 by decide)
  | 4 => exact m0_in2_4 i k
  | 5 => exact m0_in2_5 i k
  | 6 => exact m0_z
  | 7 => exact m0_z
  | 8 => exact m0_z
  | 9 => exact m0_z
  | 10 => exact m0_z
  | 11 => exact m0_z
  | 12 => exact m0_z
  | 13 => exact m0_z
  | 14 => exact m0_z
  | 15 => exact m0_z
  | 16 => exact (show (0 : Int) ≤ 0 ∧ (0 : Int) ≤ 3 by decide)
  | 17 => exact m0_z
  | 18 => exact m0_z
  | 19 => exact (show (0 : Int) ≤ 0 ∧ (0 : Int) ≤ 4 by decide)
  | 20 => exact (show (0 : Int) ≤ 0 ∧ (0 : Int) ≤ 3 by decide)
  | 21 => exact m0_z
  | 22 => exact (show (0 : Int) ≤ 0 ∧ (0 : Int) ≤ 12 by decide)
  | 23 => exact m0_z
  | 24 => exact m0_z
  | 25 => exact m0_z
  | 26 => exact (show (0 : Int) ≤ 0 ∧ (0 : Int) ≤ 5 by decide)
  | 27 => exact m0_z
  | 28 => exact m0_z
  | 29 => exact m0_z
  | 30 => exact (show (0 : Int) ≤ 0 ∧ (0 : Int) ≤ 1 by decide)
  | 31 => exact (show (0 : Int) ≤ 0 ∧ (0 : Int) ≤ 4 by decide)
  | 32 => exact m0_z
  | 33 => exact m0_z
  | 34 => exact m0_z
  | 35 => exact m0_z
  | 36 => exact (show (0 : Int) ≤ 0 ∧ (0 : Int) ≤ 100 by decide)
  | 37 => exact m0_z
  | 38 => exact m0_z
  | 39 => exact m0_z
  | 40 => exact m0_z
  | 41 => exact m0_z
  | 42 => exact (show (0 : Int) ≤ 0 ∧ (0 : Int) ≤ 60 by decide)
  | 43 => exact m0_z
  | 44 => exact m0_z
  | 45 => exact (show (-1 : Int) ≤ 0 ∧ (0 : Int) ≤ 3 by decide)
  | 46 => exact m0_z
  | 47 => exact m0_z
  | 48 => exact m0_z
  | 49 => exact m0_z
  | 50 => exact m0_z
  | 51 => exact m0_z
  | 52 => exact m0_z
  | 53 => exact m0_z
  | 54 => exact m0_z
  | 55 => exact m0_z
  | 56 => exact m0_z
  | 57 => exact m0_z
  | 58 => exact m0_z
  | 59 => exact m0_z
  | 60 => exact (show (0 : Int) ≤ 0 ∧ (0 : Int) ≤ 1 by decide)
  | 61 => exact m0_z
  | 62 => exact m0_z
  | 63 => exact m0_z
  | 64 => exact m0_z
  | 65 => exact m0_z
  | 66 => exact m0_z
  | 67 => exact (show (0 : Int) ≤ 0 ∧ (0 : Int) ≤ 1 by decide)
  | 68 => exact m0_z
  | 69 => exact m0_z
  | 70 => exact m0_z
  | 71 => exact m0_z
  | 72 => exact m0_z
  | 73 => exact (show (0 : Int) ≤ 0 ∧ (0 : Int) ≤ 5 by decide)
  | 74 => exact m0_z
  | 75 => exact m0_z
  | 76 => exact m0_z
  | 77 => exact m0_z
  | 78 => exact m0_z
  | 79 => exact m0_z
  | n + 80 =>
    show jm_in 0
    exact jm_inL (by decide) (by decide)
theorem m0_WF : WF M0b := ⟨fun k h1 h2 => by have h2 : k < 0 := h2; omega, fun c _ _ h => by have h : (0 : Int) = 1 := h; omega⟩
theorem m0_RR : RR M0a M0b := by
  refine ⟨⟨rfl, rfl, rfl, rfl, rfl, rfl, rfl⟩, fun c h1 h2 => ?_, fun c _ _ => rfl, fun k h1 h2 => ?_, fun k h1 h2 => ?_⟩
  · have h2 : c < 0 := h2
    omega
  · rcases (by omega : k = 0 ∨ k = 1 ∨ k = 2 ∨ k = 3 ∨ k = 4 ∨ k = 5 ∨ k = 6 ∨ k = 7) with rfl | rfl | rfl | rfl | rfl | rfl | rfl | rfl <;> rfl
  · rcases (by omega : k = 0 ∨ k = 1 ∨ k = 2 ∨ k = 3 ∨ k = 4 ∨ k = 5 ∨ k = 6 ∨ k = 7 ∨ k = 8 ∨ k = 9 ∨ k = 10 ∨ k = 11 ∨ k = 12 ∨ k = 13 ∨ k = 14 ∨ k = 15 ∨ k = 16 ∨ k = 17 ∨ k = 18 ∨ k = 19 ∨ k = 20 ∨ k = 21 ∨ k = 22 ∨ k = 23) with rfl | rfl | rfl | rfl | rfl | rfl | rfl | rfl | rfl | rfl | rfl | rfl | rfl | rfl | rfl | rfl | rfl | rfl | rfl | rfl | rfl | rfl | rfl | rfl <;> rfl
theorem m0_IV : IV M0a M0b := ⟨m0_bI1, m0_bI2, m0_WF, m0_RR⟩
theorem m0_IW : IW M0a M0b := ⟨m0_IV, fun j y1 y2 => by
  have y2 : j < 0 := y2
  omega, fun c y1 y2 => by
  have y2 : c < 0 := y2
  omega, rfl⟩
theorem m0_no {P : Int → Prop} : ∀ c : Int, 0 ≤ c → c < 0 → P c := fun c y1 y2 => by
  exfalso; omega
theorem m0_LIM : LIM M0b := by
  refine ⟨⟨by decide, by decide, by decide, by decide, by decide, by decide, by decide, by decide, by decide, by decide, by decide, by decide, by decide, by decide, by decide, by decide⟩, fun k h1 h2 => ?_, fun k h1 h2 => ?_, m0_no⟩
  · rcases (by omega : k = 0 ∨ k = 1 ∨ k = 2 ∨ k = 3) with rfl | rfl | rfl | rfl <;> decide
  · rcases (by omega : k = 0 ∨ k = 1 ∨ k = 2 ∨ k = 3 ∨ k = 4) with rfl | rfl | rfl | rfl | rfl <;> decide
theorem m0_TXD : TXD M0a := by
  have e8 : ∀ c : Int, 0 ≤ c → c < 6 → M0a 8 c 11 = c := fun c h1 h2 => by
    show (if (11 : Int) = 11 then (if 0 ≤ c ∧ c < 6 then c else 0) else 0) = c
    rw [if_pos rfl, if_pos ⟨h1, h2⟩]
  have e48 : ∀ i : Int, 0 ≤ i → i < 10 → M0a 48 0 i = i + 6 := fun i h1 h2 => by
    show (if 0 ≤ i ∧ i < 10 then i + 6 else 0) = i + 6
    exact if_pos ⟨h1, h2⟩
  have e10 : M0a 0 0 10 = 16 := rfl
  exact ⟨fun c y1 y2 => by rw [e8 c y1 y2, e10]; omega, fun c d y1 y2 y3 y4 y5 => by rw [e8 c y1 y2, e8 d y3 y4]; exact y5, fun i y1 y2 => by rw [e48 i y1 y2, e10]; omega, fun i j y1 y2 y3 y4 y5 => by rw [e48 i y1 y2, e48 j y3 y4]; omega, fun i c y1 y2 y3 y4 => by rw [e48 i y1 y2, e8 c y3 y4]; omega⟩
theorem m0_IR : IR M0a M0b := ⟨⟨fun _ _ _ => rfl, rfl⟩, m0_no, m0_no, m0_no, m0_no⟩
theorem m0_IX : IX M0a M0b := ⟨m0_IW, ⟨⟨⟨⟨rfl, m0_no⟩, ⟨rfl, m0_no⟩, m0_no, m0_no, m0_no⟩, ⟨⟨rfl, rfl, rfl⟩, m0_RR.2.2.2.1, m0_RR.2.2.2.2, fun _ _ _ => ⟨rfl, rfl⟩⟩, m0_no, m0_LIM⟩, fun _ _ _ => rfl⟩, CA.zero rfl, m0_TXD, m0_IR⟩
theorem m0_IY : IY M0a M0b := ⟨m0_IX, rfl, fun _ _ _ => rfl⟩
