theorem jm_vof {Y : jm_Y} {f cnt : Nat} (h : ∀ j : Nat, j < cnt → (Y.2.2.1 f).getD j 0 < Y.1 ∧ Y.2.1 ((Y.2.2.1 f).getD j 0) = (f, (j : Int))) : jm_v Y f (cnt : Int) := by
  intro i h0 h1
  obtain ⟨a, b⟩ := h i.toNat (by omega)
  unfold jm_r
  refine ⟨a, ?_⟩
  rw [b]
  congr 1
  omega
def rt1 : Nat → List Nat := fun f => match f with
  | 0 => [0]
  | 1 => [4]
  | 2 => [14]
  | 3 => [156]
  | 4 => [221]
  | 5 => [225]
  | 6 => [233]
  | 7 => [1]
  | 8 => [18, 41, 64, 87, 110, 133]
  | 9 => [35, 58, 81, 104, 127, 150]
  | 10 => [19, 42, 65, 88, 111, 134, 21, 44, 67, 90, 113, 136, 23, 46, 69, 92, 115, 138, 25, 48, 71, 94, 117, 140, 27, 50, 73, 96, 119, 142, 10, 12, 159]
  | 11 => [29, 52, 75, 98, 121, 144, 161, 167, 173, 179, 185, 191, 197, 203, 209, 215, 238]
  | 12 => [236]
  | 13 => [237]
  | 14 => [5]
  | 15 => [6]
  | 16 => [7]
  | 17 => [8]
  | 18 => [9]
  | 19 => [20, 43, 66, 89, 112, 135, 22, 45, 68, 91, 114, 137, 24, 47, 70, 93, 116, 139, 26, 49, 72, 95, 118, 141, 28, 51, 74, 97, 120, 143, 11, 13, 160]
  | 20 => [30, 53, 76, 99, 122, 145, 162, 168, 174, 180, 186, 192, 198, 204, 210, 216, 239]
  | 21 => [31, 54, 77, 100, 123, 146, 163, 169, 175, 181, 187, 193, 199, 205, 211, 217, 240]
  | 22 => [32, 55, 78, 101, 124, 147, 164, 170, 176, 182, 188, 194, 200, 206, 212, 218, 241]
  | 23 => [33, 56, 79, 102, 125, 148, 165, 171, 177, 183, 189, 195, 201, 207, 213, 219, 242]
  | 24 => [34, 57, 80, 103, 126, 149, 166, 172, 178, 184, 190, 196, 202, 208, 214, 220, 243]
  | 25 => [234]
  | 26 => [235]
  | 27 => [2]
  | 28 => [3]
  | 29 => [36, 59, 82, 105, 128, 151]
  | 30 => [37, 60, 83, 106, 129, 152]
  | 31 => [38, 61, 84, 107, 130, 153]
  | 32 => [39, 62, 85, 108, 131, 154]
  | 33 => [40, 63, 86, 109, 132, 155]
  | 34 => [17]
  | 35 => [158]
  | 36 => [222]
  | 37 => [223]
  | 38 => [224]
  | 39 => [226]
  | 40 => [227]
  | 41 => [228]
  | 42 => [229]
  | 43 => [230]
  | 44 => [231]
  | 45 => [232]
  | 46 => [15]
  | 47 => [16]
  | 48 => [157]
  | _ => [244]
def rr1 (f : Nat) (i : Int) : Nat := (rt1 f).getD i.toNat 0
def ro1 : Nat → Nat × Int := fun r => ([(0, 0), (7, 0), (27, 0), (28, 0), (1, 0), (14, 0), (15, 0), (16, 0), (17, 0), (18, 0), (10, 30), (19, 30), (10, 31), (19, 31), (2, 0), (46, 0), (47, 0), (34, 0), (8, 0), (10, 0), (19, 0), (10, 6), (19, 6), (10, 12), (19, 12), (10, 18), (19, 18), (10, 24), (19, 24), (11, 0), (20, 0), (21, 0), (22, 0), (23, 0), (24, 0), (9, 0), (29, 0), (30, 0), (31, 0), (32, 0), (33, 0), (8, 1), (10, 1), (19, 1), (10, 7), (19, 7), (10, 13), (19, 13), (10, 19), (19, 19), (10, 25), (19, 25), (11, 1), (20, 1), (21, 1), (22, 1), (23, 1), (24, 1), (9, 1), (29, 1), (30, 1), (31, 1), (32, 1), (33, 1), (8, 2), (10, 2), (19, 2), (10, 8), (19, 8), (10, 14), (19, 14), (10, 20), (19, 20), (10, 26), (19, 26), (11, 2), (20, 2), (21, 2), (22, 2), (23, 2), (24, 2), (9, 2), (29, 2), (30, 2), (31, 2), (32, 2), (33, 2), (8, 3), (10, 3), (19, 3), (10, 9), (19, 9), (10, 15), (19, 15), (10, 21), (19, 21), (10, 27), (19, 27), (11, 3), (20, 3), (21, 3), (22, 3), (23, 3), (24, 3), (9, 3), (29, 3), (30, 3), (31, 3), (32, 3), (33, 3), (8, 4), (10, 4), (19, 4), (10, 10), (19, 10), (10, 16), (19, 16), (10, 22), (19, 22), (10, 28), (19, 28), (11, 4), (20, 4), (21, 4), (22, 4), (23, 4), (24, 4), (9, 4), (29, 4), (30, 4), (31, 4), (32, 4), (33, 4), (8, 5), (10, 5), (19, 5), (10, 11), (19, 11), (10, 17), (19, 17), (10, 23), (19, 23), (10, 29), (19, 29), (11, 5), (20, 5), (21, 5), (22, 5), (23, 5), (24, 5), (9, 5), (29, 5), (30, 5), (31, 5), (32, 5), (33, 5), (3, 0), (48, 0), (35, 0), (10, 32), (19, 32), (11, 6), (20, 6), (21, 6), (22, 6), (23, 6), (24, 6), (11, 7), (20, 7), (21, 7), (22, 7), (23, 7), (24, 7), (11, 8), (20, 8), (21, 8), (22, 8), (23, 8), (24, 8), (11, 9), (20, 9), (21, 9), (22, 9), (23, 9), (24, 9), (11, 10), (20, 10), (21, 10), (22, 10), (23, 10), (24, 10), (11, 11), (20, 11), (21, 11), (22, 11), (23, 11), (24, 11), (11, 12), (20, 12), (21, 12), (22, 12), (23, 12), (24, 12), (11, 13), (20, 13), (21, 13), (22, 13), (23, 13), (24, 13), (11, 14), (20, 14), (21, 14), (22, 14), (23, 14), (24, 14), (11, 15), (20, 15), (21, 15), (22, 15), (23, 15), (24, 15), (4, 0), (36, 0), (37, 0), (38, 0), (5, 0), (39, 0), (40, 0), (41, 0), (42, 0), (43, 0), (44, 0), (45, 0), (6, 0), (25, 0), (26, 0), (12, 0), (13, 0), (11, 16), (20, 16), (21, 16), (22, 16), (23, 16), (24, 16), (49, 0)] : List (Nat × Int)).getD r (0, -1)
def lenC1 (i : Int) : Int := if 0 ≤ i ∧ i < 33 then ([8, 8, 8, 8, 8, 8, 36, 36, 36, 36, 36, 36, 15, 15, 15, 15, 15, 15, 8, 8, 8, 8, 8, 8, 6, 6, 6, 6, 6, 6, 90, 80, 80] : List Int).getD i.toNat 0 else 0
def enc1 (G : tw_G) (ad : Nat → Nat) (f : Nat) (i : Int) (g : Int → Int) : va_E := match f with
  | 0 => .inr (11, [.ref (ad (rr1 1 i)), .ref (ad (rr1 2 i)), .ref (ad (rr1 3 i)), .ref (ad (rr1 4 i)), .ref (ad (rr1 5 i)), .ref (ad (rr1 6 i)), .ref (ad (rr1 12 i)), jm_i (g 7), .ref (ad (rr1 13 i)), jm_i (g 9), (if 0 ≤ g 10 then .ref (ad (rr1 11 (g 10))) else .null)])
  | 1 => .inr (9, [jm_i (g 0), jm_i (g 1), .ref (ad (rr1 14 i)), .ref (ad (rr1 15 i)), .ref (ad (rr1 16 i)), .ref (ad (rr1 17 i)), .ref (ad (rr1 18 i)), .ref (ad (rr1 10 (i + 30))), .ref (ad (rr1 10 (i + 31)))])
  | 2 => .inr (2, [.ref (ad (rr1 1 i)), .ref (ad (rr1 7 i)), .ref (ad (rr1 46 i)), .ref (ad (rr1 47 i)), .ref (ad (rr1 34 i)), jm_i (g 5), jm_i (g 6), jm_i (g 7)])
  | 3 => .inr (0, [.ref (ad (rr1 7 i)), .ref (ad (rr1 48 i)), .ref (ad (rr1 35 i)), jm_i (g 3), .ref (ad (rr1 10 (i + 32)))])
  | 4 => .inr (5, [.ref (ad (rr1 2 i)), .ref (ad (rr1 3 i)), .ref (ad (rr1 36 i)), .ref (ad (rr1 37 i)), .ref (ad (rr1 38 i))])
  | 5 => .inr (10, [.ref (ad (rr1 2 i)), .ref (ad (rr1 4 i)), .ref (ad (rr1 39 i)), .ref (ad (rr1 40 i)), .ref (ad (rr1 41 i)), jm_i (g 5), jm_i (g 6), .ref (ad (rr1 42 i)), .ref (ad (rr1 43 i)), .ref (ad (rr1 44 i)), .ref (ad (rr1 45 i))])
  | 6 => .inr (3, [.ref (ad (rr1 25 i)), jm_i (g 1), .ref (ad (rr1 26 i)), jm_i (g 3), jm_i (g 4), jm_i (g 5), jm_i (g 6), jm_i (g 7), (if 0 ≤ g 8 then .ref (ad (rr1 11 (g 8))) else .null)])
  | 7 => .inr (4, [.ref (ad (rr1 27 i)), .ref (ad (rr1 28 i))])
  | 8 => .inr (1, [jm_i (g 0), jm_i (g 1), jm_i (g 2), jm_i (g 3), jm_i (g 4), jm_i (g 5), .ref (ad (rr1 10 i)), .ref (ad (rr1 10 (i + 6))), .ref (ad (rr1 10 (i + 12))), .ref (ad (rr1 10 (i + 18))), .ref (ad (rr1 10 (i + 24))), (if 0 ≤ g 11 then .ref (ad (rr1 11 (g 11))) else .null), jm_i (g 12), jm_i (g 13)])
  | 9 => .inr (6, [jm_i (g 0), jm_i (g 1), jm_i (g 2), jm_i (g 3), jm_i (g 4), jm_i (g 5), jm_i (g 6), jm_i (g 7), jm_i (g 8), jm_i (g 9), jm_i (g 10), jm_i (g 11), jm_i (g 12), jm_i (g 13), jm_i (g 14), .ref (ad (rr1 29 i)), .ref (ad (rr1 30 i)), .ref (ad (rr1 31 i)), .ref (ad (rr1 32 i)), .ref (ad (rr1 33 i))])
  | 10 => .inr (7, [jm_i (g 0), jm_i (g 1), .ref (ad (rr1 19 i)), jm_i (g 3)])
  | 11 => .inr (8, [.ref (ad (rr1 20 i)), jm_i (g 1), .ref (ad (rr1 21 i)), .ref (ad (rr1 22 i)), .ref (ad (rr1 23 i)), .ref (ad (rr1 24 i)), jm_i (g 6), jm_i (g 7)])
  | 12 => .inl (G.2.1 0, (100 : Int).toNat, .inl (fun j => Int32.ofInt (g j)))
  | 13 => .inl (G.2.1 0, (6 : Int).toNat, .inl (fun j => Int32.ofInt (g j)))
  | 14 => .inl (G.2.1 0, (5 : Int).toNat, .inl (fun j => Int32.ofInt (g j)))
  | 15 => .inl (G.2.1 0, (5 : Int).toNat, .inl (fun j => Int32.ofInt (g j)))
  | 16 => .inl (G.2.1 1, (5 : Int).toNat, .inl (fun j => Int32.ofInt (g j)))
  | 17 => .inl (G.2.1 0, (24 : Int).toNat, .inl (fun j => Int32.ofInt (g j)))
  | 18 => .inl (G.2.1 0, (8 : Int).toNat, .inl (fun j => Int32.ofInt (g j)))
  | 19 => .inl (G.2.1 0, (lenC1 i).toNat, .inl (fun j => Int32.ofInt (g j)))
  | 20 => .inl (G.2.1 0, (60 : Int).toNat, .inl (fun j => Int32.ofInt (g j)))
  | 21 => .inl (G.2.1 0, (21 : Int).toNat, .inl (fun j => Int32.ofInt (g j)))
  | 22 => .inl (G.2.1 0, (21 : Int).toNat, .inl (fun j => Int32.ofInt (g j)))
  | 23 => .inl (G.2.1 0, (21 : Int).toNat, .inl (fun j => Int32.ofInt (g j)))
  | 24 => .inl (G.2.1 0, (21 : Int).toNat, .inl (fun j => Int32.ofInt (g j)))
  | 25 => .inl (G.2.1 0, (60 : Int).toNat, .inl (fun j => Int32.ofInt (g j)))
  | 26 => .inl (G.2.1 1, (60 : Int).toNat, .inl (fun j => Int32.ofInt (g j)))
  | 27 => .inl (G.2.1 0, (26 : Int).toNat, .inl (fun j => Int32.ofInt (g j)))
  | 28 => .inl (G.2.1 0, (60 : Int).toNat, .inl (fun j => Int32.ofInt (g j)))
  | 29 => .inl (G.2.1 0, (4 : Int).toNat, .inl (fun j => Int32.ofInt (g j)))
  | 30 => .inl (G.2.1 0, (60 : Int).toNat, .inl (fun j => Int32.ofInt (g j)))
  | 31 => .inl (G.2.1 0, (12 : Int).toNat, .inl (fun j => Int32.ofInt (g j)))
  | 32 => .inl (G.2.1 0, (5 : Int).toNat, .inl (fun j => Int32.ofInt (g j)))
  | 33 => .inl (G.2.1 0, (5 : Int).toNat, .inl (fun j => Int32.ofInt (g j)))
  | 34 => .inl (G.2.1 0, (4 : Int).toNat, .inl (fun j => Int32.ofInt (g j)))
  | 35 => .inl (G.2.1 0, (10 : Int).toNat, .inl (fun j => Int32.ofInt (g j)))
  | 36 => .inl (G.2.1 1, (6 : Int).toNat, .inl (fun j => Int32.ofInt (g j)))
  | 37 => .inl (G.2.1 0, (6 : Int).toNat, .inl (fun j => Int32.ofInt (g j)))
  | 38 => .inl (G.2.1 0, (6 : Int).toNat, .inl (fun j => Int32.ofInt (g j)))
  | 39 => .inl (G.2.1 0, (2 : Int).toNat, .inl (fun j => Int32.ofInt (g j)))
  | 40 => .inl (G.2.1 0, (2 : Int).toNat, .inl (fun j => Int32.ofInt (g j)))
  | 41 => .inl (G.2.1 0, (4 : Int).toNat, .inl (fun j => Int32.ofInt (g j)))
  | 42 => .inl (G.2.1 0, (16 : Int).toNat, .inl (fun j => Int32.ofInt (g j)))
  | 43 => .inl (G.2.1 0, (16 : Int).toNat, .inl (fun j => Int32.ofInt (g j)))
  | 44 => .inl (G.2.1 0, (16 : Int).toNat, .inl (fun j => Int32.ofInt (g j)))
  | 45 => .inl (G.2.1 0, (16 : Int).toNat, .inl (fun j => Int32.ofInt (g j)))
  | 46 => .inl (G.2.1 2, (6 : Int).toNat, .inr (.inr (.inr (.inr (va_up (va_up (va_up (va_up (va_up (va_up (fun _ => none) 0 (some (ad 18))) 1 (some (ad 41))) 2 (some (ad 64))) 3 (some (ad 87))) 4 (some (ad 110))) 5 (some (ad 133)))))))
  | 47 => .inl (G.2.1 3, (6 : Int).toNat, .inr (.inr (.inr (.inr (va_up (va_up (va_up (va_up (va_up (va_up (fun _ => none) 0 (some (ad 35))) 1 (some (ad 58))) 2 (some (ad 81))) 3 (some (ad 104))) 4 (some (ad 127))) 5 (some (ad 150)))))))
  | 48 => .inl (G.2.1 4, (10 : Int).toNat, .inr (.inr (.inr (.inr (fun j => if 0 ≤ g j then some (ad (rr1 11 (g j))) else none)))))
  | _ => .inl (G.2.1 5, 1, .inr (.inl (fun j => Int64.ofInt (g j))))
def wd1 : jm_Y := (245, ro1, rt1, enc1)
theorem wI1 : jm_inj wd1 := by unfold jm_inj; decide +kernel
theorem jv1_0 : jm_v wd1 0 1 := jm_vof (by decide +kernel)
theorem jv1_1 : jm_v wd1 1 1 := jm_vof (by decide +kernel)
theorem jv1_2 : jm_v wd1 2 1 := jm_vof (by decide +kernel)
theorem jv1_3 : jm_v wd1 3 1 := jm_vof (by decide +kernel)
theorem jv1_4 : jm_v wd1 4 1 := jm_vof (by decide +kernel)
theorem jv1_5 : jm_v wd1 5 1 := jm_vof (by decide +kernel)
theorem jv1_6 : jm_v wd1 6 1 := jm_vof (by decide +kernel)
theorem jv1_7 : jm_v wd1 7 1 := jm_vof (by decide +kernel)
theorem jv1_8 : jm_v wd1 8 6 := jm_vof (by decide +kernel)
theorem jv1_9 : jm_v wd1 9 6 := jm_vof (by decide +kernel)
theorem jv1_10 : jm_v wd1 10 33 := jm_vof (by decide +kernel)
theorem jv1_11 : jm_v wd1 11 17 := jm_vof (by decide +kernel)
theorem jv1_12 : jm_v wd1 12 1 := jm_vof (by decide +kernel)
theorem jv1_13 : jm_v wd1 13 1 := jm_vof (by decide +kernel)
theorem jv1_14 : jm_v wd1 14 1 := jm_vof (by decide +kernel)
theorem jv1_15 : jm_v wd1 15 1 := jm_vof (by decide +kernel)
theorem jv1_16 : jm_v wd1 16 1 := jm_vof (by decide +kernel)
theorem jv1_17 : jm_v wd1 17 1 := jm_vof (by decide +kernel)
theorem jv1_18 : jm_v wd1 18 1 := jm_vof (by decide +kernel)
theorem jv1_19 : jm_v wd1 19 33 := jm_vof (by decide +kernel)
theorem jv1_20 : jm_v wd1 20 17 := jm_vof (by decide +kernel)
theorem jv1_21 : jm_v wd1 21 17 := jm_vof (by decide +kernel)
theorem jv1_22 : jm_v wd1 22 17 := jm_vof (by decide +kernel)
theorem jv1_23 : jm_v wd1 23 17 := jm_vof (by decide +kernel)
theorem jv1_24 : jm_v wd1 24 17 := jm_vof (by decide +kernel)
theorem jv1_25 : jm_v wd1 25 1 := jm_vof (by decide +kernel)
theorem jv1_26 : jm_v wd1 26 1 := jm_vof (by decide +kernel)
theorem jv1_27 : jm_v wd1 27 1 := jm_vof (by decide +kernel)
theorem jv1_28 : jm_v wd1 28 1 := jm_vof (by decide +kernel)
theorem jv1_29 : jm_v wd1 29 6 := jm_vof (by decide +kernel)
theorem jv1_30 : jm_v wd1 30 6 := jm_vof (by decide +kernel)
theorem jv1_31 : jm_v wd1 31 6 := jm_vof (by decide +kernel)
theorem jv1_32 : jm_v wd1 32 6 := jm_vof (by decide +kernel)
theorem jv1_33 : jm_v wd1 33 6 := jm_vof (by decide +kernel)
theorem jv1_34 : jm_v wd1 34 1 := jm_vof (by decide +kernel)
theorem jv1_35 : jm_v wd1 35 1 := jm_vof (by decide +kernel)
theorem jv1_36 : jm_v wd1 36 1 := jm_vof (by decide +kernel)
theorem jv1_37 : jm_v wd1 37 1 := jm_vof (by decide +kernel)
theorem jv1_38 : jm_v wd1 38 1 := jm_vof (by decide +kernel)
theorem jv1_39 : jm_v wd1 39 1 := jm_vof (by decide +kernel)
theorem jv1_40 : jm_v wd1 40 1 := jm_vof (by decide +kernel)
theorem jv1_41 : jm_v wd1 41 1 := jm_vof (by decide +kernel)
theorem jv1_42 : jm_v wd1 42 1 := jm_vof (by decide +kernel)
theorem jv1_43 : jm_v wd1 43 1 := jm_vof (by decide +kernel)
theorem jv1_44 : jm_v wd1 44 1 := jm_vof (by decide +kernel)
theorem jv1_45 : jm_v wd1 45 1 := jm_vof (by decide +kernel)
theorem jv1_46 : jm_v wd1 46 1 := jm_vof (by decide +kernel)
theorem jv1_47 : jm_v wd1 47 1 := jm_vof (by decide +kernel)
theorem jv1_48 : jm_v wd1 48 1 := jm_vof (by decide +kernel)
theorem jv1_49 : jm_v wd1 49 1 := jm_vof (by decide +kernel)
theorem ka1_12 : jm_ka wd1 12 0 (fun _ => 100) := fun _ _ _ _ => rfl
theorem ka1_13 : jm_ka wd1 13 0 (fun _ => 6) := fun _ _ _ _ => rfl
theorem ka1_14 : jm_ka wd1 14 0 (fun _ => 5) := fun _ _ _ _ => rfl
theorem ka1_15 : jm_ka wd1 15 0 (fun _ => 5) := fun _ _ _ _ => rfl
theorem ka1_16 : jm_ka wd1 16 1 (fun _ => 5) := fun _ _ _ _ => rfl
theorem ka1_17 : jm_ka wd1 17 0 (fun _ => 24) := fun _ _ _ _ => rfl
theorem ka1_18 : jm_ka wd1 18 0 (fun _ => 8) := fun _ _ _ _ => rfl
theorem ka1_19 : jm_ka wd1 19 0 lenC1 := fun _ _ _ _ => rfl
theorem ka1_20 : jm_ka wd1 20 0 (fun _ => 60) := fun _ _ _ _ => rfl
theorem ka1_21 : jm_ka wd1 21 0 (fun _ => 21) := fun _ _ _ _ => rfl
theorem ka1_22 : jm_ka wd1 22 0 (fun _ => 21) := fun _ _ _ _ => rfl
theorem ka1_23 : jm_ka wd1 23 0 (fun _ => 21) := fun _ _ _ _ => rfl
theorem ka1_24 : jm_ka wd1 24 0 (fun _ => 21) := fun _ _ _ _ => rfl
theorem ka1_25 : jm_ka wd1 25 0 (fun _ => 60) := fun _ _ _ _ => rfl
theorem ka1_26 : jm_ka wd1 26 1 (fun _ => 60) := fun _ _ _ _ => rfl
theorem ka1_27 : jm_ka wd1 27 0 (fun _ => 26) := fun _ _ _ _ => rfl
theorem ka1_28 : jm_ka wd1 28 0 (fun _ => 60) := fun _ _ _ _ => rfl
theorem ka1_29 : jm_ka wd1 29 0 (fun _ => 4) := fun _ _ _ _ => rfl
theorem ka1_30 : jm_ka wd1 30 0 (fun _ => 60) := fun _ _ _ _ => rfl
theorem ka1_31 : jm_ka wd1 31 0 (fun _ => 12) := fun _ _ _ _ => rfl
theorem ka1_32 : jm_ka wd1 32 0 (fun _ => 5) := fun _ _ _ _ => rfl
theorem ka1_33 : jm_ka wd1 33 0 (fun _ => 5) := fun _ _ _ _ => rfl
theorem ka1_34 : jm_ka wd1 34 0 (fun _ => 4) := fun _ _ _ _ => rfl
theorem ka1_35 : jm_ka wd1 35 0 (fun _ => 10) := fun _ _ _ _ => rfl
theorem ka1_36 : jm_ka wd1 36 1 (fun _ => 6) := fun _ _ _ _ => rfl
theorem ka1_37 : jm_ka wd1 37 0 (fun _ => 6) := fun _ _ _ _ => rfl
theorem ka1_38 : jm_ka wd1 38 0 (fun _ => 6) := fun _ _ _ _ => rfl
theorem ka1_39 : jm_ka wd1 39 0 (fun _ => 2) := fun _ _ _ _ => rfl
theorem ka1_40 : jm_ka wd1 40 0 (fun _ => 2) := fun _ _ _ _ => rfl
theorem ka1_41 : jm_ka wd1 41 0 (fun _ => 4) := fun _ _ _ _ => rfl
theorem ka1_42 : jm_ka wd1 42 0 (fun _ => 16) := fun _ _ _ _ => rfl
theorem ka1_43 : jm_ka wd1 43 0 (fun _ => 16) := fun _ _ _ _ => rfl
theorem ka1_44 : jm_ka wd1 44 0 (fun _ => 16) := fun _ _ _ _ => rfl
theorem ka1_45 : jm_ka wd1 45 0 (fun _ => 16) := fun _ _ _ _ => rfl
theorem kr1_46 : jm_kr wd1 46 2 "RaceByLaps$Car" 6 8 := ⟨fun _ => rfl, fun _ ad _ _ => ⟨_, rfl, fun j h1 h2 => by
  rcases (by omega : j = 0 ∨ j = 1 ∨ j = 2 ∨ j = 3 ∨ j = 4 ∨ j = 5) with rfl | rfl | rfl | rfl | rfl | rfl <;> rfl⟩⟩
theorem kr1_47 : jm_kr wd1 47 3 "RaceByLaps$Runner" 6 9 := ⟨fun _ => rfl, fun _ ad _ _ => ⟨_, rfl, fun j h1 h2 => by
  rcases (by omega : j = 0 ∨ j = 1 ∨ j = 2 ∨ j = 3 ∨ j = 4 ∨ j = 5) with rfl | rfl | rfl | rfl | rfl | rfl <;> rfl⟩⟩
theorem kq1_48 : jm_kq wd1 48 4 "RaceByLaps$Text" 10 11 := ⟨fun _ => rfl, fun _ _ _ _ => rfl⟩
theorem ko1_0 : jm_ko wd1 0 11 RX11 TX11 11 := ⟨fun _ _ _ _ => ⟨_, rfl⟩, rfl⟩
theorem ko1_1 : jm_ko wd1 1 9 RX9 TX9 9 := ⟨fun _ _ _ _ => ⟨_, rfl⟩, rfl⟩
theorem ko1_2 : jm_ko wd1 2 2 RX2 TX2 8 := ⟨fun _ _ _ _ => ⟨_, rfl⟩, rfl⟩
theorem ko1_3 : jm_ko wd1 3 0 RX0 TX0 5 := ⟨fun _ _ _ _ => ⟨_, rfl⟩, rfl⟩
theorem ko1_4 : jm_ko wd1 4 5 RX5 TX5 5 := ⟨fun _ _ _ _ => ⟨_, rfl⟩, rfl⟩
theorem ko1_5 : jm_ko wd1 5 10 RX10 TX10 11 := ⟨fun _ _ _ _ => ⟨_, rfl⟩, rfl⟩
theorem ko1_6 : jm_ko wd1 6 3 RX3 TX3 9 := ⟨fun _ _ _ _ => ⟨_, rfl⟩, rfl⟩
theorem ko1_7 : jm_ko wd1 7 4 RX4 TX4 2 := ⟨fun _ _ _ _ => ⟨_, rfl⟩, rfl⟩
theorem ko1_8 : jm_ko wd1 8 1 RX1 TX1 14 := ⟨fun _ _ _ _ => ⟨_, rfl⟩, rfl⟩
theorem ko1_9 : jm_ko wd1 9 6 RX6 TX6 20 := ⟨fun _ _ _ _ => ⟨_, rfl⟩, rfl⟩
theorem ko1_10 : jm_ko wd1 10 7 RX7 TX7 4 := ⟨fun _ _ _ _ => ⟨_, rfl⟩, rfl⟩
theorem ko1_11 : jm_ko wd1 11 8 RX8 TX8 8 := ⟨fun _ _ _ _ => ⟨_, rfl⟩, rfl⟩
def rt2 : Nat → List Nat := fun f => match f with
  | 0 => [0]
  | 1 => [1]
  | 2 => [2]
  | 3 => [3]
  | 4 => [4]
  | 5 => [5]
  | 6 => [6]
  | 7 => [7]
  | 8 => [8]
  | 9 => [9]
  | 10 => [10]
  | 11 => [11]
  | 12 => [12]
  | 13 => [13]
  | 14 => [14]
  | 15 => [15]
  | 16 => [16]
  | 17 => [17]
  | 18 => [18]
  | 19 => [19]
  | 20 => [20]
  | 21 => [21]
  | 22 => [22]
  | 23 => [23]
  | 24 => [24]
  | 25 => [25]
  | 26 => [26]
  | 27 => [27]
  | 28 => [28]
  | 29 => [29]
  | 30 => [30]
  | 31 => [31]
  | 32 => [32]
  | 33 => [33]
  | 34 => [34]
  | 35 => [35]
  | 36 => [36]
  | 37 => [37]
  | 38 => [38]
  | 39 => [39]
  | 40 => [40]
  | 41 => [41]
  | 42 => [42]
  | 43 => [43]
  | 44 => [44]
  | 45 => [45]
  | 46 => [46]
  | 47 => [47]
  | 48 => [48]
  | 49 => [49]
  | 50 => [50]
  | 51 => [51]
  | 52 => [52]
  | 53 => [53]
  | 54 => [54]
  | 55 => [55]
  | 56 => [56]
  | 57 => [57]
  | 58 => [58]
  | 59 => [59]
  | 60 => [60]
  | 61 => [61]
  | 62 => [62]
  | 63 => [63]
  | 64 => [64]
  | 65 => [65]
  | 66 => [66]
  | 67 => [67]
  | 68 => [68]
  | 69 => [69]
  | 70 => [70]
  | 71 => [71]
  | 72 => [72]
  | 73 => [73]
  | 74 => [74]
  | 75 => [75]
  | 76 => [76]
  | 77 => [77]
  | 78 => [78]
  | _ => [79]
def rr2 (f : Nat) (i : Int) : Nat := (rt2 f).getD i.toNat 0
def ro2 : Nat → Nat × Int := fun r => ([(0, 0), (1, 0), (2, 0), (3, 0), (4, 0), (5, 0), (6, 0), (7, 0), (8, 0), (9, 0), (10, 0), (11, 0), (12, 0), (13, 0), (14, 0), (15, 0), (16, 0), (17, 0), (18, 0), (19, 0), (20, 0), (21, 0), (22, 0), (23, 0), (24, 0), (25, 0), (26, 0), (27, 0), (28, 0), (29, 0), (30, 0), (31, 0), (32, 0), (33, 0), (34, 0), (35, 0), (36, 0), (37, 0), (38, 0), (39, 0), (40, 0), (41, 0), (42, 0), (43, 0), (44, 0), (45, 0), (46, 0), (47, 0), (48, 0), (49, 0), (50, 0), (51, 0), (52, 0), (53, 0), (54, 0), (55, 0), (56, 0), (57, 0), (58, 0), (59, 0), (60, 0), (61, 0), (62, 0), (63, 0), (64, 0), (65, 0), (66, 0), (67, 0), (68, 0), (69, 0), (70, 0), (71, 0), (72, 0), (73, 0), (74, 0), (75, 0), (76, 0), (77, 0), (78, 0), (79, 0)] : List (Nat × Int)).getD r (0, -1)
def enc2 (G : tw_G) (ad : Nat → Nat) (f : Nat) (i : Int) (g : Int → Int) : va_E := match f with
  | 0 => .inr (12, [jm_i (g 0), jm_i (g 1), jm_i (g 2), .ref (ad (rr2 1 i)), .ref (ad (rr2 2 i)), .ref (ad (rr2 3 i)), .ref (ad (rr2 4 i)), .ref (ad (rr2 5 i)), jm_i (g 8), .ref (ad (rr2 6 i)), .ref (ad (rr2 7 i)), .ref (ad (rr2 8 i)), jm_i (g 12), .ref (ad (rr2 9 i)), .ref (ad (rr2 10 i)), .ref (ad (rr2 11 i)), .ref (ad (rr2 12 i)), jm_i (g 17), .ref (ad (rr2 13 i)), .ref (ad (rr2 14 i)), .ref (ad (rr2 15 i)), .ref (ad (rr2 16 i)), .ref (ad (rr2 17 i)), .ref (ad (rr2 18 i)), .ref (ad (rr2 19 i)), .ref (ad (rr2 20 i)), .ref (ad (rr2 21 i)), .ref (ad (rr2 22 i)), .ref (ad (rr2 23 i)), .ref (ad (rr2 24 i)), .ref (ad (rr2 25 i)), .ref (ad (rr2 26 i)), .ref (ad (rr2 27 i)), .ref (ad (rr2 28 i)), .ref (ad (rr2 29 i)), .ref (ad (rr2 30 i)), .ref (ad (rr2 31 i)), .ref (ad (rr2 32 i)), .ref (ad (rr2 33 i)), .ref (ad (rr2 34 i)), jm_i (g 40), jm_i (g 41), jm_i (g 42), jm_sv G (g 43), .ref (ad (rr2 35 i)), .ref (ad (rr2 36 i)), .ref (ad (rr2 37 i)), jm_i (g 47), .ref (ad (rr2 38 i)), .ref (ad (rr2 39 i)), .ref (ad (rr2 40 i)), .ref (ad (rr2 41 i)), .ref (ad (rr2 42 i)), .ref (ad (rr2 43 i)), .ref (ad (rr2 44 i)), .ref (ad (rr2 45 i)), .ref (ad (rr2 46 i)), .ref (ad (rr2 47 i)), .ref (ad (rr2 48 i)), .ref (ad (rr2 49 i)), .ref (ad (rr2 50 i)), .ref (ad (rr2 51 i)), .ref (ad (rr2 52 i)), .ref (ad (rr2 53 i)), .ref (ad (rr2 54 i)), .ref (ad (rr2 55 i)), .ref (ad (rr2 56 i)), .ref (ad (rr2 57 i)), .ref (ad (rr2 58 i)), .ref (ad (rr2 59 i)), jm_i (g 70), .ref (ad (rr2 60 i)), jm_i (g 72), .ref (ad (rr2 61 i)), .ref (ad (rr2 62 i)), jm_i (g 75), .ref (ad (rr2 63 i)), .ref (ad (rr2 64 i)), .ref (ad (rr2 65 i)), .ref (ad (rr2 66 i)), .ref (ad (rr2 67 i)), .ref (ad (rr2 68 i)), jm_i (g 82), .ref (ad (rr2 69 i)), .ref (ad (rr2 70 i)), .ref (ad (rr2 71 i)), .ref (ad (rr2 72 i)), .ref (ad (rr2 73 i)), jm_i (g 88), jm_i (g 89), jm_i (g 90), .ref (ad (rr2 74 i)), .ref (ad (rr2 75 i)), .ref (ad (rr2 76 i)), .ref (ad (rr2 77 i)), .ref (ad (rr2 78 i)), .ref (ad (rr2 79 i))])
  | 1 => .inl (G.2.1 0, (5 : Int).toNat, .inl (fun j => Int32.ofInt (g j)))
  | 2 => .inl (G.2.1 0, (5 : Int).toNat, .inl (fun j => Int32.ofInt (g j)))
  | 3 => .inl (G.2.1 1, (5 : Int).toNat, .inl (fun j => Int32.ofInt (g j)))
  | 4 => .inl (G.2.1 0, (24 : Int).toNat, .inl (fun j => Int32.ofInt (g j)))
  | 5 => .inl (G.2.1 0, (8 : Int).toNat, .inl (fun j => Int32.ofInt (g j)))
  | 6 => .inl (G.2.1 0, (30 : Int).toNat, .inl (fun j => Int32.ofInt (g j)))
  | 7 => .inl (G.2.1 0, (30 : Int).toNat, .inl (fun j => Int32.ofInt (g j)))
  | 8 => .inl (G.2.1 0, (30 : Int).toNat, .inl (fun j => Int32.ofInt (g j)))
  | 9 => .inl (G.2.1 0, (20 : Int).toNat, .inl (fun j => Int32.ofInt (g j)))
  | 10 => .inl (G.2.1 0, (20 : Int).toNat, .inl (fun j => Int32.ofInt (g j)))
  | 11 => .inl (G.2.1 0, (20 : Int).toNat, .inl (fun j => Int32.ofInt (g j)))
  | 12 => .inl (G.2.1 0, (20 : Int).toNat, .inl (fun j => Int32.ofInt (g j)))
  | 13 => .inl (G.2.1 0, (6 : Int).toNat, .inl (fun j => Int32.ofInt (g j)))
  | 14 => .inl (G.2.1 0, (6 : Int).toNat, .inl (fun j => Int32.ofInt (g j)))
  | 15 => .inl (G.2.1 0, (6 : Int).toNat, .inl (fun j => Int32.ofInt (g j)))
  | 16 => .inl (G.2.1 0, (6 : Int).toNat, .inl (fun j => Int32.ofInt (g j)))
  | 17 => .inl (G.2.1 0, (6 : Int).toNat, .inl (fun j => Int32.ofInt (g j)))
  | 18 => .inl (G.2.1 0, (6 : Int).toNat, .inl (fun j => Int32.ofInt (g j)))
  | 19 => .inl (G.2.1 0, (6 : Int).toNat, .inl (fun j => Int32.ofInt (g j)))
  | 20 => .inl (G.2.1 0, (24 : Int).toNat, .inl (fun j => Int32.ofInt (g j)))
  | 21 => .inl (G.2.1 0, (24 : Int).toNat, .inl (fun j => Int32.ofInt (g j)))
  | 22 => .inl (G.2.1 0, (6 : Int).toNat, .inl (fun j => Int32.ofInt (g j)))
  | 23 => .inl (G.2.1 0, (72 : Int).toNat, .inl (fun j => Int32.ofInt (g j)))
  | 24 => .inl (G.2.1 0, (72 : Int).toNat, .inl (fun j => Int32.ofInt (g j)))
  | 25 => .inl (G.2.1 0, (72 : Int).toNat, .inl (fun j => Int32.ofInt (g j)))
  | 26 => .inl (G.2.1 0, (6 : Int).toNat, .inl (fun j => Int32.ofInt (g j)))
  | 27 => .inl (G.2.1 0, (30 : Int).toNat, .inl (fun j => Int32.ofInt (g j)))
  | 28 => .inl (G.2.1 0, (30 : Int).toNat, .inl (fun j => Int32.ofInt (g j)))
  | 29 => .inl (G.2.1 0, (30 : Int).toNat, .inl (fun j => Int32.ofInt (g j)))
  | 30 => .inl (G.2.1 1, (6 : Int).toNat, .inl (fun j => Int32.ofInt (g j)))
  | 31 => .inl (G.2.1 0, (6 : Int).toNat, .inl (fun j => Int32.ofInt (g j)))
  | 32 => .inl (G.2.1 0, (24 : Int).toNat, .inl (fun j => Int32.ofInt (g j)))
  | 33 => .inl (G.2.1 0, (24 : Int).toNat, .inl (fun j => Int32.ofInt (g j)))
  | 34 => .inl (G.2.1 0, (100 : Int).toNat, .inl (fun j => Int32.ofInt (g j)))
  | 35 => .inl (G.2.1 0, (1700 : Int).toNat, .inl (fun j => Int32.ofInt (g j)))
  | 36 => .inl (G.2.1 0, (17 : Int).toNat, .inl (fun j => Int32.ofInt (g j)))
  | 37 => .inl (G.2.1 0, (100 : Int).toNat, .inl (fun j => Int32.ofInt (g j)))
  | 38 => .inl (G.2.1 0, (13 : Int).toNat, .inl (fun j => Int32.ofInt (g j)))
  | 39 => .inl (G.2.1 0, (6 : Int).toNat, .inl (fun j => Int32.ofInt (g j)))
  | 40 => .inl (G.2.1 0, (6 : Int).toNat, .inl (fun j => Int32.ofInt (g j)))
  | 41 => .inl (G.2.1 0, (6 : Int).toNat, .inl (fun j => Int32.ofInt (g j)))
  | 42 => .inl (G.2.1 0, (6 : Int).toNat, .inl (fun j => Int32.ofInt (g j)))
  | 43 => .inl (G.2.1 0, (6 : Int).toNat, .inl (fun j => Int32.ofInt (g j)))
  | 44 => .inl (G.2.1 0, (6 : Int).toNat, .inl (fun j => Int32.ofInt (g j)))
  | 45 => .inl (G.2.1 0, (6 : Int).toNat, .inl (fun j => Int32.ofInt (g j)))
  | 46 => .inl (G.2.1 0, (24 : Int).toNat, .inl (fun j => Int32.ofInt (g j)))
  | 47 => .inl (G.2.1 0, (6 : Int).toNat, .inl (fun j => Int32.ofInt (g j)))
  | 48 => .inl (G.2.1 0, (6 : Int).toNat, .inl (fun j => Int32.ofInt (g j)))
  | 49 => .inl (G.2.1 0, (6 : Int).toNat, .inl (fun j => Int32.ofInt (g j)))
  | 50 => .inl (G.2.1 0, (6 : Int).toNat, .inl (fun j => Int32.ofInt (g j)))
  | 51 => .inl (G.2.1 0, (6 : Int).toNat, .inl (fun j => Int32.ofInt (g j)))
  | 52 => .inl (G.2.1 0, (6 : Int).toNat, .inl (fun j => Int32.ofInt (g j)))
  | 53 => .inl (G.2.1 0, (6 : Int).toNat, .inl (fun j => Int32.ofInt (g j)))
  | 54 => .inl (G.2.1 0, (6 : Int).toNat, .inl (fun j => Int32.ofInt (g j)))
  | 55 => .inl (G.2.1 0, (360 : Int).toNat, .inl (fun j => Int32.ofInt (g j)))
  | 56 => .inl (G.2.1 0, (30 : Int).toNat, .inl (fun j => Int32.ofInt (g j)))
  | 57 => .inl (G.2.1 0, (30 : Int).toNat, .inl (fun j => Int32.ofInt (g j)))
  | 58 => .inl (G.2.1 0, (4 : Int).toNat, .inl (fun j => Int32.ofInt (g j)))
  | 59 => .inl (G.2.1 0, (72 : Int).toNat, .inl (fun j => Int32.ofInt (g j)))
  | 60 => .inl (G.2.1 1, (6 : Int).toNat, .inl (fun j => Int32.ofInt (g j)))
  | 61 => .inl (G.2.1 0, (10 : Int).toNat, .inl (fun j => Int32.ofInt (g j)))
  | 62 => .inl (G.2.1 0, (11 : Int).toNat, .inl (fun j => Int32.ofInt (g j)))
  | 63 => .inl (G.2.1 0, (20 : Int).toNat, .inl (fun j => Int32.ofInt (g j)))
  | 64 => .inl (G.2.1 0, (20 : Int).toNat, .inl (fun j => Int32.ofInt (g j)))
  | 65 => .inl (G.2.1 0, (20 : Int).toNat, .inl (fun j => Int32.ofInt (g j)))
  | 66 => .inl (G.2.1 0, (20 : Int).toNat, .inl (fun j => Int32.ofInt (g j)))
  | 67 => .inl (G.2.1 1, (6 : Int).toNat, .inl (fun j => Int32.ofInt (g j)))
  | 68 => .inl (G.2.1 0, (6 : Int).toNat, .inl (fun j => Int32.ofInt (g j)))
  | 69 => .inl (G.2.1 0, (6 : Int).toNat, .inl (fun j => Int32.ofInt (g j)))
  | 70 => .inl (G.2.1 0, (30 : Int).toNat, .inl (fun j => Int32.ofInt (g j)))
  | 71 => .inl (G.2.1 0, (30 : Int).toNat, .inl (fun j => Int32.ofInt (g j)))
  | 72 => .inl (G.2.1 0, (30 : Int).toNat, .inl (fun j => Int32.ofInt (g j)))
  | 73 => .inl (G.2.1 0, (6 : Int).toNat, .inl (fun j => Int32.ofInt (g j)))
  | 74 => .inl (G.2.1 0, (2 : Int).toNat, .inl (fun j => Int32.ofInt (g j)))
  | 75 => .inl (G.2.1 0, (2 : Int).toNat, .inl (fun j => Int32.ofInt (g j)))
  | 76 => .inl (G.2.1 0, (16 : Int).toNat, .inl (fun j => Int32.ofInt (g j)))
  | 77 => .inl (G.2.1 0, (16 : Int).toNat, .inl (fun j => Int32.ofInt (g j)))
  | 78 => .inl (G.2.1 0, (16 : Int).toNat, .inl (fun j => Int32.ofInt (g j)))
  | _ => .inl (G.2.1 0, (16 : Int).toNat, .inl (fun j => Int32.ofInt (g j)))
def wd2 : jm_Y := (80, ro2, rt2, enc2)
theorem wI2 : jm_inj wd2 := by unfold jm_inj; decide +kernel
theorem jv2_0 : jm_v wd2 0 1 := jm_vof (by decide +kernel)
theorem jv2_1 : jm_v wd2 1 1 := jm_vof (by decide +kernel)
theorem jv2_2 : jm_v wd2 2 1 := jm_vof (by decide +kernel)
theorem jv2_3 : jm_v wd2 3 1 := jm_vof (by decide +kernel)
theorem jv2_4 : jm_v wd2 4 1 := jm_vof (by decide +kernel)
theorem jv2_5 : jm_v wd2 5 1 := jm_vof (by decide +kernel)
theorem jv2_6 : jm_v wd2 6 1 := jm_vof (by decide +kernel)
theorem jv2_7 : jm_v wd2 7 1 := jm_vof (by decide +kernel)
theorem jv2_8 : jm_v wd2 8 1 := jm_vof (by decide +kernel)
theorem jv2_9 : jm_v wd2 9 1 := jm_vof (by decide +kernel)
theorem jv2_10 : jm_v wd2 10 1 := jm_vof (by decide +kernel)
theorem jv2_11 : jm_v wd2 11 1 := jm_vof (by decide +kernel)
theorem jv2_12 : jm_v wd2 12 1 := jm_vof (by decide +kernel)
theorem jv2_13 : jm_v wd2 13 1 := jm_vof (by decide +kernel)
theorem jv2_14 : jm_v wd2 14 1 := jm_vof (by decide +kernel)
theorem jv2_15 : jm_v wd2 15 1 := jm_vof (by decide +kernel)
theorem jv2_16 : jm_v wd2 16 1 := jm_vof (by decide +kernel)
theorem jv2_17 : jm_v wd2 17 1 := jm_vof (by decide +kernel)
theorem jv2_18 : jm_v wd2 18 1 := jm_vof (by decide +kernel)
theorem jv2_19 : jm_v wd2 19 1 := jm_vof (by decide +kernel)
theorem jv2_20 : jm_v wd2 20 1 := jm_vof (by decide +kernel)
theorem jv2_21 : jm_v wd2 21 1 := jm_vof (by decide +kernel)
theorem jv2_22 : jm_v wd2 22 1 := jm_vof (by decide +kernel)
theorem jv2_23 : jm_v wd2 23 1 := jm_vof (by decide +kernel)
theorem jv2_24 : jm_v wd2 24 1 := jm_vof (by decide +kernel)
theorem jv2_25 : jm_v wd2 25 1 := jm_vof (by decide +kernel)
theorem jv2_26 : jm_v wd2 26 1 := jm_vof (by decide +kernel)
theorem jv2_27 : jm_v wd2 27 1 := jm_vof (by decide +kernel)
theorem jv2_28 : jm_v wd2 28 1 := jm_vof (by decide +kernel)
theorem jv2_29 : jm_v wd2 29 1 := jm_vof (by decide +kernel)
theorem jv2_30 : jm_v wd2 30 1 := jm_vof (by decide +kernel)
theorem jv2_31 : jm_v wd2 31 1 := jm_vof (by decide +kernel)
theorem jv2_32 : jm_v wd2 32 1 := jm_vof (by decide +kernel)
theorem jv2_33 : jm_v wd2 33 1 := jm_vof (by decide +kernel)
theorem jv2_34 : jm_v wd2 34 1 := jm_vof (by decide +kernel)
theorem jv2_35 : jm_v wd2 35 1 := jm_vof (by decide +kernel)
theorem jv2_36 : jm_v wd2 36 1 := jm_vof (by decide +kernel)
theorem jv2_37 : jm_v wd2 37 1 := jm_vof (by decide +kernel)
theorem jv2_38 : jm_v wd2 38 1 := jm_vof (by decide +kernel)
theorem jv2_39 : jm_v wd2 39 1 := jm_vof (by decide +kernel)
theorem jv2_40 : jm_v wd2 40 1 := jm_vof (by decide +kernel)
theorem jv2_41 : jm_v wd2 41 1 := jm_vof (by decide +kernel)
theorem jv2_42 : jm_v wd2 42 1 := jm_vof (by decide +kernel)
theorem jv2_43 : jm_v wd2 43 1 := jm_vof (by decide +kernel)
theorem jv2_44 : jm_v wd2 44 1 := jm_vof (by decide +kernel)
theorem jv2_45 : jm_v wd2 45 1 := jm_vof (by decide +kernel)
theorem jv2_46 : jm_v wd2 46 1 := jm_vof (by decide +kernel)
theorem jv2_47 : jm_v wd2 47 1 := jm_vof (by decide +kernel)
theorem jv2_48 : jm_v wd2 48 1 := jm_vof (by decide +kernel)
theorem jv2_49 : jm_v wd2 49 1 := jm_vof (by decide +kernel)
theorem jv2_50 : jm_v wd2 50 1 := jm_vof (by decide +kernel)
theorem jv2_51 : jm_v wd2 51 1 := jm_vof (by decide +kernel)
theorem jv2_52 : jm_v wd2 52 1 := jm_vof (by decide +kernel)
theorem jv2_53 : jm_v wd2 53 1 := jm_vof (by decide +kernel)
theorem jv2_54 : jm_v wd2 54 1 := jm_vof (by decide +kernel)
theorem jv2_55 : jm_v wd2 55 1 := jm_vof (by decide +kernel)
theorem jv2_56 : jm_v wd2 56 1 := jm_vof (by decide +kernel)
theorem jv2_57 : jm_v wd2 57 1 := jm_vof (by decide +kernel)
theorem jv2_58 : jm_v wd2 58 1 := jm_vof (by decide +kernel)
theorem jv2_59 : jm_v wd2 59 1 := jm_vof (by decide +kernel)
theorem jv2_60 : jm_v wd2 60 1 := jm_vof (by decide +kernel)
theorem jv2_61 : jm_v wd2 61 1 := jm_vof (by decide +kernel)
theorem jv2_62 : jm_v wd2 62 1 := jm_vof (by decide +kernel)
theorem jv2_63 : jm_v wd2 63 1 := jm_vof (by decide +kernel)
theorem jv2_64 : jm_v wd2 64 1 := jm_vof (by decide +kernel)
theorem jv2_65 : jm_v wd2 65 1 := jm_vof (by decide +kernel)
theorem jv2_66 : jm_v wd2 66 1 := jm_vof (by decide +kernel)
theorem jv2_67 : jm_v wd2 67 1 := jm_vof (by decide +kernel)
theorem jv2_68 : jm_v wd2 68 1 := jm_vof (by decide +kernel)
theorem jv2_69 : jm_v wd2 69 1 := jm_vof (by decide +kernel)
theorem jv2_70 : jm_v wd2 70 1 := jm_vof (by decide +kernel)
theorem jv2_71 : jm_v wd2 71 1 := jm_vof (by decide +kernel)
theorem jv2_72 : jm_v wd2 72 1 := jm_vof (by decide +kernel)
theorem jv2_73 : jm_v wd2 73 1 := jm_vof (by decide +kernel)
theorem jv2_74 : jm_v wd2 74 1 := jm_vof (by decide +kernel)
theorem jv2_75 : jm_v wd2 75 1 := jm_vof (by decide +kernel)
theorem jv2_76 : jm_v wd2 76 1 := jm_vof (by decide +kernel)
theorem jv2_77 : jm_v wd2 77 1 := jm_vof (by decide +kernel)
theorem jv2_78 : jm_v wd2 78 1 := jm_vof (by decide +kernel)
theorem jv2_79 : jm_v wd2 79 1 := jm_vof (by decide +kernel)
theorem ka2_1 : jm_ka wd2 1 0 (fun _ => 5) := fun _ _ _ _ => rfl
theorem ka2_2 : jm_ka wd2 2 0 (fun _ => 5) := fun _ _ _ _ => rfl
theorem ka2_3 : jm_ka wd2 3 1 (fun _ => 5) := fun _ _ _ _ => rfl
theorem ka2_4 : jm_ka wd2 4 0 (fun _ => 24) := fun _ _ _ _ => rfl
theorem ka2_5 : jm_ka wd2 5 0 (fun _ => 8) := fun _ _ _ _ => rfl
theorem ka2_6 : jm_ka wd2 6 0 (fun _ => 30) := fun _ _ _ _ => rfl
theorem ka2_7 : jm_ka wd2 7 0 (fun _ => 30) := fun _ _ _ _ => rfl
theorem ka2_8 : jm_ka wd2 8 0 (fun _ => 30) := fun _ _ _ _ => rfl
theorem ka2_9 : jm_ka wd2 9 0 (fun _ => 20) := fun _ _ _ _ => rfl
theorem ka2_10 : jm_ka wd2 10 0 (fun _ => 20) := fun _ _ _ _ => rfl
theorem ka2_11 : jm_ka wd2 11 0 (fun _ => 20) := fun _ _ _ _ => rfl
theorem ka2_12 : jm_ka wd2 12 0 (fun _ => 20) := fun _ _ _ _ => rfl
theorem ka2_13 : jm_ka wd2 13 0 (fun _ => 6) := fun _ _ _ _ => rfl
theorem ka2_14 : jm_ka wd2 14 0 (fun _ => 6) := fun _ _ _ _ => rfl
theorem ka2_15 : jm_ka wd2 15 0 (fun _ => 6) := fun _ _ _ _ => rfl
theorem ka2_16 : jm_ka wd2 16 0 (fun _ => 6) := fun _ _ _ _ => rfl
theorem ka2_17 : jm_ka wd2 17 0 (fun _ => 6) := fun _ _ _ _ => rfl
theorem ka2_18 : jm_ka wd2 18 0 (fun _ => 6) := fun _ _ _ _ => rfl
theorem ka2_19 : jm_ka wd2 19 0 (fun _ => 6) := fun _ _ _ _ => rfl
theorem ka2_20 : jm_ka wd2 20 0 (fun _ => 24) := fun _ _ _ _ => rfl
theorem ka2_21 : jm_ka wd2 21 0 (fun _ => 24) := fun _ _ _ _ => rfl
theorem ka2_22 : jm_ka wd2 22 0 (fun _ => 6) := fun _ _ _ _ => rfl
theorem ka2_23 : jm_ka wd2 23 0 (fun _ => 72) := fun _ _ _ _ => rfl
theorem ka2_24 : jm_ka wd2 24 0 (fun _ => 72) := fun _ _ _ _ => rfl
theorem ka2_25 : jm_ka wd2 25 0 (fun _ => 72) := fun _ _ _ _ => rfl
theorem ka2_26 : jm_ka wd2 26 0 (fun _ => 6) := fun _ _ _ _ => rfl
theorem ka2_27 : jm_ka wd2 27 0 (fun _ => 30) := fun _ _ _ _ => rfl
theorem ka2_28 : jm_ka wd2 28 0 (fun _ => 30) := fun _ _ _ _ => rfl
theorem ka2_29 : jm_ka wd2 29 0 (fun _ => 30) := fun _ _ _ _ => rfl
theorem ka2_30 : jm_ka wd2 30 1 (fun _ => 6) := fun _ _ _ _ => rfl
theorem ka2_31 : jm_ka wd2 31 0 (fun _ => 6) := fun _ _ _ _ => rfl
theorem ka2_32 : jm_ka wd2 32 0 (fun _ => 24) := fun _ _ _ _ => rfl
theorem ka2_33 : jm_ka wd2 33 0 (fun _ => 24) := fun _ _ _ _ => rfl
theorem ka2_34 : jm_ka wd2 34 0 (fun _ => 100) := fun _ _ _ _ => rfl
theorem ka2_35 : jm_ka wd2 35 0 (fun _ => 1700) := fun _ _ _ _ => rfl
theorem ka2_36 : jm_ka wd2 36 0 (fun _ => 17) := fun _ _ _ _ => rfl
theorem ka2_37 : jm_ka wd2 37 0 (fun _ => 100) := fun _ _ _ _ => rfl
theorem ka2_38 : jm_ka wd2 38 0 (fun _ => 13) := fun _ _ _ _ => rfl
theorem ka2_39 : jm_ka wd2 39 0 (fun _ => 6) := fun _ _ _ _ => rfl
theorem ka2_40 : jm_ka wd2 40 0 (fun _ => 6) := fun _ _ _ _ => rfl
theorem ka2_41 : jm_ka wd2 41 0 (fun _ => 6) := fun _ _ _ _ => rfl
theorem ka2_42 : jm_ka wd2 42 0 (fun _ => 6) := fun _ _ _ _ => rfl
theorem ka2_43 : jm_ka wd2 43 0 (fun _ => 6) := fun _ _ _ _ => rfl
theorem ka2_44 : jm_ka wd2 44 0 (fun _ => 6) := fun _ _ _ _ => rfl
theorem ka2_45 : jm_ka wd2 45 0 (fun _ => 6) := fun _ _ _ _ => rfl
theorem ka2_46 : jm_ka wd2 46 0 (fun _ => 24) := fun _ _ _ _ => rfl
theorem ka2_47 : jm_ka wd2 47 0 (fun _ => 6) := fun _ _ _ _ => rfl
theorem ka2_48 : jm_ka wd2 48 0 (fun _ => 6) := fun _ _ _ _ => rfl
theorem ka2_49 : jm_ka wd2 49 0 (fun _ => 6) := fun _ _ _ _ => rfl
theorem ka2_50 : jm_ka wd2 50 0 (fun _ => 6) := fun _ _ _ _ => rfl
theorem ka2_51 : jm_ka wd2 51 0 (fun _ => 6) := fun _ _ _ _ => rfl
theorem ka2_52 : jm_ka wd2 52 0 (fun _ => 6) := fun _ _ _ _ => rfl
theorem ka2_53 : jm_ka wd2 53 0 (fun _ => 6) := fun _ _ _ _ => rfl
theorem ka2_54 : jm_ka wd2 54 0 (fun _ => 6) := fun _ _ _ _ => rfl
theorem ka2_55 : jm_ka wd2 55 0 (fun _ => 360) := fun _ _ _ _ => rfl
theorem ka2_56 : jm_ka wd2 56 0 (fun _ => 30) := fun _ _ _ _ => rfl
theorem ka2_57 : jm_ka wd2 57 0 (fun _ => 30) := fun _ _ _ _ => rfl
theorem ka2_58 : jm_ka wd2 58 0 (fun _ => 4) := fun _ _ _ _ => rfl
theorem ka2_59 : jm_ka wd2 59 0 (fun _ => 72) := fun _ _ _ _ => rfl
theorem ka2_60 : jm_ka wd2 60 1 (fun _ => 6) := fun _ _ _ _ => rfl
theorem ka2_61 : jm_ka wd2 61 0 (fun _ => 10) := fun _ _ _ _ => rfl
theorem ka2_62 : jm_ka wd2 62 0 (fun _ => 11) := fun _ _ _ _ => rfl
theorem ka2_63 : jm_ka wd2 63 0 (fun _ => 20) := fun _ _ _ _ => rfl
theorem ka2_64 : jm_ka wd2 64 0 (fun _ => 20) := fun _ _ _ _ => rfl
theorem ka2_65 : jm_ka wd2 65 0 (fun _ => 20) := fun _ _ _ _ => rfl
theorem ka2_66 : jm_ka wd2 66 0 (fun _ => 20) := fun _ _ _ _ => rfl
theorem ka2_67 : jm_ka wd2 67 1 (fun _ => 6) := fun _ _ _ _ => rfl
theorem ka2_68 : jm_ka wd2 68 0 (fun _ => 6) := fun _ _ _ _ => rfl
theorem ka2_69 : jm_ka wd2 69 0 (fun _ => 6) := fun _ _ _ _ => rfl
theorem ka2_70 : jm_ka wd2 70 0 (fun _ => 30) := fun _ _ _ _ => rfl
theorem ka2_71 : jm_ka wd2 71 0 (fun _ => 30) := fun _ _ _ _ => rfl
theorem ka2_72 : jm_ka wd2 72 0 (fun _ => 30) := fun _ _ _ _ => rfl
theorem ka2_73 : jm_ka wd2 73 0 (fun _ => 6) := fun _ _ _ _ => rfl
theorem ka2_74 : jm_ka wd2 74 0 (fun _ => 2) := fun _ _ _ _ => rfl
theorem ka2_75 : jm_ka wd2 75 0 (fun _ => 2) := fun _ _ _ _ => rfl
theorem ka2_76 : jm_ka wd2 76 0 (fun _ => 16) := fun _ _ _ _ => rfl
theorem ka2_77 : jm_ka wd2 77 0 (fun _ => 16) := fun _ _ _ _ => rfl
theorem ka2_78 : jm_ka wd2 78 0 (fun _ => 16) := fun _ _ _ _ => rfl
theorem ka2_79 : jm_ka wd2 79 0 (fun _ => 16) := fun _ _ _ _ => rfl
theorem ko2_0 : jm_ko wd2 0 12 RX12 TX12 97 := ⟨fun _ _ _ _ => ⟨_, rfl⟩, rfl⟩
theorem jm_01 : (0 : Int) ≤ 0 ∧ (0 : Int) < 1 := by omega
theorem jm_0n {n : Int} (h : 0 < n) : (0 : Int) ≤ 0 ∧ (0 : Int) < n := ⟨by omega, h⟩
theorem jm_cases {P Q : Prop} (a : P → Q) (b : ¬ P → Q) : Q := by
  by_cases h : P
  · exact a h
  · exact b h
theorem jm_lenC (i : Int) : lenC1 i ≤ 2147483647 := by
  unfold lenC1
  split
  · have h : ∀ j : Nat, j < 33 → ([8, 8, 8, 8, 8, 8, 36, 36, 36, 36, 36, 36, 15, 15, 15, 15, 15, 15, 8, 8, 8, 8, 8, 8, 6, 6, 6, 6, 6, 6, 90, 80, 80] : List Int).getD j 0 ≤ 2147483647 := by decide +kernel
    exact h _ (by omega)
  · decide
abbrev rmR (d : Nat) : Room := { frames := d + 10, cells := 0, slots := 0, locals := 60 * d + 600 }
