theorem kd_X4 : ∀ j, j < 2 → defaultValue (tyX4 j) = vp_V [.null, .null] j := fun j hj => match j, hj with
  | 0, _ => rfl
  | 1, _ => rfl
  | k + 2, h => absurd h (by omega)
theorem iw_X4 : ∀ x ∈ u_ws RX4 TX4 2, x ∈ lw_g := List.forall_mem_cons.mpr ⟨(tw_gl kw_42 rfl), List.forall_mem_cons.mpr ⟨(tw_gl kw_44 rfl), fun _ h => absurd h List.not_mem_nil⟩⟩
theorem kf_RX4_11 : tw_kF RX4 11 4 0 RX4 TX4 2 := ⟨rfl, iw_X4, by decide, rfl, (tw_gl kw_40 rfl)⟩
theorem kp_X4_0 : tw_kP 4 0 RX4 TX4 2 (.array (.int)) true := ⟨⟨tyX4, tyX4_ok⟩, nmX4, rfl, by decide +kernel⟩
theorem kf_RX4_15 : tw_kF RX4 15 4 1 RX4 TX4 2 := ⟨rfl, iw_X4, by decide, rfl, (tw_gl kw_41 rfl)⟩
theorem kp_X4_1 : tw_kP 4 1 RX4 TX4 2 (.array (.int)) true := ⟨⟨tyX4, tyX4_ok⟩, nmX4, rfl, by decide +kernel⟩
theorem km_X4_init : tw_kM yX4_init cX4_init 1 none 0 := ⟨(tw_gl kw_2 rfl), (tw_gl kw_38 rfl), by decide, by decide, by decide +kernel⟩
theorem kd_X9 : ∀ j, j < 9 → defaultValue (tyX9 j) = vp_V [.int (0 : Int32), .int (0 : Int32), .null, .null, .null, .null, .null, .null, .null] j := fun j hj => match j, hj with
  | 0, _ => rfl
  | 1, _ => rfl
  | 2, _ => rfl
  | 3, _ => rfl
  | 4, _ => rfl
  | 5, _ => rfl
  | 6, _ => rfl
  | 7, _ => rfl
  | 8, _ => rfl
  | k + 9, h => absurd h (by omega)
theorem iw_X9 : ∀ x ∈ u_ws RX9 TX9 9, x ∈ lw_g := List.forall_mem_cons.mpr ⟨(tw_gl kw_116 rfl), List.forall_mem_cons.mpr ⟨(tw_gl kw_118 rfl), List.forall_mem_cons.mpr ⟨(tw_gl kw_120 rfl), List.forall_mem_cons.mpr ⟨(tw_gl kw_122 rfl), List.forall_mem_cons.mpr ⟨(tw_gl kw_124 rfl), List.forall_mem_cons.mpr ⟨(tw_gl kw_126 rfl), List.forall_mem_cons.mpr ⟨(tw_gl kw_128 rfl), List.forall_mem_cons.mpr ⟨(tw_gl kw_130 rfl), List.forall_mem_cons.mpr ⟨(tw_gl kw_132 rfl), fun _ h => absurd h List.not_mem_nil⟩⟩⟩⟩⟩⟩⟩⟩⟩
theorem kf_RX9_9 : tw_kF RX9 9 9 2 RX9 TX9 9 := ⟨rfl, iw_X9, by decide, rfl, (tw_gl kw_99 rfl)⟩
theorem kp_X9_2 : tw_kP 9 2 RX9 TX9 9 (.array (.int)) true := ⟨⟨tyX9, tyX9_ok⟩, nmX9, rfl, by decide +kernel⟩
theorem kf_RX9_15 : tw_kF RX9 15 9 3 RX9 TX9 9 := ⟨rfl, iw_X9, by decide, rfl, (tw_gl kw_102 rfl)⟩
theorem kp_X9_3 : tw_kP 9 3 RX9 TX9 9 (.array (.int)) true := ⟨⟨tyX9, tyX9_ok⟩, nmX9, rfl, by decide +kernel⟩
theorem kf_RX9_18 : tw_kF RX9 18 9 4 RX9 TX9 9 := ⟨rfl, iw_X9, by decide, rfl, (tw_gl kw_105 rfl)⟩
theorem kp_X9_4 : tw_kP 9 4 RX9 TX9 9 (.array (.boolean)) true := ⟨⟨tyX9, tyX9_ok⟩, nmX9, rfl, by decide +kernel⟩
theorem kf_RX9_22 : tw_kF RX9 22 9 5 RX9 TX9 9 := ⟨rfl, iw_X9, by decide, rfl, (tw_gl kw_107 rfl)⟩
theorem kp_X9_5 : tw_kP 9 5 RX9 TX9 9 (.array (.int)) true := ⟨⟨tyX9, tyX9_ok⟩, nmX9, rfl, by decide +kernel⟩
theorem kf_RX9_25 : tw_kF RX9 25 9 6 RX9 TX9 9 := ⟨rfl, iw_X9, by decide, rfl, (tw_gl kw_109 rfl)⟩
theorem kp_X9_6 : tw_kP 9 6 RX9 TX9 9 (.array (.int)) true := ⟨⟨tyX9, tyX9_ok⟩, nmX9, rfl, by decide +kernel⟩
theorem kd_X7 : ∀ j, j < 4 → defaultValue (tyX7 j) = vp_V [.int (0 : Int32), .int (0 : Int32), .null, .int (0 : Int32)] j := fun j hj => match j, hj with
  | 0, _ => rfl
  | 1, _ => rfl
  | 2, _ => rfl
  | 3, _ => rfl
  | k + 4, h => absurd h (by omega)
theorem iw_X7 : ∀ x ∈ u_ws RX7 TX7 4, x ∈ lw_g := List.forall_mem_cons.mpr ⟨(tw_gl kw_74 rfl), List.forall_mem_cons.mpr ⟨(tw_gl kw_76 rfl), List.forall_mem_cons.mpr ⟨(tw_gl kw_78 rfl), List.forall_mem_cons.mpr ⟨(tw_gl kw_80 rfl), fun _ h => absurd h List.not_mem_nil⟩⟩⟩⟩
theorem kf_RX7_9 : tw_kF RX7 9 7 0 RX7 TX7 4 := ⟨rfl, iw_X7, by decide, rfl, (tw_gl kw_63 rfl)⟩
theorem kp_X7_0 : tw_kP 7 0 RX7 TX7 4 (.int) true := ⟨⟨tyX7, tyX7_ok⟩, nmX7, rfl, by decide +kernel⟩
theorem kf_RX7_15 : tw_kF RX7 15 7 1 RX7 TX7 4 := ⟨rfl, iw_X7, by decide, rfl, (tw_gl kw_64 rfl)⟩
theorem kp_X7_1 : tw_kP 7 1 RX7 TX7 4 (.int) true := ⟨⟨tyX7, tyX7_ok⟩, nmX7, rfl, by decide +kernel⟩
theorem kf_RX7_24 : tw_kF RX7 24 7 2 RX7 TX7 4 := ⟨rfl, iw_X7, by decide, rfl, (tw_gl kw_65 rfl)⟩
theorem kp_X7_2 : tw_kP 7 2 RX7 TX7 4 (.array (.int)) true := ⟨⟨tyX7, tyX7_ok⟩, nmX7, rfl, by decide +kernel⟩
theorem km_X7_init : tw_kM yX7_init cX7_init 3 none 2 := ⟨(tw_gl kw_4 rfl), (tw_gl kw_58 rfl), by decide, by decide, by decide +kernel⟩
theorem kf_RX9_33 : tw_kF RX9 33 9 7 RX9 TX9 9 := ⟨rfl, iw_X9, by decide, rfl, (tw_gl kw_112 rfl)⟩
theorem kp_X9_7 : tw_kP 9 7 RX9 TX9 9 (.object "RaceByLaps$Table") true := ⟨⟨tyX9, tyX9_ok⟩, nmX9, rfl, by decide +kernel⟩
theorem kf_RX9_37 : tw_kF RX9 37 9 8 RX9 TX9 9 := ⟨rfl, iw_X9, by decide, rfl, (tw_gl kw_114 rfl)⟩
theorem kp_X9_8 : tw_kP 9 8 RX9 TX9 9 (.object "RaceByLaps$Table") true := ⟨⟨tyX9, tyX9_ok⟩, nmX9, rfl, by decide +kernel⟩
theorem kf_RX9_49 : tw_kF RX9 49 9 0 RX9 TX9 9 := ⟨rfl, iw_X9, by decide, rfl, (tw_gl kw_92 rfl)⟩
theorem kp_X9_0 : tw_kP 9 0 RX9 TX9 9 (.int) false := ⟨⟨tyX9, tyX9_ok⟩, nmX9, rfl, by decide +kernel⟩
theorem kf_RX9_53 : tw_kF RX9 53 9 1 RX9 TX9 9 := ⟨rfl, iw_X9, by decide, rfl, (tw_gl kw_95 rfl)⟩
theorem kp_X9_1 : tw_kP 9 1 RX9 TX9 9 (.int) false := ⟨⟨tyX9, tyX9_ok⟩, nmX9, rfl, by decide +kernel⟩
theorem kf_RX9_56 : tw_kF RX9 56 7 3 RX7 TX7 4 := ⟨rfl, iw_X7, by decide, rfl, (tw_gl kw_69 rfl)⟩
theorem kp_X7_3 : tw_kP 7 3 RX7 TX7 4 (.int) false := ⟨⟨tyX7, tyX7_ok⟩, nmX7, rfl, by decide +kernel⟩
theorem km_X9_layAnew : tw_kM yX9_layAnew cX9_layAnew 4 none 2 := ⟨(tw_gl kw_3 rfl), (tw_gl kw_91 rfl), by decide, by decide, by decide +kernel⟩
theorem kv_X9_layAnew : tw_kV yX9_layAnew := ⟨(tw_gl kw_89 rfl), tw_gl kw_90 rfl⟩
theorem km_X9_init : tw_kM yX9_init cX9_init 3 none 0 := ⟨(tw_gl kw_3 rfl), (tw_gl kw_52 rfl), by decide, by decide, by decide +kernel⟩
theorem iw_X11 : ∀ x ∈ u_ws RX11 TX11 11, x ∈ lw_g := List.forall_mem_cons.mpr ⟨(tw_gl kw_525 rfl), List.forall_mem_cons.mpr ⟨(tw_gl kw_527 rfl), List.forall_mem_cons.mpr ⟨(tw_gl kw_529 rfl), List.forall_mem_cons.mpr ⟨(tw_gl kw_531 rfl), List.forall_mem_cons.mpr ⟨(tw_gl kw_533 rfl), List.forall_mem_cons.mpr ⟨(tw_gl kw_535 rfl), List.forall_mem_cons.mpr ⟨(tw_gl kw_537 rfl), List.forall_mem_cons.mpr ⟨(tw_gl kw_539 rfl), List.forall_mem_cons.mpr ⟨(tw_gl kw_541 rfl), List.forall_mem_cons.mpr ⟨(tw_gl kw_543 rfl), List.forall_mem_cons.mpr ⟨(tw_gl kw_545 rfl), fun _ h => absurd h List.not_mem_nil⟩⟩⟩⟩⟩⟩⟩⟩⟩⟩⟩
theorem kf_RX11_15 : tw_kF RX11 15 11 0 RX11 TX11 11 := ⟨rfl, iw_X11, by decide, rfl, (tw_gl kw_514 rfl)⟩
theorem kp_X11_0 : tw_kP 11 0 RX11 TX11 11 (.object "RaceByLaps$Track") true := ⟨⟨tyX11, tyX11_ok⟩, nmX11, rfl, by decide +kernel⟩
theorem kd_X2 : ∀ j, j < 8 → defaultValue (tyX2 j) = vp_V [.null, .null, .null, .null, .null, .int (0 : Int32), .int (0 : Int32), .int (0 : Int32)] j := fun j hj => match j, hj with
  | 0, _ => rfl
  | 1, _ => rfl
  | 2, _ => rfl
  | 3, _ => rfl
  | 4, _ => rfl
  | 5, _ => rfl
  | 6, _ => rfl
  | 7, _ => rfl
  | k + 8, h => absurd h (by omega)
theorem iw_X2 : ∀ x ∈ u_ws RX2 TX2 8, x ∈ lw_g := List.forall_mem_cons.mpr ⟨(tw_gl kw_366 rfl), List.forall_mem_cons.mpr ⟨(tw_gl kw_368 rfl), List.forall_mem_cons.mpr ⟨(tw_gl kw_370 rfl), List.forall_mem_cons.mpr ⟨(tw_gl kw_372 rfl), List.forall_mem_cons.mpr ⟨(tw_gl kw_374 rfl), List.forall_mem_cons.mpr ⟨(tw_gl kw_376 rfl), List.forall_mem_cons.mpr ⟨(tw_gl kw_378 rfl), List.forall_mem_cons.mpr ⟨(tw_gl kw_380 rfl), fun _ h => absurd h List.not_mem_nil⟩⟩⟩⟩⟩⟩⟩⟩
theorem kf_RX2_9 : tw_kF RX2 9 2 0 RX2 TX2 8 := ⟨rfl, iw_X2, by decide, rfl, (tw_gl kw_349 rfl)⟩
theorem kp_X2_0 : tw_kP 2 0 RX2 TX2 8 (.object "RaceByLaps$Track") true := ⟨⟨tyX2, tyX2_ok⟩, nmX2, rfl, by decide +kernel⟩
theorem kf_RX2_15 : tw_kF RX2 15 2 1 RX2 TX2 8 := ⟨rfl, iw_X2, by decide, rfl, (tw_gl kw_351 rfl)⟩
theorem kp_X2_1 : tw_kP 2 1 RX2 TX2 8 (.object "RaceByLaps$Reckoner") true := ⟨⟨tyX2, tyX2_ok⟩, nmX2, rfl, by decide +kernel⟩
theorem kf_RX2_21 : tw_kF RX2 21 2 2 RX2 TX2 8 := ⟨rfl, iw_X2, by decide, rfl, (tw_gl kw_352 rfl)⟩
theorem kp_X2_2 : tw_kP 2 2 RX2 TX2 8 (.array (.object "RaceByLaps$Car")) true := ⟨⟨tyX2, tyX2_ok⟩, nmX2, rfl, by decide +kernel⟩
theorem kf_RX2_27 : tw_kF RX2 27 2 3 RX2 TX2 8 := ⟨rfl, iw_X2, by decide, rfl, (tw_gl kw_356 rfl)⟩
theorem kp_X2_3 : tw_kP 2 3 RX2 TX2 8 (.array (.object "RaceByLaps$Runner")) true := ⟨⟨tyX2, tyX2_ok⟩, nmX2, rfl, by decide +kernel⟩
theorem kf_RX2_31 : tw_kF RX2 31 2 4 RX2 TX2 8 := ⟨rfl, iw_X2, by decide, rfl, (tw_gl kw_359 rfl)⟩
theorem kp_X2_4 : tw_kP 2 4 RX2 TX2 8 (.array (.int)) true := ⟨⟨tyX2, tyX2_ok⟩, nmX2, rfl, by decide +kernel⟩
theorem kd_X1 : ∀ j, j < 14 → defaultValue (tyX1 j) = vp_V [.int (0 : Int32), .int (0 : Int32), .int (0 : Int32), .int (0 : Int32), .int (0 : Int32), .int (0 : Int32), .null, .null, .null, .null, .null, .null, .int (0 : Int32), .int (0 : Int32)] j := fun j hj => match j, hj with
  | 0, _ => rfl
  | 1, _ => rfl
  | 2, _ => rfl
  | 3, _ => rfl
  | 4, _ => rfl
  | 5, _ => rfl
  | 6, _ => rfl
  | 7, _ => rfl
  | 8, _ => rfl
  | 9, _ => rfl
  | 10, _ => rfl
  | 11, _ => rfl
  | 12, _ => rfl
  | 13, _ => rfl
  | k + 14, h => absurd h (by omega)
theorem iw_X1 : ∀ x ∈ u_ws RX1 TX1 14, x ∈ lw_g := List.forall_mem_cons.mpr ⟨(tw_gl kw_228 rfl), List.forall_mem_cons.mpr ⟨(tw_gl kw_230 rfl), List.forall_mem_cons.mpr ⟨(tw_gl kw_232 rfl), List.forall_mem_cons.mpr ⟨(tw_gl kw_234 rfl), List.forall_mem_cons.mpr ⟨(tw_gl kw_236 rfl), List.forall_mem_cons.mpr ⟨(tw_gl kw_238 rfl), List.forall_mem_cons.mpr ⟨(tw_gl kw_240 rfl), List.forall_mem_cons.mpr ⟨(tw_gl kw_242 rfl), List.forall_mem_cons.mpr ⟨(tw_gl kw_244 rfl), List.forall_mem_cons.mpr ⟨(tw_gl kw_246 rfl), List.forall_mem_cons.mpr ⟨(tw_gl kw_248 rfl), List.forall_mem_cons.mpr ⟨(tw_gl kw_250 rfl), List.forall_mem_cons.mpr ⟨(tw_gl kw_252 rfl), List.forall_mem_cons.mpr ⟨(tw_gl kw_254 rfl), fun _ h => absurd h List.not_mem_nil⟩⟩⟩⟩⟩⟩⟩⟩⟩⟩⟩⟩⟩⟩
theorem kf_RX1_14 : tw_kF RX1 14 1 6 RX1 TX1 14 := ⟨rfl, iw_X1, by decide, rfl, (tw_gl kw_205 rfl)⟩
theorem kp_X1_6 : tw_kP 1 6 RX1 TX1 14 (.object "RaceByLaps$Table") true := ⟨⟨tyX1, tyX1_ok⟩, nmX1, rfl, by decide +kernel⟩
theorem kf_RX1_20 : tw_kF RX1 20 1 7 RX1 TX1 14 := ⟨rfl, iw_X1, by decide, rfl, (tw_gl kw_210 rfl)⟩
theorem kp_X1_7 : tw_kP 1 7 RX1 TX1 14 (.object "RaceByLaps$Table") true := ⟨⟨tyX1, tyX1_ok⟩, nmX1, rfl, by decide +kernel⟩
theorem kf_RX1_23 : tw_kF RX1 23 1 8 RX1 TX1 14 := ⟨rfl, iw_X1, by decide, rfl, (tw_gl kw_213 rfl)⟩
theorem kp_X1_8 : tw_kP 1 8 RX1 TX1 14 (.object "RaceByLaps$Table") true := ⟨⟨tyX1, tyX1_ok⟩, nmX1, rfl, by decide +kernel⟩
theorem kf_RX1_26 : tw_kF RX1 26 1 9 RX1 TX1 14 := ⟨rfl, iw_X1, by decide, rfl, (tw_gl kw_215 rfl)⟩
theorem kp_X1_9 : tw_kP 1 9 RX1 TX1 14 (.object "RaceByLaps$Table") true := ⟨⟨tyX1, tyX1_ok⟩, nmX1, rfl, by decide +kernel⟩
theorem kf_RX1_29 : tw_kF RX1 29 1 10 RX1 TX1 14 := ⟨rfl, iw_X1, by decide, rfl, (tw_gl kw_219 rfl)⟩
theorem kp_X1_10 : tw_kP 1 10 RX1 TX1 14 (.object "RaceByLaps$Table") true := ⟨⟨tyX1, tyX1_ok⟩, nmX1, rfl, by decide +kernel⟩
theorem kd_X8 : ∀ j, j < 8 → defaultValue (tyX8 j) = vp_V [.null, .int (0 : Int32), .null, .null, .null, .null, .int (0 : Int32), .int (0 : Int32)] j := fun j hj => match j, hj with
  | 0, _ => rfl
  | 1, _ => rfl
  | 2, _ => rfl
  | 3, _ => rfl
  | 4, _ => rfl
  | 5, _ => rfl
  | 6, _ => rfl
  | 7, _ => rfl
  | k + 8, h => absurd h (by omega)
theorem iw_X8 : ∀ x ∈ u_ws RX8 TX8 8, x ∈ lw_g := List.forall_mem_cons.mpr ⟨(tw_gl kw_174 rfl), List.forall_mem_cons.mpr ⟨(tw_gl kw_176 rfl), List.forall_mem_cons.mpr ⟨(tw_gl kw_178 rfl), List.forall_mem_cons.mpr ⟨(tw_gl kw_180 rfl), List.forall_mem_cons.mpr ⟨(tw_gl kw_182 rfl), List.forall_mem_cons.mpr ⟨(tw_gl kw_184 rfl), List.forall_mem_cons.mpr ⟨(tw_gl kw_186 rfl), List.forall_mem_cons.mpr ⟨(tw_gl kw_188 rfl), fun _ h => absurd h List.not_mem_nil⟩⟩⟩⟩⟩⟩⟩⟩
theorem kf_RX8_9 : tw_kF RX8 9 8 0 RX8 TX8 8 := ⟨rfl, iw_X8, by decide, rfl, (tw_gl kw_158 rfl)⟩
theorem kp_X8_0 : tw_kP 8 0 RX8 TX8 8 (.array (.int)) true := ⟨⟨tyX8, tyX8_ok⟩, nmX8, rfl, by decide +kernel⟩
theorem kf_RX8_15 : tw_kF RX8 15 8 2 RX8 TX8 8 := ⟨rfl, iw_X8, by decide, rfl, (tw_gl kw_161 rfl)⟩
theorem kp_X8_2 : tw_kP 8 2 RX8 TX8 8 (.array (.int)) true := ⟨⟨tyX8, tyX8_ok⟩, nmX8, rfl, by decide +kernel⟩
theorem kf_RX8_18 : tw_kF RX8 18 8 3 RX8 TX8 8 := ⟨rfl, iw_X8, by decide, rfl, (tw_gl kw_163 rfl)⟩
theorem kp_X8_3 : tw_kP 8 3 RX8 TX8 8 (.array (.int)) true := ⟨⟨tyX8, tyX8_ok⟩, nmX8, rfl, by decide +kernel⟩
theorem kf_RX8_21 : tw_kF RX8 21 8 4 RX8 TX8 8 := ⟨rfl, iw_X8, by decide, rfl, (tw_gl kw_165 rfl)⟩
theorem kp_X8_4 : tw_kP 8 4 RX8 TX8 8 (.array (.int)) true := ⟨⟨tyX8, tyX8_ok⟩, nmX8, rfl, by decide +kernel⟩
theorem kf_RX8_24 : tw_kF RX8 24 8 5 RX8 TX8 8 := ⟨rfl, iw_X8, by decide, rfl, (tw_gl kw_167 rfl)⟩
theorem kp_X8_5 : tw_kP 8 5 RX8 TX8 8 (.array (.int)) true := ⟨⟨tyX8, tyX8_ok⟩, nmX8, rfl, by decide +kernel⟩
theorem km_X8_init : tw_kM yX8_init cX8_init 1 none 0 := ⟨(tw_gl kw_8 rfl), (tw_gl kw_156 rfl), by decide, by decide, by decide +kernel⟩
theorem kf_RX1_35 : tw_kF RX1 35 1 11 RX1 TX1 14 := ⟨rfl, iw_X1, by decide, rfl, (tw_gl kw_221 rfl)⟩
theorem kp_X1_11 : tw_kP 1 11 RX1 TX1 14 (.object "RaceByLaps$Text") false := ⟨⟨tyX1, tyX1_ok⟩, nmX1, rfl, by decide +kernel⟩
theorem km_X1_init : tw_kM yX1_init cX1_init 1 none 0 := ⟨(tw_gl kw_7 rfl), (tw_gl kw_148 rfl), by decide, by decide, by decide +kernel⟩
theorem kd_X6 : ∀ j, j < 20 → defaultValue (tyX6 j) = vp_V [.int (0 : Int32), .int (0 : Int32), .int (0 : Int32), .int (0 : Int32), .int (0 : Int32), .int (0 : Int32), .int (0 : Int32), .int (0 : Int32), .int (0 : Int32), .int (0 : Int32), .int (0 : Int32), .int (0 : Int32), .int (0 : Int32), .int (0 : Int32), .int (0 : Int32), .null, .null, .null, .null, .null] j := fun j hj => match j, hj with
  | 0, _ => rfl
  | 1, _ => rfl
  | 2, _ => rfl
  | 3, _ => rfl
  | 4, _ => rfl
  | 5, _ => rfl
  | 6, _ => rfl
  | 7, _ => rfl
  | 8, _ => rfl
  | 9, _ => rfl
  | 10, _ => rfl
  | 11, _ => rfl
  | 12, _ => rfl
  | 13, _ => rfl
  | 14, _ => rfl
  | 15, _ => rfl
  | 16, _ => rfl
  | 17, _ => rfl
  | 18, _ => rfl
  | 19, _ => rfl
  | k + 20, h => absurd h (by omega)
theorem iw_X6 : ∀ x ∈ u_ws RX6 TX6 20, x ∈ lw_g := List.forall_mem_cons.mpr ⟨(tw_gl kw_308 rfl), List.forall_mem_cons.mpr ⟨(tw_gl kw_310 rfl), List.forall_mem_cons.mpr ⟨(tw_gl kw_312 rfl), List.forall_mem_cons.mpr ⟨(tw_gl kw_314 rfl), List.forall_mem_cons.mpr ⟨(tw_gl kw_316 rfl), List.forall_mem_cons.mpr ⟨(tw_gl kw_318 rfl), List.forall_mem_cons.mpr ⟨(tw_gl kw_320 rfl), List.forall_mem_cons.mpr ⟨(tw_gl kw_322 rfl), List.forall_mem_cons.mpr ⟨(tw_gl kw_324 rfl), List.forall_mem_cons.mpr ⟨(tw_gl kw_326 rfl), List.forall_mem_cons.mpr ⟨(tw_gl kw_328 rfl), List.forall_mem_cons.mpr ⟨(tw_gl kw_330 rfl), List.forall_mem_cons.mpr ⟨(tw_gl kw_332 rfl), List.forall_mem_cons.mpr ⟨(tw_gl kw_334 rfl), List.forall_mem_cons.mpr ⟨(tw_gl kw_336 rfl), List.forall_mem_cons.mpr ⟨(tw_gl kw_338 rfl), List.forall_mem_cons.mpr ⟨(tw_gl kw_340 rfl), List.forall_mem_cons.mpr ⟨(tw_gl kw_342 rfl), List.forall_mem_cons.mpr ⟨(tw_gl kw_344 rfl), List.forall_mem_cons.mpr ⟨(tw_gl kw_346 rfl), fun _ h => absurd h List.not_mem_nil⟩⟩⟩⟩⟩⟩⟩⟩⟩⟩⟩⟩⟩⟩⟩⟩⟩⟩⟩⟩
theorem kf_RX6_9 : tw_kF RX6 9 6 15 RX6 TX6 20 := ⟨rfl, iw_X6, by decide, rfl, (tw_gl kw_299 rfl)⟩
theorem kp_X6_15 : tw_kP 6 15 RX6 TX6 20 (.array (.int)) true := ⟨⟨tyX6, tyX6_ok⟩, nmX6, rfl, by decide +kernel⟩
theorem kf_RX6_15 : tw_kF RX6 15 6 16 RX6 TX6 20 := ⟨rfl, iw_X6, by decide, rfl, (tw_gl kw_300 rfl)⟩
theorem kp_X6_16 : tw_kP 6 16 RX6 TX6 20 (.array (.int)) true := ⟨⟨tyX6, tyX6_ok⟩, nmX6, rfl, by decide +kernel⟩
theorem kf_RX6_18 : tw_kF RX6 18 6 17 RX6 TX6 20 := ⟨rfl, iw_X6, by decide, rfl, (tw_gl kw_301 rfl)⟩
theorem kp_X6_17 : tw_kP 6 17 RX6 TX6 20 (.array (.int)) true := ⟨⟨tyX6, tyX6_ok⟩, nmX6, rfl, by decide +kernel⟩
theorem kf_RX6_21 : tw_kF RX6 21 6 18 RX6 TX6 20 := ⟨rfl, iw_X6, by decide, rfl, (tw_gl kw_304 rfl)⟩
theorem kp_X6_18 : tw_kP 6 18 RX6 TX6 20 (.array (.int)) true := ⟨⟨tyX6, tyX6_ok⟩, nmX6, rfl, by decide +kernel⟩
theorem kf_RX6_24 : tw_kF RX6 24 6 19 RX6 TX6 20 := ⟨rfl, iw_X6, by decide, rfl, (tw_gl kw_306 rfl)⟩
theorem kp_X6_19 : tw_kP 6 19 RX6 TX6 20 (.array (.int)) true := ⟨⟨tyX6, tyX6_ok⟩, nmX6, rfl, by decide +kernel⟩
theorem km_X6_init : tw_kM yX6_init cX6_init 1 none 0 := ⟨(tw_gl kw_9 rfl), (tw_gl kw_260 rfl), by decide, by decide, by decide +kernel⟩
theorem km_X2_init : tw_kM yX2_init cX2_init 4 none 2 := ⟨(tw_gl kw_6 rfl), (tw_gl kw_139 rfl), by decide, by decide, by decide +kernel⟩
theorem kf_RX11_24 : tw_kF RX11 24 11 1 RX11 TX11 11 := ⟨rfl, iw_X11, by decide, rfl, (tw_gl kw_515 rfl)⟩
theorem kp_X11_1 : tw_kP 11 1 RX11 TX11 11 (.object "RaceByLaps$Race") true := ⟨⟨tyX11, tyX11_ok⟩, nmX11, rfl, by decide +kernel⟩
theorem kd_X0 : ∀ j, j < 5 → defaultValue (tyX0 j) = vp_V [.null, .null, .null, .int (0 : Int32), .null] j := fun j hj => match j, hj with
  | 0, _ => rfl
  | 1, _ => rfl
  | 2, _ => rfl
  | 3, _ => rfl
  | 4, _ => rfl
  | k + 5, h => absurd h (by omega)
theorem iw_X0 : ∀ x ∈ u_ws RX0 TX0 5, x ∈ lw_g := List.forall_mem_cons.mpr ⟨(tw_gl kw_401 rfl), List.forall_mem_cons.mpr ⟨(tw_gl kw_403 rfl), List.forall_mem_cons.mpr ⟨(tw_gl kw_405 rfl), List.forall_mem_cons.mpr ⟨(tw_gl kw_407 rfl), List.forall_mem_cons.mpr ⟨(tw_gl kw_409 rfl), fun _ h => absurd h List.not_mem_nil⟩⟩⟩⟩⟩
theorem kf_RX0_9 : tw_kF RX0 9 0 0 RX0 TX0 5 := ⟨rfl, iw_X0, by decide, rfl, (tw_gl kw_394 rfl)⟩
theorem kp_X0_0 : tw_kP 0 0 RX0 TX0 5 (.object "RaceByLaps$Reckoner") true := ⟨⟨tyX0, tyX0_ok⟩, nmX0, rfl, by decide +kernel⟩
theorem kf_RX0_17 : tw_kF RX0 17 0 1 RX0 TX0 5 := ⟨rfl, iw_X0, by decide, rfl, (tw_gl kw_395 rfl)⟩
theorem kp_X0_1 : tw_kP 0 1 RX0 TX0 5 (.array (.object "RaceByLaps$Text")) true := ⟨⟨tyX0, tyX0_ok⟩, nmX0, rfl, by decide +kernel⟩
theorem kf_RX0_21 : tw_kF RX0 21 0 2 RX0 TX0 5 := ⟨rfl, iw_X0, by decide, rfl, (tw_gl kw_396 rfl)⟩
theorem kp_X0_2 : tw_kP 0 2 RX0 TX0 5 (.array (.int)) true := ⟨⟨tyX0, tyX0_ok⟩, nmX0, rfl, by decide +kernel⟩
theorem kf_RX0_30 : tw_kF RX0 30 0 4 RX0 TX0 5 := ⟨rfl, iw_X0, by decide, rfl, (tw_gl kw_399 rfl)⟩
theorem kp_X0_4 : tw_kP 0 4 RX0 TX0 5 (.object "RaceByLaps$Table") true := ⟨⟨tyX0, tyX0_ok⟩, nmX0, rfl, by decide +kernel⟩
theorem km_X0_init : tw_kM yX0_init cX0_init 3 none 1 := ⟨(tw_gl kw_10 rfl), (tw_gl kw_387 rfl), by decide, by decide, by decide +kernel⟩
theorem kf_RX11_33 : tw_kF RX11 33 11 2 RX11 TX11 11 := ⟨rfl, iw_X11, by decide, rfl, (tw_gl kw_516 rfl)⟩
theorem kp_X11_2 : tw_kP 11 2 RX11 TX11 11 (.object "RaceByLaps$Book") true := ⟨⟨tyX11, tyX11_ok⟩, nmX11, rfl, by decide +kernel⟩
theorem kd_X5 : ∀ j, j < 5 → defaultValue (tyX5 j) = vp_V [.null, .null, .null, .null, .null] j := fun j hj => match j, hj with
  | 0, _ => rfl
  | 1, _ => rfl
  | 2, _ => rfl
  | 3, _ => rfl
  | 4, _ => rfl
  | k + 5, h => absurd h (by omega)
theorem iw_X5 : ∀ x ∈ u_ws RX5 TX5 5, x ∈ lw_g := List.forall_mem_cons.mpr ⟨(tw_gl kw_425 rfl), List.forall_mem_cons.mpr ⟨(tw_gl kw_427 rfl), List.forall_mem_cons.mpr ⟨(tw_gl kw_429 rfl), List.forall_mem_cons.mpr ⟨(tw_gl kw_431 rfl), List.forall_mem_cons.mpr ⟨(tw_gl kw_433 rfl), fun _ h => absurd h List.not_mem_nil⟩⟩⟩⟩⟩
theorem kf_RX5_9 : tw_kF RX5 9 5 0 RX5 TX5 5 := ⟨rfl, iw_X5, by decide, rfl, (tw_gl kw_418 rfl)⟩
theorem kp_X5_0 : tw_kP 5 0 RX5 TX5 5 (.object "RaceByLaps$Race") true := ⟨⟨tyX5, tyX5_ok⟩, nmX5, rfl, by decide +kernel⟩
theorem kf_RX5_15 : tw_kF RX5 15 5 1 RX5 TX5 5 := ⟨rfl, iw_X5, by decide, rfl, (tw_gl kw_419 rfl)⟩
theorem kp_X5_1 : tw_kP 5 1 RX5 TX5 5 (.object "RaceByLaps$Book") true := ⟨⟨tyX5, tyX5_ok⟩, nmX5, rfl, by decide +kernel⟩
theorem kf_RX5_19 : tw_kF RX5 19 5 2 RX5 TX5 5 := ⟨rfl, iw_X5, by decide, rfl, (tw_gl kw_420 rfl)⟩
theorem kp_X5_2 : tw_kP 5 2 RX5 TX5 5 (.array (.boolean)) true := ⟨⟨tyX5, tyX5_ok⟩, nmX5, rfl, by decide +kernel⟩
theorem kf_RX5_23 : tw_kF RX5 23 5 3 RX5 TX5 5 := ⟨rfl, iw_X5, by decide, rfl, (tw_gl kw_422 rfl)⟩
theorem kp_X5_3 : tw_kP 5 3 RX5 TX5 5 (.array (.int)) true := ⟨⟨tyX5, tyX5_ok⟩, nmX5, rfl, by decide +kernel⟩
theorem kf_RX5_27 : tw_kF RX5 27 5 4 RX5 TX5 5 := ⟨rfl, iw_X5, by decide, rfl, (tw_gl kw_423 rfl)⟩
theorem kp_X5_4 : tw_kP 5 4 RX5 TX5 5 (.array (.int)) true := ⟨⟨tyX5, tyX5_ok⟩, nmX5, rfl, by decide +kernel⟩
theorem km_X5_init : tw_kM yX5_init cX5_init 3 none 2 := ⟨(tw_gl kw_11 rfl), (tw_gl kw_416 rfl), by decide, by decide, by decide +kernel⟩
theorem kf_RX11_42 : tw_kF RX11 42 11 3 RX11 TX11 11 := ⟨rfl, iw_X11, by decide, rfl, (tw_gl kw_517 rfl)⟩
theorem kp_X11_3 : tw_kP 11 3 RX11 TX11 11 (.object "RaceByLaps$Result") true := ⟨⟨tyX11, tyX11_ok⟩, nmX11, rfl, by decide +kernel⟩
theorem kd_X10 : ∀ j, j < 11 → defaultValue (tyX10 j) = vp_V [.null, .null, .null, .null, .null, .int (0 : Int32), .int (0 : Int32), .null, .null, .null, .null] j := fun j hj => match j, hj with
  | 0, _ => rfl
  | 1, _ => rfl
  | 2, _ => rfl
  | 3, _ => rfl
  | 4, _ => rfl
  | 5, _ => rfl
  | 6, _ => rfl
  | 7, _ => rfl
  | 8, _ => rfl
  | 9, _ => rfl
  | 10, _ => rfl
  | k + 11, h => absurd h (by omega)
theorem iw_X10 : ∀ x ∈ u_ws RX10 TX10 11, x ∈ lw_g := List.forall_mem_cons.mpr ⟨(tw_gl kw_455 rfl), List.forall_mem_cons.mpr ⟨(tw_gl kw_457 rfl), List.forall_mem_cons.mpr ⟨(tw_gl kw_459 rfl), List.forall_mem_cons.mpr ⟨(tw_gl kw_461 rfl), List.forall_mem_cons.mpr ⟨(tw_gl kw_463 rfl), List.forall_mem_cons.mpr ⟨(tw_gl kw_465 rfl), List.forall_mem_cons.mpr ⟨(tw_gl kw_467 rfl), List.forall_mem_cons.mpr ⟨(tw_gl kw_469 rfl), List.forall_mem_cons.mpr ⟨(tw_gl kw_471 rfl), List.forall_mem_cons.mpr ⟨(tw_gl kw_473 rfl), List.forall_mem_cons.mpr ⟨(tw_gl kw_475 rfl), fun _ h => absurd h List.not_mem_nil⟩⟩⟩⟩⟩⟩⟩⟩⟩⟩⟩
theorem kf_RX10_9 : tw_kF RX10 9 10 0 RX10 TX10 11 := ⟨rfl, iw_X10, by decide, rfl, (tw_gl kw_442 rfl)⟩
theorem kp_X10_0 : tw_kP 10 0 RX10 TX10 11 (.object "RaceByLaps$Race") true := ⟨⟨tyX10, tyX10_ok⟩, nmX10, rfl, by decide +kernel⟩
theorem kf_RX10_15 : tw_kF RX10 15 10 1 RX10 TX10 11 := ⟨rfl, iw_X10, by decide, rfl, (tw_gl kw_443 rfl)⟩
theorem kp_X10_1 : tw_kP 10 1 RX10 TX10 11 (.object "RaceByLaps$Result") true := ⟨⟨tyX10, tyX10_ok⟩, nmX10, rfl, by decide +kernel⟩
theorem kf_RX10_19 : tw_kF RX10 19 10 2 RX10 TX10 11 := ⟨rfl, iw_X10, by decide, rfl, (tw_gl kw_444 rfl)⟩
theorem kp_X10_2 : tw_kP 10 2 RX10 TX10 11 (.array (.int)) true := ⟨⟨tyX10, tyX10_ok⟩, nmX10, rfl, by decide +kernel⟩
theorem kf_RX10_23 : tw_kF RX10 23 10 3 RX10 TX10 11 := ⟨rfl, iw_X10, by decide, rfl, (tw_gl kw_445 rfl)⟩
theorem kp_X10_3 : tw_kP 10 3 RX10 TX10 11 (.array (.int)) true := ⟨⟨tyX10, tyX10_ok⟩, nmX10, rfl, by decide +kernel⟩
theorem kf_RX10_26 : tw_kF RX10 26 10 4 RX10 TX10 11 := ⟨rfl, iw_X10, by decide, rfl, (tw_gl kw_446 rfl)⟩
theorem kp_X10_4 : tw_kP 10 4 RX10 TX10 11 (.array (.int)) true := ⟨⟨tyX10, tyX10_ok⟩, nmX10, rfl, by decide +kernel⟩
theorem kf_RX10_29 : tw_kF RX10 29 10 7 RX10 TX10 11 := ⟨rfl, iw_X10, by decide, rfl, (tw_gl kw_451 rfl)⟩
theorem kp_X10_7 : tw_kP 10 7 RX10 TX10 11 (.array (.int)) true := ⟨⟨tyX10, tyX10_ok⟩, nmX10, rfl, by decide +kernel⟩
theorem kf_RX10_32 : tw_kF RX10 32 10 8 RX10 TX10 11 := ⟨rfl, iw_X10, by decide, rfl, (tw_gl kw_452 rfl)⟩
theorem kp_X10_8 : tw_kP 10 8 RX10 TX10 11 (.array (.int)) true := ⟨⟨tyX10, tyX10_ok⟩, nmX10, rfl, by decide +kernel⟩
theorem kf_RX10_35 : tw_kF RX10 35 10 9 RX10 TX10 11 := ⟨rfl, iw_X10, by decide, rfl, (tw_gl kw_453 rfl)⟩
theorem kp_X10_9 : tw_kP 10 9 RX10 TX10 11 (.array (.int)) true := ⟨⟨tyX10, tyX10_ok⟩, nmX10, rfl, by decide +kernel⟩
theorem kf_RX10_38 : tw_kF RX10 38 10 10 RX10 TX10 11 := ⟨rfl, iw_X10, by decide, rfl, (tw_gl kw_454 rfl)⟩
theorem kp_X10_10 : tw_kP 10 10 RX10 TX10 11 (.array (.int)) true := ⟨⟨tyX10, tyX10_ok⟩, nmX10, rfl, by decide +kernel⟩
theorem km_X10_init : tw_kM yX10_init cX10_init 3 none 2 := ⟨(tw_gl kw_12 rfl), (tw_gl kw_440 rfl), by decide, by decide, by decide +kernel⟩
theorem kf_RX11_51 : tw_kF RX11 51 11 4 RX11 TX11 11 := ⟨rfl, iw_X11, by decide, rfl, (tw_gl kw_518 rfl)⟩
theorem kp_X11_4 : tw_kP 11 4 RX11 TX11 11 (.object "RaceByLaps$Tries") true := ⟨⟨tyX11, tyX11_ok⟩, nmX11, rfl, by decide +kernel⟩
theorem kd_X3 : ∀ j, j < 9 → defaultValue (tyX3 j) = vp_V [.null, .int (0 : Int32), .null, .int (0 : Int32), .int (0 : Int32), .int (0 : Int32), .int (0 : Int32), .int (0 : Int32), .null] j := fun j hj => match j, hj with
  | 0, _ => rfl
  | 1, _ => rfl
  | 2, _ => rfl
  | 3, _ => rfl
  | 4, _ => rfl
  | 5, _ => rfl
  | 6, _ => rfl
  | 7, _ => rfl
  | 8, _ => rfl
  | k + 9, h => absurd h (by omega)
theorem iw_X3 : ∀ x ∈ u_ws RX3 TX3 9, x ∈ lw_g := List.forall_mem_cons.mpr ⟨(tw_gl kw_493 rfl), List.forall_mem_cons.mpr ⟨(tw_gl kw_495 rfl), List.forall_mem_cons.mpr ⟨(tw_gl kw_497 rfl), List.forall_mem_cons.mpr ⟨(tw_gl kw_499 rfl), List.forall_mem_cons.mpr ⟨(tw_gl kw_501 rfl), List.forall_mem_cons.mpr ⟨(tw_gl kw_503 rfl), List.forall_mem_cons.mpr ⟨(tw_gl kw_505 rfl), List.forall_mem_cons.mpr ⟨(tw_gl kw_507 rfl), List.forall_mem_cons.mpr ⟨(tw_gl kw_509 rfl), fun _ h => absurd h List.not_mem_nil⟩⟩⟩⟩⟩⟩⟩⟩⟩
theorem kf_RX3_9 : tw_kF RX3 9 3 0 RX3 TX3 9 := ⟨rfl, iw_X3, by decide, rfl, (tw_gl kw_484 rfl)⟩
theorem kp_X3_0 : tw_kP 3 0 RX3 TX3 9 (.array (.int)) true := ⟨⟨tyX3, tyX3_ok⟩, nmX3, rfl, by decide +kernel⟩
theorem kf_RX3_15 : tw_kF RX3 15 3 2 RX3 TX3 9 := ⟨rfl, iw_X3, by decide, rfl, (tw_gl kw_486 rfl)⟩
theorem kp_X3_2 : tw_kP 3 2 RX3 TX3 9 (.array (.boolean)) true := ⟨⟨tyX3, tyX3_ok⟩, nmX3, rfl, by decide +kernel⟩
theorem km_X3_init : tw_kM yX3_init cX3_init 1 none 0 := ⟨(tw_gl kw_13 rfl), (tw_gl kw_482 rfl), by decide, by decide, by decide +kernel⟩
theorem kf_RX11_58 : tw_kF RX11 58 11 5 RX11 TX11 11 := ⟨rfl, iw_X11, by decide, rfl, (tw_gl kw_519 rfl)⟩
theorem kp_X11_5 : tw_kP 11 5 RX11 TX11 11 (.object "RaceByLaps$Reader") true := ⟨⟨tyX11, tyX11_ok⟩, nmX11, rfl, by decide +kernel⟩
theorem kf_RX11_62 : tw_kF RX11 62 11 6 RX11 TX11 11 := ⟨rfl, iw_X11, by decide, rfl, (tw_gl kw_520 rfl)⟩
theorem kp_X11_6 : tw_kP 11 6 RX11 TX11 11 (.array (.int)) true := ⟨⟨tyX11, tyX11_ok⟩, nmX11, rfl, by decide +kernel⟩
theorem kf_RX11_66 : tw_kF RX11 66 11 8 RX11 TX11 11 := ⟨rfl, iw_X11, by decide, rfl, (tw_gl kw_522 rfl)⟩
theorem kp_X11_8 : tw_kP 11 8 RX11 TX11 11 (.array (.int)) true := ⟨⟨tyX11, tyX11_ok⟩, nmX11, rfl, by decide +kernel⟩
theorem kf_RX11_72 : tw_kF RX11 72 11 10 RX11 TX11 11 := ⟨rfl, iw_X11, by decide, rfl, (tw_gl kw_524 rfl)⟩
theorem kp_X11_10 : tw_kP 11 10 RX11 TX11 11 (.object "RaceByLaps$Text") false := ⟨⟨tyX11, tyX11_ok⟩, nmX11, rfl, by decide +kernel⟩
theorem iw_X12 : ∀ x ∈ u_ws RX12 TX12 97, x ∈ lw_g := List.forall_mem_cons.mpr ⟨(tw_gl kw_1887 rfl), List.forall_mem_cons.mpr ⟨(tw_gl kw_1889 rfl), List.forall_mem_cons.mpr ⟨(tw_gl kw_1891 rfl), List.forall_mem_cons.mpr ⟨(tw_gl kw_1893 rfl), List.forall_mem_cons.mpr ⟨(tw_gl kw_1895 rfl), List.forall_mem_cons.mpr ⟨(tw_gl kw_1897 rfl), List.forall_mem_cons.mpr ⟨(tw_gl kw_1899 rfl), List.forall_mem_cons.mpr ⟨(tw_gl kw_1901 rfl), List.forall_mem_cons.mpr ⟨(tw_gl kw_1903 rfl), List.forall_mem_cons.mpr ⟨(tw_gl kw_1905 rfl), List.forall_mem_cons.mpr ⟨(tw_gl kw_1907 rfl), List.forall_mem_cons.mpr ⟨(tw_gl kw_1909 rfl), List.forall_mem_cons.mpr ⟨(tw_gl kw_1911 rfl), List.forall_mem_cons.mpr ⟨(tw_gl kw_1913 rfl), List.forall_mem_cons.mpr ⟨(tw_gl kw_1915 rfl), List.forall_mem_cons.mpr ⟨(tw_gl kw_1917 rfl), List.forall_mem_cons.mpr ⟨(tw_gl kw_1919 rfl), List.forall_mem_cons.mpr ⟨(tw_gl kw_1921 rfl), List.forall_mem_cons.mpr ⟨(tw_gl kw_1923 rfl), List.forall_mem_cons.mpr ⟨(tw_gl kw_1925 rfl), List.forall_mem_cons.mpr ⟨(tw_gl kw_1927 rfl), List.forall_mem_cons.mpr ⟨(tw_gl kw_1929 rfl), List.forall_mem_cons.mpr ⟨(tw_gl kw_1931 rfl), List.forall_mem_cons.mpr ⟨(tw_gl kw_1933 rfl), List.forall_mem_cons.mpr ⟨(tw_gl kw_1935 rfl), List.forall_mem_cons.mpr ⟨(tw_gl kw_1937 rfl), List.forall_mem_cons.mpr ⟨(tw_gl kw_1939 rfl), List.forall_mem_cons.mpr ⟨(tw_gl kw_1941 rfl), List.forall_mem_cons.mpr ⟨(tw_gl kw_1943 rfl), List.forall_mem_cons.mpr ⟨(tw_gl kw_1945 rfl), List.forall_mem_cons.mpr ⟨(tw_gl kw_1947 rfl), List.forall_mem_cons.mpr ⟨(tw_gl kw_1949 rfl), List.forall_mem_cons.mpr ⟨(tw_gl kw_1951 rfl), List.forall_mem_cons.mpr ⟨(tw_gl kw_1953 rfl), List.forall_mem_cons.mpr ⟨(tw_gl kw_1955 rfl), List.forall_mem_cons.mpr ⟨(tw_gl kw_1957 rfl), List.forall_mem_cons.mpr ⟨(tw_gl kw_1959 rfl), List.forall_mem_cons.mpr ⟨(tw_gl kw_1961 rfl), List.forall_mem_cons.mpr ⟨(tw_gl kw_1963 rfl), List.forall_mem_cons.mpr ⟨(tw_gl kw_1965 rfl), List.forall_mem_cons.mpr ⟨(tw_gl kw_1967 rfl), List.forall_mem_cons.mpr ⟨(tw_gl kw_1969 rfl), List.forall_mem_cons.mpr ⟨(tw_gl kw_1971 rfl), List.forall_mem_cons.mpr ⟨(tw_gl kw_1973 rfl), List.forall_mem_cons.mpr ⟨(tw_gl kw_1975 rfl), List.forall_mem_cons.mpr ⟨(tw_gl kw_1977 rfl), List.forall_mem_cons.mpr ⟨(tw_gl kw_1979 rfl), List.forall_mem_cons.mpr ⟨(tw_gl kw_1981 rfl), List.forall_mem_cons.mpr ⟨(tw_gl kw_1983 rfl), List.forall_mem_cons.mpr ⟨(tw_gl kw_1985 rfl), List.forall_mem_cons.mpr ⟨(tw_gl kw_1987 rfl), List.forall_mem_cons.mpr ⟨(tw_gl kw_1989 rfl), List.forall_mem_cons.mpr ⟨(tw_gl kw_1991 rfl), List.forall_mem_cons.mpr ⟨(tw_gl kw_1993 rfl), List.forall_mem_cons.mpr ⟨(tw_gl kw_1995 rfl), List.forall_mem_cons.mpr ⟨(tw_gl kw_1997 rfl), List.forall_mem_cons.mpr ⟨(tw_gl kw_1999 rfl), List.forall_mem_cons.mpr ⟨(tw_gl kw_2001 rfl), List.forall_mem_cons.mpr ⟨(tw_gl kw_2003 rfl), List.forall_mem_cons.mpr ⟨(tw_gl kw_2005 rfl), List.forall_mem_cons.mpr ⟨(tw_gl kw_2007 rfl), List.forall_mem_cons.mpr ⟨(tw_gl kw_2009 rfl), List.forall_mem_cons.mpr ⟨(tw_gl kw_2011 rfl), List.forall_mem_cons.mpr ⟨(tw_gl kw_2013 rfl), List.forall_mem_cons.mpr ⟨(tw_gl kw_2015 rfl), List.forall_mem_cons.mpr ⟨(tw_gl kw_2017 rfl), List.forall_mem_cons.mpr ⟨(tw_gl kw_2019 rfl), List.forall_mem_cons.mpr ⟨(tw_gl kw_2021 rfl), List.forall_mem_cons.mpr ⟨(tw_gl kw_2023 rfl), List.forall_mem_cons.mpr ⟨(tw_gl kw_2025 rfl), List.forall_mem_cons.mpr ⟨(tw_gl kw_2027 rfl), List.forall_mem_cons.mpr ⟨(tw_gl kw_2029 rfl), List.forall_mem_cons.mpr ⟨(tw_gl kw_2031 rfl), List.forall_mem_cons.mpr ⟨(tw_gl kw_2033 rfl), List.forall_mem_cons.mpr ⟨(tw_gl kw_2035 rfl), List.forall_mem_cons.mpr ⟨(tw_gl kw_2037 rfl), List.forall_mem_cons.mpr ⟨(tw_gl kw_2039 rfl), List.forall_mem_cons.mpr ⟨(tw_gl kw_2041 rfl), List.forall_mem_cons.mpr ⟨(tw_gl kw_2043 rfl), List.forall_mem_cons.mpr ⟨(tw_gl kw_2045 rfl), List.forall_mem_cons.mpr ⟨(tw_gl kw_2047 rfl), List.forall_mem_cons.mpr ⟨(tw_gl kw_2049 rfl), List.forall_mem_cons.mpr ⟨(tw_gl kw_2051 rfl), List.forall_mem_cons.mpr ⟨(tw_gl kw_2053 rfl), List.forall_mem_cons.mpr ⟨(tw_gl kw_2055 rfl), List.forall_mem_cons.mpr ⟨(tw_gl kw_2057 rfl), List.forall_mem_cons.mpr ⟨(tw_gl kw_2059 rfl), List.forall_mem_cons.mpr ⟨(tw_gl kw_2061 rfl), List.forall_mem_cons.mpr ⟨(tw_gl kw_2063 rfl), List.forall_mem_cons.mpr ⟨(tw_gl kw_2065 rfl), List.forall_mem_cons.mpr ⟨(tw_gl kw_2067 rfl), List.forall_mem_cons.mpr ⟨(tw_gl kw_2069 rfl), List.forall_mem_cons.mpr ⟨(tw_gl kw_2071 rfl), List.forall_mem_cons.mpr ⟨(tw_gl kw_2073 rfl), List.forall_mem_cons.mpr ⟨(tw_gl kw_2075 rfl), List.forall_mem_cons.mpr ⟨(tw_gl kw_2077 rfl), List.forall_mem_cons.mpr ⟨(tw_gl kw_2079 rfl), fun _ h => absurd h List.not_mem_nil⟩⟩⟩⟩⟩⟩⟩⟩⟩⟩⟩⟩⟩⟩⟩⟩⟩⟩⟩⟩⟩⟩⟩⟩⟩⟩⟩⟩⟩⟩⟩⟩⟩⟩⟩⟩⟩⟩⟩⟩⟩⟩⟩⟩⟩⟩⟩⟩⟩⟩⟩⟩⟩⟩⟩⟩⟩⟩⟩⟩⟩⟩⟩⟩⟩⟩⟩⟩⟩⟩⟩⟩⟩⟩⟩⟩⟩⟩⟩⟩⟩⟩⟩⟩⟩⟩⟩⟩⟩⟩⟩⟩⟩⟩⟩⟩⟩
theorem kf_RX12_7 : tw_kF RX12 7 12 1 RX12 TX12 97 := ⟨rfl, iw_X12, by decide, rfl, (tw_gl kw_1791 rfl)⟩
theorem kp_X12_1 : tw_kP 12 1 RX12 TX12 97 (.int) false := ⟨⟨tyX12, tyX12_ok⟩, nmX12, rfl, by decide +kernel⟩
theorem kf_RX12_10 : tw_kF RX12 10 12 2 RX12 TX12 97 := ⟨rfl, iw_X12, by decide, rfl, (tw_gl kw_1792 rfl)⟩
theorem kp_X12_2 : tw_kP 12 2 RX12 TX12 97 (.int) false := ⟨⟨tyX12, tyX12_ok⟩, nmX12, rfl, by decide +kernel⟩
theorem kf_RX12_13 : tw_kF RX12 13 12 3 RX12 TX12 97 := ⟨rfl, iw_X12, by decide, rfl, (tw_gl kw_1793 rfl)⟩
theorem kp_X12_3 : tw_kP 12 3 RX12 TX12 97 (.array (.int)) true := ⟨⟨tyX12, tyX12_ok⟩, nmX12, rfl, by decide +kernel⟩
theorem kf_RX12_17 : tw_kF RX12 17 12 4 RX12 TX12 97 := ⟨rfl, iw_X12, by decide, rfl, (tw_gl kw_1794 rfl)⟩
theorem kp_X12_4 : tw_kP 12 4 RX12 TX12 97 (.array (.int)) true := ⟨⟨tyX12, tyX12_ok⟩, nmX12, rfl, by decide +kernel⟩
theorem kf_RX12_20 : tw_kF RX12 20 12 5 RX12 TX12 97 := ⟨rfl, iw_X12, by decide, rfl, (tw_gl kw_1795 rfl)⟩
theorem kp_X12_5 : tw_kP 12 5 RX12 TX12 97 (.array (.boolean)) true := ⟨⟨tyX12, tyX12_ok⟩, nmX12, rfl, by decide +kernel⟩
theorem kf_RX12_72 : tw_kF RX12 72 12 6 RX12 TX12 97 := ⟨rfl, iw_X12, by decide, rfl, (tw_gl kw_1796 rfl)⟩
theorem kp_X12_6 : tw_kP 12 6 RX12 TX12 97 (.array (.int)) true := ⟨⟨tyX12, tyX12_ok⟩, nmX12, rfl, by decide +kernel⟩
theorem kf_RX12_83 : tw_kF RX12 83 12 7 RX12 TX12 97 := ⟨rfl, iw_X12, by decide, rfl, (tw_gl kw_1797 rfl)⟩
theorem kp_X12_7 : tw_kP 12 7 RX12 TX12 97 (.array (.int)) true := ⟨⟨tyX12, tyX12_ok⟩, nmX12, rfl, by decide +kernel⟩
theorem kf_RX12_86 : tw_kF RX12 86 12 9 RX12 TX12 97 := ⟨rfl, iw_X12, by decide, rfl, (tw_gl kw_1799 rfl)⟩
theorem kp_X12_9 : tw_kP 12 9 RX12 TX12 97 (.array (.int)) true := ⟨⟨tyX12, tyX12_ok⟩, nmX12, rfl, by decide +kernel⟩
theorem kf_RX12_89 : tw_kF RX12 89 12 10 RX12 TX12 97 := ⟨rfl, iw_X12, by decide, rfl, (tw_gl kw_1800 rfl)⟩
theorem kp_X12_10 : tw_kP 12 10 RX12 TX12 97 (.array (.int)) true := ⟨⟨tyX12, tyX12_ok⟩, nmX12, rfl, by decide +kernel⟩
theorem kf_RX12_92 : tw_kF RX12 92 12 11 RX12 TX12 97 := ⟨rfl, iw_X12, by decide, rfl, (tw_gl kw_1801 rfl)⟩
theorem kp_X12_11 : tw_kP 12 11 RX12 TX12 97 (.array (.int)) true := ⟨⟨tyX12, tyX12_ok⟩, nmX12, rfl, by decide +kernel⟩
theorem kf_RX12_95 : tw_kF RX12 95 12 13 RX12 TX12 97 := ⟨rfl, iw_X12, by decide, rfl, (tw_gl kw_1803 rfl)⟩
theorem kp_X12_13 : tw_kP 12 13 RX12 TX12 97 (.array (.int)) true := ⟨⟨tyX12, tyX12_ok⟩, nmX12, rfl, by decide +kernel⟩
theorem kf_RX12_98 : tw_kF RX12 98 12 14 RX12 TX12 97 := ⟨rfl, iw_X12, by decide, rfl, (tw_gl kw_1804 rfl)⟩
theorem kp_X12_14 : tw_kP 12 14 RX12 TX12 97 (.array (.int)) true := ⟨⟨tyX12, tyX12_ok⟩, nmX12, rfl, by decide +kernel⟩
theorem kf_RX12_101 : tw_kF RX12 101 12 15 RX12 TX12 97 := ⟨rfl, iw_X12, by decide, rfl, (tw_gl kw_1805 rfl)⟩
theorem kp_X12_15 : tw_kP 12 15 RX12 TX12 97 (.array (.int)) true := ⟨⟨tyX12, tyX12_ok⟩, nmX12, rfl, by decide +kernel⟩
theorem kf_RX12_104 : tw_kF RX12 104 12 16 RX12 TX12 97 := ⟨rfl, iw_X12, by decide, rfl, (tw_gl kw_1806 rfl)⟩
theorem kp_X12_16 : tw_kP 12 16 RX12 TX12 97 (.array (.int)) true := ⟨⟨tyX12, tyX12_ok⟩, nmX12, rfl, by decide +kernel⟩
theorem kf_RX12_115 : tw_kF RX12 115 12 18 RX12 TX12 97 := ⟨rfl, iw_X12, by decide, rfl, (tw_gl kw_1808 rfl)⟩
theorem kp_X12_18 : tw_kP 12 18 RX12 TX12 97 (.array (.int)) true := ⟨⟨tyX12, tyX12_ok⟩, nmX12, rfl, by decide +kernel⟩
theorem kf_RX12_118 : tw_kF RX12 118 12 19 RX12 TX12 97 := ⟨rfl, iw_X12, by decide, rfl, (tw_gl kw_1809 rfl)⟩
theorem kp_X12_19 : tw_kP 12 19 RX12 TX12 97 (.array (.int)) true := ⟨⟨tyX12, tyX12_ok⟩, nmX12, rfl, by decide +kernel⟩
theorem kf_RX12_121 : tw_kF RX12 121 12 20 RX12 TX12 97 := ⟨rfl, iw_X12, by decide, rfl, (tw_gl kw_1810 rfl)⟩
theorem kp_X12_20 : tw_kP 12 20 RX12 TX12 97 (.array (.int)) true := ⟨⟨tyX12, tyX12_ok⟩, nmX12, rfl, by decide +kernel⟩
theorem kf_RX12_124 : tw_kF RX12 124 12 21 RX12 TX12 97 := ⟨rfl, iw_X12, by decide, rfl, (tw_gl kw_1811 rfl)⟩
theorem kp_X12_21 : tw_kP 12 21 RX12 TX12 97 (.array (.int)) true := ⟨⟨tyX12, tyX12_ok⟩, nmX12, rfl, by decide +kernel⟩
theorem kf_RX12_127 : tw_kF RX12 127 12 22 RX12 TX12 97 := ⟨rfl, iw_X12, by decide, rfl, (tw_gl kw_1812 rfl)⟩
theorem kp_X12_22 : tw_kP 12 22 RX12 TX12 97 (.array (.int)) true := ⟨⟨tyX12, tyX12_ok⟩, nmX12, rfl, by decide +kernel⟩
theorem kf_RX12_130 : tw_kF RX12 130 12 23 RX12 TX12 97 := ⟨rfl, iw_X12, by decide, rfl, (tw_gl kw_1813 rfl)⟩
theorem kp_X12_23 : tw_kP 12 23 RX12 TX12 97 (.array (.int)) true := ⟨⟨tyX12, tyX12_ok⟩, nmX12, rfl, by decide +kernel⟩
theorem kf_RX12_133 : tw_kF RX12 133 12 24 RX12 TX12 97 := ⟨rfl, iw_X12, by decide, rfl, (tw_gl kw_1814 rfl)⟩
theorem kp_X12_24 : tw_kP 12 24 RX12 TX12 97 (.array (.int)) true := ⟨⟨tyX12, tyX12_ok⟩, nmX12, rfl, by decide +kernel⟩
theorem kf_RX12_148 : tw_kF RX12 148 12 25 RX12 TX12 97 := ⟨rfl, iw_X12, by decide, rfl, (tw_gl kw_1815 rfl)⟩
theorem kp_X12_25 : tw_kP 12 25 RX12 TX12 97 (.array (.int)) true := ⟨⟨tyX12, tyX12_ok⟩, nmX12, rfl, by decide +kernel⟩
theorem kf_RX12_151 : tw_kF RX12 151 12 26 RX12 TX12 97 := ⟨rfl, iw_X12, by decide, rfl, (tw_gl kw_1816 rfl)⟩
theorem kp_X12_26 : tw_kP 12 26 RX12 TX12 97 (.array (.int)) true := ⟨⟨tyX12, tyX12_ok⟩, nmX12, rfl, by decide +kernel⟩
theorem kf_RX12_136 : tw_kF RX12 136 12 27 RX12 TX12 97 := ⟨rfl, iw_X12, by decide, rfl, (tw_gl kw_1817 rfl)⟩
theorem kp_X12_27 : tw_kP 12 27 RX12 TX12 97 (.array (.int)) true := ⟨⟨tyX12, tyX12_ok⟩, nmX12, rfl, by decide +kernel⟩
theorem kf_RX12_157 : tw_kF RX12 157 12 28 RX12 TX12 97 := ⟨rfl, iw_X12, by decide, rfl, (tw_gl kw_1818 rfl)⟩
theorem kp_X12_28 : tw_kP 12 28 RX12 TX12 97 (.array (.int)) true := ⟨⟨tyX12, tyX12_ok⟩, nmX12, rfl, by decide +kernel⟩
theorem kf_RX12_160 : tw_kF RX12 160 12 29 RX12 TX12 97 := ⟨rfl, iw_X12, by decide, rfl, (tw_gl kw_1819 rfl)⟩
theorem kp_X12_29 : tw_kP 12 29 RX12 TX12 97 (.array (.int)) true := ⟨⟨tyX12, tyX12_ok⟩, nmX12, rfl, by decide +kernel⟩
theorem kf_RX12_163 : tw_kF RX12 163 12 30 RX12 TX12 97 := ⟨rfl, iw_X12, by decide, rfl, (tw_gl kw_1820 rfl)⟩
theorem kp_X12_30 : tw_kP 12 30 RX12 TX12 97 (.array (.int)) true := ⟨⟨tyX12, tyX12_ok⟩, nmX12, rfl, by decide +kernel⟩
theorem kf_RX12_139 : tw_kF RX12 139 12 31 RX12 TX12 97 := ⟨rfl, iw_X12, by decide, rfl, (tw_gl kw_1821 rfl)⟩
theorem kp_X12_31 : tw_kP 12 31 RX12 TX12 97 (.array (.int)) true := ⟨⟨tyX12, tyX12_ok⟩, nmX12, rfl, by decide +kernel⟩
theorem kf_RX12_176 : tw_kF RX12 176 12 32 RX12 TX12 97 := ⟨rfl, iw_X12, by decide, rfl, (tw_gl kw_1822 rfl)⟩
theorem kp_X12_32 : tw_kP 12 32 RX12 TX12 97 (.array (.int)) true := ⟨⟨tyX12, tyX12_ok⟩, nmX12, rfl, by decide +kernel⟩
theorem kf_RX12_179 : tw_kF RX12 179 12 33 RX12 TX12 97 := ⟨rfl, iw_X12, by decide, rfl, (tw_gl kw_1823 rfl)⟩
theorem kp_X12_33 : tw_kP 12 33 RX12 TX12 97 (.array (.int)) true := ⟨⟨tyX12, tyX12_ok⟩, nmX12, rfl, by decide +kernel⟩
theorem kf_RX12_182 : tw_kF RX12 182 12 34 RX12 TX12 97 := ⟨rfl, iw_X12, by decide, rfl, (tw_gl kw_1824 rfl)⟩
theorem kp_X12_34 : tw_kP 12 34 RX12 TX12 97 (.array (.int)) true := ⟨⟨tyX12, tyX12_ok⟩, nmX12, rfl, by decide +kernel⟩
theorem kf_RX12_142 : tw_kF RX12 142 12 35 RX12 TX12 97 := ⟨rfl, iw_X12, by decide, rfl, (tw_gl kw_1825 rfl)⟩
theorem kp_X12_35 : tw_kP 12 35 RX12 TX12 97 (.array (.boolean)) true := ⟨⟨tyX12, tyX12_ok⟩, nmX12, rfl, by decide +kernel⟩
theorem kf_RX12_39 : tw_kF RX12 39 12 36 RX12 TX12 97 := ⟨rfl, iw_X12, by decide, rfl, (tw_gl kw_1826 rfl)⟩
theorem kp_X12_36 : tw_kP 12 36 RX12 TX12 97 (.array (.int)) true := ⟨⟨tyX12, tyX12_ok⟩, nmX12, rfl, by decide +kernel⟩
theorem kf_RX12_560 : tw_kF RX12 560 12 37 RX12 TX12 97 := ⟨rfl, iw_X12, by decide, rfl, (tw_gl kw_1827 rfl)⟩
theorem kp_X12_37 : tw_kP 12 37 RX12 TX12 97 (.array (.int)) true := ⟨⟨tyX12, tyX12_ok⟩, nmX12, rfl, by decide +kernel⟩
theorem kf_RX12_563 : tw_kF RX12 563 12 38 RX12 TX12 97 := ⟨rfl, iw_X12, by decide, rfl, (tw_gl kw_1828 rfl)⟩
theorem kp_X12_38 : tw_kP 12 38 RX12 TX12 97 (.array (.int)) true := ⟨⟨tyX12, tyX12_ok⟩, nmX12, rfl, by decide +kernel⟩
theorem kf_RX12_191 : tw_kF RX12 191 12 39 RX12 TX12 97 := ⟨rfl, iw_X12, by decide, rfl, (tw_gl kw_1829 rfl)⟩
theorem kp_X12_39 : tw_kP 12 39 RX12 TX12 97 (.array (.int)) true := ⟨⟨tyX12, tyX12_ok⟩, nmX12, rfl, by decide +kernel⟩
theorem kf_RX12_221 : tw_kF RX12 221 12 43 RX12 TX12 97 := ⟨rfl, iw_X12, by decide, rfl, (tw_gl kw_1833 rfl)⟩
theorem kp_X12_43 : tw_kP 12 43 RX12 TX12 97 (.object "java/lang/String") false := ⟨⟨tyX12, tyX12_ok⟩, nmX12, rfl, by decide +kernel⟩
theorem kf_RX12_202 : tw_kF RX12 202 12 44 RX12 TX12 97 := ⟨rfl, iw_X12, by decide, rfl, (tw_gl kw_1834 rfl)⟩
theorem kp_X12_44 : tw_kP 12 44 RX12 TX12 97 (.array (.int)) true := ⟨⟨tyX12, tyX12_ok⟩, nmX12, rfl, by decide +kernel⟩
theorem kf_RX12_208 : tw_kF RX12 208 12 45 RX12 TX12 97 := ⟨rfl, iw_X12, by decide, rfl, (tw_gl kw_1835 rfl)⟩
theorem kp_X12_45 : tw_kP 12 45 RX12 TX12 97 (.array (.int)) true := ⟨⟨tyX12, tyX12_ok⟩, nmX12, rfl, by decide +kernel⟩
theorem kf_RX12_296 : tw_kF RX12 296 12 46 RX12 TX12 97 := ⟨rfl, iw_X12, by decide, rfl, (tw_gl kw_1836 rfl)⟩
theorem kp_X12_46 : tw_kP 12 46 RX12 TX12 97 (.array (.int)) true := ⟨⟨tyX12, tyX12_ok⟩, nmX12, rfl, by decide +kernel⟩
theorem kf_RX12_299 : tw_kF RX12 299 12 48 RX12 TX12 97 := ⟨rfl, iw_X12, by decide, rfl, (tw_gl kw_1838 rfl)⟩
theorem kp_X12_48 : tw_kP 12 48 RX12 TX12 97 (.array (.int)) true := ⟨⟨tyX12, tyX12_ok⟩, nmX12, rfl, by decide +kernel⟩
theorem kf_RX12_309 : tw_kF RX12 309 12 49 RX12 TX12 97 := ⟨rfl, iw_X12, by decide, rfl, (tw_gl kw_1839 rfl)⟩
theorem kp_X12_49 : tw_kP 12 49 RX12 TX12 97 (.array (.int)) true := ⟨⟨tyX12, tyX12_ok⟩, nmX12, rfl, by decide +kernel⟩
theorem kf_RX12_321 : tw_kF RX12 321 12 50 RX12 TX12 97 := ⟨rfl, iw_X12, by decide, rfl, (tw_gl kw_1840 rfl)⟩
theorem kp_X12_50 : tw_kP 12 50 RX12 TX12 97 (.array (.int)) true := ⟨⟨tyX12, tyX12_ok⟩, nmX12, rfl, by decide +kernel⟩
theorem kf_RX12_318 : tw_kF RX12 318 12 51 RX12 TX12 97 := ⟨rfl, iw_X12, by decide, rfl, (tw_gl kw_1841 rfl)⟩
theorem kp_X12_51 : tw_kP 12 51 RX12 TX12 97 (.array (.int)) true := ⟨⟨tyX12, tyX12_ok⟩, nmX12, rfl, by decide +kernel⟩
theorem kf_RX12_324 : tw_kF RX12 324 12 52 RX12 TX12 97 := ⟨rfl, iw_X12, by decide, rfl, (tw_gl kw_1842 rfl)⟩
theorem kp_X12_52 : tw_kP 12 52 RX12 TX12 97 (.array (.int)) true := ⟨⟨tyX12, tyX12_ok⟩, nmX12, rfl, by decide +kernel⟩
theorem kf_RX12_327 : tw_kF RX12 327 12 53 RX12 TX12 97 := ⟨rfl, iw_X12, by decide, rfl, (tw_gl kw_1843 rfl)⟩
theorem kp_X12_53 : tw_kP 12 53 RX12 TX12 97 (.array (.int)) true := ⟨⟨tyX12, tyX12_ok⟩, nmX12, rfl, by decide +kernel⟩
theorem kf_RX12_330 : tw_kF RX12 330 12 54 RX12 TX12 97 := ⟨rfl, iw_X12, by decide, rfl, (tw_gl kw_1844 rfl)⟩
theorem kp_X12_54 : tw_kP 12 54 RX12 TX12 97 (.array (.int)) true := ⟨⟨tyX12, tyX12_ok⟩, nmX12, rfl, by decide +kernel⟩
theorem kf_RX12_333 : tw_kF RX12 333 12 55 RX12 TX12 97 := ⟨rfl, iw_X12, by decide, rfl, (tw_gl kw_1845 rfl)⟩
theorem kp_X12_55 : tw_kP 12 55 RX12 TX12 97 (.array (.int)) true := ⟨⟨tyX12, tyX12_ok⟩, nmX12, rfl, by decide +kernel⟩
theorem kf_RX12_360 : tw_kF RX12 360 12 56 RX12 TX12 97 := ⟨rfl, iw_X12, by decide, rfl, (tw_gl kw_1846 rfl)⟩
theorem kp_X12_56 : tw_kP 12 56 RX12 TX12 97 (.array (.int)) true := ⟨⟨tyX12, tyX12_ok⟩, nmX12, rfl, by decide +kernel⟩
theorem kf_RX12_336 : tw_kF RX12 336 12 57 RX12 TX12 97 := ⟨rfl, iw_X12, by decide, rfl, (tw_gl kw_1847 rfl)⟩
theorem kp_X12_57 : tw_kP 12 57 RX12 TX12 97 (.array (.int)) true := ⟨⟨tyX12, tyX12_ok⟩, nmX12, rfl, by decide +kernel⟩
theorem kf_RX12_339 : tw_kF RX12 339 12 58 RX12 TX12 97 := ⟨rfl, iw_X12, by decide, rfl, (tw_gl kw_1848 rfl)⟩
theorem kp_X12_58 : tw_kP 12 58 RX12 TX12 97 (.array (.int)) true := ⟨⟨tyX12, tyX12_ok⟩, nmX12, rfl, by decide +kernel⟩
theorem kf_RX12_342 : tw_kF RX12 342 12 59 RX12 TX12 97 := ⟨rfl, iw_X12, by decide, rfl, (tw_gl kw_1849 rfl)⟩
theorem kp_X12_59 : tw_kP 12 59 RX12 TX12 97 (.array (.int)) true := ⟨⟨tyX12, tyX12_ok⟩, nmX12, rfl, by decide +kernel⟩
theorem kf_RX12_345 : tw_kF RX12 345 12 60 RX12 TX12 97 := ⟨rfl, iw_X12, by decide, rfl, (tw_gl kw_1850 rfl)⟩
theorem kp_X12_60 : tw_kP 12 60 RX12 TX12 97 (.array (.int)) true := ⟨⟨tyX12, tyX12_ok⟩, nmX12, rfl, by decide +kernel⟩
theorem kf_RX12_348 : tw_kF RX12 348 12 61 RX12 TX12 97 := ⟨rfl, iw_X12, by decide, rfl, (tw_gl kw_1851 rfl)⟩
theorem kp_X12_61 : tw_kP 12 61 RX12 TX12 97 (.array (.int)) true := ⟨⟨tyX12, tyX12_ok⟩, nmX12, rfl, by decide +kernel⟩
theorem kf_RX12_351 : tw_kF RX12 351 12 62 RX12 TX12 97 := ⟨rfl, iw_X12, by decide, rfl, (tw_gl kw_1852 rfl)⟩
theorem kp_X12_62 : tw_kP 12 62 RX12 TX12 97 (.array (.int)) true := ⟨⟨tyX12, tyX12_ok⟩, nmX12, rfl, by decide +kernel⟩
theorem kf_RX12_354 : tw_kF RX12 354 12 63 RX12 TX12 97 := ⟨rfl, iw_X12, by decide, rfl, (tw_gl kw_1853 rfl)⟩
theorem kp_X12_63 : tw_kP 12 63 RX12 TX12 97 (.array (.int)) true := ⟨⟨tyX12, tyX12_ok⟩, nmX12, rfl, by decide +kernel⟩
theorem kf_RX12_357 : tw_kF RX12 357 12 64 RX12 TX12 97 := ⟨rfl, iw_X12, by decide, rfl, (tw_gl kw_1854 rfl)⟩
theorem kp_X12_64 : tw_kP 12 64 RX12 TX12 97 (.array (.int)) true := ⟨⟨tyX12, tyX12_ok⟩, nmX12, rfl, by decide +kernel⟩
theorem kf_RX12_363 : tw_kF RX12 363 12 65 RX12 TX12 97 := ⟨rfl, iw_X12, by decide, rfl, (tw_gl kw_1855 rfl)⟩
theorem kp_X12_65 : tw_kP 12 65 RX12 TX12 97 (.array (.int)) true := ⟨⟨tyX12, tyX12_ok⟩, nmX12, rfl, by decide +kernel⟩
theorem kf_RX12_366 : tw_kF RX12 366 12 66 RX12 TX12 97 := ⟨rfl, iw_X12, by decide, rfl, (tw_gl kw_1856 rfl)⟩
theorem kp_X12_66 : tw_kP 12 66 RX12 TX12 97 (.array (.int)) true := ⟨⟨tyX12, tyX12_ok⟩, nmX12, rfl, by decide +kernel⟩
theorem kf_RX12_405 : tw_kF RX12 405 12 67 RX12 TX12 97 := ⟨rfl, iw_X12, by decide, rfl, (tw_gl kw_1857 rfl)⟩
theorem kp_X12_67 : tw_kP 12 67 RX12 TX12 97 (.array (.int)) true := ⟨⟨tyX12, tyX12_ok⟩, nmX12, rfl, by decide +kernel⟩
theorem kf_RX12_315 : tw_kF RX12 315 12 68 RX12 TX12 97 := ⟨rfl, iw_X12, by decide, rfl, (tw_gl kw_1858 rfl)⟩
theorem kp_X12_68 : tw_kP 12 68 RX12 TX12 97 (.array (.int)) true := ⟨⟨tyX12, tyX12_ok⟩, nmX12, rfl, by decide +kernel⟩
theorem kf_RX12_369 : tw_kF RX12 369 12 69 RX12 TX12 97 := ⟨rfl, iw_X12, by decide, rfl, (tw_gl kw_1859 rfl)⟩
theorem kp_X12_69 : tw_kP 12 69 RX12 TX12 97 (.array (.int)) true := ⟨⟨tyX12, tyX12_ok⟩, nmX12, rfl, by decide +kernel⟩
theorem kf_RX12_429 : tw_kF RX12 429 12 71 RX12 TX12 97 := ⟨rfl, iw_X12, by decide, rfl, (tw_gl kw_1861 rfl)⟩
theorem kp_X12_71 : tw_kP 12 71 RX12 TX12 97 (.array (.boolean)) true := ⟨⟨tyX12, tyX12_ok⟩, nmX12, rfl, by decide +kernel⟩
theorem kf_RX12_465 : tw_kF RX12 465 12 73 RX12 TX12 97 := ⟨rfl, iw_X12, by decide, rfl, (tw_gl kw_1863 rfl)⟩
theorem kp_X12_73 : tw_kP 12 73 RX12 TX12 97 (.array (.int)) true := ⟨⟨tyX12, tyX12_ok⟩, nmX12, rfl, by decide +kernel⟩
theorem kf_RX12_269 : tw_kF RX12 269 12 74 RX12 TX12 97 := ⟨rfl, iw_X12, by decide, rfl, (tw_gl kw_1864 rfl)⟩
theorem kp_X12_74 : tw_kP 12 74 RX12 TX12 97 (.array (.int)) true := ⟨⟨tyX12, tyX12_ok⟩, nmX12, rfl, by decide +kernel⟩
theorem kf_RX12_472 : tw_kF RX12 472 12 76 RX12 TX12 97 := ⟨rfl, iw_X12, by decide, rfl, (tw_gl kw_1866 rfl)⟩
theorem kp_X12_76 : tw_kP 12 76 RX12 TX12 97 (.array (.int)) true := ⟨⟨tyX12, tyX12_ok⟩, nmX12, rfl, by decide +kernel⟩
theorem kf_RX12_475 : tw_kF RX12 475 12 77 RX12 TX12 97 := ⟨rfl, iw_X12, by decide, rfl, (tw_gl kw_1867 rfl)⟩
theorem kp_X12_77 : tw_kP 12 77 RX12 TX12 97 (.array (.int)) true := ⟨⟨tyX12, tyX12_ok⟩, nmX12, rfl, by decide +kernel⟩
theorem kf_RX12_478 : tw_kF RX12 478 12 78 RX12 TX12 97 := ⟨rfl, iw_X12, by decide, rfl, (tw_gl kw_1868 rfl)⟩
theorem kp_X12_78 : tw_kP 12 78 RX12 TX12 97 (.array (.int)) true := ⟨⟨tyX12, tyX12_ok⟩, nmX12, rfl, by decide +kernel⟩
theorem kf_RX12_481 : tw_kF RX12 481 12 79 RX12 TX12 97 := ⟨rfl, iw_X12, by decide, rfl, (tw_gl kw_1869 rfl)⟩
theorem kp_X12_79 : tw_kP 12 79 RX12 TX12 97 (.array (.int)) true := ⟨⟨tyX12, tyX12_ok⟩, nmX12, rfl, by decide +kernel⟩
theorem kf_RX12_490 : tw_kF RX12 490 12 80 RX12 TX12 97 := ⟨rfl, iw_X12, by decide, rfl, (tw_gl kw_1870 rfl)⟩
theorem kp_X12_80 : tw_kP 12 80 RX12 TX12 97 (.array (.boolean)) true := ⟨⟨tyX12, tyX12_ok⟩, nmX12, rfl, by decide +kernel⟩
theorem kf_RX12_493 : tw_kF RX12 493 12 81 RX12 TX12 97 := ⟨rfl, iw_X12, by decide, rfl, (tw_gl kw_1871 rfl)⟩
theorem kp_X12_81 : tw_kP 12 81 RX12 TX12 97 (.array (.int)) true := ⟨⟨tyX12, tyX12_ok⟩, nmX12, rfl, by decide +kernel⟩
theorem kf_RX12_508 : tw_kF RX12 508 12 83 RX12 TX12 97 := ⟨rfl, iw_X12, by decide, rfl, (tw_gl kw_1873 rfl)⟩
theorem kp_X12_83 : tw_kP 12 83 RX12 TX12 97 (.array (.int)) true := ⟨⟨tyX12, tyX12_ok⟩, nmX12, rfl, by decide +kernel⟩
theorem kf_RX12_511 : tw_kF RX12 511 12 84 RX12 TX12 97 := ⟨rfl, iw_X12, by decide, rfl, (tw_gl kw_1874 rfl)⟩
theorem kp_X12_84 : tw_kP 12 84 RX12 TX12 97 (.array (.int)) true := ⟨⟨tyX12, tyX12_ok⟩, nmX12, rfl, by decide +kernel⟩
theorem kf_RX12_514 : tw_kF RX12 514 12 85 RX12 TX12 97 := ⟨rfl, iw_X12, by decide, rfl, (tw_gl kw_1875 rfl)⟩
theorem kp_X12_85 : tw_kP 12 85 RX12 TX12 97 (.array (.int)) true := ⟨⟨tyX12, tyX12_ok⟩, nmX12, rfl, by decide +kernel⟩
theorem kf_RX12_517 : tw_kF RX12 517 12 86 RX12 TX12 97 := ⟨rfl, iw_X12, by decide, rfl, (tw_gl kw_1876 rfl)⟩
theorem kp_X12_86 : tw_kP 12 86 RX12 TX12 97 (.array (.int)) true := ⟨⟨tyX12, tyX12_ok⟩, nmX12, rfl, by decide +kernel⟩
theorem kf_RX12_520 : tw_kF RX12 520 12 87 RX12 TX12 97 := ⟨rfl, iw_X12, by decide, rfl, (tw_gl kw_1877 rfl)⟩
theorem kp_X12_87 : tw_kP 12 87 RX12 TX12 97 (.array (.int)) true := ⟨⟨tyX12, tyX12_ok⟩, nmX12, rfl, by decide +kernel⟩
theorem kf_RX12_537 : tw_kF RX12 537 12 91 RX12 TX12 97 := ⟨rfl, iw_X12, by decide, rfl, (tw_gl kw_1881 rfl)⟩
theorem kp_X12_91 : tw_kP 12 91 RX12 TX12 97 (.array (.int)) true := ⟨⟨tyX12, tyX12_ok⟩, nmX12, rfl, by decide +kernel⟩
theorem kf_RX12_540 : tw_kF RX12 540 12 92 RX12 TX12 97 := ⟨rfl, iw_X12, by decide, rfl, (tw_gl kw_1882 rfl)⟩
theorem kp_X12_92 : tw_kP 12 92 RX12 TX12 97 (.array (.int)) true := ⟨⟨tyX12, tyX12_ok⟩, nmX12, rfl, by decide +kernel⟩
theorem kf_RX12_569 : tw_kF RX12 569 12 93 RX12 TX12 97 := ⟨rfl, iw_X12, by decide, rfl, (tw_gl kw_1883 rfl)⟩
theorem kp_X12_93 : tw_kP 12 93 RX12 TX12 97 (.array (.int)) true := ⟨⟨tyX12, tyX12_ok⟩, nmX12, rfl, by decide +kernel⟩
theorem kf_RX12_572 : tw_kF RX12 572 12 94 RX12 TX12 97 := ⟨rfl, iw_X12, by decide, rfl, (tw_gl kw_1884 rfl)⟩
theorem kp_X12_94 : tw_kP 12 94 RX12 TX12 97 (.array (.int)) true := ⟨⟨tyX12, tyX12_ok⟩, nmX12, rfl, by decide +kernel⟩
theorem kf_RX12_575 : tw_kF RX12 575 12 95 RX12 TX12 97 := ⟨rfl, iw_X12, by decide, rfl, (tw_gl kw_1885 rfl)⟩
theorem kp_X12_95 : tw_kP 12 95 RX12 TX12 97 (.array (.int)) true := ⟨⟨tyX12, tyX12_ok⟩, nmX12, rfl, by decide +kernel⟩
theorem kf_RX12_578 : tw_kF RX12 578 12 96 RX12 TX12 97 := ⟨rfl, iw_X12, by decide, rfl, (tw_gl kw_1886 rfl)⟩
theorem kp_X12_96 : tw_kP 12 96 RX12 TX12 97 (.array (.int)) true := ⟨⟨tyX12, tyX12_ok⟩, nmX12, rfl, by decide +kernel⟩
theorem kf_RX12_24 : tw_kF RX12 24 12 8 RX12 TX12 97 := ⟨rfl, iw_X12, by decide, rfl, (tw_gl kw_1798 rfl)⟩
theorem kp_X12_8 : tw_kP 12 8 RX12 TX12 97 (.int) false := ⟨⟨tyX12, tyX12_ok⟩, nmX12, rfl, by decide +kernel⟩
theorem kf_RX12_27 : tw_kF RX12 27 12 12 RX12 TX12 97 := ⟨rfl, iw_X12, by decide, rfl, (tw_gl kw_1802 rfl)⟩
theorem kp_X12_12 : tw_kP 12 12 RX12 TX12 97 (.int) false := ⟨⟨tyX12, tyX12_ok⟩, nmX12, rfl, by decide +kernel⟩
theorem kf_RX12_30 : tw_kF RX12 30 12 17 RX12 TX12 97 := ⟨rfl, iw_X12, by decide, rfl, (tw_gl kw_1807 rfl)⟩
theorem kp_X12_17 : tw_kP 12 17 RX12 TX12 97 (.int) false := ⟨⟨tyX12, tyX12_ok⟩, nmX12, rfl, by decide +kernel⟩
theorem kf_RX12_33 : tw_kF RX12 33 12 72 RX12 TX12 97 := ⟨rfl, iw_X12, by decide, rfl, (tw_gl kw_1862 rfl)⟩
theorem kp_X12_72 : tw_kP 12 72 RX12 TX12 97 (.int) false := ⟨⟨tyX12, tyX12_ok⟩, nmX12, rfl, by decide +kernel⟩
theorem kf_RX12_36 : tw_kF RX12 36 12 75 RX12 TX12 97 := ⟨rfl, iw_X12, by decide, rfl, (tw_gl kw_1865 rfl)⟩
theorem kp_X12_75 : tw_kP 12 75 RX12 TX12 97 (.int) false := ⟨⟨tyX12, tyX12_ok⟩, nmX12, rfl, by decide +kernel⟩
theorem km_X12_lays : tw_kM yX12_lays cX12_lays 4 none 2 := ⟨(tw_gl kw_14 rfl), (tw_gl kw_1355 rfl), by decide, by decide, by decide +kernel⟩
theorem kv_X12_lays : tw_kV yX12_lays := ⟨(tw_gl kw_1353 rfl), tw_gl (List.mem_append_left _ (List.mem_map.mpr ⟨(yX12_lays, _), List.mem_append_right _ (List.mem_append_right _ (List.mem_append_left _ (List.mem_of_getElem? (i := 8) rfl))), rfl⟩)) rfl⟩
theorem kg1_0_0 : jm_kg wd1 0 0 11 (fun _ ad i _ => .ref (ad (jm_r wd1 1 ((fun i => i) i)))) := fun _ _ _ _ => ⟨_, rfl, rfl⟩
theorem kx1_1_0 : jm_kp wd1 1 0 0 9 := fun _ _ _ _ _ => ⟨_, rfl, Nat.le_of_ble_eq_true rfl, rfl⟩
theorem kx1_1_1 : jm_kp wd1 1 1 1 9 := fun _ _ _ _ _ => ⟨_, rfl, Nat.le_of_ble_eq_true rfl, rfl⟩
theorem kg1_1_7 : jm_kg wd1 1 7 9 (fun _ ad i _ => .ref (ad (jm_r wd1 10 ((fun i => (i + 30)) i)))) := fun _ _ _ _ => ⟨_, rfl, rfl⟩
theorem kx1_10_3 : jm_kp wd1 10 3 3 7 := fun _ _ _ _ _ => ⟨_, rfl, Nat.le_of_ble_eq_true rfl, rfl⟩
theorem kg1_1_8 : jm_kg wd1 1 8 9 (fun _ ad i _ => .ref (ad (jm_r wd1 10 ((fun i => (i + 31)) i)))) := fun _ _ _ _ => ⟨_, rfl, rfl⟩
theorem kg1_1_2 : jm_kg wd1 1 2 9 (fun _ ad i _ => .ref (ad (jm_r wd1 14 ((fun i => i) i)))) := fun _ _ _ _ => ⟨_, rfl, rfl⟩
theorem kg1_1_3 : jm_kg wd1 1 3 9 (fun _ ad i _ => .ref (ad (jm_r wd1 15 ((fun i => i) i)))) := fun _ _ _ _ => ⟨_, rfl, rfl⟩
theorem kg1_1_4 : jm_kg wd1 1 4 9 (fun _ ad i _ => .ref (ad (jm_r wd1 16 ((fun i => i) i)))) := fun _ _ _ _ => ⟨_, rfl, rfl⟩
theorem kg_552 : (Jvm.Cond.methodLink "RaceByLaps" (76 : Nat) ({ cls := "RaceByLaps$Track", name := "layAnew", desc := "(II)V" } : Jvm.MethodName)) ∈ lw_g := tw_gl kw_552 rfl
theorem kg1_0_1 : jm_kg wd1 0 1 11 (fun _ ad i _ => .ref (ad (jm_r wd1 2 ((fun i => i) i)))) := fun _ _ _ _ => ⟨_, rfl, rfl⟩
theorem kf_RX11_80 : tw_kF RX11 80 2 5 RX2 TX2 8 := ⟨rfl, iw_X2, by decide, rfl, (tw_gl kw_362 rfl)⟩
theorem kp_X2_5 : tw_kP 2 5 RX2 TX2 8 (.int) false := ⟨⟨tyX2, tyX2_ok⟩, nmX2, rfl, by decide +kernel⟩
theorem kx1_2_5 : jm_kp wd1 2 5 5 2 := fun _ _ _ _ _ => ⟨_, rfl, Nat.le_of_ble_eq_true rfl, rfl⟩
theorem kf_RX11_84 : tw_kF RX11 84 2 7 RX2 TX2 8 := ⟨rfl, iw_X2, by decide, rfl, (tw_gl kw_364 rfl)⟩
theorem kp_X2_7 : tw_kP 2 7 RX2 TX2 8 (.boolean) false := ⟨⟨tyX2, tyX2_ok⟩, nmX2, rfl, by decide +kernel⟩
theorem kx1_2_7 : jm_kp wd1 2 7 7 2 := fun _ _ _ _ _ => ⟨_, rfl, Nat.le_of_ble_eq_true rfl, rfl⟩
theorem kg1_0_2 : jm_kg wd1 0 2 11 (fun _ ad i _ => .ref (ad (jm_r wd1 3 ((fun i => i) i)))) := fun _ _ _ _ => ⟨_, rfl, rfl⟩
theorem kf_RX11_88 : tw_kF RX11 88 0 3 RX0 TX0 5 := ⟨rfl, iw_X0, by decide, rfl, (tw_gl kw_398 rfl)⟩
theorem kp_X0_3 : tw_kP 0 3 RX0 TX0 5 (.int) false := ⟨⟨tyX0, tyX0_ok⟩, nmX0, rfl, by decide +kernel⟩
theorem kx1_3_3 : jm_kp wd1 3 3 3 0 := fun _ _ _ _ _ => ⟨_, rfl, Nat.le_of_ble_eq_true rfl, rfl⟩
theorem kf_RX11_91 : tw_kF RX11 91 0 4 RX0 TX0 5 := ⟨rfl, iw_X0, by decide, rfl, (tw_gl kw_400 rfl)⟩
theorem kg1_3_4 : jm_kg wd1 3 4 0 (fun _ ad i _ => .ref (ad (jm_r wd1 10 ((fun i => (i + 32)) i)))) := fun _ _ _ _ => ⟨_, rfl, rfl⟩
theorem kf_RX11_95 : tw_kF RX11 95 7 3 RX7 TX7 4 := ⟨rfl, iw_X7, by decide, rfl, (tw_gl kw_71 rfl)⟩
theorem kg1_1_0 : jm_kg wd1 1 0 9 (fun _ _ _ g => jm_i (g 0)) := fun _ _ _ _ => ⟨_, rfl, rfl⟩
theorem km_X11_isIndex : tw_kM yX11_isIndex cX11_isIndex 2 (some .boolean) 2 := ⟨(tw_gl kw_1 rfl), (tw_gl kw_563 rfl), by decide, by decide, by decide +kernel⟩
theorem kg_562 : (Jvm.Cond.static ({ cls := "RaceByLaps", name := "isIndex", desc := "(II)Z" } : Jvm.MethodName)) ∈ lw_g := tw_gl kw_562 rfl
theorem km_X9_hasSector : tw_kM yX9_hasSector cX9_hasSector 2 (some .boolean) 1 := ⟨(tw_gl kw_3 rfl), (tw_gl kw_560 rfl), by decide, by decide, by decide +kernel⟩
theorem kg_557 : (Jvm.Cond.methodLink "RaceByLaps" (100 : Nat) ({ cls := "RaceByLaps$Track", name := "hasSector", desc := "(I)Z" } : Jvm.MethodName)) ∈ lw_g := tw_gl kw_557 rfl
theorem kv_X9_hasSector : tw_kV yX9_hasSector := ⟨(tw_gl kw_558 rfl), tw_gl kw_559 rfl⟩
theorem kg_564 : (Jvm.Cond.constant "RaceByLaps" (104 : Nat) (60000 : Int32)) ∈ lw_g := tw_gl kw_564 rfl
theorem km_X11_isWithin : tw_kM yX11_isWithin cX11_isWithin 3 (some .boolean) 3 := ⟨(tw_gl kw_1 rfl), (tw_gl kw_567 rfl), by decide, by decide, by decide +kernel⟩
theorem kg_565 : (Jvm.Cond.methodLink "RaceByLaps" (105 : Nat) ({ cls := "RaceByLaps", name := "isWithin", desc := "(III)Z" } : Jvm.MethodName)) ∈ lw_g := tw_gl kw_565 rfl
theorem kg_566 : (Jvm.Cond.static ({ cls := "RaceByLaps", name := "isWithin", desc := "(III)Z" } : Jvm.MethodName)) ∈ lw_g := tw_gl kw_566 rfl
theorem kf_RX11_109 : tw_kF RX11 109 9 2 RX9 TX9 9 := ⟨rfl, iw_X9, by decide, rfl, (tw_gl kw_100 rfl)⟩
theorem kf_RX11_112 : tw_kF RX11 112 9 3 RX9 TX9 9 := ⟨rfl, iw_X9, by decide, rfl, (tw_gl kw_103 rfl)⟩
theorem kg_572 : (Jvm.Cond.methodLink "RaceByLaps" (115 : Nat) ({ cls := "RaceByLaps", name := "isIndex", desc := "(II)Z" } : Jvm.MethodName)) ∈ lw_g := tw_gl kw_572 rfl
theorem kg_573 : (Jvm.Cond.fieldLink "RaceByLaps" (119 : Nat) "RaceByLaps" "TYRES_MOST" "[I") ∈ lw_g := tw_gl kw_573 rfl
theorem kg1_1_5 : jm_kg wd1 1 5 9 (fun _ ad i _ => .ref (ad (jm_r wd1 17 ((fun i => i) i)))) := fun _ _ _ _ => ⟨_, rfl, rfl⟩
theorem km_X9_tyreNumber : tw_kM yX9_tyreNumber cX9_tyreNumber 3 (some .int) 2 := ⟨(tw_gl kw_3 rfl), (tw_gl kw_578 rfl), by decide, by decide, by decide +kernel⟩
theorem kg_575 : (Jvm.Cond.methodLink "RaceByLaps" (122 : Nat) ({ cls := "RaceByLaps$Track", name := "tyreNumber", desc := "(II)I" } : Jvm.MethodName)) ∈ lw_g := tw_gl kw_575 rfl
theorem kv_X9_tyreNumber : tw_kV yX9_tyreNumber := ⟨(tw_gl kw_576 rfl), tw_gl kw_577 rfl⟩
theorem kf_RX11_126 : tw_kF RX11 126 9 5 RX9 TX9 9 := ⟨rfl, iw_X9, by decide, rfl, (tw_gl kw_108 rfl)⟩
theorem kg_583 : (Jvm.Cond.fieldLink "RaceByLaps" (129 : Nat) "RaceByLaps" "NUMBERS_LEAST" "[I") ∈ lw_g := tw_gl kw_583 rfl
theorem kg_585 : (Jvm.Cond.fieldLink "RaceByLaps" (132 : Nat) "RaceByLaps" "NUMBERS_MOST" "[I") ∈ lw_g := tw_gl kw_585 rfl
theorem kf_RX11_135 : tw_kF RX11 135 9 6 RX9 TX9 9 := ⟨rfl, iw_X9, by decide, rfl, (tw_gl kw_110 rfl)⟩
theorem kg1_1_6 : jm_kg wd1 1 6 9 (fun _ ad i _ => .ref (ad (jm_r wd1 18 ((fun i => i) i)))) := fun _ _ _ _ => ⟨_, rfl, rfl⟩
theorem kf_RX11_138 : tw_kF RX11 138 9 7 RX9 TX9 9 := ⟨rfl, iw_X9, by decide, rfl, (tw_gl kw_113 rfl)⟩
theorem kf_RX7_28 : tw_kF RX7 28 7 3 RX7 TX7 4 := ⟨rfl, iw_X7, by decide, rfl, (tw_gl kw_66 rfl)⟩
theorem kg1_10_3 : jm_kg wd1 10 3 7 (fun _ _ _ g => jm_i (g 3)) := fun _ _ _ _ => ⟨_, rfl, rfl⟩
theorem kg1_10_0 : jm_kg wd1 10 0 7 (fun _ _ _ g => jm_i (g 0)) := fun _ _ _ _ => ⟨_, rfl, rfl⟩
theorem km_X7_isFull : tw_kM yX7_isFull cX7_isFull 1 (some .boolean) 0 := ⟨(tw_gl kw_4 rfl), (tw_gl kw_598 rfl), by decide, by decide, by decide +kernel⟩
theorem kg_595 : (Jvm.Cond.methodLink "RaceByLaps$Table" (31 : Nat) ({ cls := "RaceByLaps$Table", name := "isFull", desc := "()Z" } : Jvm.MethodName)) ∈ lw_g := tw_gl kw_595 rfl
theorem kv_X7_isFull : tw_kV yX7_isFull := ⟨(tw_gl kw_596 rfl), tw_gl kw_597 rfl⟩
theorem kg1_10_1 : jm_kg wd1 10 1 7 (fun _ _ _ g => jm_i (g 1)) := fun _ _ _ _ => ⟨_, rfl, rfl⟩
theorem kg1_10_2 : jm_kg wd1 10 2 7 (fun _ ad i _ => .ref (ad (jm_r wd1 19 ((fun i => i) i)))) := fun _ _ _ _ => ⟨_, rfl, rfl⟩
theorem km_X7_put : tw_kM yX7_put cX7_put 4 none 3 := ⟨(tw_gl kw_4 rfl), (tw_gl kw_602 rfl), by decide, by decide, by decide +kernel⟩
theorem kg_599 : (Jvm.Cond.methodLink "RaceByLaps$Table" (35 : Nat) ({ cls := "RaceByLaps$Table", name := "put", desc := "(III)V" } : Jvm.MethodName)) ∈ lw_g := tw_gl kw_599 rfl
theorem kv_X7_put : tw_kV yX7_put := ⟨(tw_gl kw_600 rfl), tw_gl kw_601 rfl⟩
theorem km_X7_push : tw_kM yX7_push cX7_push 5 (some .int) 4 := ⟨(tw_gl kw_4 rfl), (tw_gl kw_594 rfl), by decide, by decide, by decide +kernel⟩
theorem kg_591 : (Jvm.Cond.methodLink "RaceByLaps" (141 : Nat) ({ cls := "RaceByLaps$Table", name := "push", desc := "(IIII)I" } : Jvm.MethodName)) ∈ lw_g := tw_gl kw_591 rfl
theorem kv_X7_push : tw_kV yX7_push := ⟨(tw_gl kw_592 rfl), tw_gl kw_593 rfl⟩
theorem kf_RX11_145 : tw_kF RX11 145 9 8 RX9 TX9 9 := ⟨rfl, iw_X9, by decide, rfl, (tw_gl kw_115 rfl)⟩
theorem kg1_2_5 : jm_kg wd1 2 5 2 (fun _ _ _ g => jm_i (g 5)) := fun _ _ _ _ => ⟨_, rfl, rfl⟩
theorem kf_RX11_148 : tw_kF RX11 148 2 2 RX2 TX2 8 := ⟨rfl, iw_X2, by decide, rfl, (tw_gl kw_355 rfl)⟩
theorem kg1_2_2 : jm_kg wd1 2 2 2 (fun _ ad i _ => .ref (ad (jm_r wd1 46 ((fun i => i) i)))) := fun _ _ _ _ => ⟨_, rfl, rfl⟩
theorem kg1_8_6 : jm_kg wd1 8 6 1 (fun _ ad i _ => .ref (ad (jm_r wd1 10 ((fun i => i) i)))) := fun _ _ _ _ => ⟨_, rfl, rfl⟩
theorem kf_RX1_39 : tw_kF RX1 39 7 3 RX7 TX7 4 := ⟨rfl, iw_X7, by decide, rfl, (tw_gl kw_67 rfl)⟩
theorem kg1_8_7 : jm_kg wd1 8 7 1 (fun _ ad i _ => .ref (ad (jm_r wd1 10 ((fun i => (i + 6)) i)))) := fun _ _ _ _ => ⟨_, rfl, rfl⟩
theorem kg1_8_8 : jm_kg wd1 8 8 1 (fun _ ad i _ => .ref (ad (jm_r wd1 10 ((fun i => (i + 12)) i)))) := fun _ _ _ _ => ⟨_, rfl, rfl⟩
theorem kg1_8_9 : jm_kg wd1 8 9 1 (fun _ ad i _ => .ref (ad (jm_r wd1 10 ((fun i => (i + 18)) i)))) := fun _ _ _ _ => ⟨_, rfl, rfl⟩
theorem kf_RX1_43 : tw_kF RX1 43 1 12 RX1 TX1 14 := ⟨rfl, iw_X1, by decide, rfl, (tw_gl kw_224 rfl)⟩
theorem kp_X1_12 : tw_kP 1 12 RX1 TX1 14 (.boolean) false := ⟨⟨tyX1, tyX1_ok⟩, nmX1, rfl, by decide +kernel⟩
theorem kx1_8_12 : jm_kp wd1 8 12 12 1 := fun _ _ _ _ _ => ⟨_, rfl, Nat.le_of_ble_eq_true rfl, rfl⟩
theorem kf_RX1_47 : tw_kF RX1 47 1 13 RX1 TX1 14 := ⟨rfl, iw_X1, by decide, rfl, (tw_gl kw_226 rfl)⟩
theorem kp_X1_13 : tw_kP 1 13 RX1 TX1 14 (.boolean) false := ⟨⟨tyX1, tyX1_ok⟩, nmX1, rfl, by decide +kernel⟩
theorem kx1_8_13 : jm_kp wd1 8 13 13 1 := fun _ _ _ _ _ => ⟨_, rfl, Nat.le_of_ble_eq_true rfl, rfl⟩
theorem km_X1_forget : tw_kM yX1_forget cX1_forget 1 none 0 := ⟨(tw_gl kw_7 rfl), (tw_gl kw_614 rfl), by decide, by decide, by decide +kernel⟩
theorem kg_611 : (Jvm.Cond.methodLink "RaceByLaps" (152 : Nat) ({ cls := "RaceByLaps$Car", name := "forget", desc := "()V" } : Jvm.MethodName)) ∈ lw_g := tw_gl kw_611 rfl
theorem kv_X1_forget : tw_kV yX1_forget := ⟨(tw_gl kw_612 rfl), tw_gl kw_613 rfl⟩
theorem kf_RX11_157 : tw_kF RX11 157 1 0 RX1 TX1 14 := ⟨rfl, iw_X1, by decide, rfl, (tw_gl kw_191 rfl)⟩
theorem kp_X1_0 : tw_kP 1 0 RX1 TX1 14 (.int) false := ⟨⟨tyX1, tyX1_ok⟩, nmX1, rfl, by decide +kernel⟩
theorem kx1_8_0 : jm_kp wd1 8 0 0 1 := fun _ _ _ _ _ => ⟨_, rfl, Nat.le_of_ble_eq_true rfl, rfl⟩
theorem kf_RX11_160 : tw_kF RX11 160 1 1 RX1 TX1 14 := ⟨rfl, iw_X1, by decide, rfl, (tw_gl kw_193 rfl)⟩
theorem kp_X1_1 : tw_kP 1 1 RX1 TX1 14 (.int) false := ⟨⟨tyX1, tyX1_ok⟩, nmX1, rfl, by decide +kernel⟩
theorem kx1_8_1 : jm_kp wd1 8 1 1 1 := fun _ _ _ _ _ => ⟨_, rfl, Nat.le_of_ble_eq_true rfl, rfl⟩
theorem kf_RX11_163 : tw_kF RX11 163 1 2 RX1 TX1 14 := ⟨rfl, iw_X1, by decide, rfl, (tw_gl kw_196 rfl)⟩
theorem kp_X1_2 : tw_kP 1 2 RX1 TX1 14 (.int) false := ⟨⟨tyX1, tyX1_ok⟩, nmX1, rfl, by decide +kernel⟩
theorem kx1_8_2 : jm_kp wd1 8 2 2 1 := fun _ _ _ _ _ => ⟨_, rfl, Nat.le_of_ble_eq_true rfl, rfl⟩
theorem kf_RX11_166 : tw_kF RX11 166 1 3 RX1 TX1 14 := ⟨rfl, iw_X1, by decide, rfl, (tw_gl kw_198 rfl)⟩
theorem kp_X1_3 : tw_kP 1 3 RX1 TX1 14 (.int) false := ⟨⟨tyX1, tyX1_ok⟩, nmX1, rfl, by decide +kernel⟩
theorem kx1_8_3 : jm_kp wd1 8 3 3 1 := fun _ _ _ _ _ => ⟨_, rfl, Nat.le_of_ble_eq_true rfl, rfl⟩
theorem kf_RX11_169 : tw_kF RX11 169 1 4 RX1 TX1 14 := ⟨rfl, iw_X1, by decide, rfl, (tw_gl kw_202 rfl)⟩
theorem kp_X1_4 : tw_kP 1 4 RX1 TX1 14 (.int) false := ⟨⟨tyX1, tyX1_ok⟩, nmX1, rfl, by decide +kernel⟩
theorem kx1_8_4 : jm_kp wd1 8 4 4 1 := fun _ _ _ _ _ => ⟨_, rfl, Nat.le_of_ble_eq_true rfl, rfl⟩
theorem kf_RX11_172 : tw_kF RX11 172 1 5 RX1 TX1 14 := ⟨rfl, iw_X1, by decide, rfl, (tw_gl kw_204 rfl)⟩
theorem kp_X1_5 : tw_kP 1 5 RX1 TX1 14 (.int) false := ⟨⟨tyX1, tyX1_ok⟩, nmX1, rfl, by decide +kernel⟩
theorem kx1_8_5 : jm_kp wd1 8 5 5 1 := fun _ _ _ _ _ => ⟨_, rfl, Nat.le_of_ble_eq_true rfl, rfl⟩
theorem kf_RX2_37 : tw_kF RX2 37 2 5 RX2 TX2 8 := ⟨rfl, iw_X2, by decide, rfl, (tw_gl kw_360 rfl)⟩
theorem km_X2_has : tw_kM yX2_has cX2_has 2 (some .boolean) 1 := ⟨(tw_gl kw_6 rfl), (tw_gl kw_622 rfl), by decide, by decide, by decide +kernel⟩
theorem kg_619 : (Jvm.Cond.methodLink "RaceByLaps" (175 : Nat) ({ cls := "RaceByLaps$Race", name := "has", desc := "(I)Z" } : Jvm.MethodName)) ∈ lw_g := tw_gl kw_619 rfl
theorem kv_X2_has : tw_kV yX2_has := ⟨(tw_gl kw_620 rfl), tw_gl kw_621 rfl⟩
theorem kf_RX11_178 : tw_kF RX11 178 1 6 RX1 TX1 14 := ⟨rfl, iw_X1, by decide, rfl, (tw_gl kw_209 rfl)⟩
theorem kg_624 : (Jvm.Cond.methodLink "RaceByLaps" (181 : Nat) ({ cls := "RaceByLaps$Table", name := "isFull", desc := "()Z" } : Jvm.MethodName)) ∈ lw_g := tw_gl kw_624 rfl
theorem kf_RX11_185 : tw_kF RX11 185 9 1 RX9 TX9 9 := ⟨rfl, iw_X9, by decide, rfl, (tw_gl kw_97 rfl)⟩
theorem kg1_1_1 : jm_kg wd1 1 1 9 (fun _ _ _ g => jm_i (g 1)) := fun _ _ _ _ => ⟨_, rfl, rfl⟩
theorem kf_RX11_188 : tw_kF RX11 188 1 7 RX1 TX1 14 := ⟨rfl, iw_X1, by decide, rfl, (tw_gl kw_212 rfl)⟩
theorem kf_RX11_191 : tw_kF RX11 191 1 8 RX1 TX1 14 := ⟨rfl, iw_X1, by decide, rfl, (tw_gl kw_214 rfl)⟩
theorem km_X7_cell : tw_kM yX7_cell cX7_cell 3 (some .int) 2 := ⟨(tw_gl kw_4 rfl), (tw_gl kw_644 rfl), by decide, by decide, by decide +kernel⟩
theorem kg_641 : (Jvm.Cond.methodLink "RaceByLaps$Table" (39 : Nat) ({ cls := "RaceByLaps$Table", name := "cell", desc := "(II)I" } : Jvm.MethodName)) ∈ lw_g := tw_gl kw_641 rfl
theorem kv_X7_cell : tw_kV yX7_cell := ⟨(tw_gl kw_642 rfl), tw_gl kw_643 rfl⟩
theorem km_X7_removeAt : tw_kM yX7_removeAt cX7_removeAt 4 (some .int) 1 := ⟨(tw_gl kw_4 rfl), (tw_gl kw_640 rfl), by decide, by decide, by decide +kernel⟩
theorem kg_637 : (Jvm.Cond.methodLink "RaceByLaps" (194 : Nat) ({ cls := "RaceByLaps$Table", name := "removeAt", desc := "(I)I" } : Jvm.MethodName)) ∈ lw_g := tw_gl kw_637 rfl
theorem kv_X7_removeAt : tw_kV yX7_removeAt := ⟨(tw_gl kw_638 rfl), tw_gl kw_639 rfl⟩
theorem kf_RX11_218 : tw_kF RX11 218 11 7 RX11 TX11 11 := ⟨rfl, iw_X11, by decide, rfl, (tw_gl kw_521 rfl)⟩
theorem kg1_0_7 : jm_kg wd1 0 7 11 (fun _ _ _ g => jm_i (g 7)) := fun _ _ _ _ => ⟨_, rfl, rfl⟩
theorem kp_X11_7 : tw_kP 11 7 RX11 TX11 11 (.int) false := ⟨⟨tyX11, tyX11_ok⟩, nmX11, rfl, by decide +kernel⟩
theorem kx1_0_7 : jm_kp wd1 0 7 7 11 := fun _ _ _ _ _ => ⟨_, rfl, Nat.le_of_ble_eq_true rfl, rfl⟩
theorem km_X11_takeTape : tw_kM yX11_takeTape cX11_takeTape 2 (some .int) 0 := ⟨(tw_gl kw_1 rfl), (tw_gl kw_652 rfl), by decide, by decide, by decide +kernel⟩
theorem kg_649 : (Jvm.Cond.methodLink "RaceByLaps" (198 : Nat) ({ cls := "RaceByLaps", name := "takeTape", desc := "()I" } : Jvm.MethodName)) ∈ lw_g := tw_gl kw_649 rfl
theorem kv_X11_takeTape : tw_kV yX11_takeTape := ⟨(tw_gl kw_651 rfl), tw_gl (List.mem_append_left _ (List.mem_map.mpr ⟨(yX11_takeTape, _), List.mem_append_left _ (List.mem_of_getElem? (i := 0) rfl), rfl⟩)) rfl⟩
theorem kg1_0_5 : jm_kg wd1 0 5 11 (fun _ ad i _ => .ref (ad (jm_r wd1 6 ((fun i => i) i)))) := fun _ _ _ _ => ⟨_, rfl, rfl⟩
theorem kg1_0_6 : jm_kg wd1 0 6 11 (fun _ ad i _ => .ref (ad (jm_r wd1 12 ((fun i => i) i)))) := fun _ _ _ _ => ⟨_, rfl, rfl⟩
theorem kg1_0_10 : jm_kg wd1 0 10 11 (fun _ ad _ g => jm_tv wd1 ad 11 (g 10)) := fun _ _ _ _ => ⟨_, rfl, rfl⟩
theorem kf_RX3_19 : tw_kF RX3 19 3 7 RX3 TX3 9 := ⟨rfl, iw_X3, by decide, rfl, (tw_gl kw_491 rfl)⟩
theorem kp_X3_7 : tw_kP 3 7 RX3 TX3 9 (.boolean) false := ⟨⟨tyX3, tyX3_ok⟩, nmX3, rfl, by decide +kernel⟩
theorem kx1_6_7 : jm_kp wd1 6 7 7 3 := fun _ _ _ _ _ => ⟨_, rfl, Nat.le_of_ble_eq_true rfl, rfl⟩
theorem kf_RX3_23 : tw_kF RX3 23 3 8 RX3 TX3 9 := ⟨rfl, iw_X3, by decide, rfl, (tw_gl kw_492 rfl)⟩
theorem kp_X3_8 : tw_kP 3 8 RX3 TX3 9 (.object "RaceByLaps$Text") false := ⟨⟨tyX3, tyX3_ok⟩, nmX3, rfl, by decide +kernel⟩
theorem kx1_6_8 : jm_kpt wd1 6 8 8 3 11 := fun _ _ _ _ _ => ⟨_, rfl, Nat.le_of_ble_eq_true rfl, rfl⟩
theorem kg1_6_8 : jm_kg wd1 6 8 3 (fun _ ad _ g => jm_tv wd1 ad 11 (g 8)) := fun _ _ _ _ => ⟨_, rfl, rfl⟩
theorem kf_RX8_27 : tw_kF RX8 27 8 1 RX8 TX8 8 := ⟨rfl, iw_X8, by decide, rfl, (tw_gl kw_160 rfl)⟩
theorem kp_X8_1 : tw_kP 8 1 RX8 TX8 8 (.int) false := ⟨⟨tyX8, tyX8_ok⟩, nmX8, rfl, by decide +kernel⟩
theorem kx1_11_1 : jm_kp wd1 11 1 1 8 := fun _ _ _ _ _ => ⟨_, rfl, Nat.le_of_ble_eq_true rfl, rfl⟩
theorem kf_RX8_31 : tw_kF RX8 31 8 6 RX8 TX8 8 := ⟨rfl, iw_X8, by decide, rfl, (tw_gl kw_169 rfl)⟩
theorem kp_X8_6 : tw_kP 8 6 RX8 TX8 8 (.int) false := ⟨⟨tyX8, tyX8_ok⟩, nmX8, rfl, by decide +kernel⟩
theorem kx1_11_6 : jm_kp wd1 11 6 6 8 := fun _ _ _ _ _ => ⟨_, rfl, Nat.le_of_ble_eq_true rfl, rfl⟩
theorem kf_RX8_34 : tw_kF RX8 34 8 7 RX8 TX8 8 := ⟨rfl, iw_X8, by decide, rfl, (tw_gl kw_171 rfl)⟩
theorem kp_X8_7 : tw_kP 8 7 RX8 TX8 8 (.int) false := ⟨⟨tyX8, tyX8_ok⟩, nmX8, rfl, by decide +kernel⟩
theorem kx1_11_7 : jm_kp wd1 11 7 7 8 := fun _ _ _ _ _ => ⟨_, rfl, Nat.le_of_ble_eq_true rfl, rfl⟩
theorem km_X8_empty : tw_kM yX8_empty cX8_empty 1 none 0 := ⟨(tw_gl kw_8 rfl), (tw_gl kw_660 rfl), by decide, by decide, by decide +kernel⟩
theorem kg_657 : (Jvm.Cond.methodLink "RaceByLaps$Reader" (27 : Nat) ({ cls := "RaceByLaps$Text", name := "empty", desc := "()V" } : Jvm.MethodName)) ∈ lw_g := tw_gl kw_657 rfl
theorem kv_X8_empty : tw_kV yX8_empty := ⟨(tw_gl kw_658 rfl), tw_gl kw_659 rfl⟩
theorem kf_RX3_39 : tw_kF RX3 39 3 6 RX3 TX3 9 := ⟨rfl, iw_X3, by decide, rfl, (tw_gl kw_490 rfl)⟩
theorem kp_X3_6 : tw_kP 3 6 RX3 TX3 9 (.int) false := ⟨⟨tyX3, tyX3_ok⟩, nmX3, rfl, by decide +kernel⟩
theorem kx1_6_6 : jm_kp wd1 6 6 6 3 := fun _ _ _ _ _ => ⟨_, rfl, Nat.le_of_ble_eq_true rfl, rfl⟩
theorem kf_RX3_46 : tw_kF RX3 46 3 1 RX3 TX3 9 := ⟨rfl, iw_X3, by decide, rfl, (tw_gl kw_485 rfl)⟩
theorem kp_X3_1 : tw_kP 3 1 RX3 TX3 9 (.int) false := ⟨⟨tyX3, tyX3_ok⟩, nmX3, rfl, by decide +kernel⟩
theorem kx1_6_1 : jm_kp wd1 6 1 1 3 := fun _ _ _ _ _ => ⟨_, rfl, Nat.le_of_ble_eq_true rfl, rfl⟩
theorem kf_RX3_49 : tw_kF RX3 49 3 3 RX3 TX3 9 := ⟨rfl, iw_X3, by decide, rfl, (tw_gl kw_487 rfl)⟩
theorem kp_X3_3 : tw_kP 3 3 RX3 TX3 9 (.int) false := ⟨⟨tyX3, tyX3_ok⟩, nmX3, rfl, by decide +kernel⟩
theorem kx1_6_3 : jm_kp wd1 6 3 3 3 := fun _ _ _ _ _ => ⟨_, rfl, Nat.le_of_ble_eq_true rfl, rfl⟩
theorem kf_RX3_43 : tw_kF RX3 43 3 5 RX3 TX3 9 := ⟨rfl, iw_X3, by decide, rfl, (tw_gl kw_489 rfl)⟩
theorem kp_X3_5 : tw_kP 3 5 RX3 TX3 9 (.int) false := ⟨⟨tyX3, tyX3_ok⟩, nmX3, rfl, by decide +kernel⟩
theorem kx1_6_5 : jm_kp wd1 6 5 5 3 := fun _ _ _ _ _ => ⟨_, rfl, Nat.le_of_ble_eq_true rfl, rfl⟩
theorem kf_RX3_52 : tw_kF RX3 52 3 4 RX3 TX3 9 := ⟨rfl, iw_X3, by decide, rfl, (tw_gl kw_488 rfl)⟩
theorem kp_X3_4 : tw_kP 3 4 RX3 TX3 9 (.boolean) false := ⟨⟨tyX3, tyX3_ok⟩, nmX3, rfl, by decide +kernel⟩
theorem kx1_6_4 : jm_kp wd1 6 4 4 3 := fun _ _ _ _ _ => ⟨_, rfl, Nat.le_of_ble_eq_true rfl, rfl⟩
theorem km_X3_beginLine : tw_kM yX3_beginLine cX3_beginLine 1 none 0 := ⟨(tw_gl kw_13 rfl), (tw_gl kw_664 rfl), by decide, by decide, by decide +kernel⟩
theorem kg_661 : (Jvm.Cond.methodLink "RaceByLaps$Reader" (32 : Nat) ({ cls := "RaceByLaps$Reader", name := "beginLine", desc := "()V" } : Jvm.MethodName)) ∈ lw_g := tw_gl kw_661 rfl
theorem kv_X3_beginLine : tw_kV yX3_beginLine := ⟨(tw_gl kw_663 rfl), tw_gl (List.mem_append_left _ (List.mem_map.mpr ⟨(yX3_beginLine, _), List.mem_append_left _ (List.mem_of_getElem? (i := 1) rfl), rfl⟩)) rfl⟩
theorem kg1_6_6 : jm_kg wd1 6 6 3 (fun _ _ _ g => jm_i (g 6)) := fun _ _ _ _ => ⟨_, rfl, rfl⟩
theorem km_X3_isDigit : tw_kM yX3_isDigit cX3_isDigit 1 (some .boolean) 1 := ⟨(tw_gl kw_13 rfl), (tw_gl kw_675 rfl), by decide, by decide, by decide +kernel⟩
theorem kg_673 : (Jvm.Cond.methodLink "RaceByLaps$Reader" (73 : Nat) ({ cls := "RaceByLaps$Reader", name := "isDigit", desc := "(I)Z" } : Jvm.MethodName)) ∈ lw_g := tw_gl kw_673 rfl
theorem kg_674 : (Jvm.Cond.static ({ cls := "RaceByLaps$Reader", name := "isDigit", desc := "(I)Z" } : Jvm.MethodName)) ∈ lw_g := tw_gl kw_674 rfl
theorem kg1_6_7 : jm_kg wd1 6 7 3 (fun _ _ _ g => jm_i (g 7)) := fun _ _ _ _ => ⟨_, rfl, rfl⟩
theorem km_J0_indexOf_0f7a4 : tw_kM yJ0_indexOf_0f7a4 cJ0_indexOf_0f7a4 2 (some .int) 1 := ⟨(tw_gl kw_15 rfl), (tw_gl kw_690 rfl), by decide, by decide, by decide +kernel⟩
theorem kg_687 : (Jvm.Cond.methodLink "RaceByLaps$Reader" (129 : Nat) ({ cls := "java/lang/String", name := "indexOf", desc := "(I)I" } : Jvm.MethodName)) ∈ lw_g := tw_gl kw_687 rfl
theorem kv_J0_indexOf_0f7a4 : tw_kV yJ0_indexOf_0f7a4 := ⟨(tw_gl kw_688 rfl), tw_gl kw_689 rfl⟩
theorem km_X3_isLetter : tw_kM yX3_isLetter cX3_isLetter 3 (some .boolean) 1 := ⟨(tw_gl kw_13 rfl), (tw_gl kw_684 rfl), by decide, by decide, by decide +kernel⟩
theorem kg_681 : (Jvm.Cond.methodLink "RaceByLaps$Reader" (80 : Nat) ({ cls := "RaceByLaps$Reader", name := "isLetter", desc := "(I)Z" } : Jvm.MethodName)) ∈ lw_g := tw_gl kw_681 rfl
theorem kv_X3_isLetter : tw_kV yX3_isLetter := ⟨(tw_gl kw_683 rfl), tw_gl (List.mem_append_left _ (List.mem_map.mpr ⟨(yX3_isLetter, _), List.mem_append_left _ (List.mem_of_getElem? (i := 4) rfl), rfl⟩)) rfl⟩
theorem kg1_6_1 : jm_kg wd1 6 1 3 (fun _ _ _ g => jm_i (g 1)) := fun _ _ _ _ => ⟨_, rfl, rfl⟩
theorem kg1_6_0 : jm_kg wd1 6 0 3 (fun _ ad i _ => .ref (ad (jm_r wd1 25 ((fun i => i) i)))) := fun _ _ _ _ => ⟨_, rfl, rfl⟩
theorem km_X3_levelOf : tw_kM yX3_levelOf cX3_levelOf 1 (some .int) 1 := ⟨(tw_gl kw_13 rfl), (tw_gl kw_781 rfl), by decide, by decide, by decide +kernel⟩
theorem kg_779 : (Jvm.Cond.methodLink "RaceByLaps$Reader" (102 : Nat) ({ cls := "RaceByLaps$Reader", name := "levelOf", desc := "(I)I" } : Jvm.MethodName)) ∈ lw_g := tw_gl kw_779 rfl
theorem kg_780 : (Jvm.Cond.static ({ cls := "RaceByLaps$Reader", name := "levelOf", desc := "(I)I" } : Jvm.MethodName)) ∈ lw_g := tw_gl kw_780 rfl
theorem kg1_11_1 : jm_kg wd1 11 1 8 (fun _ _ _ g => jm_i (g 1)) := fun _ _ _ _ => ⟨_, rfl, rfl⟩
theorem kg1_11_0 : jm_kg wd1 11 0 8 (fun _ ad i _ => .ref (ad (jm_r wd1 20 ((fun i => i) i)))) := fun _ _ _ _ => ⟨_, rfl, rfl⟩
theorem km_X8_emit : tw_kM yX8_emit cX8_emit 2 none 1 := ⟨(tw_gl kw_8 rfl), (tw_gl kw_679 rfl), by decide, by decide, by decide +kernel⟩
theorem kg_676 : (Jvm.Cond.methodLink "RaceByLaps$Reader" (76 : Nat) ({ cls := "RaceByLaps$Text", name := "emit", desc := "(I)V" } : Jvm.MethodName)) ∈ lw_g := tw_gl kw_676 rfl
theorem kv_X8_emit : tw_kV yX8_emit := ⟨(tw_gl kw_677 rfl), tw_gl kw_678 rfl⟩
theorem km_X3_release : tw_kM yX3_release cX3_release 3 none 1 := ⟨(tw_gl kw_13 rfl), (tw_gl kw_778 rfl), by decide, by decide, by decide +kernel⟩
theorem kg_775 : (Jvm.Cond.methodLink "RaceByLaps$Reader" (106 : Nat) ({ cls := "RaceByLaps$Reader", name := "release", desc := "(I)V" } : Jvm.MethodName)) ∈ lw_g := tw_gl kw_775 rfl
theorem kv_X3_release : tw_kV yX3_release := ⟨(tw_gl kw_777 rfl), tw_gl (List.mem_append_left _ (List.mem_map.mpr ⟨(yX3_release, _), List.mem_append_left _ (List.mem_of_getElem? (i := 6) rfl), rfl⟩)) rfl⟩
theorem kg1_11_6 : jm_kg wd1 11 6 8 (fun _ _ _ g => jm_i (g 6)) := fun _ _ _ _ => ⟨_, rfl, rfl⟩
theorem kg1_11_2 : jm_kg wd1 11 2 8 (fun _ ad i _ => .ref (ad (jm_r wd1 21 ((fun i => i) i)))) := fun _ _ _ _ => ⟨_, rfl, rfl⟩
theorem kg1_11_3 : jm_kg wd1 11 3 8 (fun _ ad i _ => .ref (ad (jm_r wd1 22 ((fun i => i) i)))) := fun _ _ _ _ => ⟨_, rfl, rfl⟩
theorem kg1_11_4 : jm_kg wd1 11 4 8 (fun _ ad i _ => .ref (ad (jm_r wd1 23 ((fun i => i) i)))) := fun _ _ _ _ => ⟨_, rfl, rfl⟩
theorem kg1_11_5 : jm_kg wd1 11 5 8 (fun _ ad i _ => .ref (ad (jm_r wd1 24 ((fun i => i) i)))) := fun _ _ _ _ => ⟨_, rfl, rfl⟩
theorem km_X8_endCondition : tw_kM yX8_endCondition cX8_endCondition 1 none 0 := ⟨(tw_gl kw_8 rfl), (tw_gl kw_785 rfl), by decide, by decide, by decide +kernel⟩
theorem kg_782 : (Jvm.Cond.methodLink "RaceByLaps$Reader" (113 : Nat) ({ cls := "RaceByLaps$Text", name := "endCondition", desc := "()V" } : Jvm.MethodName)) ∈ lw_g := tw_gl kw_782 rfl
theorem kv_X8_endCondition : tw_kV yX8_endCondition := ⟨(tw_gl kw_783 rfl), tw_gl kw_784 rfl⟩
theorem km_X3_endsCondition : tw_kM yX3_endsCondition cX3_endsCondition 1 (some .boolean) 0 := ⟨(tw_gl kw_13 rfl), (tw_gl kw_774 rfl), by decide, by decide, by decide +kernel⟩
theorem kg_771 : (Jvm.Cond.methodLink "RaceByLaps$Reader" (83 : Nat) ({ cls := "RaceByLaps$Reader", name := "endsCondition", desc := "()Z" } : Jvm.MethodName)) ∈ lw_g := tw_gl kw_771 rfl
theorem kv_X3_endsCondition : tw_kV yX3_endsCondition := ⟨(tw_gl kw_773 rfl), tw_gl (List.mem_append_left _ (List.mem_map.mpr ⟨(yX3_endsCondition, _), List.mem_append_left _ (List.mem_of_getElem? (i := 5) rfl), rfl⟩)) rfl⟩
theorem kg1_6_3 : jm_kg wd1 6 3 3 (fun _ _ _ g => jm_i (g 3)) := fun _ _ _ _ => ⟨_, rfl, rfl⟩
theorem kg1_6_2 : jm_kg wd1 6 2 3 (fun _ ad i _ => .ref (ad (jm_r wd1 26 ((fun i => i) i)))) := fun _ _ _ _ => ⟨_, rfl, rfl⟩
theorem kg1_6_4 : jm_kg wd1 6 4 3 (fun _ _ _ g => jm_i (g 4)) := fun _ _ _ _ => ⟨_, rfl, rfl⟩
theorem km_X3_hold : tw_kM yX3_hold cX3_hold 2 none 1 := ⟨(tw_gl kw_13 rfl), (tw_gl kw_794 rfl), by decide, by decide, by decide +kernel⟩
theorem kg_791 : (Jvm.Cond.methodLink "RaceByLaps$Reader" (90 : Nat) ({ cls := "RaceByLaps$Reader", name := "hold", desc := "(I)V" } : Jvm.MethodName)) ∈ lw_g := tw_gl kw_791 rfl
theorem kv_X3_hold : tw_kV yX3_hold := ⟨(tw_gl kw_793 rfl), tw_gl (List.mem_append_left _ (List.mem_map.mpr ⟨(yX3_hold, _), List.mem_append_left _ (List.mem_of_getElem? (i := 8) rfl), rfl⟩)) rfl⟩
theorem km_X3_opens : tw_kM yX3_opens cX3_opens 1 (some .boolean) 0 := ⟨(tw_gl kw_13 rfl), (tw_gl kw_789 rfl), by decide, by decide, by decide +kernel⟩
theorem kg_786 : (Jvm.Cond.methodLink "RaceByLaps$Reader" (87 : Nat) ({ cls := "RaceByLaps$Reader", name := "opens", desc := "()Z" } : Jvm.MethodName)) ∈ lw_g := tw_gl kw_786 rfl
theorem kv_X3_opens : tw_kV yX3_opens := ⟨(tw_gl kw_788 rfl), tw_gl (List.mem_append_left _ (List.mem_map.mpr ⟨(yX3_opens, _), List.mem_append_left _ (List.mem_of_getElem? (i := 7) rfl), rfl⟩)) rfl⟩
theorem km_X3_takesOperand : tw_kM yX3_takesOperand cX3_takesOperand 2 (some .boolean) 1 := ⟨(tw_gl kw_13 rfl), (tw_gl kw_672 rfl), by decide, by decide, by decide +kernel⟩
theorem kg_669 : (Jvm.Cond.methodLink "RaceByLaps$Reader" (55 : Nat) ({ cls := "RaceByLaps$Reader", name := "takesOperand", desc := "(I)Z" } : Jvm.MethodName)) ∈ lw_g := tw_gl kw_669 rfl
theorem kv_X3_takesOperand : tw_kV yX3_takesOperand := ⟨(tw_gl kw_671 rfl), tw_gl (List.mem_append_left _ (List.mem_map.mpr ⟨(yX3_takesOperand, _), List.mem_append_left _ (List.mem_of_getElem? (i := 3) rfl), rfl⟩)) rfl⟩
theorem km_X3_closes : tw_kM yX3_closes cX3_closes 1 (some .boolean) 0 := ⟨(tw_gl kw_13 rfl), (tw_gl kw_806 rfl), by decide, by decide, by decide +kernel⟩
theorem kg_803 : (Jvm.Cond.methodLink "RaceByLaps$Reader" (96 : Nat) ({ cls := "RaceByLaps$Reader", name := "closes", desc := "()Z" } : Jvm.MethodName)) ∈ lw_g := tw_gl kw_803 rfl
theorem kv_X3_closes : tw_kV yX3_closes := ⟨(tw_gl kw_805 rfl), tw_gl (List.mem_append_left _ (List.mem_map.mpr ⟨(yX3_closes, _), List.mem_append_left _ (List.mem_of_getElem? (i := 10) rfl), rfl⟩)) rfl⟩
theorem km_X3_joins : tw_kM yX3_joins cX3_joins 3 (some .boolean) 1 := ⟨(tw_gl kw_13 rfl), (tw_gl kw_810 rfl), by decide, by decide, by decide +kernel⟩
theorem kg_807 : (Jvm.Cond.methodLink "RaceByLaps$Reader" (99 : Nat) ({ cls := "RaceByLaps$Reader", name := "joins", desc := "(I)Z" } : Jvm.MethodName)) ∈ lw_g := tw_gl kw_807 rfl
theorem kv_X3_joins : tw_kV yX3_joins := ⟨(tw_gl kw_809 rfl), tw_gl (List.mem_append_left _ (List.mem_map.mpr ⟨(yX3_joins, _), List.mem_append_left _ (List.mem_of_getElem? (i := 11) rfl), rfl⟩)) rfl⟩
theorem kg1_6_5 : jm_kg wd1 6 5 3 (fun _ _ _ g => jm_i (g 5)) := fun _ _ _ _ => ⟨_, rfl, rfl⟩
theorem km_X8_addDigit : tw_kM yX8_addDigit cX8_addDigit 2 none 1 := ⟨(tw_gl kw_8 rfl), (tw_gl kw_802 rfl), by decide, by decide, by decide +kernel⟩
theorem kg_799 : (Jvm.Cond.methodLink "RaceByLaps$Reader" (93 : Nat) ({ cls := "RaceByLaps$Text", name := "addDigit", desc := "(I)V" } : Jvm.MethodName)) ∈ lw_g := tw_gl kw_799 rfl
theorem kv_X8_addDigit : tw_kV yX8_addDigit := ⟨(tw_gl kw_800 rfl), tw_gl kw_801 rfl⟩
theorem km_X3_takesBehindOperand : tw_kM yX3_takesBehindOperand cX3_takesBehindOperand 2 (some .boolean) 1 := ⟨(tw_gl kw_13 rfl), (tw_gl kw_798 rfl), by decide, by decide, by decide +kernel⟩
theorem kg_795 : (Jvm.Cond.methodLink "RaceByLaps$Reader" (58 : Nat) ({ cls := "RaceByLaps$Reader", name := "takesBehindOperand", desc := "(I)Z" } : Jvm.MethodName)) ∈ lw_g := tw_gl kw_795 rfl
theorem kv_X3_takesBehindOperand : tw_kV yX3_takesBehindOperand := ⟨(tw_gl kw_797 rfl), tw_gl (List.mem_append_left _ (List.mem_map.mpr ⟨(yX3_takesBehindOperand, _), List.mem_append_left _ (List.mem_of_getElem? (i := 9) rfl), rfl⟩)) rfl⟩
theorem kf_RX3_116 : tw_kF RX3 116 8 7 RX8 TX8 8 := ⟨rfl, iw_X8, by decide, rfl, (tw_gl kw_173 rfl)⟩
theorem km_X3_takesVerdict : tw_kM yX3_takesVerdict cX3_takesVerdict 2 (some .boolean) 1 := ⟨(tw_gl kw_13 rfl), (tw_gl kw_814 rfl), by decide, by decide, by decide +kernel⟩
theorem kg_811 : (Jvm.Cond.methodLink "RaceByLaps$Reader" (61 : Nat) ({ cls := "RaceByLaps$Reader", name := "takesVerdict", desc := "(I)Z" } : Jvm.MethodName)) ∈ lw_g := tw_gl kw_811 rfl
theorem kv_X3_takesVerdict : tw_kV yX3_takesVerdict := ⟨(tw_gl kw_813 rfl), tw_gl (List.mem_append_left _ (List.mem_map.mpr ⟨(yX3_takesVerdict, _), List.mem_append_left _ (List.mem_of_getElem? (i := 12) rfl), rfl⟩)) rfl⟩
theorem kg1_11_7 : jm_kg wd1 11 7 8 (fun _ _ _ g => jm_i (g 7)) := fun _ _ _ _ => ⟨_, rfl, rfl⟩
theorem km_X3_takesSeconds : tw_kM yX3_takesSeconds cX3_takesSeconds 2 (some .boolean) 1 := ⟨(tw_gl kw_13 rfl), (tw_gl kw_818 rfl), by decide, by decide, by decide +kernel⟩
theorem kg_815 : (Jvm.Cond.methodLink "RaceByLaps$Reader" (64 : Nat) ({ cls := "RaceByLaps$Reader", name := "takesSeconds", desc := "(I)Z" } : Jvm.MethodName)) ∈ lw_g := tw_gl kw_815 rfl
theorem kv_X3_takesSeconds : tw_kV yX3_takesSeconds := ⟨(tw_gl kw_817 rfl), tw_gl (List.mem_append_left _ (List.mem_map.mpr ⟨(yX3_takesSeconds, _), List.mem_append_left _ (List.mem_of_getElem? (i := 13) rfl), rfl⟩)) rfl⟩
theorem km_X8_act : tw_kM yX8_act cX8_act 3 none 1 := ⟨(tw_gl kw_8 rfl), (tw_gl kw_826 rfl), by decide, by decide, by decide +kernel⟩
theorem kg_823 : (Jvm.Cond.methodLink "RaceByLaps$Reader" (119 : Nat) ({ cls := "RaceByLaps$Text", name := "act", desc := "(I)V" } : Jvm.MethodName)) ∈ lw_g := tw_gl kw_823 rfl
theorem kv_X8_act : tw_kV yX8_act := ⟨(tw_gl kw_824 rfl), tw_gl kw_825 rfl⟩
theorem km_X3_takesAct : tw_kM yX3_takesAct cX3_takesAct 2 (some .boolean) 1 := ⟨(tw_gl kw_13 rfl), (tw_gl kw_822 rfl), by decide, by decide, by decide +kernel⟩
theorem kg_819 : (Jvm.Cond.methodLink "RaceByLaps$Reader" (67 : Nat) ({ cls := "RaceByLaps$Reader", name := "takesAct", desc := "(I)Z" } : Jvm.MethodName)) ∈ lw_g := tw_gl kw_819 rfl
theorem kv_X3_takesAct : tw_kV yX3_takesAct := ⟨(tw_gl kw_821 rfl), tw_gl (List.mem_append_left _ (List.mem_map.mpr ⟨(yX3_takesAct, _), List.mem_append_left _ (List.mem_of_getElem? (i := 14) rfl), rfl⟩)) rfl⟩
theorem km_X8_actBox : tw_kM yX8_actBox cX8_actBox 2 none 1 := ⟨(tw_gl kw_8 rfl), (tw_gl kw_834 rfl), by decide, by decide, by decide +kernel⟩
theorem kg_831 : (Jvm.Cond.methodLink "RaceByLaps$Reader" (122 : Nat) ({ cls := "RaceByLaps$Text", name := "actBox", desc := "(I)V" } : Jvm.MethodName)) ∈ lw_g := tw_gl kw_831 rfl
theorem kv_X8_actBox : tw_kV yX8_actBox := ⟨(tw_gl kw_832 rfl), tw_gl kw_833 rfl⟩
theorem km_X3_takesBox : tw_kM yX3_takesBox cX3_takesBox 2 (some .boolean) 1 := ⟨(tw_gl kw_13 rfl), (tw_gl kw_830 rfl), by decide, by decide, by decide +kernel⟩
theorem kg_827 : (Jvm.Cond.methodLink "RaceByLaps$Reader" (70 : Nat) ({ cls := "RaceByLaps$Reader", name := "takesBox", desc := "(I)Z" } : Jvm.MethodName)) ∈ lw_g := tw_gl kw_827 rfl
theorem kv_X3_takesBox : tw_kV yX3_takesBox := ⟨(tw_gl kw_829 rfl), tw_gl (List.mem_append_left _ (List.mem_map.mpr ⟨(yX3_takesBox, _), List.mem_append_left _ (List.mem_of_getElem? (i := 15) rfl), rfl⟩)) rfl⟩
theorem km_X3_takes : tw_kM yX3_takes cX3_takes 2 (some .boolean) 1 := ⟨(tw_gl kw_13 rfl), (tw_gl kw_668 rfl), by decide, by decide, by decide +kernel⟩
theorem kg_665 : (Jvm.Cond.methodLink "RaceByLaps$Reader" (35 : Nat) ({ cls := "RaceByLaps$Reader", name := "takes", desc := "(I)Z" } : Jvm.MethodName)) ∈ lw_g := tw_gl kw_665 rfl
theorem kv_X3_takes : tw_kV yX3_takes := ⟨(tw_gl kw_667 rfl), tw_gl (List.mem_append_left _ (List.mem_map.mpr ⟨(yX3_takes, _), List.mem_append_left _ (List.mem_of_getElem? (i := 2) rfl), rfl⟩)) rfl⟩
theorem km_X3_firstWrong : tw_kM yX3_firstWrong cX3_firstWrong 6 (some .int) 4 := ⟨(tw_gl kw_13 rfl), (tw_gl kw_656 rfl), by decide, by decide, by decide +kernel⟩
theorem kg_653 : (Jvm.Cond.methodLink "RaceByLaps" (202 : Nat) ({ cls := "RaceByLaps$Reader", name := "firstWrong", desc := "([IILRaceByLaps$Text;Z)I" } : Jvm.MethodName)) ∈ lw_g := tw_gl kw_653 rfl
theorem kv_X3_firstWrong : tw_kV yX3_firstWrong := ⟨(tw_gl kw_654 rfl), tw_gl kw_655 rfl⟩
theorem kf_RX11_206 : tw_kF RX11 206 1 11 RX1 TX1 14 := ⟨rfl, iw_X1, by decide, rfl, (tw_gl kw_222 rfl)⟩
theorem kg1_8_11 : jm_kg wd1 8 11 1 (fun _ ad _ g => jm_tv wd1 ad 11 (g 11)) := fun _ _ _ _ => ⟨_, rfl, rfl⟩
theorem kx1_8_11 : jm_kpt wd1 8 11 11 1 11 := fun _ _ _ _ _ => ⟨_, rfl, Nat.le_of_ble_eq_true rfl, rfl⟩
theorem kf_RX11_209 : tw_kF RX11 209 1 12 RX1 TX1 14 := ⟨rfl, iw_X1, by decide, rfl, (tw_gl kw_225 rfl)⟩
theorem kx1_0_10 : jm_kpt wd1 0 10 10 11 11 := fun _ _ _ _ _ => ⟨_, rfl, Nat.le_of_ble_eq_true rfl, rfl⟩
theorem kg1_8_12 : jm_kg wd1 8 12 1 (fun _ _ _ g => jm_i (g 12)) := fun _ _ _ _ => ⟨_, rfl, rfl⟩
theorem kf_RX11_212 : tw_kF RX11 212 9 0 RX9 TX9 9 := ⟨rfl, iw_X9, by decide, rfl, (tw_gl kw_94 rfl)⟩
theorem kg1_3_3 : jm_kg wd1 3 3 0 (fun _ _ _ g => jm_i (g 3)) := fun _ _ _ _ => ⟨_, rfl, rfl⟩
theorem kf_RX11_215 : tw_kF RX11 215 11 9 RX11 TX11 11 := ⟨rfl, iw_X11, by decide, rfl, (tw_gl kw_523 rfl)⟩
theorem kg1_0_9 : jm_kg wd1 0 9 11 (fun _ _ _ g => jm_i (g 9)) := fun _ _ _ _ => ⟨_, rfl, rfl⟩
theorem kf_RX2_45 : tw_kF RX2 45 1 9 RX1 TX1 14 := ⟨rfl, iw_X1, by decide, rfl, (tw_gl kw_216 rfl)⟩
theorem kf_RX2_49 : tw_kF RX2 49 7 3 RX7 TX7 4 := ⟨rfl, iw_X7, by decide, rfl, (tw_gl kw_73 rfl)⟩
theorem km_X2_optionCount : tw_kM yX2_optionCount cX2_optionCount 3 (some .int) 0 := ⟨(tw_gl kw_6 rfl), (tw_gl kw_847 rfl), by decide, by decide, by decide +kernel⟩
theorem kg_844 : (Jvm.Cond.methodLink "RaceByLaps" (221 : Nat) ({ cls := "RaceByLaps$Race", name := "optionCount", desc := "()I" } : Jvm.MethodName)) ∈ lw_g := tw_gl kw_844 rfl
theorem kv_X2_optionCount : tw_kV yX2_optionCount := ⟨(tw_gl kw_845 rfl), tw_gl kw_846 rfl⟩
theorem kf_RX2_54 : tw_kF RX2 54 2 7 RX2 TX2 8 := ⟨rfl, iw_X2, by decide, rfl, (tw_gl kw_365 rfl)⟩
theorem kg1_2_7 : jm_kg wd1 2 7 2 (fun _ _ _ g => jm_i (g 7)) := fun _ _ _ _ => ⟨_, rfl, rfl⟩
theorem kf_RX2_61 : tw_kF RX2 61 2 6 RX2 TX2 8 := ⟨rfl, iw_X2, by decide, rfl, (tw_gl kw_363 rfl)⟩
theorem kp_X2_6 : tw_kP 2 6 RX2 TX2 8 (.int) false := ⟨⟨tyX2, tyX2_ok⟩, nmX2, rfl, by decide +kernel⟩
theorem kx1_2_6 : jm_kp wd1 2 6 6 2 := fun _ _ _ _ _ => ⟨_, rfl, Nat.le_of_ble_eq_true rfl, rfl⟩
theorem kg1_2_4 : jm_kg wd1 2 4 2 (fun _ ad i _ => .ref (ad (jm_r wd1 34 ((fun i => i) i)))) := fun _ _ _ _ => ⟨_, rfl, rfl⟩
theorem km_J7_fill_53178 : tw_kM yJ7_fill_53178 cJ7_fill_53178 4 none 2 := ⟨(tw_gl kw_24 rfl), (tw_gl kw_867 rfl), by decide, by decide, by decide +kernel⟩
theorem kg_865 : (Jvm.Cond.methodLink "RaceByLaps$Race" (64 : Nat) ({ cls := "java/util/Arrays", name := "fill", desc := "([II)V" } : Jvm.MethodName)) ∈ lw_g := tw_gl kw_865 rfl
theorem kg_866 : (Jvm.Cond.static ({ cls := "java/util/Arrays", name := "fill", desc := "([II)V" } : Jvm.MethodName)) ∈ lw_g := tw_gl kw_866 rfl
theorem kg1_2_3 : jm_kg wd1 2 3 2 (fun _ ad i _ => .ref (ad (jm_r wd1 47 ((fun i => i) i)))) := fun _ _ _ _ => ⟨_, rfl, rfl⟩
theorem kg1_2_0 : jm_kg wd1 2 0 2 (fun _ ad i _ => .ref (ad (jm_r wd1 1 ((fun i => i) i)))) := fun _ _ _ _ => ⟨_, rfl, rfl⟩
theorem kf_RX2_70 : tw_kF RX2 70 9 6 RX9 TX9 9 := ⟨rfl, iw_X9, by decide, rfl, (tw_gl kw_111 rfl)⟩
theorem kf_RX6_27 : tw_kF RX6 27 6 0 RX6 TX6 20 := ⟨rfl, iw_X6, by decide, rfl, (tw_gl kw_262 rfl)⟩
theorem kp_X6_0 : tw_kP 6 0 RX6 TX6 20 (.int) false := ⟨⟨tyX6, tyX6_ok⟩, nmX6, rfl, by decide +kernel⟩
theorem kx1_9_0 : jm_kp wd1 9 0 0 6 := fun _ _ _ _ _ => ⟨_, rfl, Nat.le_of_ble_eq_true rfl, rfl⟩
theorem kf_RX6_31 : tw_kF RX6 31 6 1 RX6 TX6 20 := ⟨rfl, iw_X6, by decide, rfl, (tw_gl kw_264 rfl)⟩
theorem kp_X6_1 : tw_kP 6 1 RX6 TX6 20 (.int) false := ⟨⟨tyX6, tyX6_ok⟩, nmX6, rfl, by decide +kernel⟩
theorem kx1_9_1 : jm_kp wd1 9 1 1 6 := fun _ _ _ _ _ => ⟨_, rfl, Nat.le_of_ble_eq_true rfl, rfl⟩
theorem kf_RX6_34 : tw_kF RX6 34 6 2 RX6 TX6 20 := ⟨rfl, iw_X6, by decide, rfl, (tw_gl kw_266 rfl)⟩
theorem kp_X6_2 : tw_kP 6 2 RX6 TX6 20 (.int) false := ⟨⟨tyX6, tyX6_ok⟩, nmX6, rfl, by decide +kernel⟩
theorem kx1_9_2 : jm_kp wd1 9 2 2 6 := fun _ _ _ _ _ => ⟨_, rfl, Nat.le_of_ble_eq_true rfl, rfl⟩
theorem kf_RX6_37 : tw_kF RX6 37 1 6 RX1 TX1 14 := ⟨rfl, iw_X1, by decide, rfl, (tw_gl kw_206 rfl)⟩
theorem kf_RX6_43 : tw_kF RX6 43 7 3 RX7 TX7 4 := ⟨rfl, iw_X7, by decide, rfl, (tw_gl kw_68 rfl)⟩
theorem kf_RX6_48 : tw_kF RX6 48 6 3 RX6 TX6 20 := ⟨rfl, iw_X6, by decide, rfl, (tw_gl kw_268 rfl)⟩
theorem kp_X6_3 : tw_kP 6 3 RX6 TX6 20 (.int) false := ⟨⟨tyX6, tyX6_ok⟩, nmX6, rfl, by decide +kernel⟩
theorem kx1_9_3 : jm_kp wd1 9 3 3 6 := fun _ _ _ _ _ => ⟨_, rfl, Nat.le_of_ble_eq_true rfl, rfl⟩
theorem kf_RX6_51 : tw_kF RX6 51 6 4 RX6 TX6 20 := ⟨rfl, iw_X6, by decide, rfl, (tw_gl kw_272 rfl)⟩
theorem kp_X6_4 : tw_kP 6 4 RX6 TX6 20 (.int) false := ⟨⟨tyX6, tyX6_ok⟩, nmX6, rfl, by decide +kernel⟩
theorem kx1_9_4 : jm_kp wd1 9 4 4 6 := fun _ _ _ _ _ => ⟨_, rfl, Nat.le_of_ble_eq_true rfl, rfl⟩
theorem kf_RX6_54 : tw_kF RX6 54 6 5 RX6 TX6 20 := ⟨rfl, iw_X6, by decide, rfl, (tw_gl kw_274 rfl)⟩
theorem kp_X6_5 : tw_kP 6 5 RX6 TX6 20 (.int) false := ⟨⟨tyX6, tyX6_ok⟩, nmX6, rfl, by decide +kernel⟩
theorem kx1_9_5 : jm_kp wd1 9 5 5 6 := fun _ _ _ _ _ => ⟨_, rfl, Nat.le_of_ble_eq_true rfl, rfl⟩
theorem kf_RX6_57 : tw_kF RX6 57 6 6 RX6 TX6 20 := ⟨rfl, iw_X6, by decide, rfl, (tw_gl kw_277 rfl)⟩
theorem kp_X6_6 : tw_kP 6 6 RX6 TX6 20 (.int) false := ⟨⟨tyX6, tyX6_ok⟩, nmX6, rfl, by decide +kernel⟩
theorem kx1_9_6 : jm_kp wd1 9 6 6 6 := fun _ _ _ _ _ => ⟨_, rfl, Nat.le_of_ble_eq_true rfl, rfl⟩
theorem kf_RX6_60 : tw_kF RX6 60 6 7 RX6 TX6 20 := ⟨rfl, iw_X6, by decide, rfl, (tw_gl kw_280 rfl)⟩
theorem kp_X6_7 : tw_kP 6 7 RX6 TX6 20 (.int) false := ⟨⟨tyX6, tyX6_ok⟩, nmX6, rfl, by decide +kernel⟩
theorem kx1_9_7 : jm_kp wd1 9 7 7 6 := fun _ _ _ _ _ => ⟨_, rfl, Nat.le_of_ble_eq_true rfl, rfl⟩
theorem kf_RX6_63 : tw_kF RX6 63 1 5 RX1 TX1 14 := ⟨rfl, iw_X1, by decide, rfl, (tw_gl kw_203 rfl)⟩
theorem kg1_8_5 : jm_kg wd1 8 5 1 (fun _ _ _ g => jm_i (g 5)) := fun _ _ _ _ => ⟨_, rfl, rfl⟩
theorem kf_RX6_66 : tw_kF RX6 66 6 8 RX6 TX6 20 := ⟨rfl, iw_X6, by decide, rfl, (tw_gl kw_283 rfl)⟩
theorem kp_X6_8 : tw_kP 6 8 RX6 TX6 20 (.int) false := ⟨⟨tyX6, tyX6_ok⟩, nmX6, rfl, by decide +kernel⟩
theorem kx1_9_8 : jm_kp wd1 9 8 8 6 := fun _ _ _ _ _ => ⟨_, rfl, Nat.le_of_ble_eq_true rfl, rfl⟩
theorem kf_RX6_67 : tw_kF RX6 67 6 9 RX6 TX6 20 := ⟨rfl, iw_X6, by decide, rfl, (tw_gl kw_286 rfl)⟩
theorem kp_X6_9 : tw_kP 6 9 RX6 TX6 20 (.int) false := ⟨⟨tyX6, tyX6_ok⟩, nmX6, rfl, by decide +kernel⟩
theorem kx1_9_9 : jm_kp wd1 9 9 9 6 := fun _ _ _ _ _ => ⟨_, rfl, Nat.le_of_ble_eq_true rfl, rfl⟩
theorem kf_RX6_70 : tw_kF RX6 70 6 10 RX6 TX6 20 := ⟨rfl, iw_X6, by decide, rfl, (tw_gl kw_288 rfl)⟩
theorem kp_X6_10 : tw_kP 6 10 RX6 TX6 20 (.int) false := ⟨⟨tyX6, tyX6_ok⟩, nmX6, rfl, by decide +kernel⟩
theorem kx1_9_10 : jm_kp wd1 9 10 10 6 := fun _ _ _ _ _ => ⟨_, rfl, Nat.le_of_ble_eq_true rfl, rfl⟩
theorem kf_RX6_73 : tw_kF RX6 73 6 11 RX6 TX6 20 := ⟨rfl, iw_X6, by decide, rfl, (tw_gl kw_290 rfl)⟩
theorem kp_X6_11 : tw_kP 6 11 RX6 TX6 20 (.int) false := ⟨⟨tyX6, tyX6_ok⟩, nmX6, rfl, by decide +kernel⟩
theorem kx1_9_11 : jm_kp wd1 9 11 11 6 := fun _ _ _ _ _ => ⟨_, rfl, Nat.le_of_ble_eq_true rfl, rfl⟩
theorem kf_RX6_76 : tw_kF RX6 76 6 12 RX6 TX6 20 := ⟨rfl, iw_X6, by decide, rfl, (tw_gl kw_292 rfl)⟩
theorem kp_X6_12 : tw_kP 6 12 RX6 TX6 20 (.int) false := ⟨⟨tyX6, tyX6_ok⟩, nmX6, rfl, by decide +kernel⟩
theorem kx1_9_12 : jm_kp wd1 9 12 12 6 := fun _ _ _ _ _ => ⟨_, rfl, Nat.le_of_ble_eq_true rfl, rfl⟩
theorem kf_RX6_79 : tw_kF RX6 79 6 13 RX6 TX6 20 := ⟨rfl, iw_X6, by decide, rfl, (tw_gl kw_295 rfl)⟩
theorem kp_X6_13 : tw_kP 6 13 RX6 TX6 20 (.int) false := ⟨⟨tyX6, tyX6_ok⟩, nmX6, rfl, by decide +kernel⟩
theorem kx1_9_13 : jm_kp wd1 9 13 13 6 := fun _ _ _ _ _ => ⟨_, rfl, Nat.le_of_ble_eq_true rfl, rfl⟩
theorem kf_RX6_82 : tw_kF RX6 82 6 14 RX6 TX6 20 := ⟨rfl, iw_X6, by decide, rfl, (tw_gl kw_297 rfl)⟩
theorem kp_X6_14 : tw_kP 6 14 RX6 TX6 20 (.int) false := ⟨⟨tyX6, tyX6_ok⟩, nmX6, rfl, by decide +kernel⟩
theorem kx1_9_14 : jm_kp wd1 9 14 14 6 := fun _ _ _ _ _ => ⟨_, rfl, Nat.le_of_ble_eq_true rfl, rfl⟩
theorem kg1_9_17 : jm_kg wd1 9 17 6 (fun _ ad i _ => .ref (ad (jm_r wd1 31 ((fun i => i) i)))) := fun _ _ _ _ => ⟨_, rfl, rfl⟩
theorem kg_873 : (Jvm.Cond.methodLink "RaceByLaps$Runner" (89 : Nat) ({ cls := "java/util/Arrays", name := "fill", desc := "([II)V" } : Jvm.MethodName)) ∈ lw_g := tw_gl kw_873 rfl
theorem kg1_9_18 : jm_kg wd1 9 18 6 (fun _ ad i _ => .ref (ad (jm_r wd1 32 ((fun i => i) i)))) := fun _ _ _ _ => ⟨_, rfl, rfl⟩
theorem kg1_9_15 : jm_kg wd1 9 15 6 (fun _ ad i _ => .ref (ad (jm_r wd1 29 ((fun i => i) i)))) := fun _ _ _ _ => ⟨_, rfl, rfl⟩
theorem kg_872 : (Jvm.Cond.methodLink "RaceByLaps$Runner" (85 : Nat) ({ cls := "RaceByLaps$Table", name := "cell", desc := "(II)I" } : Jvm.MethodName)) ∈ lw_g := tw_gl kw_872 rfl
theorem km_X6_start : tw_kM yX6_start cX6_start 5 none 2 := ⟨(tw_gl kw_9 rfl), (tw_gl kw_871 rfl), by decide, by decide, by decide +kernel⟩
theorem kg_868 : (Jvm.Cond.methodLink "RaceByLaps$Race" (75 : Nat) ({ cls := "RaceByLaps$Runner", name := "start", desc := "(LRaceByLaps$Car;I)V" } : Jvm.MethodName)) ∈ lw_g := tw_gl kw_868 rfl
theorem kv_X6_start : tw_kV yX6_start := ⟨(tw_gl kw_869 rfl), tw_gl kw_870 rfl⟩
theorem kf_RX2_91 : tw_kF RX2 91 6 3 RX6 TX6 20 := ⟨rfl, iw_X6, by decide, rfl, (tw_gl kw_270 rfl)⟩
theorem kg1_9_3 : jm_kg wd1 9 3 6 (fun _ _ _ g => jm_i (g 3)) := fun _ _ _ _ => ⟨_, rfl, rfl⟩
theorem kf_RX2_98 : tw_kF RX2 98 6 0 RX6 TX6 20 := ⟨rfl, iw_X6, by decide, rfl, (tw_gl kw_263 rfl)⟩
theorem kg1_9_0 : jm_kg wd1 9 0 6 (fun _ _ _ g => jm_i (g 0)) := fun _ _ _ _ => ⟨_, rfl, rfl⟩
theorem kf_RX2_101 : tw_kF RX2 101 6 1 RX6 TX6 20 := ⟨rfl, iw_X6, by decide, rfl, (tw_gl kw_265 rfl)⟩
theorem kg1_9_1 : jm_kg wd1 9 1 6 (fun _ _ _ g => jm_i (g 1)) := fun _ _ _ _ => ⟨_, rfl, rfl⟩
theorem km_X2_goesAhead : tw_kM yX2_goesAhead cX2_goesAhead 2 (some .boolean) 2 := ⟨(tw_gl kw_6 rfl), (tw_gl kw_880 rfl), by decide, by decide, by decide +kernel⟩
theorem kg_878 : (Jvm.Cond.methodLink "RaceByLaps$Race" (94 : Nat) ({ cls := "RaceByLaps$Race", name := "goesAhead", desc := "(LRaceByLaps$Runner;LRaceByLaps$Runner;)Z" } : Jvm.MethodName)) ∈ lw_g := tw_gl kw_878 rfl
theorem kg_879 : (Jvm.Cond.static ({ cls := "RaceByLaps$Race", name := "goesAhead", desc := "(LRaceByLaps$Runner;LRaceByLaps$Runner;)Z" } : Jvm.MethodName)) ∈ lw_g := tw_gl kw_879 rfl
theorem km_X2_nextToGo : tw_kM yX2_nextToGo cX2_nextToGo 3 (some .int) 0 := ⟨(tw_gl kw_6 rfl), (tw_gl kw_877 rfl), by decide, by decide, by decide +kernel⟩
theorem kg_874 : (Jvm.Cond.methodLink "RaceByLaps$Race" (79 : Nat) ({ cls := "RaceByLaps$Race", name := "nextToGo", desc := "()I" } : Jvm.MethodName)) ∈ lw_g := tw_gl kw_874 rfl
theorem kv_X2_nextToGo : tw_kV yX2_nextToGo := ⟨(tw_gl kw_876 rfl), tw_gl (List.mem_append_left _ (List.mem_map.mpr ⟨(yX2_nextToGo, _), List.mem_append_right _ (List.mem_append_left _ (List.mem_of_getElem? (i := 0) rfl)), rfl⟩)) rfl⟩
theorem kg_881 : (Jvm.Cond.methodLink "RaceByLaps$Race" (83 : Nat) ({ cls := "RaceByLaps$Race", name := "has", desc := "(I)Z" } : Jvm.MethodName)) ∈ lw_g := tw_gl kw_881 rfl
theorem km_X9_sectorOf : tw_kM yX9_sectorOf cX9_sectorOf 2 (some .int) 1 := ⟨(tw_gl kw_3 rfl), (tw_gl kw_889 rfl), by decide, by decide, by decide +kernel⟩
theorem kg_886 : (Jvm.Cond.methodLink "RaceByLaps$Race" (104 : Nat) ({ cls := "RaceByLaps$Track", name := "sectorOf", desc := "(I)I" } : Jvm.MethodName)) ∈ lw_g := tw_gl kw_886 rfl
theorem kv_X9_sectorOf : tw_kV yX9_sectorOf := ⟨(tw_gl kw_887 rfl), tw_gl kw_888 rfl⟩
theorem kf_RX2_169 : tw_kF RX2 169 1 7 RX1 TX1 14 := ⟨rfl, iw_X1, by decide, rfl, (tw_gl kw_211 rfl)⟩
theorem kg_894 : (Jvm.Cond.methodLink "RaceByLaps$Race" (121 : Nat) ({ cls := "RaceByLaps$Table", name := "cell", desc := "(II)I" } : Jvm.MethodName)) ∈ lw_g := tw_gl kw_894 rfl
theorem kf_RX2_159 : tw_kF RX2 159 9 0 RX9 TX9 9 := ⟨rfl, iw_X9, by decide, rfl, (tw_gl kw_93 rfl)⟩
theorem kf_RX2_128 : tw_kF RX2 128 6 13 RX6 TX6 20 := ⟨rfl, iw_X6, by decide, rfl, (tw_gl kw_296 rfl)⟩
theorem kf_RX2_172 : tw_kF RX2 172 6 14 RX6 TX6 20 := ⟨rfl, iw_X6, by decide, rfl, (tw_gl kw_298 rfl)⟩
theorem km_X2_hear : tw_kM yX2_hear cX2_hear 5 none 3 := ⟨(tw_gl kw_6 rfl), (tw_gl kw_893 rfl), by decide, by decide, by decide +kernel⟩
theorem kg_890 : (Jvm.Cond.methodLink "RaceByLaps$Race" (108 : Nat) ({ cls := "RaceByLaps$Race", name := "hear", desc := "(LRaceByLaps$Car;LRaceByLaps$Runner;I)V" } : Jvm.MethodName)) ∈ lw_g := tw_gl kw_890 rfl
theorem kv_X2_hear : tw_kV yX2_hear := ⟨(tw_gl kw_892 rfl), tw_gl (List.mem_append_left _ (List.mem_map.mpr ⟨(yX2_hear, _), List.mem_append_right _ (List.mem_append_left _ (List.mem_of_getElem? (i := 2) rfl)), rfl⟩)) rfl⟩
theorem kf_RX2_112 : tw_kF RX2 112 6 6 RX6 TX6 20 := ⟨rfl, iw_X6, by decide, rfl, (tw_gl kw_279 rfl)⟩
theorem kg1_9_6 : jm_kg wd1 9 6 6 (fun _ _ _ g => jm_i (g 6)) := fun _ _ _ _ => ⟨_, rfl, rfl⟩
theorem kf_RX2_115 : tw_kF RX2 115 1 6 RX1 TX1 14 := ⟨rfl, iw_X1, by decide, rfl, (tw_gl kw_208 rfl)⟩
theorem kf_RX2_118 : tw_kF RX2 118 6 9 RX6 TX6 20 := ⟨rfl, iw_X6, by decide, rfl, (tw_gl kw_287 rfl)⟩
theorem kg1_9_9 : jm_kg wd1 9 9 6 (fun _ _ _ g => jm_i (g 9)) := fun _ _ _ _ => ⟨_, rfl, rfl⟩
theorem kf_RX2_125 : tw_kF RX2 125 1 2 RX1 TX1 14 := ⟨rfl, iw_X1, by decide, rfl, (tw_gl kw_195 rfl)⟩
theorem kg1_8_2 : jm_kg wd1 8 2 1 (fun _ _ _ g => jm_i (g 2)) := fun _ _ _ _ => ⟨_, rfl, rfl⟩
theorem kg1_9_13 : jm_kg wd1 9 13 6 (fun _ _ _ g => jm_i (g 13)) := fun _ _ _ _ => ⟨_, rfl, rfl⟩
theorem kf_RX2_131 : tw_kF RX2 131 6 8 RX6 TX6 20 := ⟨rfl, iw_X6, by decide, rfl, (tw_gl kw_285 rfl)⟩
theorem kg1_9_8 : jm_kg wd1 9 8 6 (fun _ _ _ g => jm_i (g 8)) := fun _ _ _ _ => ⟨_, rfl, rfl⟩
theorem kg_903 : (Jvm.Cond.methodLink "RaceByLaps$Track" (71 : Nat) ({ cls := "RaceByLaps$Table", name := "cell", desc := "(II)I" } : Jvm.MethodName)) ∈ lw_g := tw_gl kw_903 rfl
theorem km_X9_slowAt : tw_kM yX9_slowAt cX9_slowAt 3 (some .boolean) 1 := ⟨(tw_gl kw_3 rfl), (tw_gl kw_902 rfl), by decide, by decide, by decide +kernel⟩
theorem kg_899 : (Jvm.Cond.methodLink "RaceByLaps$Race" (138 : Nat) ({ cls := "RaceByLaps$Track", name := "slowAt", desc := "(I)Z" } : Jvm.MethodName)) ∈ lw_g := tw_gl kw_899 rfl
theorem kv_X9_slowAt : tw_kV yX9_slowAt := ⟨(tw_gl kw_900 rfl), tw_gl kw_901 rfl⟩
theorem km_X6_age : tw_kM yX6_age cX6_age 1 (some .int) 0 := ⟨(tw_gl kw_9 rfl), (tw_gl kw_915 rfl), by decide, by decide, by decide +kernel⟩
theorem kg_912 : (Jvm.Cond.methodLink "RaceByLaps$Race" (178 : Nat) ({ cls := "RaceByLaps$Runner", name := "age", desc := "()I" } : Jvm.MethodName)) ∈ lw_g := tw_gl kw_912 rfl
theorem kv_X6_age : tw_kV yX6_age := ⟨(tw_gl kw_913 rfl), tw_gl kw_914 rfl⟩
theorem km_X9_wetAt : tw_kM yX9_wetAt cX9_wetAt 7 (some .int) 2 := ⟨(tw_gl kw_3 rfl), (tw_gl kw_920 rfl), by decide, by decide, by decide +kernel⟩
theorem kg_917 : (Jvm.Cond.methodLink "RaceByLaps$Race" (181 : Nat) ({ cls := "RaceByLaps$Track", name := "wetAt", desc := "(II)I" } : Jvm.MethodName)) ∈ lw_g := tw_gl kw_917 rfl
theorem kv_X9_wetAt : tw_kV yX9_wetAt := ⟨(tw_gl kw_918 rfl), tw_gl kw_919 rfl⟩
theorem kg_921 : (Jvm.Cond.methodLink "RaceByLaps$Race" (184 : Nat) ({ cls := "RaceByLaps$Track", name := "tyreNumber", desc := "(II)I" } : Jvm.MethodName)) ∈ lw_g := tw_gl kw_921 rfl
theorem kg_922 : (Jvm.Cond.methodLink "RaceByLaps$Race" (187 : Nat) ({ cls := "java/lang/Math", name := "abs", desc := "(I)I" } : Jvm.MethodName)) ∈ lw_g := tw_gl kw_922 rfl
theorem kg_923 : (Jvm.Cond.static ({ cls := "java/lang/Math", name := "abs", desc := "(I)I" } : Jvm.MethodName)) ∈ lw_g := tw_gl kw_923 rfl
theorem kg_5 : (Jvm.Cond.initialized "java/lang/Math") ∈ lw_g := tw_gl kw_5 rfl
theorem kg_924 : (Jvm.Cond.code ({ cls := "java/lang/Math", name := "abs", desc := "(I)I" } : Jvm.MethodName) prog_21_method_59_code (1 : Nat) (Option.some Jvm.ClassFile.FieldType.int)) ∈ lw_g := tw_gl kw_924 rfl
theorem kf_RX2_175 : tw_kF RX2 175 9 2 RX9 TX9 9 := ⟨rfl, iw_X9, by decide, rfl, (tw_gl kw_101 rfl)⟩
theorem kf_RX2_192 : tw_kF RX2 192 1 0 RX1 TX1 14 := ⟨rfl, iw_X1, by decide, rfl, (tw_gl kw_192 rfl)⟩
theorem kg1_8_0 : jm_kg wd1 8 0 1 (fun _ _ _ g => jm_i (g 0)) := fun _ _ _ _ => ⟨_, rfl, rfl⟩
theorem kg_925 : (Jvm.Cond.methodLink "RaceByLaps$Race" (195 : Nat) ({ cls := "java/lang/Math", name := "max", desc := "(II)I" } : Jvm.MethodName)) ∈ lw_g := tw_gl kw_925 rfl
theorem kg_61 : (Jvm.Cond.static ({ cls := "java/lang/Math", name := "max", desc := "(II)I" } : Jvm.MethodName)) ∈ lw_g := tw_gl kw_61 rfl
theorem kg_62 : (Jvm.Cond.code ({ cls := "java/lang/Math", name := "max", desc := "(II)I" } : Jvm.MethodName) prog_21_method_65_code (2 : Nat) (Option.some Jvm.ClassFile.FieldType.int)) ∈ lw_g := tw_gl kw_62 rfl
theorem km_X2_freeTime : tw_kM yX2_freeTime cX2_freeTime 9 (some .int) 4 := ⟨(tw_gl kw_6 rfl), (tw_gl kw_911 rfl), by decide, by decide, by decide +kernel⟩
theorem kg_908 : (Jvm.Cond.methodLink "RaceByLaps$Race" (144 : Nat) ({ cls := "RaceByLaps$Race", name := "freeTime", desc := "(LRaceByLaps$Car;LRaceByLaps$Runner;II)I" } : Jvm.MethodName)) ∈ lw_g := tw_gl kw_908 rfl
theorem kv_X2_freeTime : tw_kV yX2_freeTime := ⟨(tw_gl kw_910 rfl), tw_gl (List.mem_append_left _ (List.mem_map.mpr ⟨(yX2_freeTime, _), List.mem_append_right _ (List.mem_append_left _ (List.mem_of_getElem? (i := 4) rfl)), rfl⟩)) rfl⟩
theorem km_X6_wear : tw_kM yX6_wear cX6_wear 1 none 0 := ⟨(tw_gl kw_9 rfl), (tw_gl kw_929 rfl), by decide, by decide, by decide +kernel⟩
theorem kg_926 : (Jvm.Cond.methodLink "RaceByLaps$Race" (148 : Nat) ({ cls := "RaceByLaps$Runner", name := "wear", desc := "()V" } : Jvm.MethodName)) ∈ lw_g := tw_gl kw_926 rfl
theorem kv_X6_wear : tw_kV yX6_wear := ⟨(tw_gl kw_927 rfl), tw_gl kw_928 rfl⟩
theorem km_X2_slowTime : tw_kM yX2_slowTime cX2_slowTime 5 (some .int) 2 := ⟨(tw_gl kw_6 rfl), (tw_gl kw_907 rfl), by decide, by decide, by decide +kernel⟩
theorem kg_904 : (Jvm.Cond.methodLink "RaceByLaps$Race" (141 : Nat) ({ cls := "RaceByLaps$Race", name := "slowTime", desc := "(II)I" } : Jvm.MethodName)) ∈ lw_g := tw_gl kw_904 rfl
theorem kv_X2_slowTime : tw_kV yX2_slowTime := ⟨(tw_gl kw_906 rfl), tw_gl (List.mem_append_left _ (List.mem_map.mpr ⟨(yX2_slowTime, _), List.mem_append_right _ (List.mem_append_left _ (List.mem_of_getElem? (i := 3) rfl)), rfl⟩)) rfl⟩
theorem km_X6_rest : tw_kM yX6_rest cX6_rest 3 none 2 := ⟨(tw_gl kw_9 rfl), (tw_gl kw_898 rfl), by decide, by decide, by decide +kernel⟩
theorem kg_895 : (Jvm.Cond.methodLink "RaceByLaps$Race" (134 : Nat) ({ cls := "RaceByLaps$Runner", name := "rest", desc := "(II)V" } : Jvm.MethodName)) ∈ lw_g := tw_gl kw_895 rfl
theorem kv_X6_rest : tw_kV yX6_rest := ⟨(tw_gl kw_896 rfl), tw_gl kw_897 rfl⟩
theorem kg1_2_6 : jm_kg wd1 2 6 2 (fun _ _ _ g => jm_i (g 6)) := fun _ _ _ _ => ⟨_, rfl, rfl⟩
theorem kf_RX2_212 : tw_kF RX2 212 6 18 RX6 TX6 20 := ⟨rfl, iw_X6, by decide, rfl, (tw_gl kw_305 rfl)⟩
theorem km_X2_latestBefore : tw_kM yX2_latestBefore cX2_latestBefore 8 (some .int) 3 := ⟨(tw_gl kw_6 rfl), (tw_gl kw_937 rfl), by decide, by decide, by decide +kernel⟩
theorem kg_934 : (Jvm.Cond.methodLink "RaceByLaps$Race" (198 : Nat) ({ cls := "RaceByLaps$Race", name := "latestBefore", desc := "(III)I" } : Jvm.MethodName)) ∈ lw_g := tw_gl kw_934 rfl
theorem kv_X2_latestBefore : tw_kV yX2_latestBefore := ⟨(tw_gl kw_936 rfl), tw_gl (List.mem_append_left _ (List.mem_map.mpr ⟨(yX2_latestBefore, _), List.mem_append_right _ (List.mem_append_left _ (List.mem_of_getElem? (i := 6) rfl)), rfl⟩)) rfl⟩
theorem kf_RX2_202 : tw_kF RX2 202 6 19 RX6 TX6 20 := ⟨rfl, iw_X6, by decide, rfl, (tw_gl kw_307 rfl)⟩
theorem kg1_9_19 : jm_kg wd1 9 19 6 (fun _ ad i _ => .ref (ad (jm_r wd1 33 ((fun i => i) i)))) := fun _ _ _ _ => ⟨_, rfl, rfl⟩
theorem kf_RX2_215 : tw_kF RX2 215 9 3 RX9 TX9 9 := ⟨rfl, iw_X9, by decide, rfl, (tw_gl kw_104 rfl)⟩
theorem km_X9_yellowAt : tw_kM yX9_yellowAt cX9_yellowAt 6 (some .boolean) 2 := ⟨(tw_gl kw_3 rfl), (tw_gl kw_945 rfl), by decide, by decide, by decide +kernel⟩
theorem kg_942 : (Jvm.Cond.methodLink "RaceByLaps$Race" (218 : Nat) ({ cls := "RaceByLaps$Track", name := "yellowAt", desc := "(II)Z" } : Jvm.MethodName)) ∈ lw_g := tw_gl kw_942 rfl
theorem kv_X9_yellowAt : tw_kV yX9_yellowAt := ⟨(tw_gl kw_943 rfl), tw_gl kw_944 rfl⟩
theorem kf_RX2_224 : tw_kF RX2 224 6 10 RX6 TX6 20 := ⟨rfl, iw_X6, by decide, rfl, (tw_gl kw_289 rfl)⟩
theorem kg1_9_10 : jm_kg wd1 9 10 6 (fun _ _ _ g => jm_i (g 10)) := fun _ _ _ _ => ⟨_, rfl, rfl⟩
theorem kg1_9_14 : jm_kg wd1 9 14 6 (fun _ _ _ g => jm_i (g 14)) := fun _ _ _ _ => ⟨_, rfl, rfl⟩
theorem kf_RX2_221 : tw_kF RX2 221 6 7 RX6 TX6 20 := ⟨rfl, iw_X6, by decide, rfl, (tw_gl kw_282 rfl)⟩
theorem kg1_9_7 : jm_kg wd1 9 7 6 (fun _ _ _ g => jm_i (g 7)) := fun _ _ _ _ => ⟨_, rfl, rfl⟩
theorem km_X2_passes : tw_kM yX2_passes cX2_passes 8 (some .boolean) 5 := ⟨(tw_gl kw_6 rfl), (tw_gl kw_941 rfl), by decide, by decide, by decide +kernel⟩
theorem kg_938 : (Jvm.Cond.methodLink "RaceByLaps$Race" (205 : Nat) ({ cls := "RaceByLaps$Race", name := "passes", desc := "(LRaceByLaps$Runner;LRaceByLaps$Runner;III)Z" } : Jvm.MethodName)) ∈ lw_g := tw_gl kw_938 rfl
theorem kv_X2_passes : tw_kV yX2_passes := ⟨(tw_gl kw_940 rfl), tw_gl (List.mem_append_left _ (List.mem_map.mpr ⟨(yX2_passes, _), List.mem_append_right _ (List.mem_append_left _ (List.mem_of_getElem? (i := 7) rfl)), rfl⟩)) rfl⟩
theorem kf_RX2_209 : tw_kF RX2 209 6 11 RX6 TX6 20 := ⟨rfl, iw_X6, by decide, rfl, (tw_gl kw_291 rfl)⟩
theorem kg1_9_11 : jm_kg wd1 9 11 6 (fun _ _ _ g => jm_i (g 11)) := fun _ _ _ _ => ⟨_, rfl, rfl⟩
theorem km_X2_heldEnd : tw_kM yX2_heldEnd cX2_heldEnd 9 (some .int) 4 := ⟨(tw_gl kw_6 rfl), (tw_gl kw_933 rfl), by decide, by decide, by decide +kernel⟩
theorem kg_930 : (Jvm.Cond.methodLink "RaceByLaps$Race" (151 : Nat) ({ cls := "RaceByLaps$Race", name := "heldEnd", desc := "(IIII)I" } : Jvm.MethodName)) ∈ lw_g := tw_gl kw_930 rfl
theorem kv_X2_heldEnd : tw_kV yX2_heldEnd := ⟨(tw_gl kw_932 rfl), tw_gl (List.mem_append_left _ (List.mem_map.mpr ⟨(yX2_heldEnd, _), List.mem_append_right _ (List.mem_append_left _ (List.mem_of_getElem? (i := 5) rfl)), rfl⟩)) rfl⟩
theorem kg1_9_16 : jm_kg wd1 9 16 6 (fun _ ad i _ => .ref (ad (jm_r wd1 30 ((fun i => i) i)))) := fun _ _ _ _ => ⟨_, rfl, rfl⟩
theorem km_X6_endLine : tw_kM yX6_endLine cX6_endLine 5 none 4 := ⟨(tw_gl kw_9 rfl), (tw_gl kw_949 rfl), by decide, by decide, by decide +kernel⟩
theorem kg_946 : (Jvm.Cond.methodLink "RaceByLaps$Race" (155 : Nat) ({ cls := "RaceByLaps$Runner", name := "endLine", desc := "(IIII)V" } : Jvm.MethodName)) ∈ lw_g := tw_gl kw_946 rfl
theorem kv_X6_endLine : tw_kV yX6_endLine := ⟨(tw_gl kw_947 rfl), tw_gl kw_948 rfl⟩
theorem km_X9_lapOf : tw_kM yX9_lapOf cX9_lapOf 2 (some .int) 1 := ⟨(tw_gl kw_3 rfl), (tw_gl kw_953 rfl), by decide, by decide, by decide +kernel⟩
theorem kg_950 : (Jvm.Cond.methodLink "RaceByLaps$Race" (162 : Nat) ({ cls := "RaceByLaps$Track", name := "lapOf", desc := "(I)I" } : Jvm.MethodName)) ∈ lw_g := tw_gl kw_950 rfl
theorem kv_X9_lapOf : tw_kV yX9_lapOf := ⟨(tw_gl kw_951 rfl), tw_gl kw_952 rfl⟩
theorem kf_RX2_227 : tw_kF RX2 227 9 1 RX9 TX9 9 := ⟨rfl, iw_X9, by decide, rfl, (tw_gl kw_98 rfl)⟩
theorem km_X9_lineOf : tw_kM yX9_lineOf cX9_lineOf 3 (some .int) 2 := ⟨(tw_gl kw_3 rfl), (tw_gl kw_965 rfl), by decide, by decide, by decide +kernel⟩
theorem kg_962 : (Jvm.Cond.methodLink "RaceByLaps$Race" (265 : Nat) ({ cls := "RaceByLaps$Track", name := "lineOf", desc := "(II)I" } : Jvm.MethodName)) ∈ lw_g := tw_gl kw_962 rfl
theorem kv_X9_lineOf : tw_kV yX9_lineOf := ⟨(tw_gl kw_963 rfl), tw_gl kw_964 rfl⟩
theorem kg1_9_2 : jm_kg wd1 9 2 6 (fun _ _ _ g => jm_i (g 2)) := fun _ _ _ _ => ⟨_, rfl, rfl⟩
theorem km_X6_timeAt : tw_kM yX6_timeAt cX6_timeAt 2 (some .int) 1 := ⟨(tw_gl kw_9 rfl), (tw_gl kw_969 rfl), by decide, by decide, by decide +kernel⟩
theorem kg_966 : (Jvm.Cond.methodLink "RaceByLaps$Race" (268 : Nat) ({ cls := "RaceByLaps$Runner", name := "timeAt", desc := "(I)I" } : Jvm.MethodName)) ∈ lw_g := tw_gl kw_966 rfl
theorem kv_X6_timeAt : tw_kV yX6_timeAt := ⟨(tw_gl kw_967 rfl), tw_gl kw_968 rfl⟩
theorem km_X2_isRaceWon : tw_kM yX2_isRaceWon cX2_isRaceWon 6 (some .boolean) 2 := ⟨(tw_gl kw_6 rfl), (tw_gl kw_961 rfl), by decide, by decide, by decide +kernel⟩
theorem kg_958 : (Jvm.Cond.methodLink "RaceByLaps$Race" (230 : Nat) ({ cls := "RaceByLaps$Race", name := "isRaceWon", desc := "(II)Z" } : Jvm.MethodName)) ∈ lw_g := tw_gl kw_958 rfl
theorem kv_X2_isRaceWon : tw_kV yX2_isRaceWon := ⟨(tw_gl kw_960 rfl), tw_gl (List.mem_append_left _ (List.mem_map.mpr ⟨(yX2_isRaceWon, _), List.mem_append_right _ (List.mem_append_left _ (List.mem_of_getElem? (i := 9) rfl)), rfl⟩)) rfl⟩
theorem kg1_8_13 : jm_kg wd1 8 13 1 (fun _ _ _ g => jm_i (g 13)) := fun _ _ _ _ => ⟨_, rfl, rfl⟩
theorem km_X1_isAsked : tw_kM yX1_isAsked cX1_isAsked 1 (some .boolean) 0 := ⟨(tw_gl kw_7 rfl), (tw_gl kw_973 rfl), by decide, by decide, by decide +kernel⟩
theorem kg_970 : (Jvm.Cond.methodLink "RaceByLaps$Race" (233 : Nat) ({ cls := "RaceByLaps$Car", name := "isAsked", desc := "()Z" } : Jvm.MethodName)) ∈ lw_g := tw_gl kw_970 rfl
theorem kv_X1_isAsked : tw_kV yX1_isAsked := ⟨(tw_gl kw_971 rfl), tw_gl kw_972 rfl⟩
theorem kg1_2_1 : jm_kg wd1 2 1 2 (fun _ ad i _ => .ref (ad (jm_r wd1 7 ((fun i => i) i)))) := fun _ _ _ _ => ⟨_, rfl, rfl⟩
theorem kg1_7_0 : jm_kg wd1 7 0 4 (fun _ ad i _ => .ref (ad (jm_r wd1 27 ((fun i => i) i)))) := fun _ _ _ _ => ⟨_, rfl, rfl⟩
theorem km_X4_let : tw_kM yX4_let cX4_let 3 none 2 := ⟨(tw_gl kw_2 rfl), (tw_gl kw_981 rfl), by decide, by decide, by decide +kernel⟩
theorem kg_978 : (Jvm.Cond.methodLink "RaceByLaps$Race" (271 : Nat) ({ cls := "RaceByLaps$Reckoner", name := "let", desc := "(CI)V" } : Jvm.MethodName)) ∈ lw_g := tw_gl kw_978 rfl
theorem kv_X4_let : tw_kV yX4_let := ⟨(tw_gl kw_979 rfl), tw_gl kw_980 rfl⟩
theorem kf_RX2_275 : tw_kF RX2 275 6 2 RX6 TX6 20 := ⟨rfl, iw_X6, by decide, rfl, (tw_gl kw_267 rfl)⟩
theorem kf_RX2_278 : tw_kF RX2 278 6 5 RX6 TX6 20 := ⟨rfl, iw_X6, by decide, rfl, (tw_gl kw_276 rfl)⟩
theorem kg1_9_5 : jm_kg wd1 9 5 6 (fun _ _ _ g => jm_i (g 5)) := fun _ _ _ _ => ⟨_, rfl, rfl⟩
theorem kf_RX2_281 : tw_kF RX2 281 1 3 RX1 TX1 14 := ⟨rfl, iw_X1, by decide, rfl, (tw_gl kw_199 rfl)⟩
theorem kg1_8_3 : jm_kg wd1 8 3 1 (fun _ _ _ g => jm_i (g 3)) := fun _ _ _ _ => ⟨_, rfl, rfl⟩
theorem km_X2_freeFrom : tw_kM yX2_freeFrom cX2_freeFrom 2 (some .int) 1 := ⟨(tw_gl kw_6 rfl), (tw_gl kw_986 rfl), by decide, by decide, by decide +kernel⟩
theorem kg_983 : (Jvm.Cond.methodLink "RaceByLaps$Race" (284 : Nat) ({ cls := "RaceByLaps$Race", name := "freeFrom", desc := "(I)I" } : Jvm.MethodName)) ∈ lw_g := tw_gl kw_983 rfl
theorem kv_X2_freeFrom : tw_kV yX2_freeFrom := ⟨(tw_gl kw_985 rfl), tw_gl (List.mem_append_left _ (List.mem_map.mpr ⟨(yX2_freeFrom, _), List.mem_append_right _ (List.mem_append_left _ (List.mem_of_getElem? (i := 11) rfl)), rfl⟩)) rfl⟩
theorem km_X2_setLetters : tw_kM yX2_setLetters cX2_setLetters 11 none 5 := ⟨(tw_gl kw_6 rfl), (tw_gl kw_977 rfl), by decide, by decide, by decide +kernel⟩
theorem kg_974 : (Jvm.Cond.methodLink "RaceByLaps$Race" (237 : Nat) ({ cls := "RaceByLaps$Race", name := "setLetters", desc := "(ILRaceByLaps$Car;LRaceByLaps$Runner;II)V" } : Jvm.MethodName)) ∈ lw_g := tw_gl kw_974 rfl
theorem kv_X2_setLetters : tw_kV yX2_setLetters := ⟨(tw_gl kw_976 rfl), tw_gl (List.mem_append_left _ (List.mem_map.mpr ⟨(yX2_setLetters, _), List.mem_append_right _ (List.mem_append_left _ (List.mem_of_getElem? (i := 10) rfl)), rfl⟩)) rfl⟩
theorem kf_RX2_240 : tw_kF RX2 240 1 11 RX1 TX1 14 := ⟨rfl, iw_X1, by decide, rfl, (tw_gl kw_223 rfl)⟩
theorem kf_RX4_22 : tw_kF RX4 22 8 6 RX8 TX8 8 := ⟨rfl, iw_X8, by decide, rfl, (tw_gl kw_170 rfl)⟩
theorem kf_RX4_32 : tw_kF RX4 32 8 2 RX8 TX8 8 := ⟨rfl, iw_X8, by decide, rfl, (tw_gl kw_162 rfl)⟩
theorem kg_995 : (Jvm.Cond.methodLink "RaceByLaps$Reckoner" (35 : Nat) ({ cls := "java/lang/Math", name := "min", desc := "(II)I" } : Jvm.MethodName)) ∈ lw_g := tw_gl kw_995 rfl
theorem kg_717 : (Jvm.Cond.static ({ cls := "java/lang/Math", name := "min", desc := "(II)I" } : Jvm.MethodName)) ∈ lw_g := tw_gl kw_717 rfl
theorem kg_718 : (Jvm.Cond.code ({ cls := "java/lang/Math", name := "min", desc := "(II)I" } : Jvm.MethodName) prog_21_method_69_code (2 : Nat) (Option.some Jvm.ClassFile.FieldType.int)) ∈ lw_g := tw_gl kw_718 rfl
theorem kg1_7_1 : jm_kg wd1 7 1 4 (fun _ ad i _ => .ref (ad (jm_r wd1 28 ((fun i => i) i)))) := fun _ _ _ _ => ⟨_, rfl, rfl⟩
theorem kf_RX4_41 : tw_kF RX4 41 8 0 RX8 TX8 8 := ⟨rfl, iw_X8, by decide, rfl, (tw_gl kw_159 rfl)⟩
theorem km_X4_valueOf : tw_kM yX4_valueOf cX4_valueOf 3 (some .int) 1 := ⟨(tw_gl kw_2 rfl), (tw_gl kw_999 rfl), by decide, by decide, by decide +kernel⟩
theorem kg_996 : (Jvm.Cond.methodLink "RaceByLaps$Reckoner" (44 : Nat) ({ cls := "RaceByLaps$Reckoner", name := "valueOf", desc := "(I)I" } : Jvm.MethodName)) ∈ lw_g := tw_gl kw_996 rfl
theorem kv_X4_valueOf : tw_kV yX4_valueOf := ⟨(tw_gl kw_998 rfl), tw_gl (List.mem_append_left _ (List.mem_map.mpr ⟨(yX4_valueOf, _), List.mem_append_right _ (List.mem_append_left _ (List.mem_of_getElem? (i := 12) rfl)), rfl⟩)) rfl⟩
theorem km_X4_join : tw_kM yX4_join cX4_join 3 (some .int) 3 := ⟨(tw_gl kw_2 rfl), (tw_gl kw_1002 rfl), by decide, by decide, by decide +kernel⟩
theorem kg_1000 : (Jvm.Cond.methodLink "RaceByLaps$Reckoner" (48 : Nat) ({ cls := "RaceByLaps$Reckoner", name := "join", desc := "(III)I" } : Jvm.MethodName)) ∈ lw_g := tw_gl kw_1000 rfl
theorem kg_1001 : (Jvm.Cond.static ({ cls := "RaceByLaps$Reckoner", name := "join", desc := "(III)I" } : Jvm.MethodName)) ∈ lw_g := tw_gl kw_1001 rfl
theorem km_X4_holds : tw_kM yX4_holds cX4_holds 8 (some .boolean) 2 := ⟨(tw_gl kw_2 rfl), (tw_gl kw_994 rfl), by decide, by decide, by decide +kernel⟩
theorem kg_991 : (Jvm.Cond.methodLink "RaceByLaps$Reckoner" (28 : Nat) ({ cls := "RaceByLaps$Reckoner", name := "holds", desc := "(LRaceByLaps$Text;I)Z" } : Jvm.MethodName)) ∈ lw_g := tw_gl kw_991 rfl
theorem kv_X4_holds : tw_kV yX4_holds := ⟨(tw_gl kw_992 rfl), tw_gl kw_993 rfl⟩
theorem km_X4_firstTrue : tw_kM yX4_firstTrue cX4_firstTrue 3 (some .int) 1 := ⟨(tw_gl kw_2 rfl), (tw_gl kw_990 rfl), by decide, by decide, by decide +kernel⟩
theorem kg_987 : (Jvm.Cond.methodLink "RaceByLaps$Race" (244 : Nat) ({ cls := "RaceByLaps$Reckoner", name := "firstTrue", desc := "(LRaceByLaps$Text;)I" } : Jvm.MethodName)) ∈ lw_g := tw_gl kw_987 rfl
theorem kv_X4_firstTrue : tw_kV yX4_firstTrue := ⟨(tw_gl kw_988 rfl), tw_gl kw_989 rfl⟩
theorem kf_RX2_287 : tw_kF RX2 287 6 17 RX6 TX6 20 := ⟨rfl, iw_X6, by decide, rfl, (tw_gl kw_302 rfl)⟩
theorem kf_RX2_290 : tw_kF RX2 290 8 3 RX8 TX8 8 := ⟨rfl, iw_X8, by decide, rfl, (tw_gl kw_164 rfl)⟩
theorem kf_RX2_294 : tw_kF RX2 294 8 4 RX8 TX8 8 := ⟨rfl, iw_X8, by decide, rfl, (tw_gl kw_166 rfl)⟩
theorem kf_RX2_296 : tw_kF RX2 296 8 5 RX8 TX8 8 := ⟨rfl, iw_X8, by decide, rfl, (tw_gl kw_168 rfl)⟩
theorem km_X2_follow : tw_kM yX2_follow cX2_follow 4 (some .int) 4 := ⟨(tw_gl kw_6 rfl), (tw_gl kw_1005 rfl), by decide, by decide, by decide +kernel⟩
theorem kg_1003 : (Jvm.Cond.methodLink "RaceByLaps$Race" (250 : Nat) ({ cls := "RaceByLaps$Race", name := "follow", desc := "(LRaceByLaps$Text;ILRaceByLaps$Runner;I)I" } : Jvm.MethodName)) ∈ lw_g := tw_gl kw_1003 rfl
theorem kg_1004 : (Jvm.Cond.static ({ cls := "RaceByLaps$Race", name := "follow", desc := "(LRaceByLaps$Text;ILRaceByLaps$Runner;I)I" } : Jvm.MethodName)) ∈ lw_g := tw_gl kw_1004 rfl
theorem kg1_8_10 : jm_kg wd1 8 10 1 (fun _ ad i _ => .ref (ad (jm_r wd1 10 ((fun i => (i + 24)) i)))) := fun _ _ _ _ => ⟨_, rfl, rfl⟩
theorem km_X1_stopsInForce : tw_kM yX1_stopsInForce cX1_stopsInForce 1 (some (.object "RaceByLaps$Table")) 0 := ⟨(tw_gl kw_7 rfl), (tw_gl kw_1013 rfl), by decide, by decide, by decide +kernel⟩
theorem kg_1010 : (Jvm.Cond.methodLink "RaceByLaps$Car" (50 : Nat) ({ cls := "RaceByLaps$Car", name := "stopsInForce", desc := "()LRaceByLaps$Table;" } : Jvm.MethodName)) ∈ lw_g := tw_gl kw_1010 rfl
theorem kv_X1_stopsInForce : tw_kV yX1_stopsInForce := ⟨(tw_gl kw_1011 rfl), tw_gl kw_1012 rfl⟩
theorem kg_1014 : (Jvm.Cond.methodLink "RaceByLaps$Car" (54 : Nat) ({ cls := "RaceByLaps$Table", name := "cell", desc := "(II)I" } : Jvm.MethodName)) ∈ lw_g := tw_gl kw_1014 rfl
theorem km_X1_stopBehind : tw_kM yX1_stopBehind cX1_stopBehind 4 (some .int) 1 := ⟨(tw_gl kw_7 rfl), (tw_gl kw_1009 rfl), by decide, by decide, by decide +kernel⟩
theorem kg_1006 : (Jvm.Cond.methodLink "RaceByLaps$Race" (254 : Nat) ({ cls := "RaceByLaps$Car", name := "stopBehind", desc := "(I)I" } : Jvm.MethodName)) ∈ lw_g := tw_gl kw_1006 rfl
theorem kv_X1_stopBehind : tw_kV yX1_stopBehind := ⟨(tw_gl kw_1007 rfl), tw_gl kw_1008 rfl⟩
theorem kf_RX2_299 : tw_kF RX2 299 1 1 RX1 TX1 14 := ⟨rfl, iw_X1, by decide, rfl, (tw_gl kw_194 rfl)⟩
theorem kg1_8_1 : jm_kg wd1 8 1 1 (fun _ _ _ g => jm_i (g 1)) := fun _ _ _ _ => ⟨_, rfl, rfl⟩
theorem kg_1020 : (Jvm.Cond.methodLink "RaceByLaps$Race" (302 : Nat) ({ cls := "java/lang/Math", name := "min", desc := "(II)I" } : Jvm.MethodName)) ∈ lw_g := tw_gl kw_1020 rfl
theorem kf_RX2_305 : tw_kF RX2 305 6 12 RX6 TX6 20 := ⟨rfl, iw_X6, by decide, rfl, (tw_gl kw_294 rfl)⟩
theorem kg1_9_12 : jm_kg wd1 9 12 6 (fun _ _ _ g => jm_i (g 12)) := fun _ _ _ _ => ⟨_, rfl, rfl⟩
theorem km_X2_atBox : tw_kM yX2_atBox cX2_atBox 10 none 5 := ⟨(tw_gl kw_6 rfl), (tw_gl kw_1019 rfl), by decide, by decide, by decide +kernel⟩
theorem kg_1016 : (Jvm.Cond.methodLink "RaceByLaps$Race" (261 : Nat) ({ cls := "RaceByLaps$Race", name := "atBox", desc := "(LRaceByLaps$Car;LRaceByLaps$Runner;III)V" } : Jvm.MethodName)) ∈ lw_g := tw_gl kw_1016 rfl
theorem kv_X2_atBox : tw_kV yX2_atBox := ⟨(tw_gl kw_1018 rfl), tw_gl (List.mem_append_left _ (List.mem_map.mpr ⟨(yX2_atBox, _), List.mem_append_right _ (List.mem_append_left _ (List.mem_of_getElem? (i := 13) rfl)), rfl⟩)) rfl⟩
theorem kg_1015 : (Jvm.Cond.methodLink "RaceByLaps$Race" (257 : Nat) ({ cls := "RaceByLaps$Car", name := "stopsInForce", desc := "()LRaceByLaps$Table;" } : Jvm.MethodName)) ∈ lw_g := tw_gl kw_1015 rfl
theorem km_X2_endLap : tw_kM yX2_endLap cX2_endLap 9 none 5 := ⟨(tw_gl kw_6 rfl), (tw_gl kw_957 rfl), by decide, by decide, by decide +kernel⟩
theorem kg_954 : (Jvm.Cond.methodLink "RaceByLaps$Race" (165 : Nat) ({ cls := "RaceByLaps$Race", name := "endLap", desc := "(ILRaceByLaps$Car;LRaceByLaps$Runner;II)V" } : Jvm.MethodName)) ∈ lw_g := tw_gl kw_954 rfl
theorem kv_X2_endLap : tw_kV yX2_endLap := ⟨(tw_gl kw_956 rfl), tw_gl (List.mem_append_left _ (List.mem_map.mpr ⟨(yX2_endLap, _), List.mem_append_right _ (List.mem_append_left _ (List.mem_of_getElem? (i := 8) rfl)), rfl⟩)) rfl⟩
theorem km_X2_goOn : tw_kM yX2_goOn cX2_goOn 11 none 3 := ⟨(tw_gl kw_6 rfl), (tw_gl kw_885 rfl), by decide, by decide, by decide +kernel⟩
theorem kg_882 : (Jvm.Cond.methodLink "RaceByLaps$Race" (87 : Nat) ({ cls := "RaceByLaps$Race", name := "goOn", desc := "(ILRaceByLaps$Car;LRaceByLaps$Runner;)V" } : Jvm.MethodName)) ∈ lw_g := tw_gl kw_882 rfl
theorem kv_X2_goOn : tw_kV yX2_goOn := ⟨(tw_gl kw_884 rfl), tw_gl (List.mem_append_left _ (List.mem_map.mpr ⟨(yX2_goOn, _), List.mem_append_right _ (List.mem_append_left _ (List.mem_of_getElem? (i := 1) rfl)), rfl⟩)) rfl⟩
theorem km_X2_run : tw_kM yX2_run cX2_run 3 none 0 := ⟨(tw_gl kw_6 rfl), (tw_gl kw_864 rfl), by decide, by decide, by decide +kernel⟩
theorem kg_861 : (Jvm.Cond.methodLink "RaceByLaps$Race" (58 : Nat) ({ cls := "RaceByLaps$Race", name := "run", desc := "()V" } : Jvm.MethodName)) ∈ lw_g := tw_gl kw_861 rfl
theorem kv_X2_run : tw_kV yX2_run := ⟨(tw_gl kw_862 rfl), tw_gl kw_863 rfl⟩
theorem km_X2_reckon : tw_kM yX2_reckon cX2_reckon 1 none 0 := ⟨(tw_gl kw_6 rfl), (tw_gl kw_860 rfl), by decide, by decide, by decide +kernel⟩
theorem kg_857 : (Jvm.Cond.methodLink "RaceByLaps" (227 : Nat) ({ cls := "RaceByLaps$Race", name := "reckon", desc := "()V" } : Jvm.MethodName)) ∈ lw_g := tw_gl kw_857 rfl
theorem kv_X2_reckon : tw_kV yX2_reckon := ⟨(tw_gl kw_858 rfl), tw_gl kw_859 rfl⟩
theorem kf_RX11_230 : tw_kF RX11 230 2 3 RX2 TX2 8 := ⟨rfl, iw_X2, by decide, rfl, (tw_gl kw_358 rfl)⟩
theorem kg1_9_4 : jm_kg wd1 9 4 6 (fun _ _ _ g => jm_i (g 4)) := fun _ _ _ _ => ⟨_, rfl, rfl⟩
theorem kg_1093 : (Jvm.Cond.constant "java/lang/Integer" (265 : Nat) (1431655765 : Int32)) ∈ lw_g := tw_gl kw_1093 rfl
theorem kg_1094 : (Jvm.Cond.constant "java/lang/Integer" (266 : Nat) (858993459 : Int32)) ∈ lw_g := tw_gl kw_1094 rfl
theorem kg_1095 : (Jvm.Cond.constant "java/lang/Integer" (267 : Nat) (252645135 : Int32)) ∈ lw_g := tw_gl kw_1095 rfl
theorem km_J6_bitCount_0f7a4 : tw_kM yJ6_bitCount_0f7a4 cJ6_bitCount_0f7a4 1 (some .int) 1 := ⟨(tw_gl kw_25 rfl), (tw_gl kw_1092 rfl), by decide, by decide, by decide +kernel⟩
theorem kg_1325 : (Jvm.Cond.methodLink "RaceByLaps$Runner" (99 : Nat) ({ cls := "java/lang/Integer", name := "bitCount", desc := "(I)I" } : Jvm.MethodName)) ∈ lw_g := tw_gl kw_1325 rfl
theorem kg_1091 : (Jvm.Cond.static ({ cls := "java/lang/Integer", name := "bitCount", desc := "(I)I" } : Jvm.MethodName)) ∈ lw_g := tw_gl kw_1091 rfl
theorem kg_1326 : (Jvm.Cond.methodLink "RaceByLaps$Runner" (105 : Nat) ({ cls := "RaceByLaps$Runner", name := "age", desc := "()I" } : Jvm.MethodName)) ∈ lw_g := tw_gl kw_1326 rfl
theorem km_X6_tell : tw_kM yX6_tell cX6_tell 2 (some .int) 1 := ⟨(tw_gl kw_9 rfl), (tw_gl kw_1324 rfl), by decide, by decide, by decide +kernel⟩
theorem kg_1321 : (Jvm.Cond.methodLink "RaceByLaps" (234 : Nat) ({ cls := "RaceByLaps$Runner", name := "tell", desc := "(I)I" } : Jvm.MethodName)) ∈ lw_g := tw_gl kw_1321 rfl
theorem kv_X6_tell : tw_kV yX6_tell := ⟨(tw_gl kw_1322 rfl), tw_gl kw_1323 rfl⟩
theorem kg_856 : (Jvm.Cond.methodLink "RaceByLaps$Track" (63 : Nat) ({ cls := "RaceByLaps$Track", name := "hasSector", desc := "(I)Z" } : Jvm.MethodName)) ∈ lw_g := tw_gl kw_856 rfl
theorem km_X9_hasLine : tw_kM yX9_hasLine cX9_hasLine 3 (some .boolean) 2 := ⟨(tw_gl kw_3 rfl), (tw_gl kw_855 rfl), by decide, by decide, by decide +kernel⟩
theorem kg_852 : (Jvm.Cond.methodLink "RaceByLaps" (239 : Nat) ({ cls := "RaceByLaps$Track", name := "hasLine", desc := "(II)Z" } : Jvm.MethodName)) ∈ lw_g := tw_gl kw_852 rfl
theorem kv_X9_hasLine : tw_kV yX9_hasLine := ⟨(tw_gl kw_853 rfl), tw_gl kw_854 rfl⟩
theorem kg_1021 : (Jvm.Cond.methodLink "RaceByLaps" (242 : Nat) ({ cls := "RaceByLaps$Track", name := "lineOf", desc := "(II)I" } : Jvm.MethodName)) ∈ lw_g := tw_gl kw_1021 rfl
theorem kg_1022 : (Jvm.Cond.methodLink "RaceByLaps" (245 : Nat) ({ cls := "RaceByLaps$Runner", name := "timeAt", desc := "(I)I" } : Jvm.MethodName)) ∈ lw_g := tw_gl kw_1022 rfl
theorem km_X2_aheadAt : tw_kM yX2_aheadAt cX2_aheadAt 7 (some .int) 3 := ⟨(tw_gl kw_6 rfl), (tw_gl kw_1034 rfl), by decide, by decide, by decide +kernel⟩
theorem kg_1031 : (Jvm.Cond.methodLink "RaceByLaps$Race" (308 : Nat) ({ cls := "RaceByLaps$Race", name := "aheadAt", desc := "(III)I" } : Jvm.MethodName)) ∈ lw_g := tw_gl kw_1031 rfl
theorem kv_X2_aheadAt : tw_kV yX2_aheadAt := ⟨(tw_gl kw_1033 rfl), tw_gl (List.mem_append_left _ (List.mem_map.mpr ⟨(yX2_aheadAt, _), List.mem_append_right _ (List.mem_append_left _ (List.mem_of_getElem? (i := 14) rfl)), rfl⟩)) rfl⟩
theorem km_X2_inOrder : tw_kM yX2_inOrder cX2_inOrder 5 (some .int) 2 := ⟨(tw_gl kw_6 rfl), (tw_gl kw_1030 rfl), by decide, by decide, by decide +kernel⟩
theorem kg_1027 : (Jvm.Cond.methodLink "RaceByLaps" (248 : Nat) ({ cls := "RaceByLaps$Race", name := "inOrder", desc := "(II)I" } : Jvm.MethodName)) ∈ lw_g := tw_gl kw_1027 rfl
theorem kv_X2_inOrder : tw_kV yX2_inOrder := ⟨(tw_gl kw_1028 rfl), tw_gl kw_1029 rfl⟩
theorem kf_RX11_251 : tw_kF RX11 251 6 12 RX6 TX6 20 := ⟨rfl, iw_X6, by decide, rfl, (tw_gl kw_293 rfl)⟩
theorem km_X11_isDay : tw_kM yX11_isDay cX11_isDay 1 (some .boolean) 1 := ⟨(tw_gl kw_1 rfl), (tw_gl kw_1057 rfl), by decide, by decide, by decide +kernel⟩
theorem kg_1055 : (Jvm.Cond.methodLink "RaceByLaps" (254 : Nat) ({ cls := "RaceByLaps", name := "isDay", desc := "(I)Z" } : Jvm.MethodName)) ∈ lw_g := tw_gl kw_1055 rfl
theorem kg_1056 : (Jvm.Cond.static ({ cls := "RaceByLaps", name := "isDay", desc := "(I)Z" } : Jvm.MethodName)) ∈ lw_g := tw_gl kw_1056 rfl
theorem kf_RX0_35 : tw_kF RX0 35 0 3 RX0 TX0 5 := ⟨rfl, iw_X0, by decide, rfl, (tw_gl kw_397 rfl)⟩
theorem kg1_3_1 : jm_kg wd1 3 1 0 (fun _ ad i _ => .ref (ad (jm_r wd1 48 ((fun i => i) i)))) := fun _ _ _ _ => ⟨_, rfl, rfl⟩
theorem kg1_3_2 : jm_kg wd1 3 2 0 (fun _ ad i _ => .ref (ad (jm_r wd1 35 ((fun i => i) i)))) := fun _ _ _ _ => ⟨_, rfl, rfl⟩
theorem km_X0_takeRule : tw_kM yX0_takeRule cX0_takeRule 4 (some (.object "RaceByLaps$Text")) 2 := ⟨(tw_gl kw_10 rfl), (tw_gl kw_1061 rfl), by decide, by decide, by decide +kernel⟩
theorem kg_1058 : (Jvm.Cond.methodLink "RaceByLaps" (257 : Nat) ({ cls := "RaceByLaps$Book", name := "takeRule", desc := "(LRaceByLaps$Text;I)LRaceByLaps$Text;" } : Jvm.MethodName)) ∈ lw_g := tw_gl kw_1058 rfl
theorem kv_X0_takeRule : tw_kV yX0_takeRule := ⟨(tw_gl kw_1059 rfl), tw_gl kw_1060 rfl⟩
theorem kg_1067 : (Jvm.Cond.constant "RaceByLaps" (261 : Nat) (-60000 : Int32)) ∈ lw_g := tw_gl kw_1067 rfl
theorem km_X2_lapsEnded : tw_kM yX2_lapsEnded cX2_lapsEnded 2 (some .int) 1 := ⟨(tw_gl kw_6 rfl), (tw_gl kw_1075 rfl), by decide, by decide, by decide +kernel⟩
theorem kg_1072 : (Jvm.Cond.methodLink "RaceByLaps" (262 : Nat) ({ cls := "RaceByLaps$Race", name := "lapsEnded", desc := "(I)I" } : Jvm.MethodName)) ∈ lw_g := tw_gl kw_1072 rfl
theorem kv_X2_lapsEnded : tw_kV yX2_lapsEnded := ⟨(tw_gl kw_1073 rfl), tw_gl kw_1074 rfl⟩
theorem kf_RX0_43 : tw_kF RX0 43 7 3 RX7 TX7 4 := ⟨rfl, iw_X7, by decide, rfl, (tw_gl kw_72 rfl)⟩
theorem kg_1080 : (Jvm.Cond.methodLink "RaceByLaps$Book" (46 : Nat) ({ cls := "RaceByLaps$Table", name := "cell", desc := "(II)I" } : Jvm.MethodName)) ∈ lw_g := tw_gl kw_1080 rfl
theorem km_X0_isOf : tw_kM yX0_isOf cX0_isOf 4 (some .boolean) 3 := ⟨(tw_gl kw_10 rfl), (tw_gl kw_1084 rfl), by decide, by decide, by decide +kernel⟩
theorem kg_1081 : (Jvm.Cond.methodLink "RaceByLaps$Book" (50 : Nat) ({ cls := "RaceByLaps$Book", name := "isOf", desc := "(III)Z" } : Jvm.MethodName)) ∈ lw_g := tw_gl kw_1081 rfl
theorem kv_X0_isOf : tw_kV yX0_isOf := ⟨(tw_gl kw_1083 rfl), tw_gl (List.mem_append_left _ (List.mem_map.mpr ⟨(yX0_isOf, _), List.mem_append_right _ (List.mem_append_left _ (List.mem_of_getElem? (i := 15) rfl)), rfl⟩)) rfl⟩
theorem km_X0_weightBy : tw_kM yX0_weightBy cX0_weightBy 7 (some .int) 2 := ⟨(tw_gl kw_10 rfl), (tw_gl kw_1079 rfl), by decide, by decide, by decide +kernel⟩
theorem kg_1076 : (Jvm.Cond.methodLink "RaceByLaps" (265 : Nat) ({ cls := "RaceByLaps$Book", name := "weightBy", desc := "(II)I" } : Jvm.MethodName)) ∈ lw_g := tw_gl kw_1076 rfl
theorem kv_X0_weightBy : tw_kV yX0_weightBy := ⟨(tw_gl kw_1077 rfl), tw_gl kw_1078 rfl⟩
theorem kg1_3_0 : jm_kg wd1 3 0 0 (fun _ ad i _ => .ref (ad (jm_r wd1 7 ((fun i => i) i)))) := fun _ _ _ _ => ⟨_, rfl, rfl⟩
theorem kf_RX0_54 : tw_kF RX0 54 6 5 RX6 TX6 20 := ⟨rfl, iw_X6, by decide, rfl, (tw_gl kw_275 rfl)⟩
theorem kg_1089 : (Jvm.Cond.methodLink "RaceByLaps$Book" (59 : Nat) ({ cls := "RaceByLaps$Reckoner", name := "let", desc := "(CI)V" } : Jvm.MethodName)) ∈ lw_g := tw_gl kw_1089 rfl
theorem kf_RX0_65 : tw_kF RX0 65 6 6 RX6 TX6 20 := ⟨rfl, iw_X6, by decide, rfl, (tw_gl kw_278 rfl)⟩
theorem kg_1090 : (Jvm.Cond.methodLink "RaceByLaps$Book" (68 : Nat) ({ cls := "java/lang/Integer", name := "bitCount", desc := "(I)I" } : Jvm.MethodName)) ∈ lw_g := tw_gl kw_1090 rfl
theorem kf_RX0_74 : tw_kF RX0 74 6 7 RX6 TX6 20 := ⟨rfl, iw_X6, by decide, rfl, (tw_gl kw_281 rfl)⟩
theorem kf_RX0_77 : tw_kF RX0 77 1 4 RX1 TX1 14 := ⟨rfl, iw_X1, by decide, rfl, (tw_gl kw_201 rfl)⟩
theorem kg1_8_4 : jm_kg wd1 8 4 1 (fun _ _ _ g => jm_i (g 4)) := fun _ _ _ _ => ⟨_, rfl, rfl⟩
theorem kf_RX0_82 : tw_kF RX0 82 6 3 RX6 TX6 20 := ⟨rfl, iw_X6, by decide, rfl, (tw_gl kw_271 rfl)⟩
theorem kf_RX0_85 : tw_kF RX0 85 6 8 RX6 TX6 20 := ⟨rfl, iw_X6, by decide, rfl, (tw_gl kw_284 rfl)⟩
theorem kf_RX0_88 : tw_kF RX0 88 1 3 RX1 TX1 14 := ⟨rfl, iw_X1, by decide, rfl, (tw_gl kw_197 rfl)⟩
theorem kg_1096 : (Jvm.Cond.methodLink "RaceByLaps$Book" (91 : Nat) ({ cls := "RaceByLaps$Reckoner", name := "holds", desc := "(LRaceByLaps$Text;I)Z" } : Jvm.MethodName)) ∈ lw_g := tw_gl kw_1096 rfl
theorem kf_RX0_95 : tw_kF RX0 95 8 7 RX8 TX8 8 := ⟨rfl, iw_X8, by decide, rfl, (tw_gl kw_172 rfl)⟩
theorem km_X0_secondsBy : tw_kM yX0_secondsBy cX0_secondsBy 8 (some .int) 5 := ⟨(tw_gl kw_10 rfl), (tw_gl kw_1088 rfl), by decide, by decide, by decide +kernel⟩
theorem kg_1085 : (Jvm.Cond.methodLink "RaceByLaps" (268 : Nat) ({ cls := "RaceByLaps$Book", name := "secondsBy", desc := "(LRaceByLaps$Car;LRaceByLaps$Runner;III)I" } : Jvm.MethodName)) ∈ lw_g := tw_gl kw_1085 rfl
theorem kv_X0_secondsBy : tw_kV yX0_secondsBy := ⟨(tw_gl kw_1086 rfl), tw_gl kw_1087 rfl⟩
theorem kg1_0_3 : jm_kg wd1 0 3 11 (fun _ ad i _ => .ref (ad (jm_r wd1 4 ((fun i => i) i)))) := fun _ _ _ _ => ⟨_, rfl, rfl⟩
theorem kg1_4_0 : jm_kg wd1 4 0 5 (fun _ ad i _ => .ref (ad (jm_r wd1 2 ((fun i => i) i)))) := fun _ _ _ _ => ⟨_, rfl, rfl⟩
theorem kf_RX5_30 : tw_kF RX5 30 2 5 RX2 TX2 8 := ⟨rfl, iw_X2, by decide, rfl, (tw_gl kw_361 rfl)⟩
theorem kf_RX5_36 : tw_kF RX5 36 2 3 RX2 TX2 8 := ⟨rfl, iw_X2, by decide, rfl, (tw_gl kw_357 rfl)⟩
theorem kg1_4_3 : jm_kg wd1 4 3 5 (fun _ ad i _ => .ref (ad (jm_r wd1 37 ((fun i => i) i)))) := fun _ _ _ _ => ⟨_, rfl, rfl⟩
theorem kg_1105 : (Jvm.Cond.methodLink "RaceByLaps$Result" (40 : Nat) ({ cls := "RaceByLaps$Race", name := "lapsEnded", desc := "(I)I" } : Jvm.MethodName)) ∈ lw_g := tw_gl kw_1105 rfl
theorem kg1_4_1 : jm_kg wd1 4 1 5 (fun _ ad i _ => .ref (ad (jm_r wd1 3 ((fun i => i) i)))) := fun _ _ _ _ => ⟨_, rfl, rfl⟩
theorem kf_RX5_44 : tw_kF RX5 44 2 2 RX2 TX2 8 := ⟨rfl, iw_X2, by decide, rfl, (tw_gl kw_354 rfl)⟩
theorem kg_1106 : (Jvm.Cond.methodLink "RaceByLaps$Result" (48 : Nat) ({ cls := "RaceByLaps$Book", name := "weightBy", desc := "(II)I" } : Jvm.MethodName)) ∈ lw_g := tw_gl kw_1106 rfl
theorem kg_1107 : (Jvm.Cond.methodLink "RaceByLaps$Result" (54 : Nat) ({ cls := "RaceByLaps$Book", name := "secondsBy", desc := "(LRaceByLaps$Car;LRaceByLaps$Runner;III)I" } : Jvm.MethodName)) ∈ lw_g := tw_gl kw_1107 rfl
theorem kg1_4_2 : jm_kg wd1 4 2 5 (fun _ ad i _ => .ref (ad (jm_r wd1 36 ((fun i => i) i)))) := fun _ _ _ _ => ⟨_, rfl, rfl⟩
theorem kf_RX5_58 : tw_kF RX5 58 6 3 RX6 TX6 20 := ⟨rfl, iw_X6, by decide, rfl, (tw_gl kw_269 rfl)⟩
theorem kg1_4_4 : jm_kg wd1 4 4 5 (fun _ ad i _ => .ref (ad (jm_r wd1 38 ((fun i => i) i)))) := fun _ _ _ _ => ⟨_, rfl, rfl⟩
theorem kf_RX5_63 : tw_kF RX5 63 6 4 RX6 TX6 20 := ⟨rfl, iw_X6, by decide, rfl, (tw_gl kw_273 rfl)⟩
theorem km_X0_timeBy : tw_kM yX0_timeBy cX0_timeBy 5 (some .int) 2 := ⟨(tw_gl kw_10 rfl), (tw_gl kw_1111 rfl), by decide, by decide, by decide +kernel⟩
theorem kg_1108 : (Jvm.Cond.methodLink "RaceByLaps$Result" (66 : Nat) ({ cls := "RaceByLaps$Book", name := "timeBy", desc := "(II)I" } : Jvm.MethodName)) ∈ lw_g := tw_gl kw_1108 rfl
theorem kv_X0_timeBy : tw_kV yX0_timeBy := ⟨(tw_gl kw_1109 rfl), tw_gl kw_1110 rfl⟩
theorem km_X5_reckonFor : tw_kM yX5_reckonFor cX5_reckonFor 5 none 1 := ⟨(tw_gl kw_11 rfl), (tw_gl kw_1104 rfl), by decide, by decide, by decide +kernel⟩
theorem kg_1101 : (Jvm.Cond.methodLink "RaceByLaps" (272 : Nat) ({ cls := "RaceByLaps$Result", name := "reckonFor", desc := "(I)V" } : Jvm.MethodName)) ∈ lw_g := tw_gl kw_1101 rfl
theorem kv_X5_reckonFor : tw_kV yX5_reckonFor := ⟨(tw_gl kw_1102 rfl), tw_gl kw_1103 rfl⟩
theorem kg_1116 : (Jvm.Cond.methodLink "RaceByLaps$Result" (69 : Nat) ({ cls := "RaceByLaps$Race", name := "has", desc := "(I)Z" } : Jvm.MethodName)) ∈ lw_g := tw_gl kw_1116 rfl
theorem kf_RX5_73 : tw_kF RX5 73 1 4 RX1 TX1 14 := ⟨rfl, iw_X1, by decide, rfl, (tw_gl kw_200 rfl)⟩
theorem km_X5_isAhead : tw_kM yX5_isAhead cX5_isAhead 3 (some .boolean) 2 := ⟨(tw_gl kw_11 rfl), (tw_gl kw_1120 rfl), by decide, by decide, by decide +kernel⟩
theorem kg_1117 : (Jvm.Cond.methodLink "RaceByLaps$Result" (78 : Nat) ({ cls := "RaceByLaps$Result", name := "isAhead", desc := "(II)Z" } : Jvm.MethodName)) ∈ lw_g := tw_gl kw_1117 rfl
theorem kv_X5_isAhead : tw_kV yX5_isAhead := ⟨(tw_gl kw_1119 rfl), tw_gl (List.mem_append_left _ (List.mem_map.mpr ⟨(yX5_isAhead, _), List.mem_append_right _ (List.mem_append_right _ (List.mem_append_left _ (List.mem_of_getElem? (i := 0) rfl))), rfl⟩)) rfl⟩
theorem km_X5_placeAmong : tw_kM yX5_placeAmong cX5_placeAmong 6 (some .int) 2 := ⟨(tw_gl kw_11 rfl), (tw_gl kw_1115 rfl), by decide, by decide, by decide +kernel⟩
theorem kg_1112 : (Jvm.Cond.methodLink "RaceByLaps" (276 : Nat) ({ cls := "RaceByLaps$Result", name := "placeAmong", desc := "(II)I" } : Jvm.MethodName)) ∈ lw_g := tw_gl kw_1112 rfl
theorem kv_X5_placeAmong : tw_kV yX5_placeAmong := ⟨(tw_gl kw_1113 rfl), tw_gl kw_1114 rfl⟩
theorem kf_RX11_279 : tw_kF RX11 279 5 2 RX5 TX5 5 := ⟨rfl, iw_X5, by decide, rfl, (tw_gl kw_421 rfl)⟩
theorem kf_RX11_283 : tw_kF RX11 283 5 4 RX5 TX5 5 := ⟨rfl, iw_X5, by decide, rfl, (tw_gl kw_424 rfl)⟩
theorem kp_X11_9 : tw_kP 11 9 RX11 TX11 11 (.int) false := ⟨⟨tyX11, tyX11_ok⟩, nmX11, rfl, by decide +kernel⟩
theorem kx1_0_9 : jm_kp wd1 0 9 9 11 := fun _ _ _ _ _ => ⟨_, rfl, Nat.le_of_ble_eq_true rfl, rfl⟩
theorem kg1_0_8 : jm_kg wd1 0 8 11 (fun _ ad i _ => .ref (ad (jm_r wd1 13 ((fun i => i) i)))) := fun _ _ _ _ => ⟨_, rfl, rfl⟩
theorem kg_1133 : (Jvm.Cond.methodLink "RaceByLaps" (286 : Nat) ({ cls := "RaceByLaps$Table", name := "cell", desc := "(II)I" } : Jvm.MethodName)) ∈ lw_g := tw_gl kw_1133 rfl
theorem kg_1134 : (Jvm.Cond.methodLink "RaceByLaps" (289 : Nat) ({ cls := "RaceByLaps$Table", name := "put", desc := "(III)V" } : Jvm.MethodName)) ∈ lw_g := tw_gl kw_1134 rfl
theorem kg_1135 : (Jvm.Cond.methodLink "RaceByLaps" (293 : Nat) ({ cls := "RaceByLaps$Race", name := "run", desc := "()V" } : Jvm.MethodName)) ∈ lw_g := tw_gl kw_1135 rfl
theorem kg1_0_4 : jm_kg wd1 0 4 11 (fun _ ad i _ => .ref (ad (jm_r wd1 5 ((fun i => i) i)))) := fun _ _ _ _ => ⟨_, rfl, rfl⟩
theorem kg1_5_0 : jm_kg wd1 5 0 10 (fun _ ad i _ => .ref (ad (jm_r wd1 2 ((fun i => i) i)))) := fun _ _ _ _ => ⟨_, rfl, rfl⟩
theorem kg_1144 : (Jvm.Cond.methodLink "RaceByLaps$Tries" (41 : Nat) ({ cls := "RaceByLaps$Race", name := "has", desc := "(I)Z" } : Jvm.MethodName)) ∈ lw_g := tw_gl kw_1144 rfl
theorem kf_RX10_51 : tw_kF RX10 51 2 2 RX2 TX2 8 := ⟨rfl, iw_X2, by decide, rfl, (tw_gl kw_353 rfl)⟩
theorem kf_RX10_55 : tw_kF RX10 55 2 0 RX2 TX2 8 := ⟨rfl, iw_X2, by decide, rfl, (tw_gl kw_350 rfl)⟩
theorem kf_RX10_59 : tw_kF RX10 59 9 1 RX9 TX9 9 := ⟨rfl, iw_X9, by decide, rfl, (tw_gl kw_96 rfl)⟩
theorem kf_RX10_65 : tw_kF RX10 65 1 6 RX1 TX1 14 := ⟨rfl, iw_X1, by decide, rfl, (tw_gl kw_207 rfl)⟩
theorem kf_RX10_71 : tw_kF RX10 71 7 3 RX7 TX7 4 := ⟨rfl, iw_X7, by decide, rfl, (tw_gl kw_70 rfl)⟩
theorem kf_RX10_76 : tw_kF RX10 76 1 13 RX1 TX1 14 := ⟨rfl, iw_X1, by decide, rfl, (tw_gl kw_227 rfl)⟩
theorem kg1_5_2 : jm_kg wd1 5 2 10 (fun _ ad i _ => .ref (ad (jm_r wd1 39 ((fun i => i) i)))) := fun _ _ _ _ => ⟨_, rfl, rfl⟩
theorem kg1_5_3 : jm_kg wd1 5 3 10 (fun _ ad i _ => .ref (ad (jm_r wd1 40 ((fun i => i) i)))) := fun _ _ _ _ => ⟨_, rfl, rfl⟩
theorem kf_RX10_121 : tw_kF RX10 121 1 10 RX1 TX1 14 := ⟨rfl, iw_X1, by decide, rfl, (tw_gl kw_220 rfl)⟩
theorem kg_1150 : (Jvm.Cond.methodLink "RaceByLaps$Tries" (124 : Nat) ({ cls := "RaceByLaps$Table", name := "push", desc := "(IIII)I" } : Jvm.MethodName)) ∈ lw_g := tw_gl kw_1150 rfl
theorem km_X10_takeWay : tw_kM yX10_takeWay cX10_takeWay 4 none 2 := ⟨(tw_gl kw_12 rfl), (tw_gl kw_1149 rfl), by decide, by decide, by decide +kernel⟩
theorem kg_1146 : (Jvm.Cond.methodLink "RaceByLaps$Tries" (80 : Nat) ({ cls := "RaceByLaps$Tries", name := "takeWay", desc := "(LRaceByLaps$Car;I)V" } : Jvm.MethodName)) ∈ lw_g := tw_gl kw_1146 rfl
theorem kv_X10_takeWay : tw_kV yX10_takeWay := ⟨(tw_gl kw_1148 rfl), tw_gl (List.mem_append_left _ (List.mem_map.mpr ⟨(yX10_takeWay, _), List.mem_append_right _ (List.mem_append_right _ (List.mem_append_left _ (List.mem_of_getElem? (i := 1) rfl))), rfl⟩)) rfl⟩
theorem kg_1151 : (Jvm.Cond.methodLink "RaceByLaps$Tries" (84 : Nat) ({ cls := "RaceByLaps$Race", name := "run", desc := "()V" } : Jvm.MethodName)) ∈ lw_g := tw_gl kw_1151 rfl
theorem kg1_5_1 : jm_kg wd1 5 1 10 (fun _ ad i _ => .ref (ad (jm_r wd1 4 ((fun i => i) i)))) := fun _ _ _ _ => ⟨_, rfl, rfl⟩
theorem kg_1152 : (Jvm.Cond.methodLink "RaceByLaps$Tries" (87 : Nat) ({ cls := "RaceByLaps$Result", name := "reckonFor", desc := "(I)V" } : Jvm.MethodName)) ∈ lw_g := tw_gl kw_1152 rfl
theorem kg_1157 : (Jvm.Cond.methodLink "RaceByLaps$Result" (82 : Nat) ({ cls := "RaceByLaps$Result", name := "placeAmong", desc := "(II)I" } : Jvm.MethodName)) ∈ lw_g := tw_gl kw_1157 rfl
theorem km_X5_triedPlace : tw_kM yX5_triedPlace cX5_triedPlace 3 (some .int) 1 := ⟨(tw_gl kw_11 rfl), (tw_gl kw_1156 rfl), by decide, by decide, by decide +kernel⟩
theorem kg_1153 : (Jvm.Cond.methodLink "RaceByLaps$Tries" (93 : Nat) ({ cls := "RaceByLaps$Result", name := "triedPlace", desc := "(I)I" } : Jvm.MethodName)) ∈ lw_g := tw_gl kw_1153 rfl
theorem kv_X5_triedPlace : tw_kV yX5_triedPlace := ⟨(tw_gl kw_1154 rfl), tw_gl kw_1155 rfl⟩
theorem kf_RX10_100 : tw_kF RX10 100 10 5 RX10 TX10 11 := ⟨rfl, iw_X10, by decide, rfl, (tw_gl kw_448 rfl)⟩
theorem kp_X10_5 : tw_kP 10 5 RX10 TX10 11 (.int) false := ⟨⟨tyX10, tyX10_ok⟩, nmX10, rfl, by decide +kernel⟩
theorem kx1_5_5 : jm_kp wd1 5 5 5 10 := fun _ _ _ _ _ => ⟨_, rfl, Nat.le_of_ble_eq_true rfl, rfl⟩
theorem km_X5_triedSum : tw_kM yX5_triedSum cX5_triedSum 2 (some .int) 1 := ⟨(tw_gl kw_11 rfl), (tw_gl kw_1161 rfl), by decide, by decide, by decide +kernel⟩
theorem kg_1158 : (Jvm.Cond.methodLink "RaceByLaps$Tries" (97 : Nat) ({ cls := "RaceByLaps$Result", name := "triedSum", desc := "(I)I" } : Jvm.MethodName)) ∈ lw_g := tw_gl kw_1158 rfl
theorem kv_X5_triedSum : tw_kV yX5_triedSum := ⟨(tw_gl kw_1159 rfl), tw_gl kw_1160 rfl⟩
theorem kf_RX10_103 : tw_kF RX10 103 10 6 RX10 TX10 11 := ⟨rfl, iw_X10, by decide, rfl, (tw_gl kw_450 rfl)⟩
theorem kp_X10_6 : tw_kP 10 6 RX10 TX10 11 (.int) false := ⟨⟨tyX10, tyX10_ok⟩, nmX10, rfl, by decide +kernel⟩
theorem kx1_5_6 : jm_kp wd1 5 6 6 10 := fun _ _ _ _ _ => ⟨_, rfl, Nat.le_of_ble_eq_true rfl, rfl⟩
theorem kg1_5_4 : jm_kg wd1 5 4 10 (fun _ ad i _ => .ref (ad (jm_r wd1 41 ((fun i => i) i)))) := fun _ _ _ _ => ⟨_, rfl, rfl⟩
theorem km_X10_keepWay : tw_kM yX10_keepWay cX10_keepWay 4 none 2 := ⟨(tw_gl kw_12 rfl), (tw_gl kw_1169 rfl), by decide, by decide, by decide +kernel⟩
theorem kg_1166 : (Jvm.Cond.methodLink "RaceByLaps$Tries" (110 : Nat) ({ cls := "RaceByLaps$Tries", name := "keepWay", desc := "(II)V" } : Jvm.MethodName)) ∈ lw_g := tw_gl kw_1166 rfl
theorem kv_X10_keepWay : tw_kV yX10_keepWay := ⟨(tw_gl kw_1168 rfl), tw_gl (List.mem_append_left _ (List.mem_map.mpr ⟨(yX10_keepWay, _), List.mem_append_right _ (List.mem_append_right _ (List.mem_append_left _ (List.mem_of_getElem? (i := 2) rfl))), rfl⟩)) rfl⟩
theorem kg1_5_5 : jm_kg wd1 5 5 10 (fun _ _ _ g => jm_i (g 5)) := fun _ _ _ _ => ⟨_, rfl, rfl⟩
theorem kg1_5_6 : jm_kg wd1 5 6 10 (fun _ _ _ g => jm_i (g 6)) := fun _ _ _ _ => ⟨_, rfl, rfl⟩
theorem km_X10_isBetter : tw_kM yX10_isBetter cX10_isBetter 4 (some .boolean) 4 := ⟨(tw_gl kw_12 rfl), (tw_gl kw_1165 rfl), by decide, by decide, by decide +kernel⟩
theorem kg_1163 : (Jvm.Cond.methodLink "RaceByLaps$Tries" (106 : Nat) ({ cls := "RaceByLaps$Tries", name := "isBetter", desc := "(IIII)Z" } : Jvm.MethodName)) ∈ lw_g := tw_gl kw_1163 rfl
theorem kg_1164 : (Jvm.Cond.static ({ cls := "RaceByLaps$Tries", name := "isBetter", desc := "(IIII)Z" } : Jvm.MethodName)) ∈ lw_g := tw_gl kw_1164 rfl
theorem km_X10_nextSets : tw_kM yX10_nextSets cX10_nextSets 4 (some .boolean) 2 := ⟨(tw_gl kw_12 rfl), (tw_gl kw_1173 rfl), by decide, by decide, by decide +kernel⟩
theorem kg_1170 : (Jvm.Cond.methodLink "RaceByLaps$Tries" (114 : Nat) ({ cls := "RaceByLaps$Tries", name := "nextSets", desc := "(II)Z" } : Jvm.MethodName)) ∈ lw_g := tw_gl kw_1170 rfl
theorem kv_X10_nextSets : tw_kV yX10_nextSets := ⟨(tw_gl kw_1172 rfl), tw_gl (List.mem_append_left _ (List.mem_map.mpr ⟨(yX10_nextSets, _), List.mem_append_right _ (List.mem_append_right _ (List.mem_append_left _ (List.mem_of_getElem? (i := 3) rfl))), rfl⟩)) rfl⟩
theorem km_X10_nextLaps : tw_kM yX10_nextLaps cX10_nextLaps 6 (some .boolean) 2 := ⟨(tw_gl kw_12 rfl), (tw_gl kw_1177 rfl), by decide, by decide, by decide +kernel⟩
theorem kg_1174 : (Jvm.Cond.methodLink "RaceByLaps$Tries" (118 : Nat) ({ cls := "RaceByLaps$Tries", name := "nextLaps", desc := "(II)Z" } : Jvm.MethodName)) ∈ lw_g := tw_gl kw_1174 rfl
theorem kv_X10_nextLaps : tw_kV yX10_nextLaps := ⟨(tw_gl kw_1176 rfl), tw_gl (List.mem_append_left _ (List.mem_map.mpr ⟨(yX10_nextLaps, _), List.mem_append_right _ (List.mem_append_right _ (List.mem_append_left _ (List.mem_of_getElem? (i := 4) rfl))), rfl⟩)) rfl⟩
theorem km_X10_search : tw_kM yX10_search cX10_search 8 (some .boolean) 3 := ⟨(tw_gl kw_12 rfl), (tw_gl kw_1143 rfl), by decide, by decide, by decide +kernel⟩
theorem kg_1140 : (Jvm.Cond.methodLink "RaceByLaps" (296 : Nat) ({ cls := "RaceByLaps$Tries", name := "search", desc := "(III)Z" } : Jvm.MethodName)) ∈ lw_g := tw_gl kw_1140 rfl
theorem kv_X10_search : tw_kV yX10_search := ⟨(tw_gl kw_1141 rfl), tw_gl kw_1142 rfl⟩
theorem kf_RX11_299 : tw_kF RX11 299 10 4 RX10 TX10 11 := ⟨rfl, iw_X10, by decide, rfl, (tw_gl kw_447 rfl)⟩
theorem kf_RX11_302 : tw_kF RX11 302 10 5 RX10 TX10 11 := ⟨rfl, iw_X10, by decide, rfl, (tw_gl kw_449 rfl)⟩
theorem kg_1182 : (Jvm.Cond.methodLink "RaceByLaps" (305 : Nat) ({ cls := "java/lang/Math", name := "min", desc := "(II)I" } : Jvm.MethodName)) ∈ lw_g := tw_gl kw_1182 rfl
theorem kg_1183 : (Jvm.Cond.methodLink "RaceByLaps" (310 : Nat) ({ cls := "java/lang/Math", name := "max", desc := "(II)I" } : Jvm.MethodName)) ∈ lw_g := tw_gl kw_1183 rfl
theorem kf_RX11_313 : tw_kF RX11 313 1 9 RX1 TX1 14 := ⟨rfl, iw_X1, by decide, rfl, (tw_gl kw_218 rfl)⟩
theorem kf_RX10_128 : tw_kF RX10 128 1 9 RX1 TX1 14 := ⟨rfl, iw_X1, by decide, rfl, (tw_gl kw_217 rfl)⟩
theorem kg_1200 : (Jvm.Cond.methodLink "RaceByLaps$Tries" (131 : Nat) ({ cls := "java/lang/Math", name := "min", desc := "(II)I" } : Jvm.MethodName)) ∈ lw_g := tw_gl kw_1200 rfl
theorem kg_1205 : (Jvm.Cond.methodLink "RaceByLaps$Car" (58 : Nat) ({ cls := "RaceByLaps$Table", name := "push", desc := "(IIII)I" } : Jvm.MethodName)) ∈ lw_g := tw_gl kw_1205 rfl
theorem km_X1_tryOption : tw_kM yX1_tryOption cX1_tryOption 2 none 1 := ⟨(tw_gl kw_7 rfl), (tw_gl kw_1204 rfl), by decide, by decide, by decide +kernel⟩
theorem kg_1201 : (Jvm.Cond.methodLink "RaceByLaps$Tries" (137 : Nat) ({ cls := "RaceByLaps$Car", name := "tryOption", desc := "(I)V" } : Jvm.MethodName)) ∈ lw_g := tw_gl kw_1201 rfl
theorem kv_X1_tryOption : tw_kV yX1_tryOption := ⟨(tw_gl kw_1202 rfl), tw_gl kw_1203 rfl⟩
theorem kg1_5_7 : jm_kg wd1 5 7 10 (fun _ ad i _ => .ref (ad (jm_r wd1 42 ((fun i => i) i)))) := fun _ _ _ _ => ⟨_, rfl, rfl⟩
theorem kg1_5_8 : jm_kg wd1 5 8 10 (fun _ ad i _ => .ref (ad (jm_r wd1 43 ((fun i => i) i)))) := fun _ _ _ _ => ⟨_, rfl, rfl⟩
theorem kg1_5_9 : jm_kg wd1 5 9 10 (fun _ ad i _ => .ref (ad (jm_r wd1 44 ((fun i => i) i)))) := fun _ _ _ _ => ⟨_, rfl, rfl⟩
theorem kg1_5_10 : jm_kg wd1 5 10 10 (fun _ ad i _ => .ref (ad (jm_r wd1 45 ((fun i => i) i)))) := fun _ _ _ _ => ⟨_, rfl, rfl⟩
theorem km_X10_keepPair : tw_kM yX10_keepPair cX10_keepPair 4 none 3 := ⟨(tw_gl kw_12 rfl), (tw_gl kw_1209 rfl), by decide, by decide, by decide +kernel⟩
theorem kg_1206 : (Jvm.Cond.methodLink "RaceByLaps$Tries" (140 : Nat) ({ cls := "RaceByLaps$Tries", name := "keepPair", desc := "(III)V" } : Jvm.MethodName)) ∈ lw_g := tw_gl kw_1206 rfl
theorem kv_X10_keepPair : tw_kV yX10_keepPair := ⟨(tw_gl kw_1208 rfl), tw_gl (List.mem_append_left _ (List.mem_map.mpr ⟨(yX10_keepPair, _), List.mem_append_right _ (List.mem_append_right _ (List.mem_append_left _ (List.mem_of_getElem? (i := 5) rfl))), rfl⟩)) rfl⟩
theorem km_X10_isSettled : tw_kM yX10_isSettled cX10_isSettled 8 (some .boolean) 4 := ⟨(tw_gl kw_12 rfl), (tw_gl kw_1214 rfl), by decide, by decide, by decide +kernel⟩
theorem kg_1211 : (Jvm.Cond.methodLink "RaceByLaps$Tries" (144 : Nat) ({ cls := "RaceByLaps$Tries", name := "isSettled", desc := "(IIII)Z" } : Jvm.MethodName)) ∈ lw_g := tw_gl kw_1211 rfl
theorem kv_X10_isSettled : tw_kV yX10_isSettled := ⟨(tw_gl kw_1213 rfl), tw_gl (List.mem_append_left _ (List.mem_map.mpr ⟨(yX10_isSettled, _), List.mem_append_right _ (List.mem_append_right _ (List.mem_append_left _ (List.mem_of_getElem? (i := 6) rfl))), rfl⟩)) rfl⟩
theorem km_X10_firstSettled : tw_kM yX10_firstSettled cX10_firstSettled 8 (some .int) 3 := ⟨(tw_gl kw_12 rfl), (tw_gl kw_1199 rfl), by decide, by decide, by decide +kernel⟩
theorem kg_1196 : (Jvm.Cond.methodLink "RaceByLaps" (316 : Nat) ({ cls := "RaceByLaps$Tries", name := "firstSettled", desc := "(III)I" } : Jvm.MethodName)) ∈ lw_g := tw_gl kw_1196 rfl
theorem kv_X10_firstSettled : tw_kV yX10_firstSettled := ⟨(tw_gl kw_1197 rfl), tw_gl kw_1198 rfl⟩
theorem kf_RX11_320 : tw_kF RX11 320 9 4 RX9 TX9 9 := ⟨rfl, iw_X9, by decide, rfl, (tw_gl kw_106 rfl)⟩
theorem kg_1231 : (Jvm.Cond.methodLink "RaceByLaps$Track" (67 : Nat) ({ cls := "RaceByLaps$Track", name := "sectorOf", desc := "(I)I" } : Jvm.MethodName)) ∈ lw_g := tw_gl kw_1231 rfl
theorem km_X9_tells : tw_kM yX9_tells cX9_tells 2 (some .boolean) 1 := ⟨(tw_gl kw_3 rfl), (tw_gl kw_1230 rfl), by decide, by decide, by decide +kernel⟩
theorem kg_1227 : (Jvm.Cond.methodLink "RaceByLaps$Race" (311 : Nat) ({ cls := "RaceByLaps$Track", name := "tells", desc := "(I)Z" } : Jvm.MethodName)) ∈ lw_g := tw_gl kw_1227 rfl
theorem kv_X9_tells : tw_kV yX9_tells := ⟨(tw_gl kw_1228 rfl), tw_gl kw_1229 rfl⟩
theorem km_X2_spanAt : tw_kM yX2_spanAt cX2_spanAt 10 (some .int) 3 := ⟨(tw_gl kw_6 rfl), (tw_gl kw_1226 rfl), by decide, by decide, by decide +kernel⟩
theorem kg_1223 : (Jvm.Cond.methodLink "RaceByLaps" (323 : Nat) ({ cls := "RaceByLaps$Race", name := "spanAt", desc := "(IIZ)I" } : Jvm.MethodName)) ∈ lw_g := tw_gl kw_1223 rfl
theorem kv_X2_spanAt : tw_kV yX2_spanAt := ⟨(tw_gl kw_1224 rfl), tw_gl kw_1225 rfl⟩
theorem km_X2_endedByWall : tw_kM yX2_endedByWall cX2_endedByWall 4 (some .int) 2 := ⟨(tw_gl kw_6 rfl), (tw_gl kw_1243 rfl), by decide, by decide, by decide +kernel⟩
theorem kg_1240 : (Jvm.Cond.methodLink "RaceByLaps" (327 : Nat) ({ cls := "RaceByLaps$Race", name := "endedByWall", desc := "(II)I" } : Jvm.MethodName)) ∈ lw_g := tw_gl kw_1240 rfl
theorem kv_X2_endedByWall : tw_kV yX2_endedByWall := ⟨(tw_gl kw_1241 rfl), tw_gl kw_1242 rfl⟩
theorem km_X6_timeOrStart : tw_kM yX6_timeOrStart cX6_timeOrStart 2 (some .int) 1 := ⟨(tw_gl kw_9 rfl), (tw_gl kw_1247 rfl), by decide, by decide, by decide +kernel⟩
theorem kg_1244 : (Jvm.Cond.methodLink "RaceByLaps" (330 : Nat) ({ cls := "RaceByLaps$Runner", name := "timeOrStart", desc := "(I)I" } : Jvm.MethodName)) ∈ lw_g := tw_gl kw_1244 rfl
theorem kv_X6_timeOrStart : tw_kV yX6_timeOrStart := ⟨(tw_gl kw_1245 rfl), tw_gl kw_1246 rfl⟩
theorem kf_RX11_333 : tw_kF RX11 333 6 17 RX6 TX6 20 := ⟨rfl, iw_X6, by decide, rfl, (tw_gl kw_303 rfl)⟩
theorem kf_RX12_3 : tw_kF RX12 3 12 0 RX12 TX12 97 := ⟨rfl, iw_X12, by decide, rfl, (tw_gl kw_1790 rfl)⟩
theorem kp_X12_0 : tw_kP 12 0 RX12 TX12 97 (.int) false := ⟨⟨tyX12, tyX12_ok⟩, nmX12, rfl, by decide +kernel⟩
theorem kx2_0_0 : jm_kp wd2 0 0 0 12 := fun _ _ _ _ _ => ⟨_, rfl, Nat.le_of_ble_eq_true rfl, rfl⟩
theorem kg_1345 : (Jvm.Cond.constantLong "RaceByLapsModel" (46 : Nat) (2 : Int64)) ∈ lw_g := tw_gl kw_1345 rfl
theorem kg_1346 : (Jvm.Cond.constantLong "RaceByLapsModel" (48 : Nat) (5 : Int64)) ∈ lw_g := tw_gl kw_1346 rfl
theorem km_X12_in : tw_kM yX12_in cX12_in 6 (some .boolean) 3 := ⟨(tw_gl kw_14 rfl), (tw_gl kw_1349 rfl), by decide, by decide, by decide +kernel⟩
theorem kg_1347 : (Jvm.Cond.methodLink "RaceByLapsModel" (42 : Nat) ({ cls := "RaceByLapsModel", name := "in", desc := "(JJJ)Z" } : Jvm.MethodName)) ∈ lw_g := tw_gl kw_1347 rfl
theorem kg_1348 : (Jvm.Cond.static ({ cls := "RaceByLapsModel", name := "in", desc := "(JJJ)Z" } : Jvm.MethodName)) ∈ lw_g := tw_gl kw_1348 rfl
theorem kg_1350 : (Jvm.Cond.constantLong "RaceByLapsModel" (50 : Nat) (12 : Int64)) ∈ lw_g := tw_gl kw_1350 rfl
theorem kx2_0_1 : jm_kp wd2 0 1 1 12 := fun _ _ _ _ _ => ⟨_, rfl, Nat.le_of_ble_eq_true rfl, rfl⟩
theorem kx2_0_2 : jm_kp wd2 0 2 2 12 := fun _ _ _ _ _ => ⟨_, rfl, Nat.le_of_ble_eq_true rfl, rfl⟩
theorem kx2_0_8 : jm_kp wd2 0 8 8 12 := fun _ _ _ _ _ => ⟨_, rfl, Nat.le_of_ble_eq_true rfl, rfl⟩
theorem kx2_0_12 : jm_kp wd2 0 12 12 12 := fun _ _ _ _ _ => ⟨_, rfl, Nat.le_of_ble_eq_true rfl, rfl⟩
theorem kx2_0_17 : jm_kp wd2 0 17 17 12 := fun _ _ _ _ _ => ⟨_, rfl, Nat.le_of_ble_eq_true rfl, rfl⟩
theorem kx2_0_72 : jm_kp wd2 0 72 72 12 := fun _ _ _ _ _ => ⟨_, rfl, Nat.le_of_ble_eq_true rfl, rfl⟩
theorem kx2_0_75 : jm_kp wd2 0 75 75 12 := fun _ _ _ _ _ => ⟨_, rfl, Nat.le_of_ble_eq_true rfl, rfl⟩
theorem kg2_0_3 : jm_kg wd2 0 3 12 (fun _ ad i _ => .ref (ad (jm_r wd2 1 ((fun i => i) i)))) := fun _ _ _ _ => ⟨_, rfl, rfl⟩
theorem kg2_0_4 : jm_kg wd2 0 4 12 (fun _ ad i _ => .ref (ad (jm_r wd2 2 ((fun i => i) i)))) := fun _ _ _ _ => ⟨_, rfl, rfl⟩
theorem kg2_0_5 : jm_kg wd2 0 5 12 (fun _ ad i _ => .ref (ad (jm_r wd2 3 ((fun i => i) i)))) := fun _ _ _ _ => ⟨_, rfl, rfl⟩
theorem kg2_0_36 : jm_kg wd2 0 36 12 (fun _ ad i _ => .ref (ad (jm_r wd2 31 ((fun i => i) i)))) := fun _ _ _ _ => ⟨_, rfl, rfl⟩
theorem kg_1351 : (Jvm.Cond.methodLink "RaceByLapsModel" (52 : Nat) ({ cls := "RaceByLapsModel", name := "lays", desc := "(II)V" } : Jvm.MethodName)) ∈ lw_g := tw_gl kw_1351 rfl
theorem kg2_0_1 : jm_kg wd2 0 1 12 (fun _ _ _ g => jm_i (g 1)) := fun _ _ _ _ => ⟨_, rfl, rfl⟩
theorem km_X12_isSector : tw_kM yX12_isSector cX12_isSector 2 (some .boolean) 1 := ⟨(tw_gl kw_14 rfl), (tw_gl kw_1363 rfl), by decide, by decide, by decide +kernel⟩
theorem kg_1360 : (Jvm.Cond.methodLink "RaceByLapsModel" (56 : Nat) ({ cls := "RaceByLapsModel", name := "isSector", desc := "(I)Z" } : Jvm.MethodName)) ∈ lw_g := tw_gl kw_1360 rfl
theorem kv_X12_isSector : tw_kV yX12_isSector := ⟨(tw_gl kw_1362 rfl), tw_gl (List.mem_append_left _ (List.mem_map.mpr ⟨(yX12_isSector, _), List.mem_append_right _ (List.mem_append_right _ (List.mem_append_left _ (List.mem_of_getElem? (i := 9) rfl))), rfl⟩)) rfl⟩
theorem kg_1364 : (Jvm.Cond.constantLong "RaceByLapsModel" (60 : Nat) (5000 : Int64)) ∈ lw_g := tw_gl kw_1364 rfl
theorem kg_1365 : (Jvm.Cond.constantLong "RaceByLapsModel" (62 : Nat) (60000 : Int64)) ∈ lw_g := tw_gl kw_1365 rfl
theorem kg_1366 : (Jvm.Cond.constantLong "RaceByLapsModel" (64 : Nat) (-1 : Int64)) ∈ lw_g := tw_gl kw_1366 rfl
theorem kg_1371 : (Jvm.Cond.constantLong "RaceByLapsModel" (66 : Nat) (3 : Int64)) ∈ lw_g := tw_gl kw_1371 rfl
theorem km_X12_mostOfTyres : tw_kM yX12_mostOfTyres cX12_mostOfTyres 1 (some .int) 1 := ⟨(tw_gl kw_14 rfl), (tw_gl kw_1374 rfl), by decide, by decide, by decide +kernel⟩
theorem kg_1372 : (Jvm.Cond.methodLink "RaceByLapsModel" (68 : Nat) ({ cls := "RaceByLapsModel", name := "mostOfTyres", desc := "(I)I" } : Jvm.MethodName)) ∈ lw_g := tw_gl kw_1372 rfl
theorem kg_1373 : (Jvm.Cond.static ({ cls := "RaceByLapsModel", name := "mostOfTyres", desc := "(I)I" } : Jvm.MethodName)) ∈ lw_g := tw_gl kw_1373 rfl
theorem kg2_0_6 : jm_kg wd2 0 6 12 (fun _ ad i _ => .ref (ad (jm_r wd2 4 ((fun i => i) i)))) := fun _ _ _ _ => ⟨_, rfl, rfl⟩
theorem kg_1379 : (Jvm.Cond.constantLong "RaceByLapsModel" (76 : Nat) (7 : Int64)) ∈ lw_g := tw_gl kw_1379 rfl
theorem kg_1380 : (Jvm.Cond.constantLong "RaceByLapsModel" (78 : Nat) (100 : Int64)) ∈ lw_g := tw_gl kw_1380 rfl
theorem kg_1384 : (Jvm.Cond.constant "RaceByLapsModel" (75 : Nat) (60000 : Int32)) ∈ lw_g := tw_gl kw_1384 rfl
theorem km_X12_mostOf : tw_kM yX12_mostOf cX12_mostOf 1 (some .int) 1 := ⟨(tw_gl kw_14 rfl), (tw_gl kw_1383 rfl), by decide, by decide, by decide +kernel⟩
theorem kg_1381 : (Jvm.Cond.methodLink "RaceByLapsModel" (80 : Nat) ({ cls := "RaceByLapsModel", name := "mostOf", desc := "(I)I" } : Jvm.MethodName)) ∈ lw_g := tw_gl kw_1381 rfl
theorem kg_1382 : (Jvm.Cond.static ({ cls := "RaceByLapsModel", name := "mostOf", desc := "(I)I" } : Jvm.MethodName)) ∈ lw_g := tw_gl kw_1382 rfl
theorem kg2_0_7 : jm_kg wd2 0 7 12 (fun _ ad i _ => .ref (ad (jm_r wd2 5 ((fun i => i) i)))) := fun _ _ _ _ => ⟨_, rfl, rfl⟩
theorem kg2_0_8 : jm_kg wd2 0 8 12 (fun _ _ _ g => jm_i (g 8)) := fun _ _ _ _ => ⟨_, rfl, rfl⟩
theorem kg2_0_9 : jm_kg wd2 0 9 12 (fun _ ad i _ => .ref (ad (jm_r wd2 6 ((fun i => i) i)))) := fun _ _ _ _ => ⟨_, rfl, rfl⟩
theorem kg2_0_10 : jm_kg wd2 0 10 12 (fun _ ad i _ => .ref (ad (jm_r wd2 7 ((fun i => i) i)))) := fun _ _ _ _ => ⟨_, rfl, rfl⟩
theorem kg2_0_11 : jm_kg wd2 0 11 12 (fun _ ad i _ => .ref (ad (jm_r wd2 8 ((fun i => i) i)))) := fun _ _ _ _ => ⟨_, rfl, rfl⟩
theorem kg2_0_12 : jm_kg wd2 0 12 12 (fun _ _ _ g => jm_i (g 12)) := fun _ _ _ _ => ⟨_, rfl, rfl⟩
theorem kg2_0_13 : jm_kg wd2 0 13 12 (fun _ ad i _ => .ref (ad (jm_r wd2 9 ((fun i => i) i)))) := fun _ _ _ _ => ⟨_, rfl, rfl⟩
theorem kg2_0_14 : jm_kg wd2 0 14 12 (fun _ ad i _ => .ref (ad (jm_r wd2 10 ((fun i => i) i)))) := fun _ _ _ _ => ⟨_, rfl, rfl⟩
theorem kg2_0_15 : jm_kg wd2 0 15 12 (fun _ ad i _ => .ref (ad (jm_r wd2 11 ((fun i => i) i)))) := fun _ _ _ _ => ⟨_, rfl, rfl⟩
theorem kg2_0_16 : jm_kg wd2 0 16 12 (fun _ ad i _ => .ref (ad (jm_r wd2 12 ((fun i => i) i)))) := fun _ _ _ _ => ⟨_, rfl, rfl⟩
theorem kg_1397 : (Jvm.Cond.constantLong "RaceByLapsModel" (107 : Nat) (-2000 : Int64)) ∈ lw_g := tw_gl kw_1397 rfl
theorem kg_1398 : (Jvm.Cond.constantLong "RaceByLapsModel" (109 : Nat) (2000 : Int64)) ∈ lw_g := tw_gl kw_1398 rfl
theorem kg_1399 : (Jvm.Cond.constantLong "RaceByLapsModel" (111 : Nat) (200 : Int64)) ∈ lw_g := tw_gl kw_1399 rfl
theorem kg_1400 : (Jvm.Cond.constantLong "RaceByLapsModel" (113 : Nat) (9 : Int64)) ∈ lw_g := tw_gl kw_1400 rfl
theorem kg2_0_17 : jm_kg wd2 0 17 12 (fun _ _ _ g => jm_i (g 17)) := fun _ _ _ _ => ⟨_, rfl, rfl⟩
theorem kg2_0_18 : jm_kg wd2 0 18 12 (fun _ ad i _ => .ref (ad (jm_r wd2 13 ((fun i => i) i)))) := fun _ _ _ _ => ⟨_, rfl, rfl⟩
theorem kg2_0_19 : jm_kg wd2 0 19 12 (fun _ ad i _ => .ref (ad (jm_r wd2 14 ((fun i => i) i)))) := fun _ _ _ _ => ⟨_, rfl, rfl⟩
theorem kg2_0_20 : jm_kg wd2 0 20 12 (fun _ ad i _ => .ref (ad (jm_r wd2 15 ((fun i => i) i)))) := fun _ _ _ _ => ⟨_, rfl, rfl⟩
theorem kg2_0_21 : jm_kg wd2 0 21 12 (fun _ ad i _ => .ref (ad (jm_r wd2 16 ((fun i => i) i)))) := fun _ _ _ _ => ⟨_, rfl, rfl⟩
theorem kg2_0_22 : jm_kg wd2 0 22 12 (fun _ ad i _ => .ref (ad (jm_r wd2 17 ((fun i => i) i)))) := fun _ _ _ _ => ⟨_, rfl, rfl⟩
theorem kg2_0_23 : jm_kg wd2 0 23 12 (fun _ ad i _ => .ref (ad (jm_r wd2 18 ((fun i => i) i)))) := fun _ _ _ _ => ⟨_, rfl, rfl⟩
theorem kg2_0_24 : jm_kg wd2 0 24 12 (fun _ ad i _ => .ref (ad (jm_r wd2 19 ((fun i => i) i)))) := fun _ _ _ _ => ⟨_, rfl, rfl⟩
theorem kg2_0_27 : jm_kg wd2 0 27 12 (fun _ ad i _ => .ref (ad (jm_r wd2 22 ((fun i => i) i)))) := fun _ _ _ _ => ⟨_, rfl, rfl⟩
theorem kg2_0_31 : jm_kg wd2 0 31 12 (fun _ ad i _ => .ref (ad (jm_r wd2 26 ((fun i => i) i)))) := fun _ _ _ _ => ⟨_, rfl, rfl⟩
theorem kg2_0_35 : jm_kg wd2 0 35 12 (fun _ ad i _ => .ref (ad (jm_r wd2 30 ((fun i => i) i)))) := fun _ _ _ _ => ⟨_, rfl, rfl⟩
theorem km_X12_isCar : tw_kM yX12_isCar cX12_isCar 2 (some .boolean) 1 := ⟨(tw_gl kw_14 rfl), (tw_gl kw_1408 rfl), by decide, by decide, by decide +kernel⟩
theorem kg_1405 : (Jvm.Cond.methodLink "RaceByLapsModel" (145 : Nat) ({ cls := "RaceByLapsModel", name := "isCar", desc := "(I)Z" } : Jvm.MethodName)) ∈ lw_g := tw_gl kw_1405 rfl
theorem kv_X12_isCar : tw_kV yX12_isCar := ⟨(tw_gl kw_1407 rfl), tw_gl (List.mem_append_left _ (List.mem_map.mpr ⟨(yX12_isCar, _), List.mem_append_right _ (List.mem_append_right _ (List.mem_append_left _ (List.mem_of_getElem? (i := 10) rfl))), rfl⟩)) rfl⟩
theorem kg2_0_25 : jm_kg wd2 0 25 12 (fun _ ad i _ => .ref (ad (jm_r wd2 20 ((fun i => i) i)))) := fun _ _ _ _ => ⟨_, rfl, rfl⟩
theorem kg2_0_26 : jm_kg wd2 0 26 12 (fun _ ad i _ => .ref (ad (jm_r wd2 21 ((fun i => i) i)))) := fun _ _ _ _ => ⟨_, rfl, rfl⟩
theorem kg2_0_2 : jm_kg wd2 0 2 12 (fun _ _ _ g => jm_i (g 2)) := fun _ _ _ _ => ⟨_, rfl, rfl⟩
theorem km_X12_isLap : tw_kM yX12_isLap cX12_isLap 2 (some .boolean) 1 := ⟨(tw_gl kw_14 rfl), (tw_gl kw_1416 rfl), by decide, by decide, by decide +kernel⟩
theorem kg_1413 : (Jvm.Cond.methodLink "RaceByLapsModel" (154 : Nat) ({ cls := "RaceByLapsModel", name := "isLap", desc := "(I)Z" } : Jvm.MethodName)) ∈ lw_g := tw_gl kw_1413 rfl
theorem kv_X12_isLap : tw_kV yX12_isLap := ⟨(tw_gl kw_1415 rfl), tw_gl (List.mem_append_left _ (List.mem_map.mpr ⟨(yX12_isLap, _), List.mem_append_right _ (List.mem_append_right _ (List.mem_append_left _ (List.mem_of_getElem? (i := 11) rfl))), rfl⟩)) rfl⟩
theorem kg2_0_28 : jm_kg wd2 0 28 12 (fun _ ad i _ => .ref (ad (jm_r wd2 23 ((fun i => i) i)))) := fun _ _ _ _ => ⟨_, rfl, rfl⟩
theorem kg2_0_29 : jm_kg wd2 0 29 12 (fun _ ad i _ => .ref (ad (jm_r wd2 24 ((fun i => i) i)))) := fun _ _ _ _ => ⟨_, rfl, rfl⟩
theorem kg2_0_30 : jm_kg wd2 0 30 12 (fun _ ad i _ => .ref (ad (jm_r wd2 25 ((fun i => i) i)))) := fun _ _ _ _ => ⟨_, rfl, rfl⟩
theorem km_X12_isStopLap : tw_kM yX12_isStopLap cX12_isStopLap 2 (some .boolean) 1 := ⟨(tw_gl kw_14 rfl), (tw_gl kw_1424 rfl), by decide, by decide, by decide +kernel⟩
theorem kg_1421 : (Jvm.Cond.methodLink "RaceByLapsModel" (166 : Nat) ({ cls := "RaceByLapsModel", name := "isStopLap", desc := "(I)Z" } : Jvm.MethodName)) ∈ lw_g := tw_gl kw_1421 rfl
theorem kv_X12_isStopLap : tw_kV yX12_isStopLap := ⟨(tw_gl kw_1423 rfl), tw_gl (List.mem_append_left _ (List.mem_map.mpr ⟨(yX12_isStopLap, _), List.mem_append_right _ (List.mem_append_right _ (List.mem_append_left _ (List.mem_of_getElem? (i := 12) rfl))), rfl⟩)) rfl⟩
theorem km_X12_isSet : tw_kM yX12_isSet cX12_isSet 1 (some .boolean) 1 := ⟨(tw_gl kw_14 rfl), (tw_gl kw_1427 rfl), by decide, by decide, by decide +kernel⟩
theorem kg_1425 : (Jvm.Cond.methodLink "RaceByLapsModel" (169 : Nat) ({ cls := "RaceByLapsModel", name := "isSet", desc := "(I)Z" } : Jvm.MethodName)) ∈ lw_g := tw_gl kw_1425 rfl
theorem kg_1426 : (Jvm.Cond.static ({ cls := "RaceByLapsModel", name := "isSet", desc := "(I)Z" } : Jvm.MethodName)) ∈ lw_g := tw_gl kw_1426 rfl
theorem kg2_0_32 : jm_kg wd2 0 32 12 (fun _ ad i _ => .ref (ad (jm_r wd2 27 ((fun i => i) i)))) := fun _ _ _ _ => ⟨_, rfl, rfl⟩
theorem kg2_0_33 : jm_kg wd2 0 33 12 (fun _ ad i _ => .ref (ad (jm_r wd2 28 ((fun i => i) i)))) := fun _ _ _ _ => ⟨_, rfl, rfl⟩
theorem kg2_0_34 : jm_kg wd2 0 34 12 (fun _ ad i _ => .ref (ad (jm_r wd2 29 ((fun i => i) i)))) := fun _ _ _ _ => ⟨_, rfl, rfl⟩
theorem km_X12_puts : tw_kM yX12_puts cX12_puts 6 none 4 := ⟨(tw_gl kw_14 rfl), (tw_gl kw_1431 rfl), by decide, by decide, by decide +kernel⟩
theorem kg_1428 : (Jvm.Cond.methodLink "RaceByLapsModel" (172 : Nat) ({ cls := "RaceByLapsModel", name := "puts", desc := "(IIII)V" } : Jvm.MethodName)) ∈ lw_g := tw_gl kw_1428 rfl
theorem kv_X12_puts : tw_kV yX12_puts := ⟨(tw_gl kw_1430 rfl), tw_gl (List.mem_append_left _ (List.mem_map.mpr ⟨(yX12_puts, _), List.mem_append_right _ (List.mem_append_right _ (List.mem_append_left _ (List.mem_of_getElem? (i := 13) rfl))), rfl⟩)) rfl⟩
theorem kf_RX12_188 : tw_kF RX12 188 12 40 RX12 TX12 97 := ⟨rfl, iw_X12, by decide, rfl, (tw_gl kw_1830 rfl)⟩
theorem kp_X12_40 : tw_kP 12 40 RX12 TX12 97 (.int) false := ⟨⟨tyX12, tyX12_ok⟩, nmX12, rfl, by decide +kernel⟩
theorem kx2_0_40 : jm_kp wd2 0 40 40 12 := fun _ _ _ _ _ => ⟨_, rfl, Nat.le_of_ble_eq_true rfl, rfl⟩
theorem kg2_0_40 : jm_kg wd2 0 40 12 (fun _ _ _ g => jm_i (g 40)) := fun _ _ _ _ => ⟨_, rfl, rfl⟩
theorem kg_1460 : (Jvm.Cond.methodLink "RaceByLapsModel" (272 : Nat) ({ cls := "java/lang/Math", name := "min", desc := "(II)I" } : Jvm.MethodName)) ∈ lw_g := tw_gl kw_1460 rfl
theorem kf_RX12_194 : tw_kF RX12 194 12 41 RX12 TX12 97 := ⟨rfl, iw_X12, by decide, rfl, (tw_gl kw_1831 rfl)⟩
theorem kp_X12_41 : tw_kP 12 41 RX12 TX12 97 (.int) false := ⟨⟨tyX12, tyX12_ok⟩, nmX12, rfl, by decide +kernel⟩
theorem kx2_0_41 : jm_kp wd2 0 41 41 12 := fun _ _ _ _ _ => ⟨_, rfl, Nat.le_of_ble_eq_true rfl, rfl⟩
theorem kf_RX12_205 : tw_kF RX12 205 12 42 RX12 TX12 97 := ⟨rfl, iw_X12, by decide, rfl, (tw_gl kw_1832 rfl)⟩
theorem kp_X12_42 : tw_kP 12 42 RX12 TX12 97 (.int) false := ⟨⟨tyX12, tyX12_ok⟩, nmX12, rfl, by decide +kernel⟩
theorem kx2_0_42 : jm_kp wd2 0 42 42 12 := fun _ _ _ _ _ => ⟨_, rfl, Nat.le_of_ble_eq_true rfl, rfl⟩
theorem kg2_0_45 : jm_kg wd2 0 45 12 (fun _ ad i _ => .ref (ad (jm_r wd2 36 ((fun i => i) i)))) := fun _ _ _ _ => ⟨_, rfl, rfl⟩
theorem kx2_0_43 : jm_kps wd2 0 43 43 12 := fun _ _ _ _ _ => ⟨_, rfl, Nat.le_of_ble_eq_true rfl, rfl⟩
theorem km_X12_every : tw_kM yX12_every cX12_every 3 (some .boolean) 1 := ⟨(tw_gl kw_14 rfl), (tw_gl kw_1486 rfl), by decide, by decide, by decide +kernel⟩
theorem kg_1483 : (Jvm.Cond.methodLink "RaceByLapsModel" (259 : Nat) ({ cls := "RaceByLapsModel", name := "every", desc := "(I)Z" } : Jvm.MethodName)) ∈ lw_g := tw_gl kw_1483 rfl
theorem kv_X12_every : tw_kV yX12_every := ⟨(tw_gl kw_1485 rfl), tw_gl (List.mem_append_left _ (List.mem_map.mpr ⟨(yX12_every, _), List.mem_append_right _ (List.mem_append_right _ (List.mem_append_right _ (List.mem_append_left _ (List.mem_of_getElem? (i := 4) rfl)))), rfl⟩)) rfl⟩
theorem kg2_0_41 : jm_kg wd2 0 41 12 (fun _ _ _ g => jm_i (g 41)) := fun _ _ _ _ => ⟨_, rfl, rfl⟩
theorem kg2_0_39 : jm_kg wd2 0 39 12 (fun _ ad i _ => .ref (ad (jm_r wd2 34 ((fun i => i) i)))) := fun _ _ _ _ => ⟨_, rfl, rfl⟩
theorem km_X12_isSign : tw_kM yX12_isSign cX12_isSign 3 (some .boolean) 2 := ⟨(tw_gl kw_14 rfl), (tw_gl kw_1474 rfl), by decide, by decide, by decide +kernel⟩
theorem kg_1471 : (Jvm.Cond.methodLink "RaceByLapsModel" (225 : Nat) ({ cls := "RaceByLapsModel", name := "isSign", desc := "(IC)Z" } : Jvm.MethodName)) ∈ lw_g := tw_gl kw_1471 rfl
theorem kv_X12_isSign : tw_kV yX12_isSign := ⟨(tw_gl kw_1473 rfl), tw_gl (List.mem_append_left _ (List.mem_map.mpr ⟨(yX12_isSign, _), List.mem_append_right _ (List.mem_append_right _ (List.mem_append_right _ (List.mem_append_left _ (List.mem_of_getElem? (i := 1) rfl)))), rfl⟩)) rfl⟩
theorem km_X12_act : tw_kM yX12_act cX12_act 1 (some .int) 1 := ⟨(tw_gl kw_14 rfl), (tw_gl kw_1520 rfl), by decide, by decide, by decide +kernel⟩
theorem kg_1518 : (Jvm.Cond.methodLink "RaceByLapsModel" (243 : Nat) ({ cls := "RaceByLapsModel", name := "act", desc := "(I)I" } : Jvm.MethodName)) ∈ lw_g := tw_gl kw_1518 rfl
theorem kg_1519 : (Jvm.Cond.static ({ cls := "RaceByLapsModel", name := "act", desc := "(I)I" } : Jvm.MethodName)) ∈ lw_g := tw_gl kw_1519 rfl
theorem kg2_0_44 : jm_kg wd2 0 44 12 (fun _ ad i _ => .ref (ad (jm_r wd2 35 ((fun i => i) i)))) := fun _ _ _ _ => ⟨_, rfl, rfl⟩
theorem kg2_0_42 : jm_kg wd2 0 42 12 (fun _ _ _ g => jm_i (g 42)) := fun _ _ _ _ => ⟨_, rfl, rfl⟩
theorem km_X12_marks : tw_kM yX12_marks cX12_marks 2 none 1 := ⟨(tw_gl kw_14 rfl), (tw_gl kw_1478 rfl), by decide, by decide, by decide +kernel⟩
theorem kg_1475 : (Jvm.Cond.methodLink "RaceByLapsModel" (217 : Nat) ({ cls := "RaceByLapsModel", name := "marks", desc := "(I)V" } : Jvm.MethodName)) ∈ lw_g := tw_gl kw_1475 rfl
theorem kv_X12_marks : tw_kV yX12_marks := ⟨(tw_gl kw_1477 rfl), tw_gl (List.mem_append_left _ (List.mem_map.mpr ⟨(yX12_marks, _), List.mem_append_right _ (List.mem_append_right _ (List.mem_append_right _ (List.mem_append_left _ (List.mem_of_getElem? (i := 2) rfl)))), rfl⟩)) rfl⟩
theorem km_X12_compared : tw_kM yX12_compared cX12_compared 4 (some .boolean) 1 := ⟨(tw_gl kw_14 rfl), (tw_gl kw_1490 rfl), by decide, by decide, by decide +kernel⟩
theorem kg_1487 : (Jvm.Cond.methodLink "RaceByLapsModel" (256 : Nat) ({ cls := "RaceByLapsModel", name := "compared", desc := "(I)Z" } : Jvm.MethodName)) ∈ lw_g := tw_gl kw_1487 rfl
theorem kv_X12_compared : tw_kV yX12_compared := ⟨(tw_gl kw_1489 rfl), tw_gl (List.mem_append_left _ (List.mem_map.mpr ⟨(yX12_compared, _), List.mem_append_right _ (List.mem_append_right _ (List.mem_append_right _ (List.mem_append_left _ (List.mem_of_getElem? (i := 5) rfl)))), rfl⟩)) rfl⟩
theorem km_X12_total : tw_kM yX12_total cX12_total 4 (some .boolean) 1 := ⟨(tw_gl kw_14 rfl), (tw_gl kw_1494 rfl), by decide, by decide, by decide +kernel⟩
theorem kg_1491 : (Jvm.Cond.methodLink "RaceByLapsModel" (251 : Nat) ({ cls := "RaceByLapsModel", name := "total", desc := "(I)Z" } : Jvm.MethodName)) ∈ lw_g := tw_gl kw_1491 rfl
theorem kv_X12_total : tw_kV yX12_total := ⟨(tw_gl kw_1493 rfl), tw_gl (List.mem_append_left _ (List.mem_map.mpr ⟨(yX12_total, _), List.mem_append_right _ (List.mem_append_right _ (List.mem_append_right _ (List.mem_append_left _ (List.mem_of_getElem? (i := 6) rfl)))), rfl⟩)) rfl⟩
theorem kg_1508 : (Jvm.Cond.methodLink "RaceByLapsModel" (197 : Nat) ({ cls := "java/lang/String", name := "indexOf", desc := "(I)I" } : Jvm.MethodName)) ∈ lw_g := tw_gl kw_1508 rfl
theorem km_X12_isOf : tw_kM yX12_isOf cX12_isOf 3 (some .boolean) 2 := ⟨(tw_gl kw_14 rfl), (tw_gl kw_1507 rfl), by decide, by decide, by decide +kernel⟩
theorem kg_1504 : (Jvm.Cond.methodLink "RaceByLapsModel" (213 : Nat) ({ cls := "RaceByLapsModel", name := "isOf", desc := "(ILjava/lang/String;)Z" } : Jvm.MethodName)) ∈ lw_g := tw_gl kw_1504 rfl
theorem kv_X12_isOf : tw_kV yX12_isOf := ⟨(tw_gl kw_1506 rfl), tw_gl (List.mem_append_left _ (List.mem_map.mpr ⟨(yX12_isOf, _), List.mem_append_right _ (List.mem_append_right _ (List.mem_append_right _ (List.mem_append_left _ (List.mem_of_getElem? (i := 9) rfl)))), rfl⟩)) rfl⟩
theorem km_X12_product : tw_kM yX12_product cX12_product 3 (some .boolean) 1 := ⟨(tw_gl kw_14 rfl), (tw_gl kw_1498 rfl), by decide, by decide, by decide +kernel⟩
theorem kg_1495 : (Jvm.Cond.methodLink "RaceByLapsModel" (246 : Nat) ({ cls := "RaceByLapsModel", name := "product", desc := "(I)Z" } : Jvm.MethodName)) ∈ lw_g := tw_gl kw_1495 rfl
theorem kv_X12_product : tw_kV yX12_product := ⟨(tw_gl kw_1497 rfl), tw_gl (List.mem_append_left _ (List.mem_map.mpr ⟨(yX12_product, _), List.mem_append_right _ (List.mem_append_right _ (List.mem_append_right _ (List.mem_append_left _ (List.mem_of_getElem? (i := 7) rfl)))), rfl⟩)) rfl⟩
theorem km_X12_unary : tw_kM yX12_unary cX12_unary 3 (some .boolean) 1 := ⟨(tw_gl kw_14 rfl), (tw_gl kw_1502 rfl), by decide, by decide, by decide +kernel⟩
theorem kg_1499 : (Jvm.Cond.methodLink "RaceByLapsModel" (240 : Nat) ({ cls := "RaceByLapsModel", name := "unary", desc := "(I)Z" } : Jvm.MethodName)) ∈ lw_g := tw_gl kw_1499 rfl
theorem kv_X12_unary : tw_kV yX12_unary := ⟨(tw_gl kw_1501 rfl), tw_gl (List.mem_append_left _ (List.mem_map.mpr ⟨(yX12_unary, _), List.mem_append_right _ (List.mem_append_right _ (List.mem_append_right _ (List.mem_append_left _ (List.mem_of_getElem? (i := 8) rfl)))), rfl⟩)) rfl⟩
theorem km_X12_thing : tw_kM yX12_thing cX12_thing 2 (some .boolean) 1 := ⟨(tw_gl kw_14 rfl), (tw_gl kw_1512 rfl), by decide, by decide, by decide +kernel⟩
theorem kg_1509 : (Jvm.Cond.methodLink "RaceByLapsModel" (237 : Nat) ({ cls := "RaceByLapsModel", name := "thing", desc := "(I)Z" } : Jvm.MethodName)) ∈ lw_g := tw_gl kw_1509 rfl
theorem kv_X12_thing : tw_kV yX12_thing := ⟨(tw_gl kw_1511 rfl), tw_gl (List.mem_append_left _ (List.mem_map.mpr ⟨(yX12_thing, _), List.mem_append_right _ (List.mem_append_right _ (List.mem_append_right _ (List.mem_append_left _ (List.mem_of_getElem? (i := 10) rfl)))), rfl⟩)) rfl⟩
theorem kg2_0_43 : jm_kg wd2 0 43 12 (fun G _ _ g => jm_sv G (g 43)) := fun _ _ _ _ => ⟨_, rfl, rfl⟩
theorem km_X12_numeral : tw_kM yX12_numeral cX12_numeral 4 (some .boolean) 1 := ⟨(tw_gl kw_14 rfl), (tw_gl kw_1517 rfl), by decide, by decide, by decide +kernel⟩
theorem kg_1514 : (Jvm.Cond.methodLink "RaceByLapsModel" (229 : Nat) ({ cls := "RaceByLapsModel", name := "numeral", desc := "(I)Z" } : Jvm.MethodName)) ∈ lw_g := tw_gl kw_1514 rfl
theorem kv_X12_numeral : tw_kV yX12_numeral := ⟨(tw_gl kw_1516 rfl), tw_gl (List.mem_append_left _ (List.mem_map.mpr ⟨(yX12_numeral, _), List.mem_append_right _ (List.mem_append_right _ (List.mem_append_right _ (List.mem_append_left _ (List.mem_of_getElem? (i := 11) rfl)))), rfl⟩)) rfl⟩
theorem km_X12_some : tw_kM yX12_some cX12_some 3 (some .boolean) 1 := ⟨(tw_gl kw_14 rfl), (tw_gl kw_1482 rfl), by decide, by decide, by decide +kernel⟩
theorem kg_1479 : (Jvm.Cond.methodLink "RaceByLapsModel" (232 : Nat) ({ cls := "RaceByLapsModel", name := "some", desc := "(I)Z" } : Jvm.MethodName)) ∈ lw_g := tw_gl kw_1479 rfl
theorem kv_X12_some : tw_kV yX12_some := ⟨(tw_gl kw_1481 rfl), tw_gl (List.mem_append_left _ (List.mem_map.mpr ⟨(yX12_some, _), List.mem_append_right _ (List.mem_append_right _ (List.mem_append_right _ (List.mem_append_left _ (List.mem_of_getElem? (i := 3) rfl)))), rfl⟩)) rfl⟩
theorem kg2_0_74 : jm_kg wd2 0 74 12 (fun _ ad i _ => .ref (ad (jm_r wd2 62 ((fun i => i) i)))) := fun _ _ _ _ => ⟨_, rfl, rfl⟩
theorem kg2_0_72 : jm_kg wd2 0 72 12 (fun _ _ _ g => jm_i (g 72)) := fun _ _ _ _ => ⟨_, rfl, rfl⟩
theorem km_X12_law : tw_kM yX12_law cX12_law 4 (some .boolean) 1 := ⟨(tw_gl kw_14 rfl), (tw_gl kw_1528 rfl), by decide, by decide, by decide +kernel⟩
theorem kg_1525 : (Jvm.Cond.methodLink "RaceByLapsModel" (285 : Nat) ({ cls := "RaceByLapsModel", name := "law", desc := "(I)Z" } : Jvm.MethodName)) ∈ lw_g := tw_gl kw_1525 rfl
theorem kv_X12_law : tw_kV yX12_law := ⟨(tw_gl kw_1527 rfl), tw_gl (List.mem_append_left _ (List.mem_map.mpr ⟨(yX12_law, _), List.mem_append_right _ (List.mem_append_right _ (List.mem_append_right _ (List.mem_append_left _ (List.mem_of_getElem? (i := 12) rfl)))), rfl⟩)) rfl⟩
theorem km_X12_line : tw_kM yX12_line cX12_line 4 (some .boolean) 1 := ⟨(tw_gl kw_14 rfl), (tw_gl kw_1470 rfl), by decide, by decide, by decide +kernel⟩
theorem kg_1467 : (Jvm.Cond.methodLink "RaceByLapsModel" (266 : Nat) ({ cls := "RaceByLapsModel", name := "line", desc := "(I)Z" } : Jvm.MethodName)) ∈ lw_g := tw_gl kw_1467 rfl
theorem kv_X12_line : tw_kV yX12_line := ⟨(tw_gl kw_1469 rfl), tw_gl (List.mem_append_left _ (List.mem_map.mpr ⟨(yX12_line, _), List.mem_append_right _ (List.mem_append_right _ (List.mem_append_right _ (List.mem_append_left _ (List.mem_of_getElem? (i := 0) rfl)))), rfl⟩)) rfl⟩
theorem km_X12_lines : tw_kM yX12_lines cX12_lines 3 (some .boolean) 1 := ⟨(tw_gl kw_14 rfl), (tw_gl kw_1466 rfl), by decide, by decide, by decide +kernel⟩
theorem kg_1463 : (Jvm.Cond.methodLink "RaceByLapsModel" (282 : Nat) ({ cls := "RaceByLapsModel", name := "lines", desc := "(I)Z" } : Jvm.MethodName)) ∈ lw_g := tw_gl kw_1463 rfl
theorem kv_X12_lines : tw_kV yX12_lines := ⟨(tw_gl kw_1465 rfl), tw_gl (List.mem_append_left _ (List.mem_map.mpr ⟨(yX12_lines, _), List.mem_append_right _ (List.mem_append_right _ (List.mem_append_left _ (List.mem_of_getElem? (i := 15) rfl))), rfl⟩)) rfl⟩
theorem km_X12_reads : tw_kM yX12_reads cX12_reads 6 (some .int) 2 := ⟨(tw_gl kw_14 rfl), (tw_gl kw_1459 rfl), by decide, by decide, by decide +kernel⟩
theorem kg_1456 : (Jvm.Cond.methodLink "RaceByLapsModel" (288 : Nat) ({ cls := "RaceByLapsModel", name := "reads", desc := "(IZ)I" } : Jvm.MethodName)) ∈ lw_g := tw_gl kw_1456 rfl
theorem kv_X12_reads : tw_kV yX12_reads := ⟨(tw_gl kw_1458 rfl), tw_gl (List.mem_append_left _ (List.mem_map.mpr ⟨(yX12_reads, _), List.mem_append_right _ (List.mem_append_right _ (List.mem_append_left _ (List.mem_of_getElem? (i := 14) rfl))), rfl⟩)) rfl⟩
theorem kg2_0_75 : jm_kg wd2 0 75 12 (fun _ _ _ g => jm_i (g 75)) := fun _ _ _ _ => ⟨_, rfl, rfl⟩
theorem kf_RX12_185 : tw_kF RX12 185 12 82 RX12 TX12 97 := ⟨rfl, iw_X12, by decide, rfl, (tw_gl kw_1872 rfl)⟩
theorem kg2_0_82 : jm_kg wd2 0 82 12 (fun _ _ _ g => jm_i (g 82)) := fun _ _ _ _ => ⟨_, rfl, rfl⟩
theorem km_X12_refuse : tw_kM yX12_refuse cX12_refuse 1 (some .int) 0 := ⟨(tw_gl kw_14 rfl), (tw_gl kw_1537 rfl), by decide, by decide, by decide +kernel⟩
theorem kg_1534 : (Jvm.Cond.methodLink "RaceByLapsModel" (446 : Nat) ({ cls := "RaceByLapsModel", name := "refuse", desc := "()I" } : Jvm.MethodName)) ∈ lw_g := tw_gl kw_1534 rfl
theorem kv_X12_refuse : tw_kV yX12_refuse := ⟨(tw_gl kw_1536 rfl), tw_gl (List.mem_append_left _ (List.mem_map.mpr ⟨(yX12_refuse, _), List.mem_append_right _ (List.mem_append_right _ (List.mem_append_right _ (List.mem_append_left _ (List.mem_of_getElem? (i := 13) rfl)))), rfl⟩)) rfl⟩
theorem kg_1533 : (Jvm.Cond.constantLong "RaceByLapsModel" (444 : Nat) (10 : Int64)) ∈ lw_g := tw_gl kw_1533 rfl
theorem kf_RX12_312 : tw_kF RX12 312 12 70 RX12 TX12 97 := ⟨rfl, iw_X12, by decide, rfl, (tw_gl kw_1860 rfl)⟩
theorem kp_X12_70 : tw_kP 12 70 RX12 TX12 97 (.int) false := ⟨⟨tyX12, tyX12_ok⟩, nmX12, rfl, by decide +kernel⟩
theorem kx2_0_70 : jm_kp wd2 0 70 70 12 := fun _ _ _ _ _ => ⟨_, rfl, Nat.le_of_ble_eq_true rfl, rfl⟩
theorem kg2_0_68 : jm_kg wd2 0 68 12 (fun _ ad i _ => .ref (ad (jm_r wd2 58 ((fun i => i) i)))) := fun _ _ _ _ => ⟨_, rfl, rfl⟩
theorem kg2_0_49 : jm_kg wd2 0 49 12 (fun _ ad i _ => .ref (ad (jm_r wd2 39 ((fun i => i) i)))) := fun _ _ _ _ => ⟨_, rfl, rfl⟩
theorem kg2_0_51 : jm_kg wd2 0 51 12 (fun _ ad i _ => .ref (ad (jm_r wd2 41 ((fun i => i) i)))) := fun _ _ _ _ => ⟨_, rfl, rfl⟩
theorem kg2_0_50 : jm_kg wd2 0 50 12 (fun _ ad i _ => .ref (ad (jm_r wd2 40 ((fun i => i) i)))) := fun _ _ _ _ => ⟨_, rfl, rfl⟩
theorem kg2_0_52 : jm_kg wd2 0 52 12 (fun _ ad i _ => .ref (ad (jm_r wd2 42 ((fun i => i) i)))) := fun _ _ _ _ => ⟨_, rfl, rfl⟩
theorem kg2_0_53 : jm_kg wd2 0 53 12 (fun _ ad i _ => .ref (ad (jm_r wd2 43 ((fun i => i) i)))) := fun _ _ _ _ => ⟨_, rfl, rfl⟩
theorem kg2_0_54 : jm_kg wd2 0 54 12 (fun _ ad i _ => .ref (ad (jm_r wd2 44 ((fun i => i) i)))) := fun _ _ _ _ => ⟨_, rfl, rfl⟩
theorem kg2_0_55 : jm_kg wd2 0 55 12 (fun _ ad i _ => .ref (ad (jm_r wd2 45 ((fun i => i) i)))) := fun _ _ _ _ => ⟨_, rfl, rfl⟩
theorem kg2_0_57 : jm_kg wd2 0 57 12 (fun _ ad i _ => .ref (ad (jm_r wd2 47 ((fun i => i) i)))) := fun _ _ _ _ => ⟨_, rfl, rfl⟩
theorem kg2_0_58 : jm_kg wd2 0 58 12 (fun _ ad i _ => .ref (ad (jm_r wd2 48 ((fun i => i) i)))) := fun _ _ _ _ => ⟨_, rfl, rfl⟩
theorem kg2_0_59 : jm_kg wd2 0 59 12 (fun _ ad i _ => .ref (ad (jm_r wd2 49 ((fun i => i) i)))) := fun _ _ _ _ => ⟨_, rfl, rfl⟩
theorem kg2_0_60 : jm_kg wd2 0 60 12 (fun _ ad i _ => .ref (ad (jm_r wd2 50 ((fun i => i) i)))) := fun _ _ _ _ => ⟨_, rfl, rfl⟩
theorem kg2_0_61 : jm_kg wd2 0 61 12 (fun _ ad i _ => .ref (ad (jm_r wd2 51 ((fun i => i) i)))) := fun _ _ _ _ => ⟨_, rfl, rfl⟩
theorem kg2_0_62 : jm_kg wd2 0 62 12 (fun _ ad i _ => .ref (ad (jm_r wd2 52 ((fun i => i) i)))) := fun _ _ _ _ => ⟨_, rfl, rfl⟩
theorem kg2_0_63 : jm_kg wd2 0 63 12 (fun _ ad i _ => .ref (ad (jm_r wd2 53 ((fun i => i) i)))) := fun _ _ _ _ => ⟨_, rfl, rfl⟩
theorem kg2_0_64 : jm_kg wd2 0 64 12 (fun _ ad i _ => .ref (ad (jm_r wd2 54 ((fun i => i) i)))) := fun _ _ _ _ => ⟨_, rfl, rfl⟩
theorem kg2_0_56 : jm_kg wd2 0 56 12 (fun _ ad i _ => .ref (ad (jm_r wd2 46 ((fun i => i) i)))) := fun _ _ _ _ => ⟨_, rfl, rfl⟩
theorem kg2_0_65 : jm_kg wd2 0 65 12 (fun _ ad i _ => .ref (ad (jm_r wd2 55 ((fun i => i) i)))) := fun _ _ _ _ => ⟨_, rfl, rfl⟩
theorem kg2_0_66 : jm_kg wd2 0 66 12 (fun _ ad i _ => .ref (ad (jm_r wd2 56 ((fun i => i) i)))) := fun _ _ _ _ => ⟨_, rfl, rfl⟩
theorem kg2_0_69 : jm_kg wd2 0 69 12 (fun _ ad i _ => .ref (ad (jm_r wd2 59 ((fun i => i) i)))) := fun _ _ _ _ => ⟨_, rfl, rfl⟩
theorem km_X12_starts : tw_kM yX12_starts cX12_starts 3 none 0 := ⟨(tw_gl kw_14 rfl), (tw_gl kw_1545 rfl), by decide, by decide, by decide +kernel⟩
theorem kg_1542 : (Jvm.Cond.methodLink "RaceByLapsModel" (372 : Nat) ({ cls := "RaceByLapsModel", name := "starts", desc := "()V" } : Jvm.MethodName)) ∈ lw_g := tw_gl kw_1542 rfl
theorem kv_X12_starts : tw_kV yX12_starts := ⟨(tw_gl kw_1544 rfl), tw_gl (List.mem_append_left _ (List.mem_map.mpr ⟨(yX12_starts, _), List.mem_append_right _ (List.mem_append_right _ (List.mem_append_right _ (List.mem_append_left _ (List.mem_of_getElem? (i := 15) rfl)))), rfl⟩)) rfl⟩
theorem km_X12_goesOn : tw_kM yX12_goesOn cX12_goesOn 2 (some .boolean) 1 := ⟨(tw_gl kw_14 rfl), (tw_gl kw_1553 rfl), by decide, by decide, by decide +kernel⟩
theorem kg_1550 : (Jvm.Cond.methodLink "RaceByLapsModel" (383 : Nat) ({ cls := "RaceByLapsModel", name := "goesOn", desc := "(I)Z" } : Jvm.MethodName)) ∈ lw_g := tw_gl kw_1550 rfl
theorem kv_X12_goesOn : tw_kV yX12_goesOn := ⟨(tw_gl kw_1552 rfl), tw_gl (List.mem_append_left _ (List.mem_map.mpr ⟨(yX12_goesOn, _), List.mem_append_right _ (List.mem_append_right _ (List.mem_append_right _ (List.mem_append_right _ (List.mem_append_left _ (List.mem_of_getElem? (i := 1) rfl))))), rfl⟩)) rfl⟩
theorem km_X12_next : tw_kM yX12_next cX12_next 3 (some .int) 0 := ⟨(tw_gl kw_14 rfl), (tw_gl kw_1549 rfl), by decide, by decide, by decide +kernel⟩
theorem kg_1546 : (Jvm.Cond.methodLink "RaceByLapsModel" (376 : Nat) ({ cls := "RaceByLapsModel", name := "next", desc := "()I" } : Jvm.MethodName)) ∈ lw_g := tw_gl kw_1546 rfl
theorem kv_X12_next : tw_kV yX12_next := ⟨(tw_gl kw_1548 rfl), tw_gl (List.mem_append_left _ (List.mem_map.mpr ⟨(yX12_next, _), List.mem_append_right _ (List.mem_append_right _ (List.mem_append_right _ (List.mem_append_right _ (List.mem_append_left _ (List.mem_of_getElem? (i := 0) rfl))))), rfl⟩)) rfl⟩
theorem km_X12_hears : tw_kM yX12_hears cX12_hears 4 none 2 := ⟨(tw_gl kw_14 rfl), (tw_gl kw_1561 rfl), by decide, by decide, by decide +kernel⟩
theorem kg_1558 : (Jvm.Cond.methodLink "RaceByLapsModel" (408 : Nat) ({ cls := "RaceByLapsModel", name := "hears", desc := "(II)V" } : Jvm.MethodName)) ∈ lw_g := tw_gl kw_1558 rfl
theorem kv_X12_hears : tw_kV yX12_hears := ⟨(tw_gl kw_1560 rfl), tw_gl (List.mem_append_left _ (List.mem_map.mpr ⟨(yX12_hears, _), List.mem_append_right _ (List.mem_append_right _ (List.mem_append_right _ (List.mem_append_right _ (List.mem_append_left _ (List.mem_of_getElem? (i := 3) rfl))))), rfl⟩)) rfl⟩
theorem km_X12_isSlow : tw_kM yX12_isSlow cX12_isSlow 4 (some .boolean) 1 := ⟨(tw_gl kw_14 rfl), (tw_gl kw_1565 rfl), by decide, by decide, by decide +kernel⟩
theorem kg_1562 : (Jvm.Cond.methodLink "RaceByLapsModel" (411 : Nat) ({ cls := "RaceByLapsModel", name := "isSlow", desc := "(I)Z" } : Jvm.MethodName)) ∈ lw_g := tw_gl kw_1562 rfl
theorem kv_X12_isSlow : tw_kV yX12_isSlow := ⟨(tw_gl kw_1564 rfl), tw_gl (List.mem_append_left _ (List.mem_map.mpr ⟨(yX12_isSlow, _), List.mem_append_right _ (List.mem_append_right _ (List.mem_append_right _ (List.mem_append_right _ (List.mem_append_left _ (List.mem_of_getElem? (i := 4) rfl))))), rfl⟩)) rfl⟩
theorem km_X12_isFront : tw_kM yX12_isFront cX12_isFront 4 (some .boolean) 1 := ⟨(tw_gl kw_14 rfl), (tw_gl kw_1573 rfl), by decide, by decide, by decide +kernel⟩
theorem kg_1570 : (Jvm.Cond.methodLink "RaceByLapsModel" (386 : Nat) ({ cls := "RaceByLapsModel", name := "isFront", desc := "(I)Z" } : Jvm.MethodName)) ∈ lw_g := tw_gl kw_1570 rfl
theorem kv_X12_isFront : tw_kV yX12_isFront := ⟨(tw_gl kw_1572 rfl), tw_gl (List.mem_append_left _ (List.mem_map.mpr ⟨(yX12_isFront, _), List.mem_append_right _ (List.mem_append_right _ (List.mem_append_right _ (List.mem_append_right _ (List.mem_append_left _ (List.mem_of_getElem? (i := 6) rfl))))), rfl⟩)) rfl⟩
theorem km_X12_wet : tw_kM yX12_wet cX12_wet 5 (some .int) 2 := ⟨(tw_gl kw_14 rfl), (tw_gl kw_1577 rfl), by decide, by decide, by decide +kernel⟩
theorem kg_1574 : (Jvm.Cond.methodLink "RaceByLapsModel" (389 : Nat) ({ cls := "RaceByLapsModel", name := "wet", desc := "(II)I" } : Jvm.MethodName)) ∈ lw_g := tw_gl kw_1574 rfl
theorem kv_X12_wet : tw_kV yX12_wet := ⟨(tw_gl kw_1576 rfl), tw_gl (List.mem_append_left _ (List.mem_map.mpr ⟨(yX12_wet, _), List.mem_append_right _ (List.mem_append_right _ (List.mem_append_right _ (List.mem_append_right _ (List.mem_append_left _ (List.mem_of_getElem? (i := 7) rfl))))), rfl⟩)) rfl⟩
theorem kg_1578 : (Jvm.Cond.methodLink "RaceByLapsModel" (392 : Nat) ({ cls := "java/lang/Math", name := "abs", desc := "(I)I" } : Jvm.MethodName)) ∈ lw_g := tw_gl kw_1578 rfl
theorem kg_1579 : (Jvm.Cond.methodLink "RaceByLapsModel" (395 : Nat) ({ cls := "java/lang/Math", name := "max", desc := "(II)I" } : Jvm.MethodName)) ∈ lw_g := tw_gl kw_1579 rfl
theorem km_X12_takes : tw_kM yX12_takes cX12_takes 8 (some .int) 4 := ⟨(tw_gl kw_14 rfl), (tw_gl kw_1569 rfl), by decide, by decide, by decide +kernel⟩
theorem kg_1566 : (Jvm.Cond.methodLink "RaceByLapsModel" (414 : Nat) ({ cls := "RaceByLapsModel", name := "takes", desc := "(IIIZ)I" } : Jvm.MethodName)) ∈ lw_g := tw_gl kw_1566 rfl
theorem kv_X12_takes : tw_kV yX12_takes := ⟨(tw_gl kw_1568 rfl), tw_gl (List.mem_append_left _ (List.mem_map.mpr ⟨(yX12_takes, _), List.mem_append_right _ (List.mem_append_right _ (List.mem_append_right _ (List.mem_append_right _ (List.mem_append_left _ (List.mem_of_getElem? (i := 5) rfl))))), rfl⟩)) rfl⟩
theorem km_X12_isYellow : tw_kM yX12_isYellow cX12_isYellow 6 (some .boolean) 2 := ⟨(tw_gl kw_14 rfl), (tw_gl kw_1587 rfl), by decide, by decide, by decide +kernel⟩
theorem kg_1584 : (Jvm.Cond.methodLink "RaceByLapsModel" (398 : Nat) ({ cls := "RaceByLapsModel", name := "isYellow", desc := "(II)Z" } : Jvm.MethodName)) ∈ lw_g := tw_gl kw_1584 rfl
theorem kv_X12_isYellow : tw_kV yX12_isYellow := ⟨(tw_gl kw_1586 rfl), tw_gl (List.mem_append_left _ (List.mem_map.mpr ⟨(yX12_isYellow, _), List.mem_append_right _ (List.mem_append_right _ (List.mem_append_right _ (List.mem_append_right _ (List.mem_append_left _ (List.mem_of_getElem? (i := 9) rfl))))), rfl⟩)) rfl⟩
theorem kg2_0_70 : jm_kg wd2 0 70 12 (fun _ _ _ g => jm_i (g 70)) := fun _ _ _ _ => ⟨_, rfl, rfl⟩
theorem km_X12_latest : tw_kM yX12_latest cX12_latest 7 (some .int) 3 := ⟨(tw_gl kw_14 rfl), (tw_gl kw_1591 rfl), by decide, by decide, by decide +kernel⟩
theorem kg_1588 : (Jvm.Cond.methodLink "RaceByLapsModel" (402 : Nat) ({ cls := "RaceByLapsModel", name := "latest", desc := "(III)I" } : Jvm.MethodName)) ∈ lw_g := tw_gl kw_1588 rfl
theorem kv_X12_latest : tw_kV yX12_latest := ⟨(tw_gl kw_1590 rfl), tw_gl (List.mem_append_left _ (List.mem_map.mpr ⟨(yX12_latest, _), List.mem_append_right _ (List.mem_append_right _ (List.mem_append_right _ (List.mem_append_right _ (List.mem_append_left _ (List.mem_of_getElem? (i := 10) rfl))))), rfl⟩)) rfl⟩
theorem kg2_0_67 : jm_kg wd2 0 67 12 (fun _ ad i _ => .ref (ad (jm_r wd2 57 ((fun i => i) i)))) := fun _ _ _ _ => ⟨_, rfl, rfl⟩
theorem km_X12_held : tw_kM yX12_held cX12_held 11 (some .int) 5 := ⟨(tw_gl kw_14 rfl), (tw_gl kw_1583 rfl), by decide, by decide, by decide +kernel⟩
theorem kg_1580 : (Jvm.Cond.methodLink "RaceByLapsModel" (418 : Nat) ({ cls := "RaceByLapsModel", name := "held", desc := "(IIIIZ)I" } : Jvm.MethodName)) ∈ lw_g := tw_gl kw_1580 rfl
theorem kv_X12_held : tw_kV yX12_held := ⟨(tw_gl kw_1582 rfl), tw_gl (List.mem_append_left _ (List.mem_map.mpr ⟨(yX12_held, _), List.mem_append_right _ (List.mem_append_right _ (List.mem_append_right _ (List.mem_append_right _ (List.mem_append_left _ (List.mem_of_getElem? (i := 8) rfl))))), rfl⟩)) rfl⟩
theorem km_X12_isOver : tw_kM yX12_isOver cX12_isOver 6 (some .boolean) 2 := ⟨(tw_gl kw_14 rfl), (tw_gl kw_1599 rfl), by decide, by decide, by decide +kernel⟩
theorem kg_1596 : (Jvm.Cond.methodLink "RaceByLapsModel" (426 : Nat) ({ cls := "RaceByLapsModel", name := "isOver", desc := "(II)Z" } : Jvm.MethodName)) ∈ lw_g := tw_gl kw_1596 rfl
theorem kv_X12_isOver : tw_kV yX12_isOver := ⟨(tw_gl kw_1598 rfl), tw_gl (List.mem_append_left _ (List.mem_map.mpr ⟨(yX12_isOver, _), List.mem_append_right _ (List.mem_append_right _ (List.mem_append_right _ (List.mem_append_right _ (List.mem_append_left _ (List.mem_of_getElem? (i := 12) rfl))))), rfl⟩)) rfl⟩
theorem kg2_0_71 : jm_kg wd2 0 71 12 (fun _ ad i _ => .ref (ad (jm_r wd2 60 ((fun i => i) i)))) := fun _ _ _ _ => ⟨_, rfl, rfl⟩
theorem kg2_0_48 : jm_kg wd2 0 48 12 (fun _ ad i _ => .ref (ad (jm_r wd2 38 ((fun i => i) i)))) := fun _ _ _ _ => ⟨_, rfl, rfl⟩
theorem km_X12_truth : tw_kM yX12_truth cX12_truth 1 (some .int) 1 := ⟨(tw_gl kw_14 rfl), (tw_gl kw_1610 rfl), by decide, by decide, by decide +kernel⟩
theorem kg_1608 : (Jvm.Cond.methodLink "RaceByLapsModel" (292 : Nat) ({ cls := "RaceByLapsModel", name := "truth", desc := "(Z)I" } : Jvm.MethodName)) ∈ lw_g := tw_gl kw_1608 rfl
theorem kg_1609 : (Jvm.Cond.static ({ cls := "RaceByLapsModel", name := "truth", desc := "(Z)I" } : Jvm.MethodName)) ∈ lw_g := tw_gl kw_1609 rfl
theorem km_X12_speaks : tw_kM yX12_speaks cX12_speaks 9 none 3 := ⟨(tw_gl kw_14 rfl), (tw_gl kw_1607 rfl), by decide, by decide, by decide +kernel⟩
theorem kg_1604 : (Jvm.Cond.methodLink "RaceByLapsModel" (438 : Nat) ({ cls := "RaceByLapsModel", name := "speaks", desc := "(III)V" } : Jvm.MethodName)) ∈ lw_g := tw_gl kw_1604 rfl
theorem kv_X12_speaks : tw_kV yX12_speaks := ⟨(tw_gl kw_1606 rfl), tw_gl (List.mem_append_left _ (List.mem_map.mpr ⟨(yX12_speaks, _), List.mem_append_right _ (List.mem_append_right _ (List.mem_append_right _ (List.mem_append_right _ (List.mem_append_left _ (List.mem_of_getElem? (i := 14) rfl))))), rfl⟩)) rfl⟩
theorem kf_RX12_306 : tw_kF RX12 306 12 47 RX12 TX12 97 := ⟨rfl, iw_X12, by decide, rfl, (tw_gl kw_1837 rfl)⟩
theorem kp_X12_47 : tw_kP 12 47 RX12 TX12 97 (.int) false := ⟨⟨tyX12, tyX12_ok⟩, nmX12, rfl, by decide +kernel⟩
theorem kx2_0_47 : jm_kp wd2 0 47 47 12 := fun _ _ _ _ _ => ⟨_, rfl, Nat.le_of_ble_eq_true rfl, rfl⟩
theorem kg2_0_46 : jm_kg wd2 0 46 12 (fun _ ad i _ => .ref (ad (jm_r wd2 37 ((fun i => i) i)))) := fun _ _ _ _ => ⟨_, rfl, rfl⟩
theorem km_X12_acted : tw_kM yX12_acted cX12_acted 3 (some .int) 3 := ⟨(tw_gl kw_14 rfl), (tw_gl kw_1617 rfl), by decide, by decide, by decide +kernel⟩
theorem kg_1615 : (Jvm.Cond.methodLink "RaceByLapsModel" (302 : Nat) ({ cls := "RaceByLapsModel", name := "acted", desc := "(III)I" } : Jvm.MethodName)) ∈ lw_g := tw_gl kw_1615 rfl
theorem kg_1616 : (Jvm.Cond.static ({ cls := "RaceByLapsModel", name := "acted", desc := "(III)I" } : Jvm.MethodName)) ∈ lw_g := tw_gl kw_1616 rfl
theorem km_X12_gives : tw_kM yX12_gives cX12_gives 6 (some .int) 2 := ⟨(tw_gl kw_14 rfl), (tw_gl kw_1614 rfl), by decide, by decide, by decide +kernel⟩
theorem kg_1611 : (Jvm.Cond.methodLink "RaceByLapsModel" (441 : Nat) ({ cls := "RaceByLapsModel", name := "gives", desc := "(II)I" } : Jvm.MethodName)) ∈ lw_g := tw_gl kw_1611 rfl
theorem kv_X12_gives : tw_kV yX12_gives := ⟨(tw_gl kw_1613 rfl), tw_gl (List.mem_append_left _ (List.mem_map.mpr ⟨(yX12_gives, _), List.mem_append_right _ (List.mem_append_right _ (List.mem_append_right _ (List.mem_append_right _ (List.mem_append_left _ (List.mem_of_getElem? (i := 15) rfl))))), rfl⟩)) rfl⟩
theorem kg2_0_47 : jm_kg wd2 0 47 12 (fun _ _ _ g => jm_i (g 47)) := fun _ _ _ _ => ⟨_, rfl, rfl⟩
theorem km_X12_asks : tw_kM yX12_asks cX12_asks 10 (some .int) 3 := ⟨(tw_gl kw_14 rfl), (tw_gl kw_1603 rfl), by decide, by decide, by decide +kernel⟩
theorem kg_1600 : (Jvm.Cond.methodLink "RaceByLapsModel" (432 : Nat) ({ cls := "RaceByLapsModel", name := "asks", desc := "(III)I" } : Jvm.MethodName)) ∈ lw_g := tw_gl kw_1600 rfl
theorem kv_X12_asks : tw_kV yX12_asks := ⟨(tw_gl kw_1602 rfl), tw_gl (List.mem_append_left _ (List.mem_map.mpr ⟨(yX12_asks, _), List.mem_append_right _ (List.mem_append_right _ (List.mem_append_right _ (List.mem_append_right _ (List.mem_append_left _ (List.mem_of_getElem? (i := 13) rfl))))), rfl⟩)) rfl⟩
theorem km_X12_boxes : tw_kM yX12_boxes cX12_boxes 9 none 4 := ⟨(tw_gl kw_14 rfl), (tw_gl kw_1621 rfl), by decide, by decide, by decide +kernel⟩
theorem kg_1618 : (Jvm.Cond.methodLink "RaceByLapsModel" (435 : Nat) ({ cls := "RaceByLapsModel", name := "boxes", desc := "(IIII)V" } : Jvm.MethodName)) ∈ lw_g := tw_gl kw_1618 rfl
theorem kv_X12_boxes : tw_kV yX12_boxes := ⟨(tw_gl kw_1620 rfl), tw_gl (List.mem_append_left _ (List.mem_map.mpr ⟨(yX12_boxes, _), List.mem_append_right _ (List.mem_append_right _ (List.mem_append_right _ (List.mem_append_right _ (List.mem_append_right _ (List.mem_append_left _ (List.mem_of_getElem? (i := 0) rfl)))))), rfl⟩)) rfl⟩
theorem km_X12_endsLap : tw_kM yX12_endsLap cX12_endsLap 7 none 3 := ⟨(tw_gl kw_14 rfl), (tw_gl kw_1595 rfl), by decide, by decide, by decide +kernel⟩
theorem kg_1592 : (Jvm.Cond.methodLink "RaceByLapsModel" (422 : Nat) ({ cls := "RaceByLapsModel", name := "endsLap", desc := "(III)V" } : Jvm.MethodName)) ∈ lw_g := tw_gl kw_1592 rfl
theorem kv_X12_endsLap : tw_kV yX12_endsLap := ⟨(tw_gl kw_1594 rfl), tw_gl (List.mem_append_left _ (List.mem_map.mpr ⟨(yX12_endsLap, _), List.mem_append_right _ (List.mem_append_right _ (List.mem_append_right _ (List.mem_append_right _ (List.mem_append_left _ (List.mem_of_getElem? (i := 11) rfl))))), rfl⟩)) rfl⟩
theorem km_X12_goes : tw_kM yX12_goes cX12_goes 8 none 2 := ⟨(tw_gl kw_14 rfl), (tw_gl kw_1557 rfl), by decide, by decide, by decide +kernel⟩
theorem kg_1554 : (Jvm.Cond.methodLink "RaceByLapsModel" (380 : Nat) ({ cls := "RaceByLapsModel", name := "goes", desc := "(II)V" } : Jvm.MethodName)) ∈ lw_g := tw_gl kw_1554 rfl
theorem kv_X12_goes : tw_kV yX12_goes := ⟨(tw_gl kw_1556 rfl), tw_gl (List.mem_append_left _ (List.mem_map.mpr ⟨(yX12_goes, _), List.mem_append_right _ (List.mem_append_right _ (List.mem_append_right _ (List.mem_append_right _ (List.mem_append_left _ (List.mem_of_getElem? (i := 2) rfl))))), rfl⟩)) rfl⟩
theorem km_X12_runs : tw_kM yX12_runs cX12_runs 2 none 0 := ⟨(tw_gl kw_14 rfl), (tw_gl kw_1541 rfl), by decide, by decide, by decide +kernel⟩
theorem kg_1538 : (Jvm.Cond.methodLink "RaceByLapsModel" (449 : Nat) ({ cls := "RaceByLapsModel", name := "runs", desc := "()V" } : Jvm.MethodName)) ∈ lw_g := tw_gl kw_1538 rfl
theorem kv_X12_runs : tw_kV yX12_runs := ⟨(tw_gl kw_1540 rfl), tw_gl (List.mem_append_left _ (List.mem_map.mpr ⟨(yX12_runs, _), List.mem_append_right _ (List.mem_append_right _ (List.mem_append_right _ (List.mem_append_left _ (List.mem_of_getElem? (i := 14) rfl)))), rfl⟩)) rfl⟩
theorem kg_1622 : (Jvm.Cond.methodLink "RaceByLapsModel" (452 : Nat) ({ cls := "java/lang/Integer", name := "bitCount", desc := "(I)I" } : Jvm.MethodName)) ∈ lw_g := tw_gl kw_1622 rfl
theorem km_X12_ledBy : tw_kM yX12_ledBy cX12_ledBy 9 (some .int) 2 := ⟨(tw_gl kw_14 rfl), (tw_gl kw_1634 rfl), by decide, by decide, by decide +kernel⟩
theorem kg_1631 : (Jvm.Cond.methodLink "RaceByLapsModel" (457 : Nat) ({ cls := "RaceByLapsModel", name := "ledBy", desc := "(II)I" } : Jvm.MethodName)) ∈ lw_g := tw_gl kw_1631 rfl
theorem kv_X12_ledBy : tw_kV yX12_ledBy := ⟨(tw_gl kw_1633 rfl), tw_gl (List.mem_append_left _ (List.mem_map.mpr ⟨(yX12_ledBy, _), List.mem_append_right _ (List.mem_append_right _ (List.mem_append_right _ (List.mem_append_right _ (List.mem_append_right _ (List.mem_append_left _ (List.mem_of_getElem? (i := 1) rfl)))))), rfl⟩)) rfl⟩
theorem kg_1650 : (Jvm.Cond.constantLong "RaceByLapsModel" (460 : Nat) (99 : Int64)) ∈ lw_g := tw_gl kw_1650 rfl
theorem km_X12_isDay : tw_kM yX12_isDay cX12_isDay 1 (some .boolean) 1 := ⟨(tw_gl kw_14 rfl), (tw_gl kw_1649 rfl), by decide, by decide, by decide +kernel⟩
theorem kg_1647 : (Jvm.Cond.methodLink "RaceByLapsModel" (462 : Nat) ({ cls := "RaceByLapsModel", name := "isDay", desc := "(I)Z" } : Jvm.MethodName)) ∈ lw_g := tw_gl kw_1647 rfl
theorem kg_1648 : (Jvm.Cond.static ({ cls := "RaceByLapsModel", name := "isDay", desc := "(I)Z" } : Jvm.MethodName)) ∈ lw_g := tw_gl kw_1648 rfl
theorem kg2_0_73 : jm_kg wd2 0 73 12 (fun _ ad i _ => .ref (ad (jm_r wd2 61 ((fun i => i) i)))) := fun _ _ _ _ => ⟨_, rfl, rfl⟩
theorem kg_1655 : (Jvm.Cond.constantLong "RaceByLapsModel" (468 : Nat) (999 : Int64)) ∈ lw_g := tw_gl kw_1655 rfl
theorem kg_1656 : (Jvm.Cond.constantLong "RaceByLapsModel" (470 : Nat) (-60000 : Int64)) ∈ lw_g := tw_gl kw_1656 rfl
theorem kg2_0_76 : jm_kg wd2 0 76 12 (fun _ ad i _ => .ref (ad (jm_r wd2 63 ((fun i => i) i)))) := fun _ _ _ _ => ⟨_, rfl, rfl⟩
theorem kg2_0_77 : jm_kg wd2 0 77 12 (fun _ ad i _ => .ref (ad (jm_r wd2 64 ((fun i => i) i)))) := fun _ _ _ _ => ⟨_, rfl, rfl⟩
theorem kg2_0_78 : jm_kg wd2 0 78 12 (fun _ ad i _ => .ref (ad (jm_r wd2 65 ((fun i => i) i)))) := fun _ _ _ _ => ⟨_, rfl, rfl⟩
theorem kg2_0_79 : jm_kg wd2 0 79 12 (fun _ ad i _ => .ref (ad (jm_r wd2 66 ((fun i => i) i)))) := fun _ _ _ _ => ⟨_, rfl, rfl⟩
theorem km_X12_weight : tw_kM yX12_weight cX12_weight 5 (some .int) 2 := ⟨(tw_gl kw_14 rfl), (tw_gl kw_1668 rfl), by decide, by decide, by decide +kernel⟩
theorem kg_1665 : (Jvm.Cond.methodLink "RaceByLapsModel" (484 : Nat) ({ cls := "RaceByLapsModel", name := "weight", desc := "(II)I" } : Jvm.MethodName)) ∈ lw_g := tw_gl kw_1665 rfl
theorem kv_X12_weight : tw_kV yX12_weight := ⟨(tw_gl kw_1667 rfl), tw_gl (List.mem_append_left _ (List.mem_map.mpr ⟨(yX12_weight, _), List.mem_append_right _ (List.mem_append_right _ (List.mem_append_right _ (List.mem_append_right _ (List.mem_append_right _ (List.mem_append_left _ (List.mem_of_getElem? (i := 3) rfl)))))), rfl⟩)) rfl⟩
theorem km_X12_secondsOf : tw_kM yX12_secondsOf cX12_secondsOf 6 (some .int) 2 := ⟨(tw_gl kw_14 rfl), (tw_gl kw_1664 rfl), by decide, by decide, by decide +kernel⟩
theorem kg_1661 : (Jvm.Cond.methodLink "RaceByLapsModel" (487 : Nat) ({ cls := "RaceByLapsModel", name := "secondsOf", desc := "(II)I" } : Jvm.MethodName)) ∈ lw_g := tw_gl kw_1661 rfl
theorem kv_X12_secondsOf : tw_kV yX12_secondsOf := ⟨(tw_gl kw_1663 rfl), tw_gl (List.mem_append_left _ (List.mem_map.mpr ⟨(yX12_secondsOf, _), List.mem_append_right _ (List.mem_append_right _ (List.mem_append_right _ (List.mem_append_right _ (List.mem_append_right _ (List.mem_append_left _ (List.mem_of_getElem? (i := 2) rfl)))))), rfl⟩)) rfl⟩
theorem kg2_0_80 : jm_kg wd2 0 80 12 (fun _ ad i _ => .ref (ad (jm_r wd2 67 ((fun i => i) i)))) := fun _ _ _ _ => ⟨_, rfl, rfl⟩
theorem kg2_0_81 : jm_kg wd2 0 81 12 (fun _ ad i _ => .ref (ad (jm_r wd2 68 ((fun i => i) i)))) := fun _ _ _ _ => ⟨_, rfl, rfl⟩
theorem km_X12_timeFound : tw_kM yX12_timeFound cX12_timeFound 5 (some .int) 2 := ⟨(tw_gl kw_14 rfl), (tw_gl kw_1680 rfl), by decide, by decide, by decide +kernel⟩
theorem kg_1677 : (Jvm.Cond.methodLink "RaceByLapsModel" (496 : Nat) ({ cls := "RaceByLapsModel", name := "timeFound", desc := "(II)I" } : Jvm.MethodName)) ∈ lw_g := tw_gl kw_1677 rfl
theorem kv_X12_timeFound : tw_kV yX12_timeFound := ⟨(tw_gl kw_1679 rfl), tw_gl (List.mem_append_left _ (List.mem_map.mpr ⟨(yX12_timeFound, _), List.mem_append_right _ (List.mem_append_right _ (List.mem_append_right _ (List.mem_append_right _ (List.mem_append_right _ (List.mem_append_left _ (List.mem_of_getElem? (i := 5) rfl)))))), rfl⟩)) rfl⟩
theorem km_X12_judges : tw_kM yX12_judges cX12_judges 4 none 1 := ⟨(tw_gl kw_14 rfl), (tw_gl kw_1676 rfl), by decide, by decide, by decide +kernel⟩
theorem kg_1673 : (Jvm.Cond.methodLink "RaceByLapsModel" (502 : Nat) ({ cls := "RaceByLapsModel", name := "judges", desc := "(I)V" } : Jvm.MethodName)) ∈ lw_g := tw_gl kw_1673 rfl
theorem kv_X12_judges : tw_kV yX12_judges := ⟨(tw_gl kw_1675 rfl), tw_gl (List.mem_append_left _ (List.mem_map.mpr ⟨(yX12_judges, _), List.mem_append_right _ (List.mem_append_right _ (List.mem_append_right _ (List.mem_append_right _ (List.mem_append_right _ (List.mem_append_left _ (List.mem_of_getElem? (i := 4) rfl)))))), rfl⟩)) rfl⟩
theorem km_X12_isBetter : tw_kM yX12_isBetter cX12_isBetter 5 (some .boolean) 2 := ⟨(tw_gl kw_14 rfl), (tw_gl kw_1688 rfl), by decide, by decide, by decide +kernel⟩
theorem kg_1685 : (Jvm.Cond.methodLink "RaceByLapsModel" (499 : Nat) ({ cls := "RaceByLapsModel", name := "isBetter", desc := "(II)Z" } : Jvm.MethodName)) ∈ lw_g := tw_gl kw_1685 rfl
theorem kv_X12_isBetter : tw_kV yX12_isBetter := ⟨(tw_gl kw_1687 rfl), tw_gl (List.mem_append_left _ (List.mem_map.mpr ⟨(yX12_isBetter, _), List.mem_append_right _ (List.mem_append_right _ (List.mem_append_right _ (List.mem_append_right _ (List.mem_append_right _ (List.mem_append_left _ (List.mem_of_getElem? (i := 7) rfl)))))), rfl⟩)) rfl⟩
theorem km_X12_placeOf : tw_kM yX12_placeOf cX12_placeOf 5 (some .int) 2 := ⟨(tw_gl kw_14 rfl), (tw_gl kw_1684 rfl), by decide, by decide, by decide +kernel⟩
theorem kg_1681 : (Jvm.Cond.methodLink "RaceByLapsModel" (505 : Nat) ({ cls := "RaceByLapsModel", name := "placeOf", desc := "(IZ)I" } : Jvm.MethodName)) ∈ lw_g := tw_gl kw_1681 rfl
theorem kv_X12_placeOf : tw_kV yX12_placeOf := ⟨(tw_gl kw_1683 rfl), tw_gl (List.mem_append_left _ (List.mem_map.mpr ⟨(yX12_placeOf, _), List.mem_append_right _ (List.mem_append_right _ (List.mem_append_right _ (List.mem_append_right _ (List.mem_append_right _ (List.mem_append_left _ (List.mem_of_getElem? (i := 6) rfl)))))), rfl⟩)) rfl⟩
theorem kp_X12_82 : tw_kP 12 82 RX12 TX12 97 (.int) false := ⟨⟨tyX12, tyX12_ok⟩, nmX12, rfl, by decide +kernel⟩
theorem kx2_0_82 : jm_kp wd2 0 82 82 12 := fun _ _ _ _ _ => ⟨_, rfl, Nat.le_of_ble_eq_true rfl, rfl⟩
theorem kg2_0_83 : jm_kg wd2 0 83 12 (fun _ ad i _ => .ref (ad (jm_r wd2 69 ((fun i => i) i)))) := fun _ _ _ _ => ⟨_, rfl, rfl⟩
theorem km_X12_isAsked : tw_kM yX12_isAsked cX12_isAsked 4 (some .boolean) 3 := ⟨(tw_gl kw_14 rfl), (tw_gl kw_1712 rfl), by decide, by decide, by decide +kernel⟩
theorem kg_1709 : (Jvm.Cond.methodLink "RaceByLapsModel" (553 : Nat) ({ cls := "RaceByLapsModel", name := "isAsked", desc := "(III)Z" } : Jvm.MethodName)) ∈ lw_g := tw_gl kw_1709 rfl
theorem kv_X12_isAsked : tw_kV yX12_isAsked := ⟨(tw_gl kw_1711 rfl), tw_gl (List.mem_append_left _ (List.mem_map.mpr ⟨(yX12_isAsked, _), List.mem_append_right _ (List.mem_append_right _ (List.mem_append_right _ (List.mem_append_right _ (List.mem_append_right _ (List.mem_append_left _ (List.mem_of_getElem? (i := 8) rfl)))))), rfl⟩)) rfl⟩
theorem kf_RX12_523 : tw_kF RX12 523 12 88 RX12 TX12 97 := ⟨rfl, iw_X12, by decide, rfl, (tw_gl kw_1878 rfl)⟩
theorem kp_X12_88 : tw_kP 12 88 RX12 TX12 97 (.boolean) false := ⟨⟨tyX12, tyX12_ok⟩, nmX12, rfl, by decide +kernel⟩
theorem kx2_0_88 : jm_kp wd2 0 88 88 12 := fun _ _ _ _ _ => ⟨_, rfl, Nat.le_of_ble_eq_true rfl, rfl⟩
theorem kg2_0_87 : jm_kg wd2 0 87 12 (fun _ ad i _ => .ref (ad (jm_r wd2 73 ((fun i => i) i)))) := fun _ _ _ _ => ⟨_, rfl, rfl⟩
theorem kg2_0_84 : jm_kg wd2 0 84 12 (fun _ ad i _ => .ref (ad (jm_r wd2 70 ((fun i => i) i)))) := fun _ _ _ _ => ⟨_, rfl, rfl⟩
theorem kg2_0_85 : jm_kg wd2 0 85 12 (fun _ ad i _ => .ref (ad (jm_r wd2 71 ((fun i => i) i)))) := fun _ _ _ _ => ⟨_, rfl, rfl⟩
theorem kg2_0_86 : jm_kg wd2 0 86 12 (fun _ ad i _ => .ref (ad (jm_r wd2 72 ((fun i => i) i)))) := fun _ _ _ _ => ⟨_, rfl, rfl⟩
theorem km_X12_clears : tw_kM yX12_clears cX12_clears 3 none 1 := ⟨(tw_gl kw_14 rfl), (tw_gl kw_1720 rfl), by decide, by decide, by decide +kernel⟩
theorem kg_1717 : (Jvm.Cond.methodLink "RaceByLapsModel" (543 : Nat) ({ cls := "RaceByLapsModel", name := "clears", desc := "(I)V" } : Jvm.MethodName)) ∈ lw_g := tw_gl kw_1717 rfl
theorem kv_X12_clears : tw_kV yX12_clears := ⟨(tw_gl kw_1719 rfl), tw_gl (List.mem_append_left _ (List.mem_map.mpr ⟨(yX12_clears, _), List.mem_append_right _ (List.mem_append_right _ (List.mem_append_right _ (List.mem_append_right _ (List.mem_append_right _ (List.mem_append_left _ (List.mem_of_getElem? (i := 10) rfl)))))), rfl⟩)) rfl⟩
theorem km_X12_putsBack : tw_kM yX12_putsBack cX12_putsBack 3 none 1 := ⟨(tw_gl kw_14 rfl), (tw_gl kw_1731 rfl), by decide, by decide, by decide +kernel⟩
theorem kg_1728 : (Jvm.Cond.methodLink "RaceByLapsModel" (550 : Nat) ({ cls := "RaceByLapsModel", name := "putsBack", desc := "(I)V" } : Jvm.MethodName)) ∈ lw_g := tw_gl kw_1728 rfl
theorem kv_X12_putsBack : tw_kV yX12_putsBack := ⟨(tw_gl kw_1730 rfl), tw_gl (List.mem_append_left _ (List.mem_map.mpr ⟨(yX12_putsBack, _), List.mem_append_right _ (List.mem_append_right _ (List.mem_append_right _ (List.mem_append_right _ (List.mem_append_right _ (List.mem_append_left _ (List.mem_of_getElem? (i := 12) rfl)))))), rfl⟩)) rfl⟩
theorem kg2_0_88 : jm_kg wd2 0 88 12 (fun _ _ _ g => jm_i (g 88)) := fun _ _ _ _ => ⟨_, rfl, rfl⟩
theorem kf_RX12_527 : tw_kF RX12 527 12 89 RX12 TX12 97 := ⟨rfl, iw_X12, by decide, rfl, (tw_gl kw_1879 rfl)⟩
theorem kg2_0_89 : jm_kg wd2 0 89 12 (fun _ _ _ g => jm_i (g 89)) := fun _ _ _ _ => ⟨_, rfl, rfl⟩
theorem kf_RX12_530 : tw_kF RX12 530 12 90 RX12 TX12 97 := ⟨rfl, iw_X12, by decide, rfl, (tw_gl kw_1880 rfl)⟩
theorem kg2_0_90 : jm_kg wd2 0 90 12 (fun _ _ _ g => jm_i (g 90)) := fun _ _ _ _ => ⟨_, rfl, rfl⟩
theorem km_X12_isAhead : tw_kM yX12_isAhead cX12_isAhead 4 (some .boolean) 4 := ⟨(tw_gl kw_14 rfl), (tw_gl kw_1727 rfl), by decide, by decide, by decide +kernel⟩
theorem kg_1725 : (Jvm.Cond.methodLink "RaceByLapsModel" (533 : Nat) ({ cls := "RaceByLapsModel", name := "isAhead", desc := "(IIII)Z" } : Jvm.MethodName)) ∈ lw_g := tw_gl kw_1725 rfl
theorem kg_1726 : (Jvm.Cond.static ({ cls := "RaceByLapsModel", name := "isAhead", desc := "(IIII)Z" } : Jvm.MethodName)) ∈ lw_g := tw_gl kw_1726 rfl
theorem kp_X12_89 : tw_kP 12 89 RX12 TX12 97 (.int) false := ⟨⟨tyX12, tyX12_ok⟩, nmX12, rfl, by decide +kernel⟩
theorem kx2_0_89 : jm_kp wd2 0 89 89 12 := fun _ _ _ _ _ => ⟨_, rfl, Nat.le_of_ble_eq_true rfl, rfl⟩
theorem kp_X12_90 : tw_kP 12 90 RX12 TX12 97 (.int) false := ⟨⟨tyX12, tyX12_ok⟩, nmX12, rfl, by decide +kernel⟩
theorem kx2_0_90 : jm_kp wd2 0 90 90 12 := fun _ _ _ _ _ => ⟨_, rfl, Nat.le_of_ble_eq_true rfl, rfl⟩
theorem kg2_0_91 : jm_kg wd2 0 91 12 (fun _ ad i _ => .ref (ad (jm_r wd2 74 ((fun i => i) i)))) := fun _ _ _ _ => ⟨_, rfl, rfl⟩
theorem kg2_0_92 : jm_kg wd2 0 92 12 (fun _ ad i _ => .ref (ad (jm_r wd2 75 ((fun i => i) i)))) := fun _ _ _ _ => ⟨_, rfl, rfl⟩
theorem km_X12_tries : tw_kM yX12_tries cX12_tries 9 none 7 := ⟨(tw_gl kw_14 rfl), (tw_gl kw_1724 rfl), by decide, by decide, by decide +kernel⟩
theorem kg_1721 : (Jvm.Cond.methodLink "RaceByLapsModel" (546 : Nat) ({ cls := "RaceByLapsModel", name := "tries", desc := "(IIIIIII)V" } : Jvm.MethodName)) ∈ lw_g := tw_gl kw_1721 rfl
theorem kv_X12_tries : tw_kV yX12_tries := ⟨(tw_gl kw_1723 rfl), tw_gl (List.mem_append_left _ (List.mem_map.mpr ⟨(yX12_tries, _), List.mem_append_right _ (List.mem_append_right _ (List.mem_append_right _ (List.mem_append_right _ (List.mem_append_right _ (List.mem_append_left _ (List.mem_of_getElem? (i := 11) rfl)))))), rfl⟩)) rfl⟩
theorem km_X12_bests : tw_kM yX12_bests cX12_bests 8 (some .boolean) 3 := ⟨(tw_gl kw_14 rfl), (tw_gl kw_1716 rfl), by decide, by decide, by decide +kernel⟩
theorem kg_1713 : (Jvm.Cond.methodLink "RaceByLapsModel" (557 : Nat) ({ cls := "RaceByLapsModel", name := "bests", desc := "(III)Z" } : Jvm.MethodName)) ∈ lw_g := tw_gl kw_1713 rfl
theorem kv_X12_bests : tw_kV yX12_bests := ⟨(tw_gl kw_1715 rfl), tw_gl (List.mem_append_left _ (List.mem_map.mpr ⟨(yX12_bests, _), List.mem_append_right _ (List.mem_append_right _ (List.mem_append_right _ (List.mem_append_right _ (List.mem_append_right _ (List.mem_append_left _ (List.mem_of_getElem? (i := 9) rfl)))))), rfl⟩)) rfl⟩
theorem kg2_0_37 : jm_kg wd2 0 37 12 (fun _ ad i _ => .ref (ad (jm_r wd2 32 ((fun i => i) i)))) := fun _ _ _ _ => ⟨_, rfl, rfl⟩
theorem kg2_0_38 : jm_kg wd2 0 38 12 (fun _ ad i _ => .ref (ad (jm_r wd2 33 ((fun i => i) i)))) := fun _ _ _ _ => ⟨_, rfl, rfl⟩
theorem km_X12_chooses : tw_kM yX12_chooses cX12_chooses 3 none 2 := ⟨(tw_gl kw_14 rfl), (tw_gl kw_1751 rfl), by decide, by decide, by decide +kernel⟩
theorem kg_1748 : (Jvm.Cond.methodLink "RaceByLapsModel" (566 : Nat) ({ cls := "RaceByLapsModel", name := "chooses", desc := "(II)V" } : Jvm.MethodName)) ∈ lw_g := tw_gl kw_1748 rfl
theorem kv_X12_chooses : tw_kV yX12_chooses := ⟨(tw_gl kw_1750 rfl), tw_gl (List.mem_append_left _ (List.mem_map.mpr ⟨(yX12_chooses, _), List.mem_append_right _ (List.mem_append_right _ (List.mem_append_right _ (List.mem_append_right _ (List.mem_append_right _ (List.mem_append_left _ (List.mem_of_getElem? (i := 13) rfl)))))), rfl⟩)) rfl⟩
theorem kg2_0_93 : jm_kg wd2 0 93 12 (fun _ ad i _ => .ref (ad (jm_r wd2 76 ((fun i => i) i)))) := fun _ _ _ _ => ⟨_, rfl, rfl⟩
theorem kg2_0_94 : jm_kg wd2 0 94 12 (fun _ ad i _ => .ref (ad (jm_r wd2 77 ((fun i => i) i)))) := fun _ _ _ _ => ⟨_, rfl, rfl⟩
theorem kg2_0_95 : jm_kg wd2 0 95 12 (fun _ ad i _ => .ref (ad (jm_r wd2 78 ((fun i => i) i)))) := fun _ _ _ _ => ⟨_, rfl, rfl⟩
theorem kg2_0_96 : jm_kg wd2 0 96 12 (fun _ ad i _ => .ref (ad (jm_r wd2 79 ((fun i => i) i)))) := fun _ _ _ _ => ⟨_, rfl, rfl⟩
theorem km_X12_isSettled : tw_kM yX12_isSettled cX12_isSettled 8 (some .boolean) 4 := ⟨(tw_gl kw_14 rfl), (tw_gl kw_1755 rfl), by decide, by decide, by decide +kernel⟩
theorem kg_1752 : (Jvm.Cond.methodLink "RaceByLapsModel" (581 : Nat) ({ cls := "RaceByLapsModel", name := "isSettled", desc := "(IIII)Z" } : Jvm.MethodName)) ∈ lw_g := tw_gl kw_1752 rfl
theorem kv_X12_isSettled : tw_kV yX12_isSettled := ⟨(tw_gl kw_1754 rfl), tw_gl (List.mem_append_left _ (List.mem_map.mpr ⟨(yX12_isSettled, _), List.mem_append_right _ (List.mem_append_right _ (List.mem_append_right _ (List.mem_append_right _ (List.mem_append_right _ (List.mem_append_left _ (List.mem_of_getElem? (i := 14) rfl)))))), rfl⟩)) rfl⟩
theorem km_X12_knownOf : tw_kM yX12_knownOf cX12_knownOf 7 (some .int) 3 := ⟨(tw_gl kw_14 rfl), (tw_gl kw_1767 rfl), by decide, by decide, by decide +kernel⟩
theorem kg_1764 : (Jvm.Cond.methodLink "RaceByLapsModel" (584 : Nat) ({ cls := "RaceByLapsModel", name := "knownOf", desc := "(III)I" } : Jvm.MethodName)) ∈ lw_g := tw_gl kw_1764 rfl
theorem kv_X12_knownOf : tw_kV yX12_knownOf := ⟨(tw_gl kw_1766 rfl), tw_gl (List.mem_append_left _ (List.mem_map.mpr ⟨(yX12_knownOf, _), List.mem_append_right _ (List.mem_append_right _ (List.mem_append_right _ (List.mem_append_right _ (List.mem_append_right _ (List.mem_append_left _ (List.mem_of_getElem? (i := 15) rfl)))))), rfl⟩)) rfl⟩
theorem km_X12_toldLine : tw_kM yX12_toldLine cX12_toldLine 6 (some .int) 2 := ⟨(tw_gl kw_14 rfl), (tw_gl kw_1779 rfl), by decide, by decide, by decide +kernel⟩
theorem kg_1776 : (Jvm.Cond.methodLink "RaceByLapsModel" (587 : Nat) ({ cls := "RaceByLapsModel", name := "toldLine", desc := "(II)I" } : Jvm.MethodName)) ∈ lw_g := tw_gl kw_1776 rfl
theorem kv_X12_toldLine : tw_kV yX12_toldLine := ⟨(tw_gl kw_1778 rfl), tw_gl (List.mem_append_left _ (List.mem_map.mpr ⟨(yX12_toldLine, _), List.mem_append_right _ (List.mem_append_right _ (List.mem_append_right _ (List.mem_append_right _ (List.mem_append_right _ (List.mem_append_right _ (List.mem_of_getElem? (i := 0) rfl)))))), rfl⟩)) rfl⟩
