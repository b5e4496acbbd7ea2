theorem iw_X8 : ∀ x ∈ u_ws RX8 TX8 8, x ∈ lw_g := List.forall_mem_cons.mpr ⟨(tw_gl kw_174 rfl), List.forall_mem_cons.mpr ⟨(tw_gl kw_176 rfl), List.forall_mem_cons.mpr ⟨(tw_gl kw_178 rfl), List.forall_mem_cons.mpr ⟨(tw_gl kw_180 rfl), List.forall_mem_cons.mpr ⟨(tw_gl kw_182 rfl), List.forall_mem_cons.mpr ⟨(tw_gl kw_184 rfl), List.forall_mem_cons.mpr ⟨(tw_gl kw_186 rfl), List.forall_mem_cons.mpr ⟨(tw_gl kw_188 rfl), fun _ h => absurd h List.not_mem_nil⟩⟩⟩⟩⟩⟩⟩⟩
theorem kf_RX8_9 : tw_kF RX8 9 8 0 RX8 TX8 8 := ⟨rfl, iw_X8, by decide, rfl, (tw_gl kw_158 rfl)⟩
theorem kp_X8_0 : tw_kP 8 0 RX8 TX8 8 (.array (.int)) true := ⟨⟨tyX8, tyX8_ok⟩, nmX8, rfl, by decide +kernel⟩
theorem kf_RX8_15 : tw_kF RX8 15 8 2 RX8 TX8 8 := ⟨rfl, iw_X8, by decide, rfl, (tw_gl kw_161 rfl)⟩
theorem kp_X8_2 : tw_kP 8 2 RX8 TX8 8 (.array (.int)) true := ⟨⟨tyX8, tyX8_ok⟩, nmX8, rfl, by decide +kernel⟩
theorem kf_RX8_18 : tw_kF RX8 18 8 3 RX8 TX8 8 := ⟨rfl, iw_X8, by decide, rfl, (tw_gl kw_163 rfl)⟩
theorem kp_X8_3 : tw_kP 8 3 RX8 TX8 8 (.array (.int)) true := ⟨⟨tyX8, tyX8_ok⟩, nmX8, rfl, by decide +kernel⟩
theorem kf_RX8_21 : tw_kF RX8 21 8 4 RX8 TX8 8 := ⟨rfl, iw_X8, by decide, rfl, (tw_gl kw_165 rfl)⟩
theorem kp_X8_4 : tw_kP 8 4 RX8 TX8 8 (.array (.int)) true := ⟨⟨tyX8, tyX8_ok⟩, nmX8, rfl, by decide +kernel⟩
theorem kf_RX8_24 : tw_kF RX8 24 8 5 RX8 TX8 8 := ⟨rfl, iw_X8, by decide, rfl, (tw_gl kw_167 rfl)⟩
theorem kp_X8_5 : tw_kP 8 5 RX8 TX8 8 (.array (.int)) true := ⟨⟨tyX8, tyX8_ok⟩, nmX8, rfl, by decide +kernel⟩
theorem iw_X7 : ∀ x ∈ u_ws RX7 TX7 4, x ∈ lw_g := List.forall_mem_cons.mpr ⟨(tw_gl kw_74 rfl), List.forall_mem_cons.mpr ⟨(tw_gl kw_76 rfl), List.forall_mem_cons.mpr ⟨(tw_gl kw_78 rfl), List.forall_mem_cons.mpr ⟨(tw_gl kw_80 rfl), fun _ h => absurd h List.not_mem_nil⟩⟩⟩⟩
theorem kf_RX7_9 : tw_kF RX7 9 7 0 RX7 TX7 4 := ⟨rfl, iw_X7, by decide, rfl, (tw_gl kw_63 rfl)⟩
theorem kp_X7_0 : tw_kP 7 0 RX7 TX7 4 (.int) true := ⟨⟨tyX7, tyX7_ok⟩, nmX7, rfl, by decide +kernel⟩
theorem kf_RX7_15 : tw_kF RX7 15 7 1 RX7 TX7 4 := ⟨rfl, iw_X7, by decide, rfl, (tw_gl kw_64 rfl)⟩
theorem kp_X7_1 : tw_kP 7 1 RX7 TX7 4 (.int) true := ⟨⟨tyX7, tyX7_ok⟩, nmX7, rfl, by decide +kernel⟩
theorem kf_RX7_24 : tw_kF RX7 24 7 2 RX7 TX7 4 := ⟨rfl, iw_X7, by decide, rfl, (tw_gl kw_65 rfl)⟩
theorem kp_X7_2 : tw_kP 7 2 RX7 TX7 4 (.array (.int)) true := ⟨⟨tyX7, tyX7_ok⟩, nmX7, rfl, by decide +kernel⟩
theorem kd_X7 : ∀ j, j < 4 → defaultValue (tyX7 j) = vp_V [.int (0 : Int32), .int (0 : Int32), .null, .int (0 : Int32)] j := fun j hj => match j, hj with
  | 0, _ => rfl
  | 1, _ => rfl
  | 2, _ => rfl
  | 3, _ => rfl
  | k + 4, h => absurd h (by omega)
theorem km_X7_init : tw_kM yX7_init cX7_init 3 none 2 := ⟨(tw_gl kw_4 rfl), (tw_gl kw_58 rfl), by decide, by decide, by decide +kernel⟩
theorem iw_X1 : ∀ x ∈ u_ws RX1 TX1 14, x ∈ lw_g := List.forall_mem_cons.mpr ⟨(tw_gl kw_228 rfl), List.forall_mem_cons.mpr ⟨(tw_gl kw_230 rfl), List.forall_mem_cons.mpr ⟨(tw_gl kw_232 rfl), List.forall_mem_cons.mpr ⟨(tw_gl kw_234 rfl), List.forall_mem_cons.mpr ⟨(tw_gl kw_236 rfl), List.forall_mem_cons.mpr ⟨(tw_gl kw_238 rfl), List.forall_mem_cons.mpr ⟨(tw_gl kw_240 rfl), List.forall_mem_cons.mpr ⟨(tw_gl kw_242 rfl), List.forall_mem_cons.mpr ⟨(tw_gl kw_244 rfl), List.forall_mem_cons.mpr ⟨(tw_gl kw_246 rfl), List.forall_mem_cons.mpr ⟨(tw_gl kw_248 rfl), List.forall_mem_cons.mpr ⟨(tw_gl kw_250 rfl), List.forall_mem_cons.mpr ⟨(tw_gl kw_252 rfl), List.forall_mem_cons.mpr ⟨(tw_gl kw_254 rfl), fun _ h => absurd h List.not_mem_nil⟩⟩⟩⟩⟩⟩⟩⟩⟩⟩⟩⟩⟩⟩
theorem kf_RX1_14 : tw_kF RX1 14 1 6 RX1 TX1 14 := ⟨rfl, iw_X1, by decide, rfl, (tw_gl kw_205 rfl)⟩
theorem kp_X1_6 : tw_kP 1 6 RX1 TX1 14 (.object "RaceByLaps$Table") true := ⟨⟨tyX1, tyX1_ok⟩, nmX1, rfl, by decide +kernel⟩
theorem kf_RX1_20 : tw_kF RX1 20 1 7 RX1 TX1 14 := ⟨rfl, iw_X1, by decide, rfl, (tw_gl kw_210 rfl)⟩
theorem kp_X1_7 : tw_kP 1 7 RX1 TX1 14 (.object "RaceByLaps$Table") true := ⟨⟨tyX1, tyX1_ok⟩, nmX1, rfl, by decide +kernel⟩
theorem kf_RX1_23 : tw_kF RX1 23 1 8 RX1 TX1 14 := ⟨rfl, iw_X1, by decide, rfl, (tw_gl kw_213 rfl)⟩
theorem kp_X1_8 : tw_kP 1 8 RX1 TX1 14 (.object "RaceByLaps$Table") true := ⟨⟨tyX1, tyX1_ok⟩, nmX1, rfl, by decide +kernel⟩
theorem kf_RX1_26 : tw_kF RX1 26 1 9 RX1 TX1 14 := ⟨rfl, iw_X1, by decide, rfl, (tw_gl kw_215 rfl)⟩
theorem kp_X1_9 : tw_kP 1 9 RX1 TX1 14 (.object "RaceByLaps$Table") true := ⟨⟨tyX1, tyX1_ok⟩, nmX1, rfl, by decide +kernel⟩
theorem kf_RX1_29 : tw_kF RX1 29 1 10 RX1 TX1 14 := ⟨rfl, iw_X1, by decide, rfl, (tw_gl kw_219 rfl)⟩
theorem kp_X1_10 : tw_kP 1 10 RX1 TX1 14 (.object "RaceByLaps$Table") true := ⟨⟨tyX1, tyX1_ok⟩, nmX1, rfl, by decide +kernel⟩
theorem kd_X8 : ∀ j, j < 8 → defaultValue (tyX8 j) = vp_V [.null, .int (0 : Int32), .null, .null, .null, .null, .int (0 : Int32), .int (0 : Int32)] j := fun j hj => match j, hj with
  | 0, _ => rfl
  | 1, _ => rfl
  | 2, _ => rfl
  | 3, _ => rfl
  | 4, _ => rfl
  | 5, _ => rfl
  | 6, _ => rfl
  | 7, _ => rfl
  | k + 8, h => absurd h (by omega)
theorem km_X8_init : tw_kM yX8_init cX8_init 1 none 0 := ⟨(tw_gl kw_8 rfl), (tw_gl kw_156 rfl), by decide, by decide, by decide +kernel⟩
theorem kf_RX1_35 : tw_kF RX1 35 1 11 RX1 TX1 14 := ⟨rfl, iw_X1, by decide, rfl, (tw_gl kw_221 rfl)⟩
theorem kp_X1_11 : tw_kP 1 11 RX1 TX1 14 (.object "RaceByLaps$Text") false := ⟨⟨tyX1, tyX1_ok⟩, nmX1, rfl, by decide +kernel⟩
theorem dX1_init_0 : decode cX1_init 0 = .ok (.aload_n 0, 1) := by decide +kernel
theorem dX1_init_1 : decode cX1_init 1 = .ok (.invokespecial 3, 3) := by decide +kernel
theorem dX1_init_4 : decode cX1_init 4 = .ok (.aload_n 0, 1) := by decide +kernel
theorem dX1_init_5 : decode cX1_init 5 = .ok (.new 9, 3) := by decide +kernel
theorem dX1_init_8 : decode cX1_init 8 = .ok (.dup, 1) := by decide +kernel
theorem dX1_init_9 : decode cX1_init 9 = .ok (.iconst 4, 1) := by decide +kernel
theorem dX1_init_10 : decode cX1_init 10 = .ok (.iconst 2, 1) := by decide +kernel
theorem dX1_init_11 : decode cX1_init 11 = .ok (.invokespecial 11, 3) := by decide +kernel
theorem dX1_init_14 : decode cX1_init 14 = .ok (.putfield 14, 3) := by decide +kernel
theorem dX1_init_17 : decode cX1_init 17 = .ok (.aload_n 0, 1) := by decide +kernel
theorem dX1_init_18 : decode cX1_init 18 = .ok (.new 9, 3) := by decide +kernel
theorem dX1_init_21 : decode cX1_init 21 = .ok (.dup, 1) := by decide +kernel
theorem dX1_init_22 : decode cX1_init 22 = .ok (.bipush 12, 2) := by decide +kernel
theorem dX1_init_24 : decode cX1_init 24 = .ok (.iconst 3, 1) := by decide +kernel
theorem dX1_init_25 : decode cX1_init 25 = .ok (.invokespecial 11, 3) := by decide +kernel
theorem dX1_init_28 : decode cX1_init 28 = .ok (.putfield 20, 3) := by decide +kernel
theorem dX1_init_31 : decode cX1_init 31 = .ok (.aload_n 0, 1) := by decide +kernel
theorem dX1_init_32 : decode cX1_init 32 = .ok (.new 9, 3) := by decide +kernel
theorem dX1_init_35 : decode cX1_init 35 = .ok (.dup, 1) := by decide +kernel
theorem dX1_init_36 : decode cX1_init 36 = .ok (.iconst 5, 1) := by decide +kernel
theorem dX1_init_37 : decode cX1_init 37 = .ok (.iconst 3, 1) := by decide +kernel
theorem dX1_init_38 : decode cX1_init 38 = .ok (.invokespecial 11, 3) := by decide +kernel
theorem dX1_init_41 : decode cX1_init 41 = .ok (.putfield 23, 3) := by decide +kernel
theorem dX1_init_44 : decode cX1_init 44 = .ok (.aload_n 0, 1) := by decide +kernel
theorem dX1_init_45 : decode cX1_init 45 = .ok (.new 9, 3) := by decide +kernel
theorem dX1_init_48 : decode cX1_init 48 = .ok (.dup, 1) := by decide +kernel
theorem dX1_init_49 : decode cX1_init 49 = .ok (.iconst 4, 1) := by decide +kernel
theorem dX1_init_50 : decode cX1_init 50 = .ok (.iconst 2, 1) := by decide +kernel
theorem dX1_init_51 : decode cX1_init 51 = .ok (.invokespecial 11, 3) := by decide +kernel
theorem dX1_init_54 : decode cX1_init 54 = .ok (.putfield 26, 3) := by decide +kernel
theorem dX1_init_57 : decode cX1_init 57 = .ok (.aload_n 0, 1) := by decide +kernel
theorem dX1_init_58 : decode cX1_init 58 = .ok (.new 9, 3) := by decide +kernel
theorem dX1_init_61 : decode cX1_init 61 = .ok (.dup, 1) := by decide +kernel
theorem dX1_init_62 : decode cX1_init 62 = .ok (.iconst 2, 1) := by decide +kernel
theorem dX1_init_63 : decode cX1_init 63 = .ok (.iconst 3, 1) := by decide +kernel
theorem dX1_init_64 : decode cX1_init 64 = .ok (.invokespecial 11, 3) := by decide +kernel
theorem dX1_init_67 : decode cX1_init 67 = .ok (.putfield 29, 3) := by decide +kernel
theorem dX1_init_70 : decode cX1_init 70 = .ok (.aload_n 0, 1) := by decide +kernel
theorem dX1_init_71 : decode cX1_init 71 = .ok (.new 32, 3) := by decide +kernel
theorem dX1_init_74 : decode cX1_init 74 = .ok (.dup, 1) := by decide +kernel
theorem dX1_init_75 : decode cX1_init 75 = .ok (.invokespecial 34, 3) := by decide +kernel
theorem dX1_init_78 : decode cX1_init 78 = .ok (.putfield 35, 3) := by decide +kernel
theorem dX1_init_81 : decode cX1_init 81 = .ok (.return_, 1) := by decide +kernel
theorem dX7_init_0 : decode cX7_init 0 = .ok (.aload_n 0, 1) := by decide +kernel
theorem dX7_init_1 : decode cX7_init 1 = .ok (.invokespecial 3, 3) := by decide +kernel
theorem dX7_init_4 : decode cX7_init 4 = .ok (.aload_n 0, 1) := by decide +kernel
theorem dX7_init_5 : decode cX7_init 5 = .ok (.iload_n 1, 1) := by decide +kernel
theorem dX7_init_6 : decode cX7_init 6 = .ok (.putfield 9, 3) := by decide +kernel
theorem dX7_init_9 : decode cX7_init 9 = .ok (.aload_n 0, 1) := by decide +kernel
theorem dX7_init_10 : decode cX7_init 10 = .ok (.iload_n 2, 1) := by decide +kernel
theorem dX7_init_11 : decode cX7_init 11 = .ok (.putfield 15, 3) := by decide +kernel
theorem dX7_init_14 : decode cX7_init 14 = .ok (.aload_n 0, 1) := by decide +kernel
theorem dX7_init_15 : decode cX7_init 15 = .ok (.iconst 0, 1) := by decide +kernel
theorem dX7_init_16 : decode cX7_init 16 = .ok (.iload_n 1, 1) := by decide +kernel
theorem dX7_init_17 : decode cX7_init 17 = .ok (.iload_n 2, 1) := by decide +kernel
theorem dX7_init_18 : decode cX7_init 18 = .ok (.imul, 1) := by decide +kernel
theorem dX7_init_19 : decode cX7_init 19 = .ok (.invokestatic 18, 3) := by decide +kernel
theorem dX7_init_22 : decode cX7_init 22 = .ok (.newarray .int, 2) := by decide +kernel
theorem dX7_init_24 : decode cX7_init 24 = .ok (.putfield 24, 3) := by decide +kernel
theorem dX7_init_27 : decode cX7_init 27 = .ok (.return_, 1) := by decide +kernel
theorem dX8_init_0 : decode cX8_init 0 = .ok (.aload_n 0, 1) := by decide +kernel
theorem dX8_init_1 : decode cX8_init 1 = .ok (.invokespecial 3, 3) := by decide +kernel
theorem dX8_init_4 : decode cX8_init 4 = .ok (.aload_n 0, 1) := by decide +kernel
theorem dX8_init_5 : decode cX8_init 5 = .ok (.bipush 60, 2) := by decide +kernel
theorem dX8_init_7 : decode cX8_init 7 = .ok (.newarray .int, 2) := by decide +kernel
theorem dX8_init_9 : decode cX8_init 9 = .ok (.putfield 9, 3) := by decide +kernel
theorem dX8_init_12 : decode cX8_init 12 = .ok (.aload_n 0, 1) := by decide +kernel
theorem dX8_init_13 : decode cX8_init 13 = .ok (.bipush 21, 2) := by decide +kernel
theorem dX8_init_15 : decode cX8_init 15 = .ok (.newarray .int, 2) := by decide +kernel
theorem dX8_init_17 : decode cX8_init 17 = .ok (.putfield 15, 3) := by decide +kernel
theorem dX8_init_20 : decode cX8_init 20 = .ok (.aload_n 0, 1) := by decide +kernel
theorem dX8_init_21 : decode cX8_init 21 = .ok (.bipush 21, 2) := by decide +kernel
theorem dX8_init_23 : decode cX8_init 23 = .ok (.newarray .int, 2) := by decide +kernel
theorem dX8_init_25 : decode cX8_init 25 = .ok (.putfield 18, 3) := by decide +kernel
theorem dX8_init_28 : decode cX8_init 28 = .ok (.aload_n 0, 1) := by decide +kernel
theorem dX8_init_29 : decode cX8_init 29 = .ok (.bipush 21, 2) := by decide +kernel
theorem dX8_init_31 : decode cX8_init 31 = .ok (.newarray .int, 2) := by decide +kernel
theorem dX8_init_33 : decode cX8_init 33 = .ok (.putfield 21, 3) := by decide +kernel
theorem dX8_init_36 : decode cX8_init 36 = .ok (.aload_n 0, 1) := by decide +kernel
theorem dX8_init_37 : decode cX8_init 37 = .ok (.bipush 21, 2) := by decide +kernel
theorem dX8_init_39 : decode cX8_init 39 = .ok (.newarray .int, 2) := by decide +kernel
theorem dX8_init_41 : decode cX8_init 41 = .ok (.putfield 24, 3) := by decide +kernel
theorem dX8_init_44 : decode cX8_init 44 = .ok (.return_, 1) := by decide +kernel
theorem dX11_isIndex_0 : decode cX11_isIndex 0 = .ok (.iload_n 0, 1) := by decide +kernel
theorem dX11_isIndex_1 : decode cX11_isIndex 1 = .ok (.ifCond .lt 12, 3) := by decide +kernel
theorem dX11_isIndex_4 : decode cX11_isIndex 4 = .ok (.iload_n 0, 1) := by decide +kernel
theorem dX11_isIndex_5 : decode cX11_isIndex 5 = .ok (.iload_n 1, 1) := by decide +kernel
theorem dX11_isIndex_6 : decode cX11_isIndex 6 = .ok (.if_icmp .ge 7, 3) := by decide +kernel
theorem dX11_isIndex_9 : decode cX11_isIndex 9 = .ok (.iconst 1, 1) := by decide +kernel
theorem dX11_isIndex_10 : decode cX11_isIndex 10 = .ok (.goto 4, 3) := by decide +kernel
theorem dX11_isIndex_13 : decode cX11_isIndex 13 = .ok (.iconst 0, 1) := by decide +kernel
theorem dX11_isIndex_14 : decode cX11_isIndex 14 = .ok (.ireturn, 1) := by decide +kernel
theorem dX12_in_0 : decode cX12_in 0 = .ok (.lload_n 0, 1) := by decide +kernel
theorem dX12_in_1 : decode cX12_in 1 = .ok (.lload_n 2, 1) := by decide +kernel
theorem dX12_in_2 : decode cX12_in 2 = .ok (.lcmp, 1) := by decide +kernel
theorem dX12_in_3 : decode cX12_in 3 = .ok (.ifCond .lt 14, 3) := by decide +kernel
theorem dX12_in_6 : decode cX12_in 6 = .ok (.lload_n 0, 1) := by decide +kernel
theorem dX12_in_7 : decode cX12_in 7 = .ok (.lload 4, 2) := by decide +kernel
theorem dX12_in_9 : decode cX12_in 9 = .ok (.lcmp, 1) := by decide +kernel
theorem dX12_in_10 : decode cX12_in 10 = .ok (.ifCond .gt 7, 3) := by decide +kernel
theorem dX12_in_13 : decode cX12_in 13 = .ok (.iconst 1, 1) := by decide +kernel
theorem dX12_in_14 : decode cX12_in 14 = .ok (.goto 4, 3) := by decide +kernel
theorem dX12_in_17 : decode cX12_in 17 = .ok (.iconst 0, 1) := by decide +kernel
theorem dX12_in_18 : decode cX12_in 18 = .ok (.ireturn, 1) := by decide +kernel
