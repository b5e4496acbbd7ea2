theorem dX12_thrown_0 : decode cX12_thrown 0 = .ok (.aload_n 0, 1) := by decide +kernel
theorem dX12_thrown_1 : decode cX12_thrown 1 = .ok (.getfield 3, 3) := by decide +kernel
theorem dX12_thrown_4 : decode cX12_thrown 4 = .ok (.ireturn, 1) := by decide +kernel
theorem kg2_0_0 : jm_kg wd2 0 0 12 (fun _ _ _ g => jm_i (g 0)) := fun _ _ _ _ => ⟨_, rfl, rfl⟩
def fX12_thrown (M : jm_M) : jm_R := some ((M 0 0 0), M)
abbrev rmX12_thrown : Room := { frames := 0, cells := 0, slots := 0, locals := 0 }
set_option maxHeartbeats 4000000 in
set_option maxRecDepth 100000 in
theorem ct_X12_thrown (M : jm_M) : jm_Ci wd2 yX12_thrown cX12_thrown 1 (some .int) rmX12_thrown M (fun G ad => [.ref (ad (jm_r wd2 0 0))]) (fX12_thrown M ) := by
  refine jm_met_i (fun X => [(0, jm_vr wd2 X 0 0)]) (by decide) (fun _ _ => (Nat.le_of_ble_eq_true rfl)) (fun _ => rfl) (fun X => ?_)
  unfold fX12_thrown
  refine j_aload_n (pc := 0) dX12_thrown_0 rfl (q := 0) rfl ?_
  refine j_geti (pc := 1) jv2_0 jm_01 kf_RX12_3 kg2_0_0 dX12_thrown_1 (fun h1 => ?_)
  exact j_iret (pc := 4) h1 rfl dX12_thrown_4
