abbrev rmX12_acted : Room := { frames := 1, cells := 0, slots := 0, locals := 20 }
set_option maxHeartbeats 4000000 in
set_option maxRecDepth 100000 in
theorem ct_X12_acted (M : jm_M) (l0 l1 l2 : Int) (hl0 : jm_in l0) (hl1 : jm_in l1) (hl2 : jm_in l2) : jm_Ci wd2 yX12_acted cX12_acted 3 (some .int) rmX12_acted M (fun G ad => [jm_i l0, jm_i l1, jm_i l2]) (fX12_acted M l0 l1 l2) := by
  refine jm_met_i (fun X => [(0, jm_i l0), (1, jm_i l1), (2, jm_i l2)]) (by decide) (fun _ _ => (Nat.le_of_ble_eq_true rfl)) (fun _ => rfl) (fun X => ?_)
  unfold fX12_acted
  refine j_iload_n (pc := 0) dX12_acted_0 rfl (q := 0) rfl ?_
  refine j_ite (pc := 1) (fun c1 => ?_) (fun c1 => ?_)
  · skip
    refine j_tabIn (off := (169)) (tgt := 170) (pc := 1) 38 hl0 dX12_acted_1 c1 (by decide) (by decide) rfl (by decide) ?_
    refine j_iload_n (pc := 170) dX12_acted_170 rfl (q := 1) rfl ?_
    refine j_if_eq (tgt := 182) (pc := 171) hl1 dX12_acted_171 (by decide) (fun c2 => ?_) (fun c2 => ?_)
    · skip
      refine j_iconst (pc := 182) dX12_acted_182 ?_
      refine j_callSi1 (pc := 183) (ct_X12_truth M 0 (jm_inL (by decide) (by decide))) kg_1608 km_X12_truth kg_1609 rfl rfl ⟨(Nat.le_of_ble_eq_true rfl), (Nat.le_of_ble_eq_true rfl)⟩ rfl rfl (Nat.le_of_ble_eq_true rfl) dX12_acted_183 (fun v3 M4 h5 => ?_)
      exact j_iret (pc := 186) h5 rfl dX12_acted_186
    · skip
      refine j_iload_n (pc := 174) dX12_acted_174 rfl (q := 2) rfl ?_
      refine j_if_eq (tgt := 182) (pc := 175) hl2 dX12_acted_175 (by decide) (fun c6 => ?_) (fun c6 => ?_)
      · skip
        refine j_iconst (pc := 182) dX12_acted_182 ?_
        refine j_callSi1 (pc := 183) (ct_X12_truth M 0 (jm_inL (by decide) (by decide))) kg_1608 km_X12_truth kg_1609 rfl rfl ⟨(Nat.le_of_ble_eq_true rfl), (Nat.le_of_ble_eq_true rfl)⟩ rfl rfl (Nat.le_of_ble_eq_true rfl) dX12_acted_183 (fun v7 M8 h9 => ?_)
        exact j_iret (pc := 186) h9 rfl dX12_acted_186
      · skip
        refine j_iconst (pc := 178) dX12_acted_178 ?_
        refine j_goto (tgt := 183) (pc := 179) dX12_acted_179 (by decide) ?_
        refine j_callSi1 (pc := 183) (ct_X12_truth M 1 (jm_inL (by decide) (by decide))) kg_1608 km_X12_truth kg_1609 rfl rfl ⟨(Nat.le_of_ble_eq_true rfl), (Nat.le_of_ble_eq_true rfl)⟩ rfl rfl (Nat.le_of_ble_eq_true rfl) dX12_acted_183 (fun v10 M11 h12 => ?_)
        exact j_iret (pc := 186) h12 rfl dX12_acted_186
  · skip
    refine j_ite (pc := 1) (fun c13 => ?_) (fun c13 => ?_)
    · skip
      refine j_tabIn (off := (115)) (tgt := 116) (pc := 1) 42 hl0 dX12_acted_1 c13 (by decide) (by decide) rfl (by decide) ?_
      refine j_iload_n (pc := 116) dX12_acted_116 rfl (q := 1) rfl ?_
      refine j_iload_n (pc := 117) dX12_acted_117 rfl (q := 2) rfl ?_
      refine j_imul (pc := 118) dX12_acted_118 ?_
      exact j_iret (pc := 119) (jm_w_in _) rfl dX12_acted_119
    · skip
      refine j_ite (pc := 1) (fun c14 => ?_) (fun c14 => ?_)
      · skip
        refine j_tabIn (off := (119)) (tgt := 120) (pc := 1) 43 hl0 dX12_acted_1 c14 (by decide) (by decide) rfl (by decide) ?_
        refine j_iload_n (pc := 120) dX12_acted_120 rfl (q := 1) rfl ?_
        refine j_iload_n (pc := 121) dX12_acted_121 rfl (q := 2) rfl ?_
        refine j_iadd (pc := 122) dX12_acted_122 ?_
        exact j_iret (pc := 123) (jm_w_in _) rfl dX12_acted_123
      · skip
        refine j_ite (pc := 1) (fun c15 => ?_) (fun c15 => ?_)
        · skip
          refine j_tabIn (off := (123)) (tgt := 124) (pc := 1) 45 hl0 dX12_acted_1 c15 (by decide) (by decide) rfl (by decide) ?_
          refine j_iload_n (pc := 124) dX12_acted_124 rfl (q := 1) rfl ?_
          refine j_iload_n (pc := 125) dX12_acted_125 rfl (q := 2) rfl ?_
          refine j_isub (pc := 126) dX12_acted_126 ?_
          exact j_iret (pc := 127) (jm_w_in _) rfl dX12_acted_127
        · skip
          refine j_ite (pc := 1) (fun c16 => ?_) (fun c16 => ?_)
          · skip
            refine j_tabIn (off := (127)) (tgt := 128) (pc := 1) 60 hl0 dX12_acted_1 c16 (by decide) (by decide) rfl (by decide) ?_
            refine j_iload_n (pc := 128) dX12_acted_128 rfl (q := 1) rfl ?_
            refine j_iload_n (pc := 129) dX12_acted_129 rfl (q := 2) rfl ?_
            refine j_icmp_ge (tgt := 137) (pc := 130) hl1 hl2 dX12_acted_130 (by decide) (fun c17 => ?_) (fun c17 => ?_)
            · skip
              refine j_iconst (pc := 137) dX12_acted_137 ?_
              refine j_callSi1 (pc := 138) (ct_X12_truth M 0 (jm_inL (by decide) (by decide))) kg_1608 km_X12_truth kg_1609 rfl rfl ⟨(Nat.le_of_ble_eq_true rfl), (Nat.le_of_ble_eq_true rfl)⟩ rfl rfl (Nat.le_of_ble_eq_true rfl) dX12_acted_138 (fun v18 M19 h20 => ?_)
              exact j_iret (pc := 141) h20 rfl dX12_acted_141
            · skip
              refine j_iconst (pc := 133) dX12_acted_133 ?_
              refine j_goto (tgt := 138) (pc := 134) dX12_acted_134 (by decide) ?_
              refine j_callSi1 (pc := 138) (ct_X12_truth M 1 (jm_inL (by decide) (by decide))) kg_1608 km_X12_truth kg_1609 rfl rfl ⟨(Nat.le_of_ble_eq_true rfl), (Nat.le_of_ble_eq_true rfl)⟩ rfl rfl (Nat.le_of_ble_eq_true rfl) dX12_acted_138 (fun v21 M22 h23 => ?_)
              exact j_iret (pc := 141) h23 rfl dX12_acted_141
          · skip
            refine j_ite (pc := 1) (fun c24 => ?_) (fun c24 => ?_)
            · skip
              refine j_tabIn (off := (155)) (tgt := 156) (pc := 1) 61 hl0 dX12_acted_1 c24 (by decide) (by decide) rfl (by decide) ?_
              refine j_iload_n (pc := 156) dX12_acted_156 rfl (q := 1) rfl ?_
              refine j_iload_n (pc := 157) dX12_acted_157 rfl (q := 2) rfl ?_
              refine j_icmp_ne (tgt := 165) (pc := 158) hl1 hl2 dX12_acted_158 (by decide) (fun c25 => ?_) (fun c25 => ?_)
              · skip
                refine j_iconst (pc := 161) dX12_acted_161 ?_
                refine j_goto (tgt := 166) (pc := 162) dX12_acted_162 (by decide) ?_
                refine j_callSi1 (pc := 166) (ct_X12_truth M 1 (jm_inL (by decide) (by decide))) kg_1608 km_X12_truth kg_1609 rfl rfl ⟨(Nat.le_of_ble_eq_true rfl), (Nat.le_of_ble_eq_true rfl)⟩ rfl rfl (Nat.le_of_ble_eq_true rfl) dX12_acted_166 (fun v26 M27 h28 => ?_)
                exact j_iret (pc := 169) h28 rfl dX12_acted_169
              · skip
                refine j_iconst (pc := 165) dX12_acted_165 ?_
                refine j_callSi1 (pc := 166) (ct_X12_truth M 0 (jm_inL (by decide) (by decide))) kg_1608 km_X12_truth kg_1609 rfl rfl ⟨(Nat.le_of_ble_eq_true rfl), (Nat.le_of_ble_eq_true rfl)⟩ rfl rfl (Nat.le_of_ble_eq_true rfl) dX12_acted_166 (fun v29 M30 h31 => ?_)
                exact j_iret (pc := 169) h31 rfl dX12_acted_169
            · skip
              refine j_ite (pc := 1) (fun c32 => ?_) (fun c32 => ?_)
              · skip
                refine j_tabIn (off := (141)) (tgt := 142) (pc := 1) 62 hl0 dX12_acted_1 c32 (by decide) (by decide) rfl (by decide) ?_
                refine j_iload_n (pc := 142) dX12_acted_142 rfl (q := 1) rfl ?_
                refine j_iload_n (pc := 143) dX12_acted_143 rfl (q := 2) rfl ?_
                refine j_icmp_le (tgt := 151) (pc := 144) hl1 hl2 dX12_acted_144 (by decide) (fun c33 => ?_) (fun c33 => ?_)
                · skip
                  refine j_iconst (pc := 151) dX12_acted_151 ?_
                  refine j_callSi1 (pc := 152) (ct_X12_truth M 0 (jm_inL (by decide) (by decide))) kg_1608 km_X12_truth kg_1609 rfl rfl ⟨(Nat.le_of_ble_eq_true rfl), (Nat.le_of_ble_eq_true rfl)⟩ rfl rfl (Nat.le_of_ble_eq_true rfl) dX12_acted_152 (fun v34 M35 h36 => ?_)
                  exact j_iret (pc := 155) h36 rfl dX12_acted_155
                · skip
                  refine j_iconst (pc := 147) dX12_acted_147 ?_
                  refine j_goto (tgt := 152) (pc := 148) dX12_acted_148 (by decide) ?_
                  refine j_callSi1 (pc := 152) (ct_X12_truth M 1 (jm_inL (by decide) (by decide))) kg_1608 km_X12_truth kg_1609 rfl rfl ⟨(Nat.le_of_ble_eq_true rfl), (Nat.le_of_ble_eq_true rfl)⟩ rfl rfl (Nat.le_of_ble_eq_true rfl) dX12_acted_152 (fun v37 M38 h39 => ?_)
                  exact j_iret (pc := 155) h39 rfl dX12_acted_155
              · skip
                refine jm_cases (P := l0 < 38 ∨ 62 < l0) (fun c40 => ?_) (fun c40 => ?_)
                · skip
                  refine j_tabOut (tgt := 187) (pc := 1) hl0 dX12_acted_1 c40 (by decide) ?_
                  refine j_iload_n (pc := 187) dX12_acted_187 rfl (q := 1) rfl ?_
                  refine j_if_ne (tgt := 195) (pc := 188) hl1 dX12_acted_188 (by decide) (fun c41 => ?_) (fun c41 => ?_)
                  · skip
                    refine j_iload_n (pc := 191) dX12_acted_191 rfl (q := 2) rfl ?_
                    refine j_if_eq (tgt := 199) (pc := 192) hl2 dX12_acted_192 (by decide) (fun c42 => ?_) (fun c42 => ?_)
                    · skip
                      refine j_iconst (pc := 199) dX12_acted_199 ?_
                      refine j_callSi1 (pc := 200) (ct_X12_truth M 0 (jm_inL (by decide) (by decide))) kg_1608 km_X12_truth kg_1609 rfl rfl ⟨(Nat.le_of_ble_eq_true rfl), (Nat.le_of_ble_eq_true rfl)⟩ rfl rfl (Nat.le_of_ble_eq_true rfl) dX12_acted_200 (fun v43 M44 h45 => ?_)
                      exact j_iret (pc := 203) h45 rfl dX12_acted_203
                    · skip
                      refine j_iconst (pc := 195) dX12_acted_195 ?_
                      refine j_goto (tgt := 200) (pc := 196) dX12_acted_196 (by decide) ?_
                      refine j_callSi1 (pc := 200) (ct_X12_truth M 1 (jm_inL (by decide) (by decide))) kg_1608 km_X12_truth kg_1609 rfl rfl ⟨(Nat.le_of_ble_eq_true rfl), (Nat.le_of_ble_eq_true rfl)⟩ rfl rfl (Nat.le_of_ble_eq_true rfl) dX12_acted_200 (fun v46 M47 h48 => ?_)
                      exact j_iret (pc := 203) h48 rfl dX12_acted_203
                  · skip
                    refine j_iconst (pc := 195) dX12_acted_195 ?_
                    refine j_goto (tgt := 200) (pc := 196) dX12_acted_196 (by decide) ?_
                    refine j_callSi1 (pc := 200) (ct_X12_truth M 1 (jm_inL (by decide) (by decide))) kg_1608 km_X12_truth kg_1609 rfl rfl ⟨(Nat.le_of_ble_eq_true rfl), (Nat.le_of_ble_eq_true rfl)⟩ rfl rfl (Nat.le_of_ble_eq_true rfl) dX12_acted_200 (fun v49 M50 h51 => ?_)
                    exact j_iret (pc := 203) h51 rfl dX12_acted_203
                · rcases (by omega : l0 = 39 ∨ l0 = 40 ∨ l0 = 41 ∨ l0 = 44 ∨ l0 = 46 ∨ l0 = 47 ∨ l0 = 48 ∨ l0 = 49 ∨ l0 = 50 ∨ l0 = 51 ∨ l0 = 52 ∨ l0 = 53 ∨ l0 = 54 ∨ l0 = 55 ∨ l0 = 56 ∨ l0 = 57 ∨ l0 = 58 ∨ l0 = 59) with c40x | c40x | c40x | c40x | c40x | c40x | c40x | c40x | c40x | c40x | c40x | c40x | c40x | c40x | c40x | c40x | c40x | c40x
                  · skip
                    refine j_tabIn (off := (186)) (tgt := 187) (pc := 1) 39 hl0 dX12_acted_1 c40x (by decide) (by decide) rfl (by decide) ?_
                    refine j_iload_n (pc := 187) dX12_acted_187 rfl (q := 1) rfl ?_
                    refine j_if_ne (tgt := 195) (pc := 188) hl1 dX12_acted_188 (by decide) (fun c52 => ?_) (fun c52 => ?_)
                    · skip
                      refine j_iload_n (pc := 191) dX12_acted_191 rfl (q := 2) rfl ?_
                      refine j_if_eq (tgt := 199) (pc := 192) hl2 dX12_acted_192 (by decide) (fun c53 => ?_) (fun c53 => ?_)
                      · skip
                        refine j_iconst (pc := 199) dX12_acted_199 ?_
                        refine j_callSi1 (pc := 200) (ct_X12_truth M 0 (jm_inL (by decide) (by decide))) kg_1608 km_X12_truth kg_1609 rfl rfl ⟨(Nat.le_of_ble_eq_true rfl), (Nat.le_of_ble_eq_true rfl)⟩ rfl rfl (Nat.le_of_ble_eq_true rfl) dX12_acted_200 (fun v54 M55 h56 => ?_)
                        exact j_iret (pc := 203) h56 rfl dX12_acted_203
                      · skip
                        refine j_iconst (pc := 195) dX12_acted_195 ?_
                        refine j_goto (tgt := 200) (pc := 196) dX12_acted_196 (by decide) ?_
                        refine j_callSi1 (pc := 200) (ct_X12_truth M 1 (jm_inL (by decide) (by decide))) kg_1608 km_X12_truth kg_1609 rfl rfl ⟨(Nat.le_of_ble_eq_true rfl), (Nat.le_of_ble_eq_true rfl)⟩ rfl rfl (Nat.le_of_ble_eq_true rfl) dX12_acted_200 (fun v57 M58 h59 => ?_)
                        exact j_iret (pc := 203) h59 rfl dX12_acted_203
                    · skip
                      refine j_iconst (pc := 195) dX12_acted_195 ?_
                      refine j_goto (tgt := 200) (pc := 196) dX12_acted_196 (by decide) ?_
                      refine j_callSi1 (pc := 200) (ct_X12_truth M 1 (jm_inL (by decide) (by decide))) kg_1608 km_X12_truth kg_1609 rfl rfl ⟨(Nat.le_of_ble_eq_true rfl), (Nat.le_of_ble_eq_true rfl)⟩ rfl rfl (Nat.le_of_ble_eq_true rfl) dX12_acted_200 (fun v60 M61 h62 => ?_)
                      exact j_iret (pc := 203) h62 rfl dX12_acted_203
                  · skip
                    refine j_tabIn (off := (186)) (tgt := 187) (pc := 1) 40 hl0 dX12_acted_1 c40x (by decide) (by decide) rfl (by decide) ?_
                    refine j_iload_n (pc := 187) dX12_acted_187 rfl (q := 1) rfl ?_
                    refine j_if_ne (tgt := 195) (pc := 188) hl1 dX12_acted_188 (by decide) (fun c63 => ?_) (fun c63 => ?_)
                    · skip
                      refine j_iload_n (pc := 191) dX12_acted_191 rfl (q := 2) rfl ?_
                      refine j_if_eq (tgt := 199) (pc := 192) hl2 dX12_acted_192 (by decide) (fun c64 => ?_) (fun c64 => ?_)
                      · skip
                        refine j_iconst (pc := 199) dX12_acted_199 ?_
                        refine j_callSi1 (pc := 200) (ct_X12_truth M 0 (jm_inL (by decide) (by decide))) kg_1608 km_X12_truth kg_1609 rfl rfl ⟨(Nat.le_of_ble_eq_true rfl), (Nat.le_of_ble_eq_true rfl)⟩ rfl rfl (Nat.le_of_ble_eq_true rfl) dX12_acted_200 (fun v65 M66 h67 => ?_)
                        exact j_iret (pc := 203) h67 rfl dX12_acted_203
                      · skip
                        refine j_iconst (pc := 195) dX12_acted_195 ?_
                        refine j_goto (tgt := 200) (pc := 196) dX12_acted_196 (by decide) ?_
                        refine j_callSi1 (pc := 200) (ct_X12_truth M 1 (jm_inL (by decide) (by decide))) kg_1608 km_X12_truth kg_1609 rfl rfl ⟨(Nat.le_of_ble_eq_true rfl), (Nat.le_of_ble_eq_true rfl)⟩ rfl rfl (Nat.le_of_ble_eq_true rfl) dX12_acted_200 (fun v68 M69 h70 => ?_)
                        exact j_iret (pc := 203) h70 rfl dX12_acted_203
                    · skip
                      refine j_iconst (pc := 195) dX12_acted_195 ?_
                      refine j_goto (tgt := 200) (pc := 196) dX12_acted_196 (by decide) ?_
                      refine j_callSi1 (pc := 200) (ct_X12_truth M 1 (jm_inL (by decide) (by decide))) kg_1608 km_X12_truth kg_1609 rfl rfl ⟨(Nat.le_of_ble_eq_true rfl), (Nat.le_of_ble_eq_true rfl)⟩ rfl rfl (Nat.le_of_ble_eq_true rfl) dX12_acted_200 (fun v71 M72 h73 => ?_)
                      exact j_iret (pc := 203) h73 rfl dX12_acted_203
                  · skip
                    refine j_tabIn (off := (186)) (tgt := 187) (pc := 1) 41 hl0 dX12_acted_1 c40x (by decide) (by decide) rfl (by decide) ?_
                    refine j_iload_n (pc := 187) dX12_acted_187 rfl (q := 1) rfl ?_
                    refine j_if_ne (tgt := 195) (pc := 188) hl1 dX12_acted_188 (by decide) (fun c74 => ?_) (fun c74 => ?_)
                    · skip
                      refine j_iload_n (pc := 191) dX12_acted_191 rfl (q := 2) rfl ?_
                      refine j_if_eq (tgt := 199) (pc := 192) hl2 dX12_acted_192 (by decide) (fun c75 => ?_) (fun c75 => ?_)
                      · skip
                        refine j_iconst (pc := 199) dX12_acted_199 ?_
                        refine j_callSi1 (pc := 200) (ct_X12_truth M 0 (jm_inL (by decide) (by decide))) kg_1608 km_X12_truth kg_1609 rfl rfl ⟨(Nat.le_of_ble_eq_true rfl), (Nat.le_of_ble_eq_true rfl)⟩ rfl rfl (Nat.le_of_ble_eq_true rfl) dX12_acted_200 (fun v76 M77 h78 => ?_)
                        exact j_iret (pc := 203) h78 rfl dX12_acted_203
                      · skip
                        refine j_iconst (pc := 195) dX12_acted_195 ?_
                        refine j_goto (tgt := 200) (pc := 196) dX12_acted_196 (by decide) ?_
                        refine j_callSi1 (pc := 200) (ct_X12_truth M 1 (jm_inL (by decide) (by decide))) kg_1608 km_X12_truth kg_1609 rfl rfl ⟨(Nat.le_of_ble_eq_true rfl), (Nat.le_of_ble_eq_true rfl)⟩ rfl rfl (Nat.le_of_ble_eq_true rfl) dX12_acted_200 (fun v79 M80 h81 => ?_)
                        exact j_iret (pc := 203) h81 rfl dX12_acted_203
                    · skip
                      refine j_iconst (pc := 195) dX12_acted_195 ?_
                      refine j_goto (tgt := 200) (pc := 196) dX12_acted_196 (by decide) ?_
                      refine j_callSi1 (pc := 200) (ct_X12_truth M 1 (jm_inL (by decide) (by decide))) kg_1608 km_X12_truth kg_1609 rfl rfl ⟨(Nat.le_of_ble_eq_true rfl), (Nat.le_of_ble_eq_true rfl)⟩ rfl rfl (Nat.le_of_ble_eq_true rfl) dX12_acted_200 (fun v82 M83 h84 => ?_)
                      exact j_iret (pc := 203) h84 rfl dX12_acted_203
                  · skip
                    refine j_tabIn (off := (186)) (tgt := 187) (pc := 1) 44 hl0 dX12_acted_1 c40x (by decide) (by decide) rfl (by decide) ?_
                    refine j_iload_n (pc := 187) dX12_acted_187 rfl (q := 1) rfl ?_
                    refine j_if_ne (tgt := 195) (pc := 188) hl1 dX12_acted_188 (by decide) (fun c85 => ?_) (fun c85 => ?_)
                    · skip
                      refine j_iload_n (pc := 191) dX12_acted_191 rfl (q := 2) rfl ?_
                      refine j_if_eq (tgt := 199) (pc := 192) hl2 dX12_acted_192 (by decide) (fun c86 => ?_) (fun c86 => ?_)
                      · skip
                        refine j_iconst (pc := 199) dX12_acted_199 ?_
                        refine j_callSi1 (pc := 200) (ct_X12_truth M 0 (jm_inL (by decide) (by decide))) kg_1608 km_X12_truth kg_1609 rfl rfl ⟨(Nat.le_of_ble_eq_true rfl), (Nat.le_of_ble_eq_true rfl)⟩ rfl rfl (Nat.le_of_ble_eq_true rfl) dX12_acted_200 (fun v87 M88 h89 => ?_)
                        exact j_iret (pc := 203) h89 rfl dX12_acted_203
                      · skip
                        refine j_iconst (pc := 195) dX12_acted_195 ?_
                        refine j_goto (tgt := 200) (pc := 196) dX12_acted_196 (by decide) ?_
                        refine j_callSi1 (pc := 200) (ct_X12_truth M 1 (jm_inL (by decide) (by decide))) kg_1608 km_X12_truth kg_1609 rfl rfl ⟨(Nat.le_of_ble_eq_true rfl), (Nat.le_of_ble_eq_true rfl)⟩ rfl rfl (Nat.le_of_ble_eq_true rfl) dX12_acted_200 (fun v90 M91 h92 => ?_)
                        exact j_iret (pc := 203) h92 rfl dX12_acted_203
                    · skip
                      refine j_iconst (pc := 195) dX12_acted_195 ?_
                      refine j_goto (tgt := 200) (pc := 196) dX12_acted_196 (by decide) ?_
                      refine j_callSi1 (pc := 200) (ct_X12_truth M 1 (jm_inL (by decide) (by decide))) kg_1608 km_X12_truth kg_1609 rfl rfl ⟨(Nat.le_of_ble_eq_true rfl), (Nat.le_of_ble_eq_true rfl)⟩ rfl rfl (Nat.le_of_ble_eq_true rfl) dX12_acted_200 (fun v93 M94 h95 => ?_)
                      exact j_iret (pc := 203) h95 rfl dX12_acted_203
                  · skip
                    refine j_tabIn (off := (186)) (tgt := 187) (pc := 1) 46 hl0 dX12_acted_1 c40x (by decide) (by decide) rfl (by decide) ?_
                    refine j_iload_n (pc := 187) dX12_acted_187 rfl (q := 1) rfl ?_
                    refine j_if_ne (tgt := 195) (pc := 188) hl1 dX12_acted_188 (by decide) (fun c96 => ?_) (fun c96 => ?_)
                    · skip
                      refine j_iload_n (pc := 191) dX12_acted_191 rfl (q := 2) rfl ?_
                      refine j_if_eq (tgt := 199) (pc := 192) hl2 dX12_acted_192 (by decide) (fun c97 => ?_) (fun c97 => ?_)
                      · skip
                        refine j_iconst (pc := 199) dX12_acted_199 ?_
                        refine j_callSi1 (pc := 200) (ct_X12_truth M 0 (jm_inL (by decide) (by decide))) kg_1608 km_X12_truth kg_1609 rfl rfl ⟨(Nat.le_of_ble_eq_true rfl), (Nat.le_of_ble_eq_true rfl)⟩ rfl rfl (Nat.le_of_ble_eq_true rfl) dX12_acted_200 (fun v98 M99 h100 => ?_)
                        exact j_iret (pc := 203) h100 rfl dX12_acted_203
                      · skip
                        refine j_iconst (pc := 195) dX12_acted_195 ?_
                        refine j_goto (tgt := 200) (pc := 196) dX12_acted_196 (by decide) ?_
                        refine j_callSi1 (pc := 200) (ct_X12_truth M 1 (jm_inL (by decide) (by decide))) kg_1608 km_X12_truth kg_1609 rfl rfl ⟨(Nat.le_of_ble_eq_true rfl), (Nat.le_of_ble_eq_true rfl)⟩ rfl rfl (Nat.le_of_ble_eq_true rfl) dX12_acted_200 (fun v101 M102 h103 => ?_)
                        exact j_iret (pc := 203) h103 rfl dX12_acted_203
                    · skip
                      refine j_iconst (pc := 195) dX12_acted_195 ?_
                      refine j_goto (tgt := 200) (pc := 196) dX12_acted_196 (by decide) ?_
                      refine j_callSi1 (pc := 200) (ct_X12_truth M 1 (jm_inL (by decide) (by decide))) kg_1608 km_X12_truth kg_1609 rfl rfl ⟨(Nat.le_of_ble_eq_true rfl), (Nat.le_of_ble_eq_true rfl)⟩ rfl rfl (Nat.le_of_ble_eq_true rfl) dX12_acted_200 (fun v104 M105 h106 => ?_)
                      exact j_iret (pc := 203) h106 rfl dX12_acted_203
                  · skip
                    refine j_tabIn (off := (186)) (tgt := 187) (pc := 1) 47 hl0 dX12_acted_1 c40x (by decide) (by decide) rfl (by decide) ?_
                    refine j_iload_n (pc := 187) dX12_acted_187 rfl (q := 1) rfl ?_
                    refine j_if_ne (tgt := 195) (pc := 188) hl1 dX12_acted_188 (by decide) (fun c107 => ?_) (fun c107 => ?_)
                    · skip
                      refine j_iload_n (pc := 191) dX12_acted_191 rfl (q := 2) rfl ?_
                      refine j_if_eq (tgt := 199) (pc := 192) hl2 dX12_acted_192 (by decide) (fun c108 => ?_) (fun c108 => ?_)
                      · skip
                        refine j_iconst (pc := 199) dX12_acted_199 ?_
                        refine j_callSi1 (pc := 200) (ct_X12_truth M 0 (jm_inL (by decide) (by decide))) kg_1608 km_X12_truth kg_1609 rfl rfl ⟨(Nat.le_of_ble_eq_true rfl), (Nat.le_of_ble_eq_true rfl)⟩ rfl rfl (Nat.le_of_ble_eq_true rfl) dX12_acted_200 (fun v109 M110 h111 => ?_)
                        exact j_iret (pc := 203) h111 rfl dX12_acted_203
                      · skip
                        refine j_iconst (pc := 195) dX12_acted_195 ?_
                        refine j_goto (tgt := 200) (pc := 196) dX12_acted_196 (by decide) ?_
                        refine j_callSi1 (pc := 200) (ct_X12_truth M 1 (jm_inL (by decide) (by decide))) kg_1608 km_X12_truth kg_1609 rfl rfl ⟨(Nat.le_of_ble_eq_true rfl), (Nat.le_of_ble_eq_true rfl)⟩ rfl rfl (Nat.le_of_ble_eq_true rfl) dX12_acted_200 (fun v112 M113 h114 => ?_)
                        exact j_iret (pc := 203) h114 rfl dX12_acted_203
                    · skip
                      refine j_iconst (pc := 195) dX12_acted_195 ?_
                      refine j_goto (tgt := 200) (pc := 196) dX12_acted_196 (by decide) ?_
                      refine j_callSi1 (pc := 200) (ct_X12_truth M 1 (jm_inL (by decide) (by decide))) kg_1608 km_X12_truth kg_1609 rfl rfl ⟨(Nat.le_of_ble_eq_true rfl), (Nat.le_of_ble_eq_true rfl)⟩ rfl rfl (Nat.le_of_ble_eq_true rfl) dX12_acted_200 (fun v115 M116 h117 => ?_)
                      exact j_iret (pc := 203) h117 rfl dX12_acted_203
                  · skip
                    refine j_tabIn (off := (186)) (tgt := 187) (pc := 1) 48 hl0 dX12_acted_1 c40x (by decide) (by decide) rfl (by decide) ?_
                    refine j_iload_n (pc := 187) dX12_acted_187 rfl (q := 1) rfl ?_
                    refine j_if_ne (tgt := 195) (pc := 188) hl1 dX12_acted_188 (by decide) (fun c118 => ?_) (fun c118 => ?_)
                    · skip
                      refine j_iload_n (pc := 191) dX12_acted_191 rfl (q := 2) rfl ?_
                      refine j_if_eq (tgt := 199) (pc := 192) hl2 dX12_acted_192 (by decide) (fun c119 => ?_) (fun c119 => ?_)
                      · skip
                        refine j_iconst (pc := 199) dX12_acted_199 ?_
                        refine j_callSi1 (pc := 200) (ct_X12_truth M 0 (jm_inL (by decide) (by decide))) kg_1608 km_X12_truth kg_1609 rfl rfl ⟨(Nat.le_of_ble_eq_true rfl), (Nat.le_of_ble_eq_true rfl)⟩ rfl rfl (Nat.le_of_ble_eq_true rfl) dX12_acted_200 (fun v120 M121 h122 => ?_)
                        exact j_iret (pc := 203) h122 rfl dX12_acted_203
                      · skip
                        refine j_iconst (pc := 195) dX12_acted_195 ?_
                        refine j_goto (tgt := 200) (pc := 196) dX12_acted_196 (by decide) ?_
                        refine j_callSi1 (pc := 200) (ct_X12_truth M 1 (jm_inL (by decide) (by decide))) kg_1608 km_X12_truth kg_1609 rfl rfl ⟨(Nat.le_of_ble_eq_true rfl), (Nat.le_of_ble_eq_true rfl)⟩ rfl rfl (Nat.le_of_ble_eq_true rfl) dX12_acted_200 (fun v123 M124 h125 => ?_)
                        exact j_iret (pc := 203) h125 rfl dX12_acted_203
                    · skip
                      refine j_iconst (pc := 195) dX12_acted_195 ?_
                      refine j_goto (tgt := 200) (pc := 196) dX12_acted_196 (by decide) ?_
                      refine j_callSi1 (pc := 200) (ct_X12_truth M 1 (jm_inL (by decide) (by decide))) kg_1608 km_X12_truth kg_1609 rfl rfl ⟨(Nat.le_of_ble_eq_true rfl), (Nat.le_of_ble_eq_true rfl)⟩ rfl rfl (Nat.le_of_ble_eq_true rfl) dX12_acted_200 (fun v126 M127 h128 => ?_)
                      exact j_iret (pc := 203) h128 rfl dX12_acted_203
                  · skip
                    refine j_tabIn (off := (186)) (tgt := 187) (pc := 1) 49 hl0 dX12_acted_1 c40x (by decide) (by decide) rfl (by decide) ?_
                    refine j_iload_n (pc := 187) dX12_acted_187 rfl (q := 1) rfl ?_
                    refine j_if_ne (tgt := 195) (pc := 188) hl1 dX12_acted_188 (by decide) (fun c129 => ?_) (fun c129 => ?_)
                    · skip
                      refine j_iload_n (pc := 191) dX12_acted_191 rfl (q := 2) rfl ?_
                      refine j_if_eq (tgt := 199) (pc := 192) hl2 dX12_acted_192 (by decide) (fun c130 => ?_) (fun c130 => ?_)
                      · skip
                        refine j_iconst (pc := 199) dX12_acted_199 ?_
                        refine j_callSi1 (pc := 200) (ct_X12_truth M 0 (jm_inL (by decide) (by decide))) kg_1608 km_X12_truth kg_1609 rfl rfl ⟨(Nat.le_of_ble_eq_true rfl), (Nat.le_of_ble_eq_true rfl)⟩ rfl rfl (Nat.le_of_ble_eq_true rfl) dX12_acted_200 (fun v131 M132 h133 => ?_)
                        exact j_iret (pc := 203) h133 rfl dX12_acted_203
                      · skip
                        refine j_iconst (pc := 195) dX12_acted_195 ?_
                        refine j_goto (tgt := 200) (pc := 196) dX12_acted_196 (by decide) ?_
                        refine j_callSi1 (pc := 200) (ct_X12_truth M 1 (jm_inL (by decide) (by decide))) kg_1608 km_X12_truth kg_1609 rfl rfl ⟨(Nat.le_of_ble_eq_true rfl), (Nat.le_of_ble_eq_true rfl)⟩ rfl rfl (Nat.le_of_ble_eq_true rfl) dX12_acted_200 (fun v134 M135 h136 => ?_)
                        exact j_iret (pc := 203) h136 rfl dX12_acted_203
                    · skip
                      refine j_iconst (pc := 195) dX12_acted_195 ?_
                      refine j_goto (tgt := 200) (pc := 196) dX12_acted_196 (by decide) ?_
                      refine j_callSi1 (pc := 200) (ct_X12_truth M 1 (jm_inL (by decide) (by decide))) kg_1608 km_X12_truth kg_1609 rfl rfl ⟨(Nat.le_of_ble_eq_true rfl), (Nat.le_of_ble_eq_true rfl)⟩ rfl rfl (Nat.le_of_ble_eq_true rfl) dX12_acted_200 (fun v137 M138 h139 => ?_)
                      exact j_iret (pc := 203) h139 rfl dX12_acted_203
                  · skip
                    refine j_tabIn (off := (186)) (tgt := 187) (pc := 1) 50 hl0 dX12_acted_1 c40x (by decide) (by decide) rfl (by decide) ?_
                    refine j_iload_n (pc := 187) dX12_acted_187 rfl (q := 1) rfl ?_
                    refine j_if_ne (tgt := 195) (pc := 188) hl1 dX12_acted_188 (by decide) (fun c140 => ?_) (fun c140 => ?_)
                    · skip
                      refine j_iload_n (pc := 191) dX12_acted_191 rfl (q := 2) rfl ?_
                      refine j_if_eq (tgt := 199) (pc := 192) hl2 dX12_acted_192 (by decide) (fun c141 => ?_) (fun c141 => ?_)
                      · skip
                        refine j_iconst (pc := 199) dX12_acted_199 ?_
                        refine j_callSi1 (pc := 200) (ct_X12_truth M 0 (jm_inL (by decide) (by decide))) kg_1608 km_X12_truth kg_1609 rfl rfl ⟨(Nat.le_of_ble_eq_true rfl), (Nat.le_of_ble_eq_true rfl)⟩ rfl rfl (Nat.le_of_ble_eq_true rfl) dX12_acted_200 (fun v142 M143 h144 => ?_)
                        exact j_iret (pc := 203) h144 rfl dX12_acted_203
                      · skip
                        refine j_iconst (pc := 195) dX12_acted_195 ?_
                        refine j_goto (tgt := 200) (pc := 196) dX12_acted_196 (by decide) ?_
                        refine j_callSi1 (pc := 200) (ct_X12_truth M 1 (jm_inL (by decide) (by decide))) kg_1608 km_X12_truth kg_1609 rfl rfl ⟨(Nat.le_of_ble_eq_true rfl), (Nat.le_of_ble_eq_true rfl)⟩ rfl rfl (Nat.le_of_ble_eq_true rfl) dX12_acted_200 (fun v145 M146 h147 => ?_)
                        exact j_iret (pc := 203) h147 rfl dX12_acted_203
                    · skip
                      refine j_iconst (pc := 195) dX12_acted_195 ?_
                      refine j_goto (tgt := 200) (pc := 196) dX12_acted_196 (by decide) ?_
                      refine j_callSi1 (pc := 200) (ct_X12_truth M 1 (jm_inL (by decide) (by decide))) kg_1608 km_X12_truth kg_1609 rfl rfl ⟨(Nat.le_of_ble_eq_true rfl), (Nat.le_of_ble_eq_true rfl)⟩ rfl rfl (Nat.le_of_ble_eq_true rfl) dX12_acted_200 (fun v148 M149 h150 => ?_)
                      exact j_iret (pc := 203) h150 rfl dX12_acted_203
                  · skip
                    refine j_tabIn (off := (186)) (tgt := 187) (pc := 1) 51 hl0 dX12_acted_1 c40x (by decide) (by decide) rfl (by decide) ?_
                    refine j_iload_n (pc := 187) dX12_acted_187 rfl (q := 1) rfl ?_
                    refine j_if_ne (tgt := 195) (pc := 188) hl1 dX12_acted_188 (by decide) (fun c151 => ?_) (fun c151 => ?_)
                    · skip
                      refine j_iload_n (pc := 191) dX12_acted_191 rfl (q := 2) rfl ?_
                      refine j_if_eq (tgt := 199) (pc := 192) hl2 dX12_acted_192 (by decide) (fun c152 => ?_) (fun c152 => ?_)
                      · skip
                        refine j_iconst (pc := 199) dX12_acted_199 ?_
                        refine j_callSi1 (pc := 200) (ct_X12_truth M 0 (jm_inL (by decide) (by decide))) kg_1608 km_X12_truth kg_1609 rfl rfl ⟨(Nat.le_of_ble_eq_true rfl), (Nat.le_of_ble_eq_true rfl)⟩ rfl rfl (Nat.le_of_ble_eq_true rfl) dX12_acted_200 (fun v153 M154 h155 => ?_)
                        exact j_iret (pc := 203) h155 rfl dX12_acted_203
                      · skip
                        refine j_iconst (pc := 195) dX12_acted_195 ?_
                        refine j_goto (tgt := 200) (pc := 196) dX12_acted_196 (by decide) ?_
                        refine j_callSi1 (pc := 200) (ct_X12_truth M 1 (jm_inL (by decide) (by decide))) kg_1608 km_X12_truth kg_1609 rfl rfl ⟨(Nat.le_of_ble_eq_true rfl), (Nat.le_of_ble_eq_true rfl)⟩ rfl rfl (Nat.le_of_ble_eq_true rfl) dX12_acted_200 (fun v156 M157 h158 => ?_)
                        exact j_iret (pc := 203) h158 rfl dX12_acted_203
                    · skip
                      refine j_iconst (pc := 195) dX12_acted_195 ?_
                      refine j_goto (tgt := 200) (pc := 196) dX12_acted_196 (by decide) ?_
                      refine j_callSi1 (pc := 200) (ct_X12_truth M 1 (jm_inL (by decide) (by decide))) kg_1608 km_X12_truth kg_1609 rfl rfl ⟨(Nat.le_of_ble_eq_true rfl), (Nat.le_of_ble_eq_true rfl)⟩ rfl rfl (Nat.le_of_ble_eq_true rfl) dX12_acted_200 (fun v159 M160 h161 => ?_)
                      exact j_iret (pc := 203) h161 rfl dX12_acted_203
                  · skip
                    refine j_tabIn (off := (186)) (tgt := 187) (pc := 1) 52 hl0 dX12_acted_1 c40x (by decide) (by decide) rfl (by decide) ?_
                    refine j_iload_n (pc := 187) dX12_acted_187 rfl (q := 1) rfl ?_
                    refine j_if_ne (tgt := 195) (pc := 188) hl1 dX12_acted_188 (by decide) (fun c162 => ?_) (fun c162 => ?_)
                    · skip
                      refine j_iload_n (pc := 191) dX12_acted_191 rfl (q := 2) rfl ?_
                      refine j_if_eq (tgt := 199) (pc := 192) hl2 dX12_acted_192 (by decide) (fun c163 => ?_) (fun c163 => ?_)
                      · skip
                        refine j_iconst (pc := 199) dX12_acted_199 ?_
                        refine j_callSi1 (pc := 200) (ct_X12_truth M 0 (jm_inL (by decide) (by decide))) kg_1608 km_X12_truth kg_1609 rfl rfl ⟨(Nat.le_of_ble_eq_true rfl), (Nat.le_of_ble_eq_true rfl)⟩ rfl rfl (Nat.le_of_ble_eq_true rfl) dX12_acted_200 (fun v164 M165 h166 => ?_)
                        exact j_iret (pc := 203) h166 rfl dX12_acted_203
                      · skip
                        refine j_iconst (pc := 195) dX12_acted_195 ?_
                        refine j_goto (tgt := 200) (pc := 196) dX12_acted_196 (by decide) ?_
                        refine j_callSi1 (pc := 200) (ct_X12_truth M 1 (jm_inL (by decide) (by decide))) kg_1608 km_X12_truth kg_1609 rfl rfl ⟨(Nat.le_of_ble_eq_true rfl), (Nat.le_of_ble_eq_true rfl)⟩ rfl rfl (Nat.le_of_ble_eq_true rfl) dX12_acted_200 (fun v167 M168 h169 => ?_)
                        exact j_iret (pc := 203) h169 rfl dX12_acted_203
                    · skip
                      refine j_iconst (pc := 195) dX12_acted_195 ?_
                      refine j_goto (tgt := 200) (pc := 196) dX12_acted_196 (by decide) ?_
                      refine j_callSi1 (pc := 200) (ct_X12_truth M 1 (jm_inL (by decide) (by decide))) kg_1608 km_X12_truth kg_1609 rfl rfl ⟨(Nat.le_of_ble_eq_true rfl), (Nat.le_of_ble_eq_true rfl)⟩ rfl rfl (Nat.le_of_ble_eq_true rfl) dX12_acted_200 (fun v170 M171 h172 => ?_)
                      exact j_iret (pc := 203) h172 rfl dX12_acted_203
                  · skip
                    refine j_tabIn (off := (186)) (tgt := 187) (pc := 1) 53 hl0 dX12_acted_1 c40x (by decide) (by decide) rfl (by decide) ?_
                    refine j_iload_n (pc := 187) dX12_acted_187 rfl (q := 1) rfl ?_
                    refine j_if_ne (tgt := 195) (pc := 188) hl1 dX12_acted_188 (by decide) (fun c173 => ?_) (fun c173 => ?_)
                    · skip
                      refine j_iload_n (pc := 191) dX12_acted_191 rfl (q := 2) rfl ?_
                      refine j_if_eq (tgt := 199) (pc := 192) hl2 dX12_acted_192 (by decide) (fun c174 => ?_) (fun c174 => ?_)
                      · skip
                        refine j_iconst (pc := 199) dX12_acted_199 ?_
                        refine j_callSi1 (pc := 200) (ct_X12_truth M 0 (jm_inL (by decide) (by decide))) kg_1608 km_X12_truth kg_1609 rfl rfl ⟨(Nat.le_of_ble_eq_true rfl), (Nat.le_of_ble_eq_true rfl)⟩ rfl rfl (Nat.le_of_ble_eq_true rfl) dX12_acted_200 (fun v175 M176 h177 => ?_)
                        exact j_iret (pc := 203) h177 rfl dX12_acted_203
                      · skip
                        refine j_iconst (pc := 195) dX12_acted_195 ?_
                        refine j_goto (tgt := 200) (pc := 196) dX12_acted_196 (by decide) ?_
                        refine j_callSi1 (pc := 200) (ct_X12_truth M 1 (jm_inL (by decide) (by decide))) kg_1608 km_X12_truth kg_1609 rfl rfl ⟨(Nat.le_of_ble_eq_true rfl), (Nat.le_of_ble_eq_true rfl)⟩ rfl rfl (Nat.le_of_ble_eq_true rfl) dX12_acted_200 (fun v178 M179 h180 => ?_)
                        exact j_iret (pc := 203) h180 rfl dX12_acted_203
                    · skip
                      refine j_iconst (pc := 195) dX12_acted_195 ?_
                      refine j_goto (tgt := 200) (pc := 196) dX12_acted_196 (by decide) ?_
                      refine j_callSi1 (pc := 200) (ct_X12_truth M 1 (jm_inL (by decide) (by decide))) kg_1608 km_X12_truth kg_1609 rfl rfl ⟨(Nat.le_of_ble_eq_true rfl), (Nat.le_of_ble_eq_true rfl)⟩ rfl rfl (Nat.le_of_ble_eq_true rfl) dX12_acted_200 (fun v181 M182 h183 => ?_)
                      exact j_iret (pc := 203) h183 rfl dX12_acted_203
                  · skip
                    refine j_tabIn (off := (186)) (tgt := 187) (pc := 1) 54 hl0 dX12_acted_1 c40x (by decide) (by decide) rfl (by decide) ?_
                    refine j_iload_n (pc := 187) dX12_acted_187 rfl (q := 1) rfl ?_
                    refine j_if_ne (tgt := 195) (pc := 188) hl1 dX12_acted_188 (by decide) (fun c184 => ?_) (fun c184 => ?_)
                    · skip
                      refine j_iload_n (pc := 191) dX12_acted_191 rfl (q := 2) rfl ?_
                      refine j_if_eq (tgt := 199) (pc := 192) hl2 dX12_acted_192 (by decide) (fun c185 => ?_) (fun c185 => ?_)
                      · skip
                        refine j_iconst (pc := 199) dX12_acted_199 ?_
                        refine j_callSi1 (pc := 200) (ct_X12_truth M 0 (jm_inL (by decide) (by decide))) kg_1608 km_X12_truth kg_1609 rfl rfl ⟨(Nat.le_of_ble_eq_true rfl), (Nat.le_of_ble_eq_true rfl)⟩ rfl rfl (Nat.le_of_ble_eq_true rfl) dX12_acted_200 (fun v186 M187 h188 => ?_)
                        exact j_iret (pc := 203) h188 rfl dX12_acted_203
                      · skip
                        refine j_iconst (pc := 195) dX12_acted_195 ?_
                        refine j_goto (tgt := 200) (pc := 196) dX12_acted_196 (by decide) ?_
                        refine j_callSi1 (pc := 200) (ct_X12_truth M 1 (jm_inL (by decide) (by decide))) kg_1608 km_X12_truth kg_1609 rfl rfl ⟨(Nat.le_of_ble_eq_true rfl), (Nat.le_of_ble_eq_true rfl)⟩ rfl rfl (Nat.le_of_ble_eq_true rfl) dX12_acted_200 (fun v189 M190 h191 => ?_)
                        exact j_iret (pc := 203) h191 rfl dX12_acted_203
                    · skip
                      refine j_iconst (pc := 195) dX12_acted_195 ?_
                      refine j_goto (tgt := 200) (pc := 196) dX12_acted_196 (by decide) ?_
                      refine j_callSi1 (pc := 200) (ct_X12_truth M 1 (jm_inL (by decide) (by decide))) kg_1608 km_X12_truth kg_1609 rfl rfl ⟨(Nat.le_of_ble_eq_true rfl), (Nat.le_of_ble_eq_true rfl)⟩ rfl rfl (Nat.le_of_ble_eq_true rfl) dX12_acted_200 (fun v192 M193 h194 => ?_)
                      exact j_iret (pc := 203) h194 rfl dX12_acted_203
                  · skip
                    refine j_tabIn (off := (186)) (tgt := 187) (pc := 1) 55 hl0 dX12_acted_1 c40x (by decide) (by decide) rfl (by decide) ?_
                    refine j_iload_n (pc := 187) dX12_acted_187 rfl (q := 1) rfl ?_
                    refine j_if_ne (tgt := 195) (pc := 188) hl1 dX12_acted_188 (by decide) (fun c195 => ?_) (fun c195 => ?_)
                    · skip
                      refine j_iload_n (pc := 191) dX12_acted_191 rfl (q := 2) rfl ?_
                      refine j_if_eq (tgt := 199) (pc := 192) hl2 dX12_acted_192 (by decide) (fun c196 => ?_) (fun c196 => ?_)
                      · skip
                        refine j_iconst (pc := 199) dX12_acted_199 ?_
                        refine j_callSi1 (pc := 200) (ct_X12_truth M 0 (jm_inL (by decide) (by decide))) kg_1608 km_X12_truth kg_1609 rfl rfl ⟨(Nat.le_of_ble_eq_true rfl), (Nat.le_of_ble_eq_true rfl)⟩ rfl rfl (Nat.le_of_ble_eq_true rfl) dX12_acted_200 (fun v197 M198 h199 => ?_)
                        exact j_iret (pc := 203) h199 rfl dX12_acted_203
                      · skip
                        refine j_iconst (pc := 195) dX12_acted_195 ?_
                        refine j_goto (tgt := 200) (pc := 196) dX12_acted_196 (by decide) ?_
                        refine j_callSi1 (pc := 200) (ct_X12_truth M 1 (jm_inL (by decide) (by decide))) kg_1608 km_X12_truth kg_1609 rfl rfl ⟨(Nat.le_of_ble_eq_true rfl), (Nat.le_of_ble_eq_true rfl)⟩ rfl rfl (Nat.le_of_ble_eq_true rfl) dX12_acted_200 (fun v200 M201 h202 => ?_)
                        exact j_iret (pc := 203) h202 rfl dX12_acted_203
                    · skip
                      refine j_iconst (pc := 195) dX12_acted_195 ?_
                      refine j_goto (tgt := 200) (pc := 196) dX12_acted_196 (by decide) ?_
                      refine j_callSi1 (pc := 200) (ct_X12_truth M 1 (jm_inL (by decide) (by decide))) kg_1608 km_X12_truth kg_1609 rfl rfl ⟨(Nat.le_of_ble_eq_true rfl), (Nat.le_of_ble_eq_true rfl)⟩ rfl rfl (Nat.le_of_ble_eq_true rfl) dX12_acted_200 (fun v203 M204 h205 => ?_)
                      exact j_iret (pc := 203) h205 rfl dX12_acted_203
                  · skip
                    refine j_tabIn (off := (186)) (tgt := 187) (pc := 1) 56 hl0 dX12_acted_1 c40x (by decide) (by decide) rfl (by decide) ?_
                    refine j_iload_n (pc := 187) dX12_acted_187 rfl (q := 1) rfl ?_
                    refine j_if_ne (tgt := 195) (pc := 188) hl1 dX12_acted_188 (by decide) (fun c206 => ?_) (fun c206 => ?_)
                    · skip
                      refine j_iload_n (pc := 191) dX12_acted_191 rfl (q := 2) rfl ?_
                      refine j_if_eq (tgt := 199) (pc := 192) hl2 dX12_acted_192 (by decide) (fun c207 => ?_) (fun c207 => ?_)
                      · skip
                        refine j_iconst (pc := 199) dX12_acted_199 ?_
                        refine j_callSi1 (pc := 200) (ct_X12_truth M 0 (jm_inL (by decide) (by decide))) kg_1608 km_X12_truth kg_1609 rfl rfl ⟨(Nat.le_of_ble_eq_true rfl), (Nat.le_of_ble_eq_true rfl)⟩ rfl rfl (Nat.le_of_ble_eq_true rfl) dX12_acted_200 (fun v208 M209 h210 => ?_)
                        exact j_iret (pc := 203) h210 rfl dX12_acted_203
                      · skip
                        refine j_iconst (pc := 195) dX12_acted_195 ?_
                        refine j_goto (tgt := 200) (pc := 196) dX12_acted_196 (by decide) ?_
                        refine j_callSi1 (pc := 200) (ct_X12_truth M 1 (jm_inL (by decide) (by decide))) kg_1608 km_X12_truth kg_1609 rfl rfl ⟨(Nat.le_of_ble_eq_true rfl), (Nat.le_of_ble_eq_true rfl)⟩ rfl rfl (Nat.le_of_ble_eq_true rfl) dX12_acted_200 (fun v211 M212 h213 => ?_)
                        exact j_iret (pc := 203) h213 rfl dX12_acted_203
                    · skip
                      refine j_iconst (pc := 195) dX12_acted_195 ?_
                      refine j_goto (tgt := 200) (pc := 196) dX12_acted_196 (by decide) ?_
                      refine j_callSi1 (pc := 200) (ct_X12_truth M 1 (jm_inL (by decide) (by decide))) kg_1608 km_X12_truth kg_1609 rfl rfl ⟨(Nat.le_of_ble_eq_true rfl), (Nat.le_of_ble_eq_true rfl)⟩ rfl rfl (Nat.le_of_ble_eq_true rfl) dX12_acted_200 (fun v214 M215 h216 => ?_)
                      exact j_iret (pc := 203) h216 rfl dX12_acted_203
                  · skip
                    refine j_tabIn (off := (186)) (tgt := 187) (pc := 1) 57 hl0 dX12_acted_1 c40x (by decide) (by decide) rfl (by decide) ?_
                    refine j_iload_n (pc := 187) dX12_acted_187 rfl (q := 1) rfl ?_
                    refine j_if_ne (tgt := 195) (pc := 188) hl1 dX12_acted_188 (by decide) (fun c217 => ?_) (fun c217 => ?_)
                    · skip
                      refine j_iload_n (pc := 191) dX12_acted_191 rfl (q := 2) rfl ?_
                      refine j_if_eq (tgt := 199) (pc := 192) hl2 dX12_acted_192 (by decide) (fun c218 => ?_) (fun c218 => ?_)
                      · skip
                        refine j_iconst (pc := 199) dX12_acted_199 ?_
                        refine j_callSi1 (pc := 200) (ct_X12_truth M 0 (jm_inL (by decide) (by decide))) kg_1608 km_X12_truth kg_1609 rfl rfl ⟨(Nat.le_of_ble_eq_true rfl), (Nat.le_of_ble_eq_true rfl)⟩ rfl rfl (Nat.le_of_ble_eq_true rfl) dX12_acted_200 (fun v219 M220 h221 => ?_)
                        exact j_iret (pc := 203) h221 rfl dX12_acted_203
                      · skip
                        refine j_iconst (pc := 195) dX12_acted_195 ?_
                        refine j_goto (tgt := 200) (pc := 196) dX12_acted_196 (by decide) ?_
                        refine j_callSi1 (pc := 200) (ct_X12_truth M 1 (jm_inL (by decide) (by decide))) kg_1608 km_X12_truth kg_1609 rfl rfl ⟨(Nat.le_of_ble_eq_true rfl), (Nat.le_of_ble_eq_true rfl)⟩ rfl rfl (Nat.le_of_ble_eq_true rfl) dX12_acted_200 (fun v222 M223 h224 => ?_)
                        exact j_iret (pc := 203) h224 rfl dX12_acted_203
                    · skip
                      refine j_iconst (pc := 195) dX12_acted_195 ?_
                      refine j_goto (tgt := 200) (pc := 196) dX12_acted_196 (by decide) ?_
                      refine j_callSi1 (pc := 200) (ct_X12_truth M 1 (jm_inL (by decide) (by decide))) kg_1608 km_X12_truth kg_1609 rfl rfl ⟨(Nat.le_of_ble_eq_true rfl), (Nat.le_of_ble_eq_true rfl)⟩ rfl rfl (Nat.le_of_ble_eq_true rfl) dX12_acted_200 (fun v225 M226 h227 => ?_)
                      exact j_iret (pc := 203) h227 rfl dX12_acted_203
                  · skip
                    refine j_tabIn (off := (186)) (tgt := 187) (pc := 1) 58 hl0 dX12_acted_1 c40x (by decide) (by decide) rfl (by decide) ?_
                    refine j_iload_n (pc := 187) dX12_acted_187 rfl (q := 1) rfl ?_
                    refine j_if_ne (tgt := 195) (pc := 188) hl1 dX12_acted_188 (by decide) (fun c228 => ?_) (fun c228 => ?_)
                    · skip
                      refine j_iload_n (pc := 191) dX12_acted_191 rfl (q := 2) rfl ?_
                      refine j_if_eq (tgt := 199) (pc := 192) hl2 dX12_acted_192 (by decide) (fun c229 => ?_) (fun c229 => ?_)
                      · skip
                        refine j_iconst (pc := 199) dX12_acted_199 ?_
                        refine j_callSi1 (pc := 200) (ct_X12_truth M 0 (jm_inL (by decide) (by decide))) kg_1608 km_X12_truth kg_1609 rfl rfl ⟨(Nat.le_of_ble_eq_true rfl), (Nat.le_of_ble_eq_true rfl)⟩ rfl rfl (Nat.le_of_ble_eq_true rfl) dX12_acted_200 (fun v230 M231 h232 => ?_)
                        exact j_iret (pc := 203) h232 rfl dX12_acted_203
                      · skip
                        refine j_iconst (pc := 195) dX12_acted_195 ?_
                        refine j_goto (tgt := 200) (pc := 196) dX12_acted_196 (by decide) ?_
                        refine j_callSi1 (pc := 200) (ct_X12_truth M 1 (jm_inL (by decide) (by decide))) kg_1608 km_X12_truth kg_1609 rfl rfl ⟨(Nat.le_of_ble_eq_true rfl), (Nat.le_of_ble_eq_true rfl)⟩ rfl rfl (Nat.le_of_ble_eq_true rfl) dX12_acted_200 (fun v233 M234 h235 => ?_)
                        exact j_iret (pc := 203) h235 rfl dX12_acted_203
                    · skip
                      refine j_iconst (pc := 195) dX12_acted_195 ?_
                      refine j_goto (tgt := 200) (pc := 196) dX12_acted_196 (by decide) ?_
                      refine j_callSi1 (pc := 200) (ct_X12_truth M 1 (jm_inL (by decide) (by decide))) kg_1608 km_X12_truth kg_1609 rfl rfl ⟨(Nat.le_of_ble_eq_true rfl), (Nat.le_of_ble_eq_true rfl)⟩ rfl rfl (Nat.le_of_ble_eq_true rfl) dX12_acted_200 (fun v236 M237 h238 => ?_)
                      exact j_iret (pc := 203) h238 rfl dX12_acted_203
                  · skip
                    refine j_tabIn (off := (186)) (tgt := 187) (pc := 1) 59 hl0 dX12_acted_1 c40x (by decide) (by decide) rfl (by decide) ?_
                    refine j_iload_n (pc := 187) dX12_acted_187 rfl (q := 1) rfl ?_
                    refine j_if_ne (tgt := 195) (pc := 188) hl1 dX12_acted_188 (by decide) (fun c239 => ?_) (fun c239 => ?_)
                    · skip
                      refine j_iload_n (pc := 191) dX12_acted_191 rfl (q := 2) rfl ?_
                      refine j_if_eq (tgt := 199) (pc := 192) hl2 dX12_acted_192 (by decide) (fun c240 => ?_) (fun c240 => ?_)
                      · skip
                        refine j_iconst (pc := 199) dX12_acted_199 ?_
                        refine j_callSi1 (pc := 200) (ct_X12_truth M 0 (jm_inL (by decide) (by decide))) kg_1608 km_X12_truth kg_1609 rfl rfl ⟨(Nat.le_of_ble_eq_true rfl), (Nat.le_of_ble_eq_true rfl)⟩ rfl rfl (Nat.le_of_ble_eq_true rfl) dX12_acted_200 (fun v241 M242 h243 => ?_)
                        exact j_iret (pc := 203) h243 rfl dX12_acted_203
                      · skip
                        refine j_iconst (pc := 195) dX12_acted_195 ?_
                        refine j_goto (tgt := 200) (pc := 196) dX12_acted_196 (by decide) ?_
                        refine j_callSi1 (pc := 200) (ct_X12_truth M 1 (jm_inL (by decide) (by decide))) kg_1608 km_X12_truth kg_1609 rfl rfl ⟨(Nat.le_of_ble_eq_true rfl), (Nat.le_of_ble_eq_true rfl)⟩ rfl rfl (Nat.le_of_ble_eq_true rfl) dX12_acted_200 (fun v244 M245 h246 => ?_)
                        exact j_iret (pc := 203) h246 rfl dX12_acted_203
                    · skip
                      refine j_iconst (pc := 195) dX12_acted_195 ?_
                      refine j_goto (tgt := 200) (pc := 196) dX12_acted_196 (by decide) ?_
                      refine j_callSi1 (pc := 200) (ct_X12_truth M 1 (jm_inL (by decide) (by decide))) kg_1608 km_X12_truth kg_1609 rfl rfl ⟨(Nat.le_of_ble_eq_true rfl), (Nat.le_of_ble_eq_true rfl)⟩ rfl rfl (Nat.le_of_ble_eq_true rfl) dX12_acted_200 (fun v247 M248 h249 => ?_)
                      exact j_iret (pc := 203) h249 rfl dX12_acted_203
abbrev rmX12_gives : Room := { frames := 2, cells := 0, slots := 0, locals := 42 }
set_option maxHeartbeats 4000000 in
set_option maxRecDepth 100000 in
theorem b0X12_gives_5 (X : jm_X) (fu : Nat) (k5 : jm_M → Int → Int → Int → jm_R) (hk5 : ∀ (M : jm_M) (l2 l3 l4 : Int) (hl2 : jm_in l2) (hl3 : jm_in l3) (hl4 : jm_in l4), jm_J wd2 (jm_qi .int) cX12_gives 6 RX12 rmX12_gives X M [(0, jm_vr wd2 X 0 0), (2, jm_i l2), (3, jm_i l3), (4, jm_i l4)] [] 5 (k5 M l2 l3 l4)) : ∀ (M : jm_M) (l2 l3 l4 : Int) (hl2 : jm_in l2) (hl3 : jm_in l3) (hl4 : jm_in l4), jm_J wd2 (jm_qi .int) cX12_gives 6 RX12 rmX12_gives X M [(0, jm_vr wd2 X 0 0), (2, jm_i l2), (3, jm_i l3), (4, jm_i l4)] [] 5 (gX12_gives_5 fu k5 M l2 l3 l4) := by
  intro M l2 l3 l4 hl2 hl3 hl4
  unfold gX12_gives_5
  refine j_iload (pc := 5) dX12_gives_5 (q := 3) rfl ?_
  refine j_iload_n (pc := 7) dX12_gives_7 rfl (q := 1) rfl ?_
  refine j_icmp_ge (tgt := 190) (pc := 8) hl4 hl2 dX12_gives_8 (by decide) (fun c1 => ?_) (fun c1 => ?_)
  · skip
    refine j_aload_n (pc := 190) dX12_gives_190 rfl (q := 0) rfl ?_
    refine j_iload (pc := 191) dX12_gives_191 (q := 3) rfl ?_
    refine j_put (pc := 193) jv2_0 jm_01 kf_RX12_306 wI2 kp_X12_47 kx2_0_47 hl4 rfl rfl dX12_gives_193 (fun M2 => ?_)
    refine j_aload_n (pc := 196) dX12_gives_196 rfl (q := 0) rfl ?_
    refine j_getr (pc := 197) jv2_0 jm_01 kf_RX12_296 0 kg2_0_46 rfl dX12_gives_197 ?_
    refine j_iconst (pc := 200) dX12_gives_200 ?_
    refine j_iald (pc := 201) jv2_37 jm_01 rfl (by decide) ka2_37 dX12_gives_201 (fun c3 h4 => ?_)
    exact j_iret (pc := 202) h4 rfl dX12_gives_202
  · skip
    refine j_aload_n (pc := 11) dX12_gives_11 rfl (q := 0) rfl ?_
    refine j_getr (pc := 12) jv2_0 jm_01 kf_RX12_202 0 kg2_0_44 rfl dX12_gives_12 ?_
    refine j_iload (pc := 15) dX12_gives_15 (q := 3) rfl ?_
    refine j_iald (pc := 17) jv2_35 jm_01 rfl (by decide) ka2_35 dX12_gives_17 (fun c5 h6 => ?_)
    refine j_sipush (pc := 18) (-300) dX12_gives_18 (by decide) ?_
    refine j_icmp_eq (tgt := 190) (pc := 21) h6 (jm_inL (by decide) (by decide)) dX12_gives_21 (by decide) (fun c7 => ?_) (fun c7 => ?_)
    · skip
      refine j_aload_n (pc := 190) dX12_gives_190 rfl (q := 0) rfl ?_
      refine j_iload (pc := 191) dX12_gives_191 (q := 3) rfl ?_
      refine j_put (pc := 193) jv2_0 jm_01 kf_RX12_306 wI2 kp_X12_47 kx2_0_47 hl4 rfl rfl dX12_gives_193 (fun M8 => ?_)
      refine j_aload_n (pc := 196) dX12_gives_196 rfl (q := 0) rfl ?_
      refine j_getr (pc := 197) jv2_0 jm_01 kf_RX12_296 0 kg2_0_46 rfl dX12_gives_197 ?_
      refine j_iconst (pc := 200) dX12_gives_200 ?_
      refine j_iald (pc := 201) jv2_37 jm_01 rfl (by decide) ka2_37 dX12_gives_201 (fun c9 h10 => ?_)
      exact j_iret (pc := 202) h10 rfl dX12_gives_202
    · skip
      refine j_aload_n (pc := 24) dX12_gives_24 rfl (q := 0) rfl ?_
      refine j_getr (pc := 25) jv2_0 jm_01 kf_RX12_202 0 kg2_0_44 rfl dX12_gives_25 ?_
      refine j_iload (pc := 28) dX12_gives_28 (q := 3) rfl ?_
      refine j_iald (pc := 30) jv2_35 jm_01 rfl (by decide) ka2_35 dX12_gives_30 (fun c11 h12 => ?_)
      refine j_nm (pc := 31) h12 (fun v13 h14 => ?_)
      refine j_istore (pc := 31) [(5, jm_i v13), (0, jm_vr wd2 X 0 0), (2, jm_i l2), (3, jm_i l3), (4, jm_i l4)] dX12_gives_31 (by decide) rfl ?_
      refine j_iload (pc := 33) dX12_gives_33 (q := 0) rfl ?_
      refine j_if_lt (tgt := 52) (pc := 35) h14 dX12_gives_35 (by decide) (fun c15 => ?_) (fun c15 => ?_)
      · skip
        refine j_iload (pc := 52) dX12_gives_52 (q := 0) rfl ?_
        refine j_bipush (pc := 54) (-13) dX12_gives_54 (by decide) ?_
        refine j_icmp_lt (tgt := 80) (pc := 56) h14 (jm_inL (by decide) (by decide)) dX12_gives_56 (by decide) (fun c16 => ?_) (fun c16 => ?_)
        · skip
          refine j_iload (pc := 80) dX12_gives_80 (q := 0) rfl ?_
          refine j_bipush (pc := 82) 33 dX12_gives_82 (by decide) ?_
          refine j_callSi1 (pc := 84) (ct_X12_act M 33 (jm_inL (by decide) (by decide))) kg_1518 km_X12_act kg_1519 rfl rfl ⟨(Nat.le_of_ble_eq_true rfl), (Nat.le_of_ble_eq_true rfl)⟩ rfl rfl (Nat.le_of_ble_eq_true rfl) dX12_gives_84 (fun v17 M18 h19 => ?_)
          refine j_icmp_ne (tgt := 120) (pc := 87) h14 h19 dX12_gives_87 (by decide) (fun c20 => ?_) (fun c20 => ?_)
          · skip
            refine j_aload_n (pc := 90) dX12_gives_90 rfl (q := 1) rfl ?_
            refine j_getr (pc := 91) jv2_0 jm_01 kf_RX12_296 0 kg2_0_46 rfl dX12_gives_91 ?_
            refine j_iload_n (pc := 94) dX12_gives_94 rfl (q := 3) rfl ?_
            refine j_iconst (pc := 95) dX12_gives_95 ?_
            refine j_isub (pc := 96) dX12_gives_96 ?_
            refine j_aload_n (pc := 97) dX12_gives_97 rfl (q := 1) rfl ?_
            refine j_getr (pc := 98) jv2_0 jm_01 kf_RX12_296 0 kg2_0_46 rfl dX12_gives_98 ?_
            refine j_iload_n (pc := 101) dX12_gives_101 rfl (q := 3) rfl ?_
            refine j_iconst (pc := 102) dX12_gives_102 ?_
            refine j_isub (pc := 103) dX12_gives_103 ?_
            refine j_iald (pc := 104) jv2_37 jm_01 rfl (by decide) ka2_37 dX12_gives_104 (fun c21 h22 => ?_)
            refine j_if_ne (tgt := 112) (pc := 105) h22 dX12_gives_105 (by decide) (fun c23 => ?_) (fun c23 => ?_)
            · skip
              refine j_iconst (pc := 108) dX12_gives_108 ?_
              refine j_goto (tgt := 113) (pc := 109) dX12_gives_109 (by decide) ?_
              refine j_callSi1 (pc := 113) (ct_X12_truth M18 1 (jm_inL (by decide) (by decide))) kg_1608 km_X12_truth kg_1609 rfl rfl ⟨(Nat.le_of_ble_eq_true rfl), (Nat.le_of_ble_eq_true rfl)⟩ rfl rfl (Nat.le_of_ble_eq_true rfl) dX12_gives_113 (fun v24 M25 h26 => ?_)
              refine j_iast (pc := 116) jv2_37 jm_01 rfl (by decide) wI2 ka2_37 h26 dX12_gives_116 (fun c27 M28 => ?_)
              refine j_goto (tgt := 184) (pc := 117) dX12_gives_117 (by decide) ?_
              refine j_iinc (pc := 184) [(5, jm_i v13), (0, jm_vr wd2 X 0 0), (2, jm_i l2), (3, jm_i l3)] (q := 4) dX12_gives_184 rfl (by decide) (fun _ => rfl) (fun v29 h30 => ?_)
              refine j_goto (tgt := 5) (pc := 187) dX12_gives_187 (by decide) ?_
              refine j_sub (pc := 5) [(0, jm_vr wd2 X 0 0), (2, jm_i l2), (3, jm_i l3), (4, jm_i v29)] [2, 3, 4, 0] rfl ?_
              exact hk5 M28 l2 l3 v29 hl2 hl3 h30
            · skip
              refine j_iconst (pc := 112) dX12_gives_112 ?_
              refine j_callSi1 (pc := 113) (ct_X12_truth M18 0 (jm_inL (by decide) (by decide))) kg_1608 km_X12_truth kg_1609 rfl rfl ⟨(Nat.le_of_ble_eq_true rfl), (Nat.le_of_ble_eq_true rfl)⟩ rfl rfl (Nat.le_of_ble_eq_true rfl) dX12_gives_113 (fun v31 M32 h33 => ?_)
              refine j_iast (pc := 116) jv2_37 jm_01 rfl (by decide) wI2 ka2_37 h33 dX12_gives_116 (fun c34 M35 => ?_)
              refine j_goto (tgt := 184) (pc := 117) dX12_gives_117 (by decide) ?_
              refine j_iinc (pc := 184) [(5, jm_i v13), (0, jm_vr wd2 X 0 0), (2, jm_i l2), (3, jm_i l3)] (q := 4) dX12_gives_184 rfl (by decide) (fun _ => rfl) (fun v36 h37 => ?_)
              refine j_goto (tgt := 5) (pc := 187) dX12_gives_187 (by decide) ?_
              refine j_sub (pc := 5) [(0, jm_vr wd2 X 0 0), (2, jm_i l2), (3, jm_i l3), (4, jm_i v36)] [2, 3, 4, 0] rfl ?_
              exact hk5 M35 l2 l3 v36 hl2 hl3 h37
          · skip
            refine j_iload (pc := 120) dX12_gives_120 (q := 0) rfl ?_
            refine j_bipush (pc := 122) 126 dX12_gives_122 (by decide) ?_
            refine j_callSi1 (pc := 124) (ct_X12_act M18 126 (jm_inL (by decide) (by decide))) kg_1518 km_X12_act kg_1519 rfl rfl ⟨(Nat.le_of_ble_eq_true rfl), (Nat.le_of_ble_eq_true rfl)⟩ rfl rfl (Nat.le_of_ble_eq_true rfl) dX12_gives_124 (fun v38 M39 h40 => ?_)
            refine j_icmp_ne (tgt := 150) (pc := 127) h14 h40 dX12_gives_127 (by decide) (fun c41 => ?_) (fun c41 => ?_)
            · skip
              refine j_aload_n (pc := 130) dX12_gives_130 rfl (q := 1) rfl ?_
              refine j_getr (pc := 131) jv2_0 jm_01 kf_RX12_296 0 kg2_0_46 rfl dX12_gives_131 ?_
              refine j_iload_n (pc := 134) dX12_gives_134 rfl (q := 3) rfl ?_
              refine j_iconst (pc := 135) dX12_gives_135 ?_
              refine j_isub (pc := 136) dX12_gives_136 ?_
              refine j_aload_n (pc := 137) dX12_gives_137 rfl (q := 1) rfl ?_
              refine j_getr (pc := 138) jv2_0 jm_01 kf_RX12_296 0 kg2_0_46 rfl dX12_gives_138 ?_
              refine j_iload_n (pc := 141) dX12_gives_141 rfl (q := 3) rfl ?_
              refine j_iconst (pc := 142) dX12_gives_142 ?_
              refine j_isub (pc := 143) dX12_gives_143 ?_
              refine j_iald (pc := 144) jv2_37 jm_01 rfl (by decide) ka2_37 dX12_gives_144 (fun c42 h43 => ?_)
              refine j_ineg (pc := 145) dX12_gives_145 ?_
              refine j_iast (pc := 146) jv2_37 jm_01 rfl (by decide) wI2 ka2_37 (jm_w_in _) dX12_gives_146 (fun c44 M45 => ?_)
              refine j_goto (tgt := 184) (pc := 147) dX12_gives_147 (by decide) ?_
              refine j_iinc (pc := 184) [(5, jm_i v13), (0, jm_vr wd2 X 0 0), (2, jm_i l2), (3, jm_i l3)] (q := 4) dX12_gives_184 rfl (by decide) (fun _ => rfl) (fun v46 h47 => ?_)
              refine j_goto (tgt := 5) (pc := 187) dX12_gives_187 (by decide) ?_
              refine j_sub (pc := 5) [(0, jm_vr wd2 X 0 0), (2, jm_i l2), (3, jm_i l3), (4, jm_i v46)] [2, 3, 4, 0] rfl ?_
              exact hk5 M45 l2 l3 v46 hl2 hl3 h47
            · skip
              refine j_iinc (pc := 150) [(5, jm_i v13), (0, jm_vr wd2 X 0 0), (2, jm_i l2), (4, jm_i l4)] (q := 3) dX12_gives_150 rfl (by decide) (fun _ => rfl) (fun v48 h49 => ?_)
              refine j_aload_n (pc := 153) dX12_gives_153 rfl (q := 2) rfl ?_
              refine j_getr (pc := 154) jv2_0 jm_01 kf_RX12_296 0 kg2_0_46 rfl dX12_gives_154 ?_
              refine j_iload_n (pc := 157) dX12_gives_157 rfl (q := 0) rfl ?_
              refine j_iconst (pc := 158) dX12_gives_158 ?_
              refine j_isub (pc := 159) dX12_gives_159 ?_
              refine j_iload (pc := 160) dX12_gives_160 (q := 1) rfl ?_
              refine j_sipush (pc := 162) 200 dX12_gives_162 (by decide) ?_
              refine j_iadd (pc := 165) dX12_gives_165 ?_
              refine j_aload_n (pc := 166) dX12_gives_166 rfl (q := 2) rfl ?_
              refine j_getr (pc := 167) jv2_0 jm_01 kf_RX12_296 0 kg2_0_46 rfl dX12_gives_167 ?_
              refine j_iload_n (pc := 170) dX12_gives_170 rfl (q := 0) rfl ?_
              refine j_iconst (pc := 171) dX12_gives_171 ?_
              refine j_isub (pc := 172) dX12_gives_172 ?_
              refine j_iald (pc := 173) jv2_37 jm_01 rfl (by decide) ka2_37 dX12_gives_173 (fun c50 h51 => ?_)
              refine j_aload_n (pc := 174) dX12_gives_174 rfl (q := 2) rfl ?_
              refine j_getr (pc := 175) jv2_0 jm_01 kf_RX12_296 0 kg2_0_46 rfl dX12_gives_175 ?_
              refine j_iload_n (pc := 178) dX12_gives_178 rfl (q := 0) rfl ?_
              refine j_iald (pc := 179) jv2_37 jm_01 rfl (by decide) ka2_37 dX12_gives_179 (fun c52 h53 => ?_)
              refine j_callSi3 (pc := 180) (ct_X12_acted M39 (jm_w (v13 + 200)) (M39 37 0 (jm_w (v48 - 1))) (M39 37 0 v48) (jm_w_in _) h51 h53) kg_1615 km_X12_acted kg_1616 rfl rfl ⟨(Nat.le_of_ble_eq_true rfl), (Nat.le_of_ble_eq_true rfl)⟩ rfl rfl (Nat.le_of_ble_eq_true rfl) dX12_gives_180 (fun v54 M55 h56 => ?_)
              refine j_iast (pc := 183) jv2_37 jm_01 rfl (by decide) wI2 ka2_37 h56 dX12_gives_183 (fun c57 M58 => ?_)
              refine j_iinc (pc := 184) [(3, jm_i v48), (5, jm_i v13), (0, jm_vr wd2 X 0 0), (2, jm_i l2)] (q := 4) dX12_gives_184 rfl (by decide) (fun _ => rfl) (fun v59 h60 => ?_)
              refine j_goto (tgt := 5) (pc := 187) dX12_gives_187 (by decide) ?_
              refine j_sub (pc := 5) [(0, jm_vr wd2 X 0 0), (2, jm_i l2), (3, jm_i v48), (4, jm_i v59)] [3, 4, 1, 0] rfl ?_
              exact hk5 M58 l2 v48 v59 hl2 h49 h60
        · skip
          refine j_aload_n (pc := 59) dX12_gives_59 rfl (q := 1) rfl ?_
          refine j_getr (pc := 60) jv2_0 jm_01 kf_RX12_296 0 kg2_0_46 rfl dX12_gives_60 ?_
          refine j_iload_n (pc := 63) dX12_gives_63 rfl (q := 3) rfl ?_
          refine j_aload_n (pc := 64) dX12_gives_64 rfl (q := 1) rfl ?_
          refine j_getr (pc := 65) jv2_0 jm_01 kf_RX12_299 0 kg2_0_48 rfl dX12_gives_65 ?_
          refine j_iconst (pc := 68) dX12_gives_68 ?_
          refine j_iload (pc := 69) dX12_gives_69 (q := 0) rfl ?_
          refine j_isub (pc := 71) dX12_gives_71 ?_
          refine j_iald (pc := 72) jv2_38 jm_01 rfl (by decide) ka2_38 dX12_gives_72 (fun c61 h62 => ?_)
          refine j_iast (pc := 73) jv2_37 jm_01 rfl (by decide) wI2 ka2_37 h62 dX12_gives_73 (fun c63 M64 => ?_)
          refine j_iinc (pc := 74) [(5, jm_i v13), (0, jm_vr wd2 X 0 0), (2, jm_i l2), (4, jm_i l4)] (q := 3) dX12_gives_74 rfl (by decide) (fun _ => rfl) (fun v65 h66 => ?_)
          refine j_goto (tgt := 184) (pc := 77) dX12_gives_77 (by decide) ?_
          refine j_iinc (pc := 184) [(3, jm_i v65), (5, jm_i v13), (0, jm_vr wd2 X 0 0), (2, jm_i l2)] (q := 4) dX12_gives_184 rfl (by decide) (fun _ => rfl) (fun v67 h68 => ?_)
          refine j_goto (tgt := 5) (pc := 187) dX12_gives_187 (by decide) ?_
          refine j_sub (pc := 5) [(0, jm_vr wd2 X 0 0), (2, jm_i l2), (3, jm_i v65), (4, jm_i v67)] [3, 4, 1, 0] rfl ?_
          exact hk5 M64 l2 v65 v67 hl2 h66 h68
      · skip
        refine j_aload_n (pc := 38) dX12_gives_38 rfl (q := 1) rfl ?_
        refine j_getr (pc := 39) jv2_0 jm_01 kf_RX12_296 0 kg2_0_46 rfl dX12_gives_39 ?_
        refine j_iload_n (pc := 42) dX12_gives_42 rfl (q := 3) rfl ?_
        refine j_iload (pc := 43) dX12_gives_43 (q := 0) rfl ?_
        refine j_iast (pc := 45) jv2_37 jm_01 rfl (by decide) wI2 ka2_37 h14 dX12_gives_45 (fun c69 M70 => ?_)
        refine j_iinc (pc := 46) [(5, jm_i v13), (0, jm_vr wd2 X 0 0), (2, jm_i l2), (4, jm_i l4)] (q := 3) dX12_gives_46 rfl (by decide) (fun _ => rfl) (fun v71 h72 => ?_)
        refine j_goto (tgt := 184) (pc := 49) dX12_gives_49 (by decide) ?_
        refine j_iinc (pc := 184) [(3, jm_i v71), (5, jm_i v13), (0, jm_vr wd2 X 0 0), (2, jm_i l2)] (q := 4) dX12_gives_184 rfl (by decide) (fun _ => rfl) (fun v73 h74 => ?_)
        refine j_goto (tgt := 5) (pc := 187) dX12_gives_187 (by decide) ?_
        refine j_sub (pc := 5) [(0, jm_vr wd2 X 0 0), (2, jm_i l2), (3, jm_i v71), (4, jm_i v73)] [3, 4, 1, 0] rfl ?_
        exact hk5 M70 l2 v71 v73 hl2 h72 h74
theorem bX12_gives_5 (X : jm_X) (fu : Nat) : ∀ (n : Nat) (M : jm_M) (l2 l3 l4 : Int) (hl2 : jm_in l2) (hl3 : jm_in l3) (hl4 : jm_in l4), jm_J wd2 (jm_qi .int) cX12_gives 6 RX12 rmX12_gives X M [(0, jm_vr wd2 X 0 0), (2, jm_i l2), (3, jm_i l3), (4, jm_i l4)] [] 5 (fX12_gives_5 fu n M l2 l3 l4) := by
  intro n
  induction n with
  | zero => intro M l2 l3 l4 hl2 hl3 hl4; exact j_none
  | succ n ih => intro M l2 l3 l4 hl2 hl3 hl4; exact b0X12_gives_5 X fu (fX12_gives_5 fu n) ih M l2 l3 l4 hl2 hl3 hl4
set_option maxHeartbeats 4000000 in
set_option maxRecDepth 100000 in
theorem ct_X12_gives (fu : Nat) (M : jm_M) (l1 l2 : Int) (hl1 : jm_in l1) (hl2 : jm_in l2) : jm_Ci wd2 yX12_gives cX12_gives 6 (some .int) rmX12_gives M (fun G ad => [.ref (ad (jm_r wd2 0 0)), jm_i l1, jm_i l2]) (fX12_gives fu M l1 l2) := by
  refine jm_met_i (fun X => [(0, jm_vr wd2 X 0 0), (1, jm_i l1), (2, jm_i l2)]) (by decide) (fun _ _ => (Nat.le_of_ble_eq_true rfl)) (fun _ => rfl) (fun X => ?_)
  unfold fX12_gives
  refine j_iconst (pc := 0) dX12_gives_0 ?_
  refine j_istore_n (pc := 1) [(3, jm_i 0), (0, jm_vr wd2 X 0 0), (1, jm_i l1), (2, jm_i l2)] dX12_gives_1 rfl (by decide) rfl ?_
  refine j_iload_n (pc := 2) dX12_gives_2 rfl (q := 2) rfl ?_
  refine j_istore (pc := 3) [(4, jm_i l1), (3, jm_i 0), (0, jm_vr wd2 X 0 0), (1, jm_i l1), (2, jm_i l2)] dX12_gives_3 (by decide) rfl ?_
  refine j_sub (pc := 5) [(0, jm_vr wd2 X 0 0), (2, jm_i l2), (3, jm_i 0), (4, jm_i l1)] [2, 4, 1, 0] rfl ?_
  exact bX12_gives_5 X fu  fu M l2 0 l1 hl2 (jm_inL (by decide) (by decide)) hl1
abbrev rmX12_asks : Room := { frames := 3, cells := 0, slots := 0, locals := 67 }
set_option maxHeartbeats 4000000 in
set_option maxRecDepth 100000 in
theorem bX12_asks_156 (X : jm_X) (fu : Nat) (k27 : jm_M → Int → Int → Int → Int → Int → jm_R) (k64 : jm_M → Int → Int → Int → Int → Int → Int → Int → jm_R) (hk27 : ∀ (M : jm_M) (l1 l2 l4 l5 l6 : Int) (hl1 : jm_in l1) (hl2 : jm_in l2) (hl4 : jm_in l4) (hl5 : jm_in l5) (hl6 : jm_in l6), jm_J wd2 (jm_qi .int) cX12_asks 10 RX12 rmX12_asks X M [(0, jm_vr wd2 X 0 0), (1, jm_i l1), (2, jm_i l2), (4, jm_i l4), (5, jm_i l5), (6, jm_i l6)] [] 27 (k27 M l1 l2 l4 l5 l6)) (hk64 : ∀ (M : jm_M) (l1 l2 l4 l5 l6 l7 l8 : Int) (hl1 : jm_in l1) (hl2 : jm_in l2) (hl4 : jm_in l4) (hl5 : jm_in l5) (hl6 : jm_in l6) (hl7 : jm_in l7) (hl8 : jm_in l8), jm_J wd2 (jm_qi .int) cX12_asks 10 RX12 rmX12_asks X M [(0, jm_vr wd2 X 0 0), (1, jm_i l1), (2, jm_i l2), (4, jm_i l4), (5, jm_i l5), (6, jm_i l6), (7, jm_i l7), (8, jm_i l8)] [] 64 (k64 M l1 l2 l4 l5 l6 l7 l8)) : ∀ (M : jm_M) (l1 l2 l4 l5 l6 l7 l8 l9 s0 s1 : Int) (hl1 : jm_in l1) (hl2 : jm_in l2) (hl4 : jm_in l4) (hl5 : jm_in l5) (hl6 : jm_in l6) (hl7 : jm_in l7) (hl8 : jm_in l8) (hl9 : jm_in l9) (hs0 : jm_in s0) (hs1 : jm_in s1), jm_J wd2 (jm_qi .int) cX12_asks 10 RX12 rmX12_asks X M [(0, jm_vr wd2 X 0 0), (1, jm_i l1), (2, jm_i l2), (4, jm_i l4), (5, jm_i l5), (6, jm_i l6), (7, jm_i l7), (8, jm_i l8), (9, jm_i l9)] [jm_i s0, jm_i s1, jm_vr wd2 X 47 0] 156 (gX12_asks_156 fu k27 k64 M l1 l2 l4 l5 l6 l7 l8 l9 s0 s1) := by
  intro M l1 l2 l4 l5 l6 l7 l8 l9 s0 s1 hl1 hl2 hl4 hl5 hl6 hl7 hl8 hl9 hs0 hs1
  unfold gX12_asks_156
  refine j_iast (pc := 156) jv2_47 jm_01 rfl (by decide) wI2 ka2_47 hs0 dX12_asks_156 (fun c1 M2 => ?_)
  refine j_aload_n (pc := 157) dX12_asks_157 rfl (q := 0) rfl ?_
  refine j_getr (pc := 158) jv2_0 jm_01 kf_RX12_339 0 kg2_0_58 rfl dX12_asks_158 ?_
  refine j_iload_n (pc := 161) dX12_asks_161 rfl (q := 1) rfl ?_
  refine j_iload (pc := 162) dX12_asks_162 (q := 8) rfl ?_
  refine j_bipush (pc := 164) 103 dX12_asks_164 (by decide) ?_
  refine j_icmp_ne (tgt := 173) (pc := 166) hl9 (jm_inL (by decide) (by decide)) dX12_asks_166 (by decide) (fun c3 => ?_) (fun c3 => ?_)
  · skip
    refine j_iconst (pc := 169) dX12_asks_169 ?_
    refine j_goto (tgt := 190) (pc := 170) dX12_asks_170 (by decide) ?_
    refine j_iast (pc := 190) jv2_48 jm_01 rfl (by decide) wI2 ka2_48 (jm_inL (by decide) (by decide)) dX12_asks_190 (fun c4 M5 => ?_)
    refine j_iinc (pc := 191) [(0, jm_vr wd2 X 0 0), (1, jm_i l1), (2, jm_i l2), (5, jm_i l5), (6, jm_i l6), (7, jm_i l7), (8, jm_i l8), (9, jm_i l9)] (q := 3) dX12_asks_191 rfl (by decide) (fun _ => rfl) (fun v6 h7 => ?_)
    refine j_goto (tgt := 64) (pc := 194) dX12_asks_194 (by decide) ?_
    refine j_sub (pc := 64) [(0, jm_vr wd2 X 0 0), (1, jm_i l1), (2, jm_i l2), (4, jm_i v6), (5, jm_i l5), (6, jm_i l6), (7, jm_i l7), (8, jm_i l8)] [1, 2, 3, 0, 4, 5, 6, 7] rfl ?_
    exact hk64 M5 l1 l2 v6 l5 l6 l7 l8 hl1 hl2 h7 hl5 hl6 hl7 hl8
  · skip
    refine j_iload (pc := 173) dX12_asks_173 (q := 8) rfl ?_
    refine j_bipush (pc := 175) 104 dX12_asks_175 (by decide) ?_
    refine j_icmp_ne (tgt := 184) (pc := 177) hl9 (jm_inL (by decide) (by decide)) dX12_asks_177 (by decide) (fun c8 => ?_) (fun c8 => ?_)
    · skip
      refine j_iconst (pc := 180) dX12_asks_180 ?_
      refine j_goto (tgt := 190) (pc := 181) dX12_asks_181 (by decide) ?_
      refine j_iast (pc := 190) jv2_48 jm_01 rfl (by decide) wI2 ka2_48 (jm_inL (by decide) (by decide)) dX12_asks_190 (fun c9 M10 => ?_)
      refine j_iinc (pc := 191) [(0, jm_vr wd2 X 0 0), (1, jm_i l1), (2, jm_i l2), (5, jm_i l5), (6, jm_i l6), (7, jm_i l7), (8, jm_i l8), (9, jm_i l9)] (q := 3) dX12_asks_191 rfl (by decide) (fun _ => rfl) (fun v11 h12 => ?_)
      refine j_goto (tgt := 64) (pc := 194) dX12_asks_194 (by decide) ?_
      refine j_sub (pc := 64) [(0, jm_vr wd2 X 0 0), (1, jm_i l1), (2, jm_i l2), (4, jm_i v11), (5, jm_i l5), (6, jm_i l6), (7, jm_i l7), (8, jm_i l8)] [1, 2, 3, 0, 4, 5, 6, 7] rfl ?_
      exact hk64 M10 l1 l2 v11 l5 l6 l7 l8 hl1 hl2 h12 hl5 hl6 hl7 hl8
    · skip
      refine j_aload_n (pc := 184) dX12_asks_184 rfl (q := 0) rfl ?_
      refine j_getr (pc := 185) jv2_0 jm_01 kf_RX12_339 0 kg2_0_58 rfl dX12_asks_185 ?_
      refine j_iload_n (pc := 188) dX12_asks_188 rfl (q := 1) rfl ?_
      refine j_iald (pc := 189) jv2_48 jm_01 rfl (by decide) ka2_48 dX12_asks_189 (fun c13 h14 => ?_)
      refine j_iast (pc := 190) jv2_48 jm_01 rfl (by decide) wI2 ka2_48 h14 dX12_asks_190 (fun c15 M16 => ?_)
      refine j_iinc (pc := 191) [(0, jm_vr wd2 X 0 0), (1, jm_i l1), (2, jm_i l2), (5, jm_i l5), (6, jm_i l6), (7, jm_i l7), (8, jm_i l8), (9, jm_i l9)] (q := 3) dX12_asks_191 rfl (by decide) (fun _ => rfl) (fun v17 h18 => ?_)
      refine j_goto (tgt := 64) (pc := 194) dX12_asks_194 (by decide) ?_
      refine j_sub (pc := 64) [(0, jm_vr wd2 X 0 0), (1, jm_i l1), (2, jm_i l2), (4, jm_i v17), (5, jm_i l5), (6, jm_i l6), (7, jm_i l7), (8, jm_i l8)] [1, 2, 3, 0, 4, 5, 6, 7] rfl ?_
      exact hk64 M16 l1 l2 v17 l5 l6 l7 l8 hl1 hl2 h18 hl5 hl6 hl7 hl8
set_option maxHeartbeats 4000000 in
set_option maxRecDepth 100000 in
theorem bX12_asks_110 (X : jm_X) (fu : Nat) (k27 : jm_M → Int → Int → Int → Int → Int → jm_R) (k64 : jm_M → Int → Int → Int → Int → Int → Int → Int → jm_R) (hk27 : ∀ (M : jm_M) (l1 l2 l4 l5 l6 : Int) (hl1 : jm_in l1) (hl2 : jm_in l2) (hl4 : jm_in l4) (hl5 : jm_in l5) (hl6 : jm_in l6), jm_J wd2 (jm_qi .int) cX12_asks 10 RX12 rmX12_asks X M [(0, jm_vr wd2 X 0 0), (1, jm_i l1), (2, jm_i l2), (4, jm_i l4), (5, jm_i l5), (6, jm_i l6)] [] 27 (k27 M l1 l2 l4 l5 l6)) (hk64 : ∀ (M : jm_M) (l1 l2 l4 l5 l6 l7 l8 : Int) (hl1 : jm_in l1) (hl2 : jm_in l2) (hl4 : jm_in l4) (hl5 : jm_in l5) (hl6 : jm_in l6) (hl7 : jm_in l7) (hl8 : jm_in l8), jm_J wd2 (jm_qi .int) cX12_asks 10 RX12 rmX12_asks X M [(0, jm_vr wd2 X 0 0), (1, jm_i l1), (2, jm_i l2), (4, jm_i l4), (5, jm_i l5), (6, jm_i l6), (7, jm_i l7), (8, jm_i l8)] [] 64 (k64 M l1 l2 l4 l5 l6 l7 l8)) : ∀ (M : jm_M) (l1 l2 l4 l5 l6 l7 l9 s0 : Int) (hl1 : jm_in l1) (hl2 : jm_in l2) (hl4 : jm_in l4) (hl5 : jm_in l5) (hl6 : jm_in l6) (hl7 : jm_in l7) (hl9 : jm_in l9) (hs0 : jm_in s0), jm_J wd2 (jm_qi .int) cX12_asks 10 RX12 rmX12_asks X M [(0, jm_vr wd2 X 0 0), (1, jm_i l1), (2, jm_i l2), (4, jm_i l4), (5, jm_i l5), (6, jm_i l6), (7, jm_i l7), (9, jm_i l9)] [jm_i s0] 110 (gX12_asks_110 fu k27 k64 M l1 l2 l4 l5 l6 l7 l9 s0) := by
  intro M l1 l2 l4 l5 l6 l7 l9 s0 hl1 hl2 hl4 hl5 hl6 hl7 hl9 hs0
  unfold gX12_asks_110
  refine j_istore (pc := 110) [(8, jm_i s0), (0, jm_vr wd2 X 0 0), (1, jm_i l1), (2, jm_i l2), (4, jm_i l4), (5, jm_i l5), (6, jm_i l6), (7, jm_i l7), (9, jm_i l9)] dX12_asks_110 (by decide) rfl ?_
  refine j_aload_n (pc := 112) dX12_asks_112 rfl (q := 1) rfl ?_
  refine j_getr (pc := 113) jv2_0 jm_01 kf_RX12_336 0 kg2_0_57 rfl dX12_asks_113 ?_
  refine j_iload_n (pc := 116) dX12_asks_116 rfl (q := 2) rfl ?_
  refine j_iload (pc := 117) dX12_asks_117 (q := 8) rfl ?_
  refine j_bipush (pc := 119) 43 dX12_asks_119 (by decide) ?_
  refine j_icmp_ne (tgt := 128) (pc := 121) hl9 (jm_inL (by decide) (by decide)) dX12_asks_121 (by decide) (fun c1 => ?_) (fun c1 => ?_)
  · skip
    refine j_iconst (pc := 124) dX12_asks_124 ?_
    refine j_goto (tgt := 156) (pc := 125) dX12_asks_125 (by decide) ?_
    refine j_sub (pc := 156) [(0, jm_vr wd2 X 0 0), (1, jm_i l1), (2, jm_i l2), (4, jm_i l4), (5, jm_i l5), (6, jm_i l6), (7, jm_i l7), (8, jm_i s0), (9, jm_i l9)] [1, 2, 3, 4, 5, 6, 7, 0, 8] rfl ?_
    exact bX12_asks_156 X fu k27 k64 hk27 hk64 M l1 l2 l4 l5 l6 l7 s0 l9 1 l1 hl1 hl2 hl4 hl5 hl6 hl7 hs0 hl9 (jm_inL (by decide) (by decide)) hl1
  · skip
    refine j_iload (pc := 128) dX12_asks_128 (q := 8) rfl ?_
    refine j_bipush (pc := 130) 61 dX12_asks_130 (by decide) ?_
    refine j_icmp_ne (tgt := 139) (pc := 132) hl9 (jm_inL (by decide) (by decide)) dX12_asks_132 (by decide) (fun c2 => ?_) (fun c2 => ?_)
    · skip
      refine j_iconst (pc := 135) dX12_asks_135 ?_
      refine j_goto (tgt := 156) (pc := 136) dX12_asks_136 (by decide) ?_
      refine j_sub (pc := 156) [(0, jm_vr wd2 X 0 0), (1, jm_i l1), (2, jm_i l2), (4, jm_i l4), (5, jm_i l5), (6, jm_i l6), (7, jm_i l7), (8, jm_i s0), (9, jm_i l9)] [1, 2, 3, 4, 5, 6, 7, 0, 8] rfl ?_
      exact bX12_asks_156 X fu k27 k64 hk27 hk64 M l1 l2 l4 l5 l6 l7 s0 l9 0 l1 hl1 hl2 hl4 hl5 hl6 hl7 hs0 hl9 (jm_inL (by decide) (by decide)) hl1
    · skip
      refine j_iload (pc := 139) dX12_asks_139 (q := 8) rfl ?_
      refine j_bipush (pc := 141) 45 dX12_asks_141 (by decide) ?_
      refine j_icmp_ne (tgt := 150) (pc := 143) hl9 (jm_inL (by decide) (by decide)) dX12_asks_143 (by decide) (fun c3 => ?_) (fun c3 => ?_)
      · skip
        refine j_iconst (pc := 146) dX12_asks_146 ?_
        refine j_goto (tgt := 156) (pc := 147) dX12_asks_147 (by decide) ?_
        refine j_sub (pc := 156) [(0, jm_vr wd2 X 0 0), (1, jm_i l1), (2, jm_i l2), (4, jm_i l4), (5, jm_i l5), (6, jm_i l6), (7, jm_i l7), (8, jm_i s0), (9, jm_i l9)] [1, 2, 3, 4, 5, 6, 7, 0, 8] rfl ?_
        exact bX12_asks_156 X fu k27 k64 hk27 hk64 M l1 l2 l4 l5 l6 l7 s0 l9 (-1) l1 hl1 hl2 hl4 hl5 hl6 hl7 hs0 hl9 (jm_inL (by decide) (by decide)) hl1
      · skip
        refine j_aload_n (pc := 150) dX12_asks_150 rfl (q := 1) rfl ?_
        refine j_getr (pc := 151) jv2_0 jm_01 kf_RX12_336 0 kg2_0_57 rfl dX12_asks_151 ?_
        refine j_iload_n (pc := 154) dX12_asks_154 rfl (q := 2) rfl ?_
        refine j_iald (pc := 155) jv2_47 jm_01 rfl (by decide) ka2_47 dX12_asks_155 (fun c4 h5 => ?_)
        refine j_sub (pc := 156) [(0, jm_vr wd2 X 0 0), (1, jm_i l1), (2, jm_i l2), (4, jm_i l4), (5, jm_i l5), (6, jm_i l6), (7, jm_i l7), (8, jm_i s0), (9, jm_i l9)] [1, 2, 3, 4, 5, 6, 7, 0, 8] rfl ?_
        exact bX12_asks_156 X fu k27 k64 hk27 hk64 M l1 l2 l4 l5 l6 l7 s0 l9 (M 47 0 l1) l1 hl1 hl2 hl4 hl5 hl6 hl7 hs0 hl9 h5 hl1
set_option maxHeartbeats 4000000 in
set_option maxRecDepth 100000 in
theorem b0X12_asks_64 (X : jm_X) (fu : Nat) (k27 : jm_M → Int → Int → Int → Int → Int → jm_R) (k64 : jm_M → Int → Int → Int → Int → Int → Int → Int → jm_R) (hk27 : ∀ (M : jm_M) (l1 l2 l4 l5 l6 : Int) (hl1 : jm_in l1) (hl2 : jm_in l2) (hl4 : jm_in l4) (hl5 : jm_in l5) (hl6 : jm_in l6), jm_J wd2 (jm_qi .int) cX12_asks 10 RX12 rmX12_asks X M [(0, jm_vr wd2 X 0 0), (1, jm_i l1), (2, jm_i l2), (4, jm_i l4), (5, jm_i l5), (6, jm_i l6)] [] 27 (k27 M l1 l2 l4 l5 l6)) (hk64 : ∀ (M : jm_M) (l1 l2 l4 l5 l6 l7 l8 : Int) (hl1 : jm_in l1) (hl2 : jm_in l2) (hl4 : jm_in l4) (hl5 : jm_in l5) (hl6 : jm_in l6) (hl7 : jm_in l7) (hl8 : jm_in l8), jm_J wd2 (jm_qi .int) cX12_asks 10 RX12 rmX12_asks X M [(0, jm_vr wd2 X 0 0), (1, jm_i l1), (2, jm_i l2), (4, jm_i l4), (5, jm_i l5), (6, jm_i l6), (7, jm_i l7), (8, jm_i l8)] [] 64 (k64 M l1 l2 l4 l5 l6 l7 l8)) : ∀ (M : jm_M) (l1 l2 l4 l5 l6 l7 l8 : Int) (hl1 : jm_in l1) (hl2 : jm_in l2) (hl4 : jm_in l4) (hl5 : jm_in l5) (hl6 : jm_in l6) (hl7 : jm_in l7) (hl8 : jm_in l8), jm_J wd2 (jm_qi .int) cX12_asks 10 RX12 rmX12_asks X M [(0, jm_vr wd2 X 0 0), (1, jm_i l1), (2, jm_i l2), (4, jm_i l4), (5, jm_i l5), (6, jm_i l6), (7, jm_i l7), (8, jm_i l8)] [] 64 (gX12_asks_64 fu k27 k64 M l1 l2 l4 l5 l6 l7 l8) := by
  intro M l1 l2 l4 l5 l6 l7 l8 hl1 hl2 hl4 hl5 hl6 hl7 hl8
  unfold gX12_asks_64
  refine j_aload_n (pc := 64) dX12_asks_64 rfl (q := 0) rfl ?_
  refine j_getr (pc := 65) jv2_0 jm_01 kf_RX12_202 0 kg2_0_44 rfl dX12_asks_65 ?_
  refine j_iload (pc := 68) dX12_asks_68 (q := 3) rfl ?_
  refine j_iald (pc := 70) jv2_35 jm_01 rfl (by decide) ka2_35 dX12_asks_70 (fun c1 h2 => ?_)
  refine j_sipush (pc := 71) (-302) dX12_asks_71 (by decide) ?_
  refine j_icmp_eq (tgt := 197) (pc := 74) h2 (jm_inL (by decide) (by decide)) dX12_asks_74 (by decide) (fun c3 => ?_) (fun c3 => ?_)
  · skip
    refine j_iinc (pc := 197) [(0, jm_vr wd2 X 0 0), (1, jm_i l1), (2, jm_i l2), (5, jm_i l5), (6, jm_i l6), (7, jm_i l7), (8, jm_i l8)] (q := 3) dX12_asks_197 rfl (by decide) (fun _ => rfl) (fun v4 h5 => ?_)
    refine j_iload (pc := 200) dX12_asks_200 (q := 6) rfl ?_
    refine j_if_eq (tgt := 221) (pc := 202) hl7 dX12_asks_202 (by decide) (fun c6 => ?_) (fun c6 => ?_)
    · skip
      refine j_iinc (pc := 221) [(4, jm_i v4), (0, jm_vr wd2 X 0 0), (1, jm_i l1), (2, jm_i l2), (5, jm_i l5), (7, jm_i l7), (8, jm_i l8)] (q := 5) dX12_asks_221 rfl (by decide) (fun _ => rfl) (fun v7 h8 => ?_)
      refine j_goto (tgt := 27) (pc := 224) dX12_asks_224 (by decide) ?_
      refine j_sub (pc := 27) [(0, jm_vr wd2 X 0 0), (1, jm_i l1), (2, jm_i l2), (4, jm_i v4), (5, jm_i l5), (6, jm_i v7)] [2, 3, 4, 1, 5, 0] rfl ?_
      exact hk27 M l1 l2 v4 l5 v7 hl1 hl2 h5 hl5 h8
    · skip
      refine j_aload_n (pc := 205) dX12_asks_205 rfl (q := 1) rfl ?_
      refine j_getr (pc := 206) jv2_0 jm_01 kf_RX12_369 0 kg2_0_69 rfl dX12_asks_206 ?_
      refine j_bipush (pc := 209) 12 dX12_asks_209 (by decide) ?_
      refine j_iload_n (pc := 211) dX12_asks_211 rfl (q := 2) rfl ?_
      refine j_imul (pc := 212) dX12_asks_212 ?_
      refine j_iload_n (pc := 213) dX12_asks_213 rfl (q := 3) rfl ?_
      refine j_iadd (pc := 214) dX12_asks_214 ?_
      refine j_iload (pc := 215) dX12_asks_215 (q := 5) rfl ?_
      refine j_iast (pc := 217) jv2_59 jm_01 rfl (by decide) wI2 ka2_59 hl6 dX12_asks_217 (fun c9 M10 => ?_)
      refine j_iload (pc := 218) dX12_asks_218 (q := 7) rfl ?_
      exact j_iret (pc := 220) hl8 rfl dX12_asks_220
  · skip
    refine j_iload (pc := 77) dX12_asks_77 (q := 6) rfl ?_
    refine j_if_eq (tgt := 191) (pc := 79) hl7 dX12_asks_79 (by decide) (fun c11 => ?_) (fun c11 => ?_)
    · skip
      refine j_iinc (pc := 191) [(0, jm_vr wd2 X 0 0), (1, jm_i l1), (2, jm_i l2), (5, jm_i l5), (6, jm_i l6), (7, jm_i l7), (8, jm_i l8)] (q := 3) dX12_asks_191 rfl (by decide) (fun _ => rfl) (fun v12 h13 => ?_)
      refine j_goto (tgt := 64) (pc := 194) dX12_asks_194 (by decide) ?_
      refine j_sub (pc := 64) [(0, jm_vr wd2 X 0 0), (1, jm_i l1), (2, jm_i l2), (4, jm_i v12), (5, jm_i l5), (6, jm_i l6), (7, jm_i l7), (8, jm_i l8)] [1, 2, 3, 0, 4, 5, 6, 7] rfl ?_
      exact hk64 M l1 l2 v12 l5 l6 l7 l8 hl1 hl2 h13 hl5 hl6 hl7 hl8
    · skip
      refine j_aload_n (pc := 82) dX12_asks_82 rfl (q := 0) rfl ?_
      refine j_getr (pc := 83) jv2_0 jm_01 kf_RX12_202 0 kg2_0_44 rfl dX12_asks_83 ?_
      refine j_iload (pc := 86) dX12_asks_86 (q := 3) rfl ?_
      refine j_iald (pc := 88) jv2_35 jm_01 rfl (by decide) ka2_35 dX12_asks_88 (fun c14 h15 => ?_)
      refine j_nm (pc := 89) h15 (fun v16 h17 => ?_)
      refine j_istore (pc := 89) [(9, jm_i v16), (0, jm_vr wd2 X 0 0), (1, jm_i l1), (2, jm_i l2), (4, jm_i l4), (5, jm_i l5), (6, jm_i l6), (7, jm_i l7), (8, jm_i l8)] dX12_asks_89 (by decide) rfl ?_
      refine j_iload (pc := 91) dX12_asks_91 (q := 0) rfl ?_
      refine j_sipush (pc := 93) 1000 dX12_asks_93 (by decide) ?_
      refine j_icmp_lt (tgt := 108) (pc := 96) h17 (jm_inL (by decide) (by decide)) dX12_asks_96 (by decide) (fun c18 => ?_) (fun c18 => ?_)
      · skip
        refine j_iload (pc := 108) dX12_asks_108 (q := 8) rfl ?_
        refine j_sub (pc := 110) [(0, jm_vr wd2 X 0 0), (1, jm_i l1), (2, jm_i l2), (4, jm_i l4), (5, jm_i l5), (6, jm_i l6), (7, jm_i l7), (9, jm_i v16)] [1, 2, 3, 4, 5, 6, 7, 0] rfl ?_
        exact bX12_asks_110 X fu k27 k64 hk27 hk64 M l1 l2 l4 l5 l6 l7 v16 l8 hl1 hl2 hl4 hl5 hl6 hl7 h17 hl8
      · skip
        refine j_iload (pc := 99) dX12_asks_99 (q := 0) rfl ?_
        refine j_sipush (pc := 101) 1000 dX12_asks_101 (by decide) ?_
        refine j_isub (pc := 104) dX12_asks_104 ?_
        refine j_goto (tgt := 110) (pc := 105) dX12_asks_105 (by decide) ?_
        refine j_sub (pc := 110) [(0, jm_vr wd2 X 0 0), (1, jm_i l1), (2, jm_i l2), (4, jm_i l4), (5, jm_i l5), (6, jm_i l6), (7, jm_i l7), (9, jm_i v16)] [1, 2, 3, 4, 5, 6, 7, 0] rfl ?_
        exact bX12_asks_110 X fu k27 k64 hk27 hk64 M l1 l2 l4 l5 l6 l7 v16 (jm_w (v16 - 1000)) hl1 hl2 hl4 hl5 hl6 hl7 h17 (jm_w_in _)
theorem bX12_asks_64 (X : jm_X) (fu : Nat) (k27 : jm_M → Int → Int → Int → Int → Int → jm_R) (hk27 : ∀ (M : jm_M) (l1 l2 l4 l5 l6 : Int) (hl1 : jm_in l1) (hl2 : jm_in l2) (hl4 : jm_in l4) (hl5 : jm_in l5) (hl6 : jm_in l6), jm_J wd2 (jm_qi .int) cX12_asks 10 RX12 rmX12_asks X M [(0, jm_vr wd2 X 0 0), (1, jm_i l1), (2, jm_i l2), (4, jm_i l4), (5, jm_i l5), (6, jm_i l6)] [] 27 (k27 M l1 l2 l4 l5 l6)) : ∀ (n : Nat) (M : jm_M) (l1 l2 l4 l5 l6 l7 l8 : Int) (hl1 : jm_in l1) (hl2 : jm_in l2) (hl4 : jm_in l4) (hl5 : jm_in l5) (hl6 : jm_in l6) (hl7 : jm_in l7) (hl8 : jm_in l8), jm_J wd2 (jm_qi .int) cX12_asks 10 RX12 rmX12_asks X M [(0, jm_vr wd2 X 0 0), (1, jm_i l1), (2, jm_i l2), (4, jm_i l4), (5, jm_i l5), (6, jm_i l6), (7, jm_i l7), (8, jm_i l8)] [] 64 (fX12_asks_64 fu k27 n M l1 l2 l4 l5 l6 l7 l8) := by
  intro n
  induction n with
  | zero => intro M l1 l2 l4 l5 l6 l7 l8 hl1 hl2 hl4 hl5 hl6 hl7 hl8; exact j_none
  | succ n ih => intro M l1 l2 l4 l5 l6 l7 l8 hl1 hl2 hl4 hl5 hl6 hl7 hl8; exact b0X12_asks_64 X fu k27 (fX12_asks_64 fu k27 n) hk27 ih M l1 l2 l4 l5 l6 l7 l8 hl1 hl2 hl4 hl5 hl6 hl7 hl8
set_option maxHeartbeats 4000000 in
set_option maxRecDepth 100000 in
theorem bX12_asks_50 (X : jm_X) (fu : Nat) (k27 : jm_M → Int → Int → Int → Int → Int → jm_R) (hk27 : ∀ (M : jm_M) (l1 l2 l4 l5 l6 : Int) (hl1 : jm_in l1) (hl2 : jm_in l2) (hl4 : jm_in l4) (hl5 : jm_in l5) (hl6 : jm_in l6), jm_J wd2 (jm_qi .int) cX12_asks 10 RX12 rmX12_asks X M [(0, jm_vr wd2 X 0 0), (1, jm_i l1), (2, jm_i l2), (4, jm_i l4), (5, jm_i l5), (6, jm_i l6)] [] 27 (k27 M l1 l2 l4 l5 l6)) : ∀ (M : jm_M) (l1 l2 l5 l6 s0 : Int) (hl1 : jm_in l1) (hl2 : jm_in l2) (hl5 : jm_in l5) (hl6 : jm_in l6) (hs0 : jm_in s0), jm_J wd2 (jm_qi .int) cX12_asks 10 RX12 rmX12_asks X M [(0, jm_vr wd2 X 0 0), (1, jm_i l1), (2, jm_i l2), (5, jm_i l5), (6, jm_i l6)] [jm_i s0] 50 (gX12_asks_50 fu k27 M l1 l2 l5 l6 s0) := by
  intro M l1 l2 l5 l6 s0 hl1 hl2 hl5 hl6 hs0
  unfold gX12_asks_50
  refine j_istore (pc := 50) [(7, jm_i s0), (0, jm_vr wd2 X 0 0), (1, jm_i l1), (2, jm_i l2), (5, jm_i l5), (6, jm_i l6)] dX12_asks_50 (by decide) rfl ?_
  refine j_aload_n (pc := 52) dX12_asks_52 rfl (q := 1) rfl ?_
  refine j_geti (pc := 53) jv2_0 jm_01 kf_RX12_306 kg2_0_47 dX12_asks_53 (fun h1 => ?_)
  refine j_iconst (pc := 56) dX12_asks_56 ?_
  refine j_iadd (pc := 57) dX12_asks_57 ?_
  refine j_nm (pc := 58) (jm_w_in _) (fun v2 h3 => ?_)
  refine j_istore (pc := 58) [(4, jm_i v2), (7, jm_i s0), (0, jm_vr wd2 X 0 0), (1, jm_i l1), (2, jm_i l2), (5, jm_i l5), (6, jm_i l6)] dX12_asks_58 (by decide) rfl ?_
  refine j_bipush (pc := 60) (-2) dX12_asks_60 (by decide) ?_
  refine j_istore (pc := 62) [(8, jm_i (-2)), (4, jm_i v2), (7, jm_i s0), (0, jm_vr wd2 X 0 0), (1, jm_i l1), (2, jm_i l2), (5, jm_i l5), (6, jm_i l6)] dX12_asks_62 (by decide) rfl ?_
  refine j_sub (pc := 64) [(0, jm_vr wd2 X 0 0), (1, jm_i l1), (2, jm_i l2), (4, jm_i v2), (5, jm_i l5), (6, jm_i l6), (7, jm_i s0), (8, jm_i (-2))] [3, 4, 5, 1, 6, 7, 2, 0] rfl ?_
  exact bX12_asks_64 X fu k27 hk27 fu M l1 l2 v2 l5 l6 s0 (-2) hl1 hl2 h3 hl5 hl6 hs0 (jm_inL (by decide) (by decide))
set_option maxHeartbeats 4000000 in
set_option maxRecDepth 100000 in
theorem b0X12_asks_27 (X : jm_X) (fu : Nat) (k27 : jm_M → Int → Int → Int → Int → Int → jm_R) (hk27 : ∀ (M : jm_M) (l1 l2 l4 l5 l6 : Int) (hl1 : jm_in l1) (hl2 : jm_in l2) (hl4 : jm_in l4) (hl5 : jm_in l5) (hl6 : jm_in l6), jm_J wd2 (jm_qi .int) cX12_asks 10 RX12 rmX12_asks X M [(0, jm_vr wd2 X 0 0), (1, jm_i l1), (2, jm_i l2), (4, jm_i l4), (5, jm_i l5), (6, jm_i l6)] [] 27 (k27 M l1 l2 l4 l5 l6)) : ∀ (M : jm_M) (l1 l2 l4 l5 l6 : Int) (hl1 : jm_in l1) (hl2 : jm_in l2) (hl4 : jm_in l4) (hl5 : jm_in l5) (hl6 : jm_in l6), jm_J wd2 (jm_qi .int) cX12_asks 10 RX12 rmX12_asks X M [(0, jm_vr wd2 X 0 0), (1, jm_i l1), (2, jm_i l2), (4, jm_i l4), (5, jm_i l5), (6, jm_i l6)] [] 27 (gX12_asks_27 fu k27 M l1 l2 l4 l5 l6) := by
  intro M l1 l2 l4 l5 l6 hl1 hl2 hl4 hl5 hl6
  unfold gX12_asks_27
  refine j_iload (pc := 27) dX12_asks_27 (q := 3) rfl ?_
  refine j_iload (pc := 29) dX12_asks_29 (q := 4) rfl ?_
  refine j_icmp_ge (tgt := 227) (pc := 31) hl4 hl5 dX12_asks_31 (by decide) (fun c1 => ?_) (fun c1 => ?_)
  · skip
    refine j_bipush (pc := 227) (-2) dX12_asks_227 (by decide) ?_
    exact j_iret (pc := 229) (jm_inL (by decide) (by decide)) rfl dX12_asks_229
  · skip
    refine j_aload_n (pc := 34) dX12_asks_34 rfl (q := 0) rfl ?_
    refine j_iload (pc := 35) dX12_asks_35 (q := 3) rfl ?_
    refine j_iload (pc := 37) dX12_asks_37 (q := 4) rfl ?_
    refine j_callVi2 (pc := 39) (ct_X12_gives fu M l4 l5 hl4 hl5) kg_1611 km_X12_gives kv_X12_gives rfl rfl ⟨(Nat.le_of_ble_eq_true rfl), (Nat.le_of_ble_eq_true rfl)⟩ jv2_0 jm_01 ko2_0 rfl rfl (Nat.le_of_ble_eq_true rfl) dX12_asks_39 (fun v2 M3 h4 => ?_)
    refine j_if_eq (tgt := 49) (pc := 42) h4 dX12_asks_42 (by decide) (fun c5 => ?_) (fun c5 => ?_)
    · skip
      refine j_iconst (pc := 49) dX12_asks_49 ?_
      refine j_sub (pc := 50) [(0, jm_vr wd2 X 0 0), (1, jm_i l1), (2, jm_i l2), (5, jm_i l5), (6, jm_i l6)] [0, 1, 2, 4, 5] rfl ?_
      exact bX12_asks_50 X fu k27 hk27 M3 l1 l2 l5 l6 0 hl1 hl2 hl5 hl6 (jm_inL (by decide) (by decide))
    · skip
      refine j_iconst (pc := 45) dX12_asks_45 ?_
      refine j_goto (tgt := 50) (pc := 46) dX12_asks_46 (by decide) ?_
      refine j_sub (pc := 50) [(0, jm_vr wd2 X 0 0), (1, jm_i l1), (2, jm_i l2), (5, jm_i l5), (6, jm_i l6)] [0, 1, 2, 4, 5] rfl ?_
      exact bX12_asks_50 X fu k27 hk27 M3 l1 l2 l5 l6 1 hl1 hl2 hl5 hl6 (jm_inL (by decide) (by decide))
theorem bX12_asks_27 (X : jm_X) (fu : Nat) : ∀ (n : Nat) (M : jm_M) (l1 l2 l4 l5 l6 : Int) (hl1 : jm_in l1) (hl2 : jm_in l2) (hl4 : jm_in l4) (hl5 : jm_in l5) (hl6 : jm_in l6), jm_J wd2 (jm_qi .int) cX12_asks 10 RX12 rmX12_asks X M [(0, jm_vr wd2 X 0 0), (1, jm_i l1), (2, jm_i l2), (4, jm_i l4), (5, jm_i l5), (6, jm_i l6)] [] 27 (fX12_asks_27 fu n M l1 l2 l4 l5 l6) := by
  intro n
  induction n with
  | zero => intro M l1 l2 l4 l5 l6 hl1 hl2 hl4 hl5 hl6; exact j_none
  | succ n ih => intro M l1 l2 l4 l5 l6 hl1 hl2 hl4 hl5 hl6; exact b0X12_asks_27 X fu (fX12_asks_27 fu n) ih M l1 l2 l4 l5 l6 hl1 hl2 hl4 hl5 hl6
set_option maxHeartbeats 4000000 in
set_option maxRecDepth 100000 in
theorem ct_X12_asks (fu : Nat) (M : jm_M) (l1 l2 l3 : Int) (hl1 : jm_in l1) (hl2 : jm_in l2) (hl3 : jm_in l3) : jm_Ci wd2 yX12_asks cX12_asks 10 (some .int) rmX12_asks M (fun G ad => [.ref (ad (jm_r wd2 0 0)), jm_i l1, jm_i l2, jm_i l3]) (fX12_asks fu M l1 l2 l3) := by
  refine jm_met_i (fun X => [(0, jm_vr wd2 X 0 0), (1, jm_i l1), (2, jm_i l2), (3, jm_i l3)]) (by decide) (fun _ _ => (Nat.le_of_ble_eq_true rfl)) (fun _ => rfl) (fun X => ?_)
  unfold fX12_asks
  refine j_aload_n (pc := 0) dX12_asks_0 rfl (q := 0) rfl ?_
  refine j_iload_n (pc := 1) dX12_asks_1 rfl (q := 1) rfl ?_
  refine j_iload_n (pc := 2) dX12_asks_2 rfl (q := 2) rfl ?_
  refine j_iload_n (pc := 3) dX12_asks_3 rfl (q := 3) rfl ?_
  refine j_callVv3 (pc := 4) (ct_X12_speaks fu M l1 l2 l3 hl1 hl2 hl3) kg_1604 km_X12_speaks kv_X12_speaks rfl rfl ⟨(Nat.le_of_ble_eq_true rfl), (Nat.le_of_ble_eq_true rfl)⟩ jv2_0 jm_01 ko2_0 rfl rfl (Nat.le_of_ble_eq_true rfl) dX12_asks_4 (fun v1 M2 => ?_)
  refine j_bipush (pc := 7) 100 dX12_asks_7 (by decide) ?_
  refine j_iload_n (pc := 9) dX12_asks_9 rfl (q := 1) rfl ?_
  refine j_imul (pc := 10) dX12_asks_10 ?_
  refine j_nm (pc := 11) (jm_w_in _) (fun v3 h4 => ?_)
  refine j_istore (pc := 11) [(4, jm_i v3), (0, jm_vr wd2 X 0 0), (1, jm_i l1), (2, jm_i l2), (3, jm_i l3)] dX12_asks_11 (by decide) rfl ?_
  refine j_iload (pc := 13) dX12_asks_13 (q := 0) rfl ?_
  refine j_aload_n (pc := 15) dX12_asks_15 rfl (q := 1) rfl ?_
  refine j_getr (pc := 16) jv2_0 jm_01 kf_RX12_208 0 kg2_0_45 rfl dX12_asks_16 ?_
  refine j_iload_n (pc := 19) dX12_asks_19 rfl (q := 2) rfl ?_
  refine j_iald (pc := 20) jv2_36 jm_01 rfl (by decide) ka2_36 dX12_asks_20 (fun c5 h6 => ?_)
  refine j_iadd (pc := 21) dX12_asks_21 ?_
  refine j_nm (pc := 22) (jm_w_in _) (fun v7 h8 => ?_)
  refine j_istore (pc := 22) [(5, jm_i v7), (4, jm_i v3), (0, jm_vr wd2 X 0 0), (1, jm_i l1), (2, jm_i l2), (3, jm_i l3)] dX12_asks_22 (by decide) rfl ?_
  refine j_iconst (pc := 24) dX12_asks_24 ?_
  refine j_istore (pc := 25) [(6, jm_i 0), (5, jm_i v7), (4, jm_i v3), (0, jm_vr wd2 X 0 0), (1, jm_i l1), (2, jm_i l2), (3, jm_i l3)] dX12_asks_25 (by decide) rfl ?_
  refine j_sub (pc := 27) [(0, jm_vr wd2 X 0 0), (1, jm_i l1), (2, jm_i l2), (4, jm_i v3), (5, jm_i v7), (6, jm_i 0)] [3, 4, 5, 2, 1, 0] rfl ?_
  exact bX12_asks_27 X fu  fu M2 l1 l2 v3 v7 0 hl1 hl2 h4 h8 (jm_inL (by decide) (by decide))
abbrev rmX12_boxes : Room := { frames := 1, cells := 0, slots := 0, locals := 21 }
set_option maxHeartbeats 4000000 in
set_option maxRecDepth 100000 in
theorem bX12_boxes_132 (X : jm_X) (fu : Nat) : ∀ (M : jm_M) (l1 l7 l8 s0 s1 : Int) (hl1 : jm_in l1) (hl7 : jm_in l7) (hl8 : jm_in l8) (hs0 : jm_in s0) (hs1 : jm_in s1), jm_J wd2 jm_qv cX12_boxes 9 RX12 rmX12_boxes X M [(0, jm_vr wd2 X 0 0), (1, jm_i l1), (7, jm_i l7), (8, jm_i l8)] [jm_i s0, jm_i s1, jm_vr wd2 X 45 0] 132 (gX12_boxes_132 fu M l1 l7 l8 s0 s1) := by
  intro M l1 l7 l8 s0 s1 hl1 hl7 hl8 hs0 hs1
  unfold gX12_boxes_132
  refine j_iast (pc := 132) jv2_45 jm_01 rfl (by decide) wI2 ka2_45 hs0 dX12_boxes_132 (fun c1 M2 => ?_)
  refine j_aload_n (pc := 133) dX12_boxes_133 rfl (q := 0) rfl ?_
  refine j_getr (pc := 134) jv2_0 jm_01 kf_RX12_330 0 kg2_0_54 rfl dX12_boxes_134 ?_
  refine j_iload_n (pc := 137) dX12_boxes_137 rfl (q := 1) rfl ?_
  refine j_dup2 (pc := 138) dX12_boxes_138 rfl rfl ?_
  refine j_iald (pc := 139) jv2_44 jm_01 rfl (by decide) ka2_44 dX12_boxes_139 (fun c3 h4 => ?_)
  refine j_iload (pc := 140) dX12_boxes_140 (q := 2) rfl ?_
  refine j_iadd (pc := 142) dX12_boxes_142 ?_
  refine j_iast (pc := 143) jv2_44 jm_01 rfl (by decide) wI2 ka2_44 (jm_w_in _) dX12_boxes_143 (fun c5 M6 => ?_)
  refine j_aload_n (pc := 144) dX12_boxes_144 rfl (q := 0) rfl ?_
  refine j_getr (pc := 145) jv2_0 jm_01 kf_RX12_315 0 kg2_0_68 rfl dX12_boxes_145 ?_
  refine j_aload_n (pc := 148) dX12_boxes_148 rfl (q := 0) rfl ?_
  refine j_getr (pc := 149) jv2_0 jm_01 kf_RX12_124 0 kg2_0_21 rfl dX12_boxes_149 ?_
  refine j_iload_n (pc := 152) dX12_boxes_152 rfl (q := 1) rfl ?_
  refine j_iald (pc := 153) jv2_16 jm_01 rfl (by decide) ka2_16 dX12_boxes_153 (fun c7 h8 => ?_)
  refine j_iload (pc := 154) dX12_boxes_154 (q := 3) rfl ?_
  refine j_iast (pc := 156) jv2_58 jm_01 rfl (by decide) wI2 ka2_58 hl8 dX12_boxes_156 (fun c9 M10 => ?_)
  refine j_aload_n (pc := 157) dX12_boxes_157 rfl (q := 0) rfl ?_
  refine j_getr (pc := 158) jv2_0 jm_01 kf_RX12_318 0 kg2_0_51 rfl dX12_boxes_158 ?_
  refine j_iload_n (pc := 161) dX12_boxes_161 rfl (q := 1) rfl ?_
  refine j_iload (pc := 162) dX12_boxes_162 (q := 3) rfl ?_
  refine j_iast (pc := 164) jv2_41 jm_01 rfl (by decide) wI2 ka2_41 hl8 dX12_boxes_164 (fun c11 M12 => ?_)
  refine j_aload_n (pc := 165) dX12_boxes_165 rfl (q := 0) rfl ?_
  refine j_getr (pc := 166) jv2_0 jm_01 kf_RX12_342 0 kg2_0_59 rfl dX12_boxes_166 ?_
  refine j_iload_n (pc := 169) dX12_boxes_169 rfl (q := 1) rfl ?_
  refine j_dup2 (pc := 170) dX12_boxes_170 rfl rfl ?_
  refine j_iald (pc := 171) jv2_49 jm_01 rfl (by decide) ka2_49 dX12_boxes_171 (fun c13 h14 => ?_)
  refine j_iconst (pc := 172) dX12_boxes_172 ?_
  refine j_iadd (pc := 173) dX12_boxes_173 ?_
  refine j_iast (pc := 174) jv2_49 jm_01 rfl (by decide) wI2 ka2_49 (jm_w_in _) dX12_boxes_174 (fun c15 M16 => ?_)
  exact j_vret (pc := 175) dX12_boxes_175
set_option maxHeartbeats 4000000 in
set_option maxRecDepth 100000 in
theorem bX12_boxes_99 (X : jm_X) (fu : Nat) : ∀ (M : jm_M) (l1 l2 l6 l7 s0 s1 : Int) (hl1 : jm_in l1) (hl2 : jm_in l2) (hl6 : jm_in l6) (hl7 : jm_in l7) (hs0 : jm_in s0) (hs1 : jm_in s1), jm_J wd2 jm_qv cX12_boxes 9 RX12 rmX12_boxes X M [(0, jm_vr wd2 X 0 0), (1, jm_i l1), (2, jm_i l2), (6, jm_i l6), (7, jm_i l7)] [jm_i s0, jm_i s1] 99 (gX12_boxes_99 fu M l1 l2 l6 l7 s0 s1) := by
  intro M l1 l2 l6 l7 s0 s1 hl1 hl2 hl6 hl7 hs0 hs1
  unfold gX12_boxes_99
  refine j_iadd (pc := 99) dX12_boxes_99 ?_
  refine j_aload_n (pc := 100) dX12_boxes_100 rfl (q := 0) rfl ?_
  refine j_getr (pc := 101) jv2_0 jm_01 kf_RX12_83 0 kg2_0_7 rfl dX12_boxes_101 ?_
  refine j_iconst (pc := 104) dX12_boxes_104 ?_
  refine j_iald (pc := 105) jv2_5 jm_01 rfl (by decide) ka2_5 dX12_boxes_105 (fun c1 h2 => ?_)
  refine j_iload (pc := 106) dX12_boxes_106 (q := 4) rfl ?_
  refine j_imul (pc := 108) dX12_boxes_108 ?_
  refine j_iadd (pc := 109) dX12_boxes_109 ?_
  refine j_nm (pc := 110) (jm_w_in _) (fun v3 h4 => ?_)
  refine j_istore (pc := 110) [(8, jm_i v3), (0, jm_vr wd2 X 0 0), (1, jm_i l1), (2, jm_i l2), (6, jm_i l6), (7, jm_i l7)] dX12_boxes_110 (by decide) rfl ?_
  refine j_aload_n (pc := 112) dX12_boxes_112 rfl (q := 1) rfl ?_
  refine j_getr (pc := 113) jv2_0 jm_01 kf_RX12_333 0 kg2_0_55 rfl dX12_boxes_113 ?_
  refine j_iload_n (pc := 116) dX12_boxes_116 rfl (q := 2) rfl ?_
  refine j_iload (pc := 117) dX12_boxes_117 (q := 4) rfl ?_
  refine j_if_eq (tgt := 126) (pc := 119) hl6 dX12_boxes_119 (by decide) (fun c5 => ?_) (fun c5 => ?_)
  · skip
    refine j_aload_n (pc := 126) dX12_boxes_126 rfl (q := 1) rfl ?_
    refine j_getr (pc := 127) jv2_0 jm_01 kf_RX12_333 0 kg2_0_55 rfl dX12_boxes_127 ?_
    refine j_iload_n (pc := 130) dX12_boxes_130 rfl (q := 2) rfl ?_
    refine j_iald (pc := 131) jv2_45 jm_01 rfl (by decide) ka2_45 dX12_boxes_131 (fun c6 h7 => ?_)
    refine j_sub (pc := 132) [(0, jm_vr wd2 X 0 0), (1, jm_i l1), (7, jm_i l7), (8, jm_i v3)] [1, 2, 5, 0] rfl ?_
    exact bX12_boxes_132 X fu  M l1 l7 v3 (M 45 0 l1) l1 hl1 hl7 h4 h7 hl1
  · skip
    refine j_iload_n (pc := 122) dX12_boxes_122 rfl (q := 3) rfl ?_
    refine j_goto (tgt := 132) (pc := 123) dX12_boxes_123 (by decide) ?_
    refine j_sub (pc := 132) [(0, jm_vr wd2 X 0 0), (1, jm_i l1), (7, jm_i l7), (8, jm_i v3)] [1, 2, 5, 0] rfl ?_
    exact bX12_boxes_132 X fu  M l1 l7 v3 l2 l1 hl1 hl7 h4 hl2 hl1
set_option maxHeartbeats 4000000 in
set_option maxRecDepth 100000 in
theorem bX12_boxes_61 (X : jm_X) (fu : Nat) : ∀ (M : jm_M) (l1 l2 l3 l5 s0 : Int) (hl1 : jm_in l1) (hl2 : jm_in l2) (hl3 : jm_in l3) (hl5 : jm_in l5) (hs0 : jm_in s0), jm_J wd2 jm_qv cX12_boxes 9 RX12 rmX12_boxes X M [(0, jm_vr wd2 X 0 0), (1, jm_i l1), (2, jm_i l2), (3, jm_i l3), (5, jm_i l5)] [jm_i s0] 61 (gX12_boxes_61 fu M l1 l2 l3 l5 s0) := by
  intro M l1 l2 l3 l5 s0 hl1 hl2 hl3 hl5 hs0
  unfold gX12_boxes_61
  refine j_istore (pc := 61) [(6, jm_i s0), (0, jm_vr wd2 X 0 0), (1, jm_i l1), (2, jm_i l2), (3, jm_i l3), (5, jm_i l5)] dX12_boxes_61 (by decide) rfl ?_
  refine j_iload_n (pc := 63) dX12_boxes_63 rfl (q := 4) rfl ?_
  refine j_aload_n (pc := 64) dX12_boxes_64 rfl (q := 1) rfl ?_
  refine j_getr (pc := 65) jv2_0 jm_01 kf_RX12_118 0 kg2_0_19 rfl dX12_boxes_65 ?_
  refine j_iload_n (pc := 68) dX12_boxes_68 rfl (q := 2) rfl ?_
  refine j_iald (pc := 69) jv2_14 jm_01 rfl (by decide) ka2_14 dX12_boxes_69 (fun c1 h2 => ?_)
  refine j_aload_n (pc := 70) dX12_boxes_70 rfl (q := 1) rfl ?_
  refine j_getr (pc := 71) jv2_0 jm_01 kf_RX12_330 0 kg2_0_54 rfl dX12_boxes_71 ?_
  refine j_iload_n (pc := 74) dX12_boxes_74 rfl (q := 2) rfl ?_
  refine j_iald (pc := 75) jv2_44 jm_01 rfl (by decide) ka2_44 dX12_boxes_75 (fun c3 h4 => ?_)
  refine j_isub (pc := 76) dX12_boxes_76 ?_
  refine j_mmin (pc := 77) hl3 (jm_w_in _) kg_1460 kg_717 kg_5 kg_718 ⟨(Nat.le_of_ble_eq_true rfl), (Nat.le_of_ble_eq_true rfl)⟩ (Nat.le_of_ble_eq_true rfl) dX12_boxes_77 ?_
  refine j_nm (pc := 80) (jm_min_in hl3 (jm_w_in _)) (fun v5 h6 => ?_)
  refine j_istore (pc := 80) [(7, jm_i v5), (6, jm_i s0), (0, jm_vr wd2 X 0 0), (1, jm_i l1), (2, jm_i l2), (3, jm_i l3), (5, jm_i l5)] dX12_boxes_80 (by decide) rfl ?_
  refine j_iload (pc := 82) dX12_boxes_82 (q := 6) rfl ?_
  refine j_iload (pc := 84) dX12_boxes_84 (q := 1) rfl ?_
  refine j_if_eq (tgt := 98) (pc := 86) hs0 dX12_boxes_86 (by decide) (fun c7 => ?_) (fun c7 => ?_)
  · skip
    refine j_iconst (pc := 98) dX12_boxes_98 ?_
    refine j_sub (pc := 99) [(0, jm_vr wd2 X 0 0), (1, jm_i l1), (2, jm_i l2), (6, jm_i s0), (7, jm_i v5)] [2, 3, 4, 1, 0] rfl ?_
    exact bX12_boxes_99 X fu  M l1 l2 s0 v5 0 l5 hl1 hl2 hs0 h6 (jm_inL (by decide) (by decide)) hl5
  · skip
    refine j_aload_n (pc := 89) dX12_boxes_89 rfl (q := 2) rfl ?_
    refine j_getr (pc := 90) jv2_0 jm_01 kf_RX12_83 0 kg2_0_7 rfl dX12_boxes_90 ?_
    refine j_iconst (pc := 93) dX12_boxes_93 ?_
    refine j_iald (pc := 94) jv2_5 jm_01 rfl (by decide) ka2_5 dX12_boxes_94 (fun c8 h9 => ?_)
    refine j_goto (tgt := 99) (pc := 95) dX12_boxes_95 (by decide) ?_
    refine j_sub (pc := 99) [(0, jm_vr wd2 X 0 0), (1, jm_i l1), (2, jm_i l2), (6, jm_i s0), (7, jm_i v5)] [2, 3, 4, 1, 0] rfl ?_
    exact bX12_boxes_99 X fu  M l1 l2 s0 v5 (M 5 0 4) l5 hl1 hl2 hs0 h6 h9 hl5
set_option maxHeartbeats 4000000 in
set_option maxRecDepth 100000 in
theorem ct_X12_boxes (fu : Nat) (M : jm_M) (l1 l2 l3 l4 : Int) (hl1 : jm_in l1) (hl2 : jm_in l2) (hl3 : jm_in l3) (hl4 : jm_in l4) : jm_Cv wd2 yX12_boxes cX12_boxes 9 none rmX12_boxes M (fun G ad => [.ref (ad (jm_r wd2 0 0)), jm_i l1, jm_i l2, jm_i l3, jm_i l4]) (fX12_boxes fu M l1 l2 l3 l4) := by
  refine jm_met_v (fun X => [(0, jm_vr wd2 X 0 0), (1, jm_i l1), (2, jm_i l2), (3, jm_i l3), (4, jm_i l4)]) (by decide) (fun _ _ => (Nat.le_of_ble_eq_true rfl)) (fun _ => rfl) (fun X => ?_)
  unfold fX12_boxes
  refine j_iload (pc := 0) dX12_boxes_0 (q := 4) rfl ?_
  refine j_aload_n (pc := 2) dX12_boxes_2 rfl (q := 0) rfl ?_
  refine j_getr (pc := 3) jv2_0 jm_01 kf_RX12_315 0 kg2_0_68 rfl dX12_boxes_3 ?_
  refine j_aload_n (pc := 6) dX12_boxes_6 rfl (q := 0) rfl ?_
  refine j_getr (pc := 7) jv2_0 jm_01 kf_RX12_124 0 kg2_0_21 rfl dX12_boxes_7 ?_
  refine j_iload_n (pc := 10) dX12_boxes_10 rfl (q := 1) rfl ?_
  refine j_iald (pc := 11) jv2_16 jm_01 rfl (by decide) ka2_16 dX12_boxes_11 (fun c1 h2 => ?_)
  refine j_iald (pc := 12) jv2_58 jm_01 rfl (by decide) ka2_58 dX12_boxes_12 (fun c3 h4 => ?_)
  refine j_mmax (pc := 13) hl4 h4 kg_1579 kg_61 kg_5 kg_62 ⟨(Nat.le_of_ble_eq_true rfl), (Nat.le_of_ble_eq_true rfl)⟩ (Nat.le_of_ble_eq_true rfl) dX12_boxes_13 ?_
  refine j_nm (pc := 16) (jm_max_in hl4 h4) (fun v5 h6 => ?_)
  refine j_istore (pc := 16) [(5, jm_i v5), (0, jm_vr wd2 X 0 0), (1, jm_i l1), (2, jm_i l2), (3, jm_i l3), (4, jm_i l4)] dX12_boxes_16 (by decide) rfl ?_
  refine j_aload_n (pc := 18) dX12_boxes_18 rfl (q := 1) rfl ?_
  refine j_getr (pc := 19) jv2_0 jm_01 kf_RX12_357 0 kg2_0_64 rfl dX12_boxes_19 ?_
  refine j_iload_n (pc := 22) dX12_boxes_22 rfl (q := 2) rfl ?_
  refine j_dup2 (pc := 23) dX12_boxes_23 rfl rfl ?_
  refine j_iald (pc := 24) jv2_54 jm_01 rfl (by decide) ka2_54 dX12_boxes_24 (fun c7 h8 => ?_)
  refine j_iload (pc := 25) dX12_boxes_25 (q := 0) rfl ?_
  refine j_iload (pc := 27) dX12_boxes_27 (q := 5) rfl ?_
  refine j_isub (pc := 29) dX12_boxes_29 ?_
  refine j_iadd (pc := 30) dX12_boxes_30 ?_
  refine j_iast (pc := 31) jv2_54 jm_01 rfl (by decide) wI2 ka2_54 (jm_w_in _) dX12_boxes_31 (fun c9 M10 => ?_)
  refine j_iload_n (pc := 32) dX12_boxes_32 rfl (q := 3) rfl ?_
  refine j_if_lt (tgt := 60) (pc := 33) hl2 dX12_boxes_33 (by decide) (fun c11 => ?_) (fun c11 => ?_)
  · skip
    refine j_iconst (pc := 60) dX12_boxes_60 ?_
    refine j_sub (pc := 61) [(0, jm_vr wd2 X 0 0), (1, jm_i l1), (2, jm_i l2), (3, jm_i l3), (5, jm_i v5)] [1, 2, 3, 4, 0] rfl ?_
    exact bX12_boxes_61 X fu  M10 l1 l2 l3 v5 0 hl1 hl2 hl3 h6 (jm_inL (by decide) (by decide))
  · skip
    refine j_iload_n (pc := 36) dX12_boxes_36 rfl (q := 3) rfl ?_
    refine j_aload_n (pc := 37) dX12_boxes_37 rfl (q := 1) rfl ?_
    refine j_getr (pc := 38) jv2_0 jm_01 kf_RX12_133 0 kg2_0_24 rfl dX12_boxes_38 ?_
    refine j_iload_n (pc := 41) dX12_boxes_41 rfl (q := 2) rfl ?_
    refine j_iald (pc := 42) jv2_19 jm_01 rfl (by decide) ka2_19 dX12_boxes_42 (fun c12 h13 => ?_)
    refine j_icmp_ge (tgt := 60) (pc := 43) hl2 h13 dX12_boxes_43 (by decide) (fun c14 => ?_) (fun c14 => ?_)
    · skip
      refine j_iconst (pc := 60) dX12_boxes_60 ?_
      refine j_sub (pc := 61) [(0, jm_vr wd2 X 0 0), (1, jm_i l1), (2, jm_i l2), (3, jm_i l3), (5, jm_i v5)] [1, 2, 3, 4, 0] rfl ?_
      exact bX12_boxes_61 X fu  M10 l1 l2 l3 v5 0 hl1 hl2 hl3 h6 (jm_inL (by decide) (by decide))
    · skip
      refine j_iload_n (pc := 46) dX12_boxes_46 rfl (q := 3) rfl ?_
      refine j_aload_n (pc := 47) dX12_boxes_47 rfl (q := 1) rfl ?_
      refine j_getr (pc := 48) jv2_0 jm_01 kf_RX12_333 0 kg2_0_55 rfl dX12_boxes_48 ?_
      refine j_iload_n (pc := 51) dX12_boxes_51 rfl (q := 2) rfl ?_
      refine j_iald (pc := 52) jv2_45 jm_01 rfl (by decide) ka2_45 dX12_boxes_52 (fun c15 h16 => ?_)
      refine j_icmp_eq (tgt := 60) (pc := 53) hl2 h16 dX12_boxes_53 (by decide) (fun c17 => ?_) (fun c17 => ?_)
      · skip
        refine j_iconst (pc := 60) dX12_boxes_60 ?_
        refine j_sub (pc := 61) [(0, jm_vr wd2 X 0 0), (1, jm_i l1), (2, jm_i l2), (3, jm_i l3), (5, jm_i v5)] [1, 2, 3, 4, 0] rfl ?_
        exact bX12_boxes_61 X fu  M10 l1 l2 l3 v5 0 hl1 hl2 hl3 h6 (jm_inL (by decide) (by decide))
      · skip
        refine j_iconst (pc := 56) dX12_boxes_56 ?_
        refine j_goto (tgt := 61) (pc := 57) dX12_boxes_57 (by decide) ?_
        refine j_sub (pc := 61) [(0, jm_vr wd2 X 0 0), (1, jm_i l1), (2, jm_i l2), (3, jm_i l3), (5, jm_i v5)] [1, 2, 3, 4, 0] rfl ?_
        exact bX12_boxes_61 X fu  M10 l1 l2 l3 v5 1 hl1 hl2 hl3 h6 (jm_inL (by decide) (by decide))
abbrev rmX12_endsLap : Room := { frames := 4, cells := 0, slots := 0, locals := 96 }
set_option maxHeartbeats 4000000 in
set_option maxRecDepth 100000 in
theorem bX12_endsLap_19 (X : jm_X) (fu : Nat) : ∀ (M : jm_M) (l1 l3 : Int) (hl1 : jm_in l1) (hl3 : jm_in l3), jm_J wd2 jm_qv cX12_endsLap 7 RX12 rmX12_endsLap X M [(0, jm_vr wd2 X 0 0), (1, jm_i l1), (3, jm_i l3)] [] 19 (gX12_endsLap_19 fu M l1 l3) := by
  intro M l1 l3 hl1 hl3
  unfold gX12_endsLap_19
  refine j_aload_n (pc := 19) dX12_endsLap_19 rfl (q := 0) rfl ?_
  refine j_getr (pc := 20) jv2_0 jm_01 kf_RX12_309 0 kg2_0_49 rfl dX12_endsLap_20 ?_
  refine j_iload_n (pc := 23) dX12_endsLap_23 rfl (q := 1) rfl ?_
  refine j_iconst (pc := 24) dX12_endsLap_24 ?_
  refine j_iast (pc := 25) jv2_39 jm_01 rfl (by decide) wI2 ka2_39 (jm_inL (by decide) (by decide)) dX12_endsLap_25 (fun c1 M2 => ?_)
  refine j_aload_n (pc := 26) dX12_endsLap_26 rfl (q := 0) rfl ?_
  refine j_getr (pc := 27) jv2_0 jm_01 kf_RX12_321 0 kg2_0_50 rfl dX12_endsLap_27 ?_
  refine j_iload_n (pc := 30) dX12_endsLap_30 rfl (q := 1) rfl ?_
  refine j_iload_n (pc := 31) dX12_endsLap_31 rfl (q := 2) rfl ?_
  refine j_iast (pc := 32) jv2_40 jm_01 rfl (by decide) wI2 ka2_40 hl3 dX12_endsLap_32 (fun c3 M4 => ?_)
  exact j_vret (pc := 33) dX12_endsLap_33
set_option maxHeartbeats 4000000 in
set_option maxRecDepth 100000 in
theorem b0X12_endsLap_92 (X : jm_X) (fu : Nat) (k92 : jm_M → Int → Int → Int → Int → Int → Int → jm_R) (hk92 : ∀ (M : jm_M) (l1 l2 l3 l4 l5 l6 : Int) (hl1 : jm_in l1) (hl2 : jm_in l2) (hl3 : jm_in l3) (hl4 : jm_in l4) (hl5 : jm_in l5) (hl6 : jm_in l6), jm_J wd2 jm_qv cX12_endsLap 7 RX12 rmX12_endsLap X M [(0, jm_vr wd2 X 0 0), (1, jm_i l1), (2, jm_i l2), (3, jm_i l3), (4, jm_i l4), (5, jm_i l5), (6, jm_i l6)] [] 92 (k92 M l1 l2 l3 l4 l5 l6)) : ∀ (M : jm_M) (l1 l2 l3 l4 l5 l6 : Int) (hl1 : jm_in l1) (hl2 : jm_in l2) (hl3 : jm_in l3) (hl4 : jm_in l4) (hl5 : jm_in l5) (hl6 : jm_in l6), jm_J wd2 jm_qv cX12_endsLap 7 RX12 rmX12_endsLap X M [(0, jm_vr wd2 X 0 0), (1, jm_i l1), (2, jm_i l2), (3, jm_i l3), (4, jm_i l4), (5, jm_i l5), (6, jm_i l6)] [] 92 (gX12_endsLap_92 fu k92 M l1 l2 l3 l4 l5 l6) := by
  intro M l1 l2 l3 l4 l5 l6 hl1 hl2 hl3 hl4 hl5 hl6
  unfold gX12_endsLap_92
  refine j_iload (pc := 92) dX12_endsLap_92 (q := 6) rfl ?_
  refine j_iconst (pc := 94) dX12_endsLap_94 ?_
  refine j_iload_n (pc := 95) dX12_endsLap_95 rfl (q := 1) rfl ?_
  refine j_imul (pc := 96) dX12_endsLap_96 ?_
  refine j_aload_n (pc := 97) dX12_endsLap_97 rfl (q := 0) rfl ?_
  refine j_getr (pc := 98) jv2_0 jm_01 kf_RX12_139 0 kg2_0_31 rfl dX12_endsLap_98 ?_
  refine j_iload_n (pc := 101) dX12_endsLap_101 rfl (q := 1) rfl ?_
  refine j_iald (pc := 102) jv2_26 jm_01 rfl (by decide) ka2_26 dX12_endsLap_102 (fun c1 h2 => ?_)
  refine j_iadd (pc := 103) dX12_endsLap_103 ?_
  refine j_icmp_ge (tgt := 142) (pc := 104) hl6 (jm_w_in _) dX12_endsLap_104 (by decide) (fun c3 => ?_) (fun c3 => ?_)
  · skip
    refine j_iload (pc := 142) dX12_endsLap_142 (q := 4) rfl ?_
    refine j_bipush (pc := 144) (-2) dX12_endsLap_144 (by decide) ?_
    refine j_icmp_le (tgt := 166) (pc := 146) hl4 (jm_inL (by decide) (by decide)) dX12_endsLap_146 (by decide) (fun c4 => ?_) (fun c4 => ?_)
    · skip
      exact j_vret (pc := 166) dX12_endsLap_166
    · skip
      refine j_aload_n (pc := 149) dX12_endsLap_149 rfl (q := 0) rfl ?_
      refine j_iload_n (pc := 150) dX12_endsLap_150 rfl (q := 1) rfl ?_
      refine j_iload (pc := 151) dX12_endsLap_151 (q := 4) rfl ?_
      refine j_iload (pc := 153) dX12_endsLap_153 (q := 5) rfl ?_
      refine j_iload_n (pc := 155) dX12_endsLap_155 rfl (q := 3) rfl ?_
      refine j_aload_n (pc := 156) dX12_endsLap_156 rfl (q := 0) rfl ?_
      refine j_getr (pc := 157) jv2_0 jm_01 kf_RX12_83 0 kg2_0_7 rfl dX12_endsLap_157 ?_
      refine j_iconst (pc := 160) dX12_endsLap_160 ?_
      refine j_iald (pc := 161) jv2_5 jm_01 rfl (by decide) ka2_5 dX12_endsLap_161 (fun c5 h6 => ?_)
      refine j_iadd (pc := 162) dX12_endsLap_162 ?_
      refine j_callVv4 (pc := 163) (ct_X12_boxes fu M l1 l4 l5 (jm_w (l3 + (M 5 0 3))) hl1 hl4 hl5 (jm_w_in _)) kg_1618 km_X12_boxes kv_X12_boxes rfl rfl ⟨(Nat.le_of_ble_eq_true rfl), (Nat.le_of_ble_eq_true rfl)⟩ jv2_0 jm_01 ko2_0 rfl rfl (Nat.le_of_ble_eq_true rfl) dX12_endsLap_163 (fun v7 M8 => ?_)
      exact j_vret (pc := 166) dX12_endsLap_166
  · skip
    refine j_aload_n (pc := 107) dX12_endsLap_107 rfl (q := 0) rfl ?_
    refine j_getr (pc := 108) jv2_0 jm_01 kf_RX12_176 0 kg2_0_32 rfl dX12_endsLap_108 ?_
    refine j_iload (pc := 111) dX12_endsLap_111 (q := 6) rfl ?_
    refine j_iald (pc := 113) jv2_27 jm_01 rfl (by decide) ka2_27 dX12_endsLap_113 (fun c9 h10 => ?_)
    refine j_iload_n (pc := 114) dX12_endsLap_114 rfl (q := 2) rfl ?_
    refine j_icmp_ne (tgt := 136) (pc := 115) h10 hl2 dX12_endsLap_115 (by decide) (fun c11 => ?_) (fun c11 => ?_)
    · skip
      refine j_aload_n (pc := 118) dX12_endsLap_118 rfl (q := 0) rfl ?_
      refine j_getr (pc := 119) jv2_0 jm_01 kf_RX12_179 0 kg2_0_33 rfl dX12_endsLap_119 ?_
      refine j_iload (pc := 122) dX12_endsLap_122 (q := 6) rfl ?_
      refine j_iald (pc := 124) jv2_28 jm_01 rfl (by decide) ka2_28 dX12_endsLap_124 (fun c12 h13 => ?_)
      refine j_nm (pc := 125) h13 (fun v14 h15 => ?_)
      refine j_istore (pc := 125) [(4, jm_i v14), (0, jm_vr wd2 X 0 0), (1, jm_i l1), (2, jm_i l2), (3, jm_i l3), (5, jm_i l5), (6, jm_i l6)] dX12_endsLap_125 (by decide) rfl ?_
      refine j_aload_n (pc := 127) dX12_endsLap_127 rfl (q := 1) rfl ?_
      refine j_getr (pc := 128) jv2_0 jm_01 kf_RX12_182 0 kg2_0_34 rfl dX12_endsLap_128 ?_
      refine j_iload (pc := 131) dX12_endsLap_131 (q := 6) rfl ?_
      refine j_iald (pc := 133) jv2_29 jm_01 rfl (by decide) ka2_29 dX12_endsLap_133 (fun c16 h17 => ?_)
      refine j_nm (pc := 134) h17 (fun v18 h19 => ?_)
      refine j_istore (pc := 134) [(5, jm_i v18), (4, jm_i v14), (0, jm_vr wd2 X 0 0), (1, jm_i l1), (2, jm_i l2), (3, jm_i l3), (6, jm_i l6)] dX12_endsLap_134 (by decide) rfl ?_
      refine j_iinc (pc := 136) [(5, jm_i v18), (4, jm_i v14), (0, jm_vr wd2 X 0 0), (1, jm_i l1), (2, jm_i l2), (3, jm_i l3)] (q := 6) dX12_endsLap_136 rfl (by decide) (fun _ => rfl) (fun v20 h21 => ?_)
      refine j_goto (tgt := 92) (pc := 139) dX12_endsLap_139 (by decide) ?_
      refine j_sub (pc := 92) [(0, jm_vr wd2 X 0 0), (1, jm_i l1), (2, jm_i l2), (3, jm_i l3), (4, jm_i v14), (5, jm_i v18), (6, jm_i v20)] [3, 4, 5, 6, 2, 1, 0] rfl ?_
      exact hk92 M l1 l2 l3 v14 v18 v20 hl1 hl2 hl3 h15 h19 h21
    · skip
      refine j_iinc (pc := 136) [(0, jm_vr wd2 X 0 0), (1, jm_i l1), (2, jm_i l2), (3, jm_i l3), (4, jm_i l4), (5, jm_i l5)] (q := 6) dX12_endsLap_136 rfl (by decide) (fun _ => rfl) (fun v22 h23 => ?_)
      refine j_goto (tgt := 92) (pc := 139) dX12_endsLap_139 (by decide) ?_
      refine j_sub (pc := 92) [(0, jm_vr wd2 X 0 0), (1, jm_i l1), (2, jm_i l2), (3, jm_i l3), (4, jm_i l4), (5, jm_i l5), (6, jm_i v22)] [1, 2, 3, 4, 5, 6, 0] rfl ?_
      exact hk92 M l1 l2 l3 l4 l5 v22 hl1 hl2 hl3 hl4 hl5 h23
theorem bX12_endsLap_92 (X : jm_X) (fu : Nat) : ∀ (n : Nat) (M : jm_M) (l1 l2 l3 l4 l5 l6 : Int) (hl1 : jm_in l1) (hl2 : jm_in l2) (hl3 : jm_in l3) (hl4 : jm_in l4) (hl5 : jm_in l5) (hl6 : jm_in l6), jm_J wd2 jm_qv cX12_endsLap 7 RX12 rmX12_endsLap X M [(0, jm_vr wd2 X 0 0), (1, jm_i l1), (2, jm_i l2), (3, jm_i l3), (4, jm_i l4), (5, jm_i l5), (6, jm_i l6)] [] 92 (fX12_endsLap_92 fu n M l1 l2 l3 l4 l5 l6) := by
  intro n
  induction n with
  | zero => intro M l1 l2 l3 l4 l5 l6 hl1 hl2 hl3 hl4 hl5 hl6; exact j_none
  | succ n ih => intro M l1 l2 l3 l4 l5 l6 hl1 hl2 hl3 hl4 hl5 hl6; exact b0X12_endsLap_92 X fu (fX12_endsLap_92 fu n) ih M l1 l2 l3 l4 l5 l6 hl1 hl2 hl3 hl4 hl5 hl6
set_option maxHeartbeats 4000000 in
set_option maxRecDepth 100000 in
theorem ct_X12_endsLap (fu : Nat) (M : jm_M) (l1 l2 l3 : Int) (hl1 : jm_in l1) (hl2 : jm_in l2) (hl3 : jm_in l3) : jm_Cv wd2 yX12_endsLap cX12_endsLap 7 none rmX12_endsLap M (fun G ad => [.ref (ad (jm_r wd2 0 0)), jm_i l1, jm_i l2, jm_i l3]) (fX12_endsLap fu M l1 l2 l3) := by
  refine jm_met_v (fun X => [(0, jm_vr wd2 X 0 0), (1, jm_i l1), (2, jm_i l2), (3, jm_i l3)]) (by decide) (fun _ _ => (Nat.le_of_ble_eq_true rfl)) (fun _ => rfl) (fun X => ?_)
  unfold fX12_endsLap
  refine j_iload_n (pc := 0) dX12_endsLap_0 rfl (q := 2) rfl ?_
  refine j_aload_n (pc := 1) dX12_endsLap_1 rfl (q := 0) rfl ?_
  refine j_geti (pc := 2) jv2_0 jm_01 kf_RX12_10 kg2_0_2 dX12_endsLap_2 (fun h1 => ?_)
  refine j_iconst (pc := 5) dX12_endsLap_5 ?_
  refine j_isub (pc := 6) dX12_endsLap_6 ?_
  refine j_icmp_eq (tgt := 19) (pc := 7) hl2 (jm_w_in _) dX12_endsLap_7 (by decide) (fun c2 => ?_) (fun c2 => ?_)
  · skip
    refine j_sub (pc := 19) [(0, jm_vr wd2 X 0 0), (1, jm_i l1), (3, jm_i l3)] [0, 1, 3] rfl ?_
    exact bX12_endsLap_19 X fu  M l1 l3 hl1 hl3
  · skip
    refine j_aload_n (pc := 10) dX12_endsLap_10 rfl (q := 0) rfl ?_
    refine j_iload_n (pc := 11) dX12_endsLap_11 rfl (q := 1) rfl ?_
    refine j_iload_n (pc := 12) dX12_endsLap_12 rfl (q := 3) rfl ?_
    refine j_callVi2 (pc := 13) (ct_X12_isOver fu M l1 l3 hl1 hl3) kg_1596 km_X12_isOver kv_X12_isOver rfl rfl ⟨(Nat.le_of_ble_eq_true rfl), (Nat.le_of_ble_eq_true rfl)⟩ jv2_0 jm_01 ko2_0 rfl rfl (Nat.le_of_ble_eq_true rfl) dX12_endsLap_13 (fun v3 M4 h5 => ?_)
    refine j_if_eq (tgt := 34) (pc := 16) h5 dX12_endsLap_16 (by decide) (fun c6 => ?_) (fun c6 => ?_)
    · skip
      refine j_bipush (pc := 34) (-2) dX12_endsLap_34 (by decide) ?_
      refine j_istore (pc := 36) [(4, jm_i (-2)), (0, jm_vr wd2 X 0 0), (1, jm_i l1), (2, jm_i l2), (3, jm_i l3)] dX12_endsLap_36 (by decide) rfl ?_
      refine j_iconst (pc := 38) dX12_endsLap_38 ?_
      refine j_istore (pc := 39) [(5, jm_i 0), (4, jm_i (-2)), (0, jm_vr wd2 X 0 0), (1, jm_i l1), (2, jm_i l2), (3, jm_i l3)] dX12_endsLap_39 (by decide) rfl ?_
      refine j_aload_n (pc := 41) dX12_endsLap_41 rfl (q := 2) rfl ?_
      refine j_getr (pc := 42) jv2_0 jm_01 kf_RX12_142 0 kg2_0_35 rfl dX12_endsLap_42 ?_
      refine j_iload_n (pc := 45) dX12_endsLap_45 rfl (q := 3) rfl ?_
      refine j_bald (pc := 46) jv2_30 jm_01 rfl (by decide) ka2_30 dX12_endsLap_46 (fun c7 h8 => ?_)
      refine j_if_eq (tgt := 87) (pc := 47) h8 dX12_endsLap_47 (by decide) (fun c9 => ?_) (fun c9 => ?_)
      · skip
        refine j_iconst (pc := 87) dX12_endsLap_87 ?_
        refine j_iload_n (pc := 88) dX12_endsLap_88 rfl (q := 3) rfl ?_
        refine j_imul (pc := 89) dX12_endsLap_89 ?_
        refine j_nm (pc := 90) (jm_w_in _) (fun v10 h11 => ?_)
        refine j_istore (pc := 90) [(6, jm_i v10), (5, jm_i 0), (4, jm_i (-2)), (0, jm_vr wd2 X 0 0), (1, jm_i l1), (2, jm_i l2), (3, jm_i l3)] dX12_endsLap_90 (by decide) rfl ?_
        refine j_sub (pc := 92) [(0, jm_vr wd2 X 0 0), (1, jm_i l1), (2, jm_i l2), (3, jm_i l3), (4, jm_i (-2)), (5, jm_i 0), (6, jm_i v10)] [3, 4, 5, 6, 2, 1, 0] rfl ?_
        exact bX12_endsLap_92 X fu  fu M4 l1 l2 l3 (-2) 0 v10 hl1 hl2 hl3 (jm_inL (by decide) (by decide)) (jm_inL (by decide) (by decide)) h11
      · skip
        refine j_aload_n (pc := 50) dX12_endsLap_50 rfl (q := 2) rfl ?_
        refine j_getr (pc := 51) jv2_0 jm_01 kf_RX12_429 0 kg2_0_71 rfl dX12_endsLap_51 ?_
        refine j_iload_n (pc := 54) dX12_endsLap_54 rfl (q := 3) rfl ?_
        refine j_bald (pc := 55) jv2_60 jm_01 rfl (by decide) ka2_60 dX12_endsLap_55 (fun c12 h13 => ?_)
        refine j_if_ne (tgt := 87) (pc := 56) h13 dX12_endsLap_56 (by decide) (fun c14 => ?_) (fun c14 => ?_)
        · skip
          refine j_aload_n (pc := 59) dX12_endsLap_59 rfl (q := 2) rfl ?_
          refine j_iload_n (pc := 60) dX12_endsLap_60 rfl (q := 3) rfl ?_
          refine j_iload_n (pc := 61) dX12_endsLap_61 rfl (q := 4) rfl ?_
          refine j_iload_n (pc := 62) dX12_endsLap_62 rfl (q := 5) rfl ?_
          refine j_callVi3 (pc := 63) (ct_X12_asks fu M4 l1 l2 l3 hl1 hl2 hl3) kg_1600 km_X12_asks kv_X12_asks rfl rfl ⟨(Nat.le_of_ble_eq_true rfl), (Nat.le_of_ble_eq_true rfl)⟩ jv2_0 jm_01 ko2_0 rfl rfl (Nat.le_of_ble_eq_true rfl) dX12_endsLap_63 (fun v15 M16 h17 => ?_)
          refine j_istore (pc := 66) [(4, jm_i v15), (5, jm_i 0), (0, jm_vr wd2 X 0 0), (1, jm_i l1), (2, jm_i l2), (3, jm_i l3)] dX12_endsLap_66 (by decide) rfl ?_
          refine j_iload (pc := 68) dX12_endsLap_68 (q := 0) rfl ?_
          refine j_bipush (pc := 70) (-2) dX12_endsLap_70 (by decide) ?_
          refine j_icmp_le (tgt := 84) (pc := 72) h17 (jm_inL (by decide) (by decide)) dX12_endsLap_72 (by decide) (fun c18 => ?_) (fun c18 => ?_)
          · skip
            refine j_iconst (pc := 84) dX12_endsLap_84 ?_
            refine j_istore (pc := 85) [(5, jm_i 0), (4, jm_i v15), (0, jm_vr wd2 X 0 0), (1, jm_i l1), (2, jm_i l2), (3, jm_i l3)] dX12_endsLap_85 (by decide) rfl ?_
            refine j_iconst (pc := 87) dX12_endsLap_87 ?_
            refine j_iload_n (pc := 88) dX12_endsLap_88 rfl (q := 3) rfl ?_
            refine j_imul (pc := 89) dX12_endsLap_89 ?_
            refine j_nm (pc := 90) (jm_w_in _) (fun v19 h20 => ?_)
            refine j_istore (pc := 90) [(6, jm_i v19), (5, jm_i 0), (4, jm_i v15), (0, jm_vr wd2 X 0 0), (1, jm_i l1), (2, jm_i l2), (3, jm_i l3)] dX12_endsLap_90 (by decide) rfl ?_
            refine j_sub (pc := 92) [(0, jm_vr wd2 X 0 0), (1, jm_i l1), (2, jm_i l2), (3, jm_i l3), (4, jm_i v15), (5, jm_i 0), (6, jm_i v19)] [3, 4, 5, 6, 2, 1, 0] rfl ?_
            exact bX12_endsLap_92 X fu  fu M16 l1 l2 l3 v15 0 v19 hl1 hl2 hl3 h17 (jm_inL (by decide) (by decide)) h20
          · skip
            refine j_aload_n (pc := 75) dX12_endsLap_75 rfl (q := 2) rfl ?_
            refine j_getr (pc := 76) jv2_0 jm_01 kf_RX12_118 0 kg2_0_19 rfl dX12_endsLap_76 ?_
            refine j_iload_n (pc := 79) dX12_endsLap_79 rfl (q := 3) rfl ?_
            refine j_iald (pc := 80) jv2_14 jm_01 rfl (by decide) ka2_14 dX12_endsLap_80 (fun c21 h22 => ?_)
            refine j_goto (tgt := 85) (pc := 81) dX12_endsLap_81 (by decide) ?_
            refine j_nm (pc := 85) h22 (fun v23 h24 => ?_)
            refine j_istore (pc := 85) [(5, jm_i v23), (4, jm_i v15), (0, jm_vr wd2 X 0 0), (1, jm_i l1), (2, jm_i l2), (3, jm_i l3)] dX12_endsLap_85 (by decide) rfl ?_
            refine j_iconst (pc := 87) dX12_endsLap_87 ?_
            refine j_iload_n (pc := 88) dX12_endsLap_88 rfl (q := 3) rfl ?_
            refine j_imul (pc := 89) dX12_endsLap_89 ?_
            refine j_nm (pc := 90) (jm_w_in _) (fun v25 h26 => ?_)
            refine j_istore (pc := 90) [(6, jm_i v25), (5, jm_i v23), (4, jm_i v15), (0, jm_vr wd2 X 0 0), (1, jm_i l1), (2, jm_i l2), (3, jm_i l3)] dX12_endsLap_90 (by decide) rfl ?_
            refine j_sub (pc := 92) [(0, jm_vr wd2 X 0 0), (1, jm_i l1), (2, jm_i l2), (3, jm_i l3), (4, jm_i v15), (5, jm_i v23), (6, jm_i v25)] [3, 4, 5, 6, 2, 1, 0] rfl ?_
            exact bX12_endsLap_92 X fu  fu M16 l1 l2 l3 v15 v23 v25 hl1 hl2 hl3 h17 h24 h26
        · skip
          refine j_iconst (pc := 87) dX12_endsLap_87 ?_
          refine j_iload_n (pc := 88) dX12_endsLap_88 rfl (q := 3) rfl ?_
          refine j_imul (pc := 89) dX12_endsLap_89 ?_
          refine j_nm (pc := 90) (jm_w_in _) (fun v27 h28 => ?_)
          refine j_istore (pc := 90) [(6, jm_i v27), (5, jm_i 0), (4, jm_i (-2)), (0, jm_vr wd2 X 0 0), (1, jm_i l1), (2, jm_i l2), (3, jm_i l3)] dX12_endsLap_90 (by decide) rfl ?_
          refine j_sub (pc := 92) [(0, jm_vr wd2 X 0 0), (1, jm_i l1), (2, jm_i l2), (3, jm_i l3), (4, jm_i (-2)), (5, jm_i 0), (6, jm_i v27)] [3, 4, 5, 6, 2, 1, 0] rfl ?_
          exact bX12_endsLap_92 X fu  fu M4 l1 l2 l3 (-2) 0 v27 hl1 hl2 hl3 (jm_inL (by decide) (by decide)) (jm_inL (by decide) (by decide)) h28
    · skip
      refine j_sub (pc := 19) [(0, jm_vr wd2 X 0 0), (1, jm_i l1), (3, jm_i l3)] [0, 1, 3] rfl ?_
      exact bX12_endsLap_19 X fu  M4 l1 l3 hl1 hl3
abbrev rmX12_goes : Room := { frames := 5, cells := 0, slots := 0, locals := 122 }
set_option maxHeartbeats 4000000 in
set_option maxRecDepth 100000 in
theorem bX12_goes_180 (X : jm_X) (fu : Nat) : ∀ (M : jm_M) (l1 l3 l4 l7 s0 s1 s2 : Int) (hl1 : jm_in l1) (hl3 : jm_in l3) (hl4 : jm_in l4) (hl7 : jm_in l7) (hs0 : jm_in s0) (hs1 : jm_in s1) (hs2 : jm_in s2), jm_J wd2 jm_qv cX12_goes 8 RX12 rmX12_goes X M [(0, jm_vr wd2 X 0 0), (1, jm_i l1), (3, jm_i l3), (4, jm_i l4), (7, jm_i l7)] [jm_i s0, jm_i s1, jm_i s2, jm_vr wd2 X 46 0] 180 (gX12_goes_180 fu M l1 l3 l4 l7 s0 s1 s2) := by
  intro M l1 l3 l4 l7 s0 s1 s2 hl1 hl3 hl4 hl7 hs0 hs1 hs2
  unfold gX12_goes_180
  refine j_iadd (pc := 180) dX12_goes_180 ?_
  refine j_iast (pc := 181) jv2_46 jm_01 rfl (by decide) wI2 ka2_46 (jm_w_in _) dX12_goes_181 (fun c1 M2 => ?_)
  refine j_aload_n (pc := 182) dX12_goes_182 rfl (q := 0) rfl ?_
  refine j_getr (pc := 183) jv2_0 jm_01 kf_RX12_366 0 kg2_0_66 rfl dX12_goes_183 ?_
  refine j_iconst (pc := 186) dX12_goes_186 ?_
  refine j_iload_n (pc := 187) dX12_goes_187 rfl (q := 1) rfl ?_
  refine j_imul (pc := 188) dX12_goes_188 ?_
  refine j_iload (pc := 189) dX12_goes_189 (q := 3) rfl ?_
  refine j_iadd (pc := 191) dX12_goes_191 ?_
  refine j_aload_n (pc := 192) dX12_goes_192 rfl (q := 0) rfl ?_
  refine j_geti (pc := 193) jv2_0 jm_01 kf_RX12_312 kg2_0_70 dX12_goes_193 (fun h3 => ?_)
  refine j_iast (pc := 196) jv2_56 jm_01 rfl (by decide) wI2 ka2_56 h3 dX12_goes_196 (fun c4 M5 => ?_)
  refine j_aload_n (pc := 197) dX12_goes_197 rfl (q := 0) rfl ?_
  refine j_getr (pc := 198) jv2_0 jm_01 kf_RX12_405 0 kg2_0_67 rfl dX12_goes_198 ?_
  refine j_iconst (pc := 201) dX12_goes_201 ?_
  refine j_iload_n (pc := 202) dX12_goes_202 rfl (q := 1) rfl ?_
  refine j_imul (pc := 203) dX12_goes_203 ?_
  refine j_iload (pc := 204) dX12_goes_204 (q := 3) rfl ?_
  refine j_iadd (pc := 206) dX12_goes_206 ?_
  refine j_iload (pc := 207) dX12_goes_207 (q := 4) rfl ?_
  refine j_iast (pc := 209) jv2_57 jm_01 rfl (by decide) wI2 ka2_57 hl7 dX12_goes_209 (fun c6 M7 => ?_)
  refine j_aload_n (pc := 210) dX12_goes_210 rfl (q := 0) rfl ?_
  refine j_dup (pc := 211) dX12_goes_211 rfl ?_
  refine j_geti (pc := 212) jv2_0 jm_01 kf_RX12_312 kg2_0_70 dX12_goes_212 (fun h8 => ?_)
  refine j_iconst (pc := 215) dX12_goes_215 ?_
  refine j_iadd (pc := 216) dX12_goes_216 ?_
  refine j_put (pc := 217) jv2_0 jm_01 kf_RX12_312 wI2 kp_X12_70 kx2_0_70 (jm_w_in _) rfl rfl dX12_goes_217 (fun M9 => ?_)
  refine j_aload_n (pc := 220) dX12_goes_220 rfl (q := 0) rfl ?_
  refine j_getr (pc := 221) jv2_0 jm_01 kf_RX12_363 0 kg2_0_65 rfl dX12_goes_221 ?_
  refine j_bipush (pc := 224) 60 dX12_goes_224 (by decide) ?_
  refine j_iload_n (pc := 226) dX12_goes_226 rfl (q := 1) rfl ?_
  refine j_imul (pc := 227) dX12_goes_227 ?_
  refine j_iload_n (pc := 228) dX12_goes_228 rfl (q := 2) rfl ?_
  refine j_iadd (pc := 229) dX12_goes_229 ?_
  refine j_iload (pc := 230) dX12_goes_230 (q := 4) rfl ?_
  refine j_iast (pc := 232) jv2_55 jm_01 rfl (by decide) wI2 ka2_55 hl7 dX12_goes_232 (fun c10 M11 => ?_)
  refine j_aload_n (pc := 233) dX12_goes_233 rfl (q := 0) rfl ?_
  refine j_getr (pc := 234) jv2_0 jm_01 kf_RX12_327 0 kg2_0_53 rfl dX12_goes_234 ?_
  refine j_iload_n (pc := 237) dX12_goes_237 rfl (q := 1) rfl ?_
  refine j_dup2 (pc := 238) dX12_goes_238 rfl rfl ?_
  refine j_iald (pc := 239) jv2_43 jm_01 rfl (by decide) ka2_43 dX12_goes_239 (fun c12 h13 => ?_)
  refine j_iconst (pc := 240) dX12_goes_240 ?_
  refine j_iadd (pc := 241) dX12_goes_241 ?_
  refine j_iast (pc := 242) jv2_43 jm_01 rfl (by decide) wI2 ka2_43 (jm_w_in _) dX12_goes_242 (fun c14 M15 => ?_)
  refine j_aload_n (pc := 243) dX12_goes_243 rfl (q := 0) rfl ?_
  refine j_getr (pc := 244) jv2_0 jm_01 kf_RX12_318 0 kg2_0_51 rfl dX12_goes_244 ?_
  refine j_iload_n (pc := 247) dX12_goes_247 rfl (q := 1) rfl ?_
  refine j_iload (pc := 248) dX12_goes_248 (q := 4) rfl ?_
  refine j_iast (pc := 250) jv2_41 jm_01 rfl (by decide) wI2 ka2_41 hl7 dX12_goes_250 (fun c16 M17 => ?_)
  refine j_iload (pc := 251) dX12_goes_251 (q := 3) rfl ?_
  refine j_aload_n (pc := 253) dX12_goes_253 rfl (q := 0) rfl ?_
  refine j_geti (pc := 254) jv2_0 jm_01 kf_RX12_7 kg2_0_1 dX12_goes_254 (fun h18 => ?_)
  refine j_iconst (pc := 257) dX12_goes_257 ?_
  refine j_isub (pc := 258) dX12_goes_258 ?_
  refine j_icmp_ne (tgt := 275) (pc := 259) hl4 (jm_w_in _) dX12_goes_259 (by decide) (fun c19 => ?_) (fun c19 => ?_)
  · skip
    refine j_aload_n (pc := 262) dX12_goes_262 rfl (q := 0) rfl ?_
    refine j_iload_n (pc := 263) dX12_goes_263 rfl (q := 1) rfl ?_
    refine j_iload_n (pc := 264) dX12_goes_264 rfl (q := 2) rfl ?_
    refine j_aload_n (pc := 265) dX12_goes_265 rfl (q := 0) rfl ?_
    refine j_geti (pc := 266) jv2_0 jm_01 kf_RX12_7 kg2_0_1 dX12_goes_266 (fun h20 => ?_)
    refine j_gd (pc := 269) (fun c21 => ?_)
    refine j_idiv (pc := 269) hl3 h20 dX12_goes_269 c21 ?_
    refine j_iload (pc := 270) dX12_goes_270 (q := 4) rfl ?_
    refine j_callVv3 (pc := 272) (ct_X12_endsLap fu M17 l1 (jm_div l3 (M17 0 0 1)) l7 hl1 (jm_div_in _ _) hl7) kg_1592 km_X12_endsLap kv_X12_endsLap rfl rfl ⟨(Nat.le_of_ble_eq_true rfl), (Nat.le_of_ble_eq_true rfl)⟩ jv2_0 jm_01 ko2_0 rfl rfl (Nat.le_of_ble_eq_true rfl) dX12_goes_272 (fun v22 M23 => ?_)
    exact j_vret (pc := 275) dX12_goes_275
  · skip
    exact j_vret (pc := 275) dX12_goes_275
set_option maxHeartbeats 4000000 in
set_option maxRecDepth 100000 in
theorem ct_X12_goes (fu : Nat) (M : jm_M) (l1 l2 : Int) (hl1 : jm_in l1) (hl2 : jm_in l2) : jm_Cv wd2 yX12_goes cX12_goes 8 none rmX12_goes M (fun G ad => [.ref (ad (jm_r wd2 0 0)), jm_i l1, jm_i l2]) (fX12_goes fu M l1 l2) := by
  refine jm_met_v (fun X => [(0, jm_vr wd2 X 0 0), (1, jm_i l1), (2, jm_i l2)]) (by decide) (fun _ _ => (Nat.le_of_ble_eq_true rfl)) (fun _ => rfl) (fun X => ?_)
  unfold fX12_goes
  refine j_aload_n (pc := 0) dX12_goes_0 rfl (q := 0) rfl ?_
  refine j_getr (pc := 1) jv2_0 jm_01 kf_RX12_324 0 kg2_0_52 rfl dX12_goes_1 ?_
  refine j_iload_n (pc := 4) dX12_goes_4 rfl (q := 1) rfl ?_
  refine j_iald (pc := 5) jv2_42 jm_01 rfl (by decide) ka2_42 dX12_goes_5 (fun c1 h2 => ?_)
  refine j_nm (pc := 6) h2 (fun v3 h4 => ?_)
  refine j_istore_n (pc := 6) [(3, jm_i v3), (0, jm_vr wd2 X 0 0), (1, jm_i l1), (2, jm_i l2)] dX12_goes_6 rfl (by decide) rfl ?_
  refine j_iload_n (pc := 7) dX12_goes_7 rfl (q := 0) rfl ?_
  refine j_aload_n (pc := 8) dX12_goes_8 rfl (q := 1) rfl ?_
  refine j_geti (pc := 9) jv2_0 jm_01 kf_RX12_7 kg2_0_1 dX12_goes_9 (fun h5 => ?_)
  refine j_gd (pc := 12) (fun c6 => ?_)
  refine j_irem (pc := 12) h4 h5 dX12_goes_12 c6 ?_
  refine j_nm (pc := 13) (jm_mod_in h5 c6 h4) (fun v7 h8 => ?_)
  refine j_istore (pc := 13) [(4, jm_i v7), (3, jm_i v3), (0, jm_vr wd2 X 0 0), (1, jm_i l1), (2, jm_i l2)] dX12_goes_13 (by decide) rfl ?_
  refine j_aload_n (pc := 15) dX12_goes_15 rfl (q := 2) rfl ?_
  refine j_getr (pc := 16) jv2_0 jm_01 kf_RX12_324 0 kg2_0_52 rfl dX12_goes_16 ?_
  refine j_iload_n (pc := 19) dX12_goes_19 rfl (q := 3) rfl ?_
  refine j_dup2 (pc := 20) dX12_goes_20 rfl rfl ?_
  refine j_iald (pc := 21) jv2_42 jm_01 rfl (by decide) ka2_42 dX12_goes_21 (fun c9 h10 => ?_)
  refine j_iconst (pc := 22) dX12_goes_22 ?_
  refine j_iadd (pc := 23) dX12_goes_23 ?_
  refine j_iast (pc := 24) jv2_42 jm_01 rfl (by decide) wI2 ka2_42 (jm_w_in _) dX12_goes_24 (fun c11 M12 => ?_)
  refine j_aload_n (pc := 25) dX12_goes_25 rfl (q := 2) rfl ?_
  refine j_iload_n (pc := 26) dX12_goes_26 rfl (q := 3) rfl ?_
  refine j_iload_n (pc := 27) dX12_goes_27 rfl (q := 1) rfl ?_
  refine j_callVv2 (pc := 28) (ct_X12_hears fu M12 l1 v3 hl1 h4) kg_1558 km_X12_hears kv_X12_hears rfl rfl ⟨(Nat.le_of_ble_eq_true rfl), (Nat.le_of_ble_eq_true rfl)⟩ jv2_0 jm_01 ko2_0 rfl rfl (Nat.le_of_ble_eq_true rfl) dX12_goes_28 (fun v13 M14 => ?_)
  refine j_aload_n (pc := 31) dX12_goes_31 rfl (q := 2) rfl ?_
  refine j_getr (pc := 32) jv2_0 jm_01 kf_RX12_345 0 kg2_0_60 rfl dX12_goes_32 ?_
  refine j_iload_n (pc := 35) dX12_goes_35 rfl (q := 3) rfl ?_
  refine j_dup2 (pc := 36) dX12_goes_36 rfl rfl ?_
  refine j_iald (pc := 37) jv2_50 jm_01 rfl (by decide) ka2_50 dX12_goes_37 (fun c15 h16 => ?_)
  refine j_iconst (pc := 38) dX12_goes_38 ?_
  refine j_aload_n (pc := 39) dX12_goes_39 rfl (q := 2) rfl ?_
  refine j_getr (pc := 40) jv2_0 jm_01 kf_RX12_148 0 kg2_0_25 rfl dX12_goes_40 ?_
  refine j_iconst (pc := 43) dX12_goes_43 ?_
  refine j_iload_n (pc := 44) dX12_goes_44 rfl (q := 3) rfl ?_
  refine j_imul (pc := 45) dX12_goes_45 ?_
  refine j_aload_n (pc := 46) dX12_goes_46 rfl (q := 2) rfl ?_
  refine j_getr (pc := 47) jv2_0 jm_01 kf_RX12_333 0 kg2_0_55 rfl dX12_goes_47 ?_
  refine j_iload_n (pc := 50) dX12_goes_50 rfl (q := 3) rfl ?_
  refine j_iald (pc := 51) jv2_45 jm_01 rfl (by decide) ka2_45 dX12_goes_51 (fun c17 h18 => ?_)
  refine j_iadd (pc := 52) dX12_goes_52 ?_
  refine j_iald (pc := 53) jv2_20 jm_01 rfl (by decide) ka2_20 dX12_goes_53 (fun c19 h20 => ?_)
  refine j_ishl (pc := 54) dX12_goes_54 ?_
  refine j_ior (pc := 55) dX12_goes_55 ?_
  refine j_iast (pc := 56) jv2_50 jm_01 rfl (by decide) wI2 ka2_50 (jm_or_in _ _) dX12_goes_56 (fun c21 M22 => ?_)
  refine j_aload_n (pc := 57) dX12_goes_57 rfl (q := 2) rfl ?_
  refine j_getr (pc := 58) jv2_0 jm_01 kf_RX12_121 0 kg2_0_20 rfl dX12_goes_58 ?_
  refine j_iload_n (pc := 61) dX12_goes_61 rfl (q := 3) rfl ?_
  refine j_iald (pc := 62) jv2_15 jm_01 rfl (by decide) ka2_15 dX12_goes_62 (fun c23 h24 => ?_)
  refine j_aload_n (pc := 63) dX12_goes_63 rfl (q := 2) rfl ?_
  refine j_getr (pc := 64) jv2_0 jm_01 kf_RX12_336 0 kg2_0_57 rfl dX12_goes_64 ?_
  refine j_iload_n (pc := 67) dX12_goes_67 rfl (q := 3) rfl ?_
  refine j_iald (pc := 68) jv2_47 jm_01 rfl (by decide) ka2_47 dX12_goes_68 (fun c25 h26 => ?_)
  refine j_isub (pc := 69) dX12_goes_69 ?_
  refine j_nm (pc := 70) (jm_w_in _) (fun v27 h28 => ?_)
  refine j_istore (pc := 70) [(5, jm_i v27), (4, jm_i v7), (3, jm_i v3), (0, jm_vr wd2 X 0 0), (1, jm_i l1), (2, jm_i l2)] dX12_goes_70 (by decide) rfl ?_
  refine j_aload_n (pc := 72) dX12_goes_72 rfl (q := 3) rfl ?_
  refine j_getr (pc := 73) jv2_0 jm_01 kf_RX12_330 0 kg2_0_54 rfl dX12_goes_73 ?_
  refine j_iload_n (pc := 76) dX12_goes_76 rfl (q := 4) rfl ?_
  refine j_iald (pc := 77) jv2_44 jm_01 rfl (by decide) ka2_44 dX12_goes_77 (fun c29 h30 => ?_)
  refine j_iload (pc := 78) dX12_goes_78 (q := 0) rfl ?_
  refine j_icmp_ge (tgt := 98) (pc := 80) h30 h28 dX12_goes_80 (by decide) (fun c31 => ?_) (fun c31 => ?_)
  · skip
    refine j_aload_n (pc := 98) dX12_goes_98 rfl (q := 3) rfl ?_
    refine j_getr (pc := 99) jv2_0 jm_01 kf_RX12_330 0 kg2_0_54 rfl dX12_goes_99 ?_
    refine j_iload_n (pc := 102) dX12_goes_102 rfl (q := 4) rfl ?_
    refine j_dup2 (pc := 103) dX12_goes_103 rfl rfl ?_
    refine j_iald (pc := 104) jv2_44 jm_01 rfl (by decide) ka2_44 dX12_goes_104 (fun c32 h33 => ?_)
    refine j_iload (pc := 105) dX12_goes_105 (q := 0) rfl ?_
    refine j_isub (pc := 107) dX12_goes_107 ?_
    refine j_iast (pc := 108) jv2_44 jm_01 rfl (by decide) wI2 ka2_44 (jm_w_in _) dX12_goes_108 (fun c34 M35 => ?_)
    refine j_aload_n (pc := 109) dX12_goes_109 rfl (q := 3) rfl ?_
    refine j_iload_n (pc := 110) dX12_goes_110 rfl (q := 5) rfl ?_
    refine j_callVi1 (pc := 111) (ct_X12_isSlow fu M35 l2 hl2) kg_1562 km_X12_isSlow kv_X12_isSlow rfl rfl ⟨(Nat.le_of_ble_eq_true rfl), (Nat.le_of_ble_eq_true rfl)⟩ jv2_0 jm_01 ko2_0 rfl rfl (Nat.le_of_ble_eq_true rfl) dX12_goes_111 (fun v36 M37 h38 => ?_)
    refine j_istore (pc := 114) [(6, jm_i v36), (5, jm_i v27), (4, jm_i v7), (3, jm_i v3), (0, jm_vr wd2 X 0 0), (1, jm_i l1), (2, jm_i l2)] dX12_goes_114 (by decide) rfl ?_
    refine j_aload_n (pc := 116) dX12_goes_116 rfl (q := 4) rfl ?_
    refine j_iload_n (pc := 117) dX12_goes_117 rfl (q := 5) rfl ?_
    refine j_iload (pc := 118) dX12_goes_118 (q := 2) rfl ?_
    refine j_iload_n (pc := 120) dX12_goes_120 rfl (q := 6) rfl ?_
    refine j_iload_n (pc := 121) dX12_goes_121 rfl (q := 6) rfl ?_
    refine j_aload_n (pc := 122) dX12_goes_122 rfl (q := 4) rfl ?_
    refine j_iload_n (pc := 123) dX12_goes_123 rfl (q := 5) rfl ?_
    refine j_iload (pc := 124) dX12_goes_124 (q := 2) rfl ?_
    refine j_iload_n (pc := 126) dX12_goes_126 rfl (q := 6) rfl ?_
    refine j_iload (pc := 127) dX12_goes_127 (q := 0) rfl ?_
    refine j_callVi4 (pc := 129) (ct_X12_takes fu M37 l1 v7 l2 v36 hl1 h8 hl2 h38) kg_1566 km_X12_takes kv_X12_takes rfl rfl ⟨(Nat.le_of_ble_eq_true rfl), (Nat.le_of_ble_eq_true rfl)⟩ jv2_0 jm_01 ko2_0 rfl rfl (Nat.le_of_ble_eq_true rfl) dX12_goes_129 (fun v39 M40 h41 => ?_)
    refine j_iadd (pc := 132) dX12_goes_132 ?_
    refine j_iload (pc := 133) dX12_goes_133 (q := 0) rfl ?_
    refine j_callVi5 (pc := 135) (ct_X12_held fu M40 l1 v7 l2 (jm_w (l2 + v39)) v36 hl1 h8 hl2 (jm_w_in _) h38) kg_1580 km_X12_held kv_X12_held rfl rfl ⟨(Nat.le_of_ble_eq_true rfl), (Nat.le_of_ble_eq_true rfl)⟩ jv2_0 jm_01 ko2_0 rfl rfl (Nat.le_of_ble_eq_true rfl) dX12_goes_135 (fun v42 M43 h44 => ?_)
    refine j_istore (pc := 138) [(7, jm_i v42), (6, jm_i v36), (5, jm_i v27), (4, jm_i v7), (3, jm_i v3), (0, jm_vr wd2 X 0 0), (1, jm_i l1), (2, jm_i l2)] dX12_goes_138 (by decide) rfl ?_
    refine j_aload_n (pc := 140) dX12_goes_140 rfl (q := 5) rfl ?_
    refine j_getr (pc := 141) jv2_0 jm_01 kf_RX12_360 0 kg2_0_56 rfl dX12_goes_141 ?_
    refine j_iconst (pc := 144) dX12_goes_144 ?_
    refine j_iload_n (pc := 145) dX12_goes_145 rfl (q := 6) rfl ?_
    refine j_imul (pc := 146) dX12_goes_146 ?_
    refine j_aload_n (pc := 147) dX12_goes_147 rfl (q := 5) rfl ?_
    refine j_getr (pc := 148) jv2_0 jm_01 kf_RX12_333 0 kg2_0_55 rfl dX12_goes_148 ?_
    refine j_iload_n (pc := 151) dX12_goes_151 rfl (q := 6) rfl ?_
    refine j_iald (pc := 152) jv2_45 jm_01 rfl (by decide) ka2_45 dX12_goes_152 (fun c45 h46 => ?_)
    refine j_iadd (pc := 153) dX12_goes_153 ?_
    refine j_dup2 (pc := 154) dX12_goes_154 rfl rfl ?_
    refine j_iald (pc := 155) jv2_46 jm_01 rfl (by decide) ka2_46 dX12_goes_155 (fun c47 h48 => ?_)
    refine j_iload (pc := 156) dX12_goes_156 (q := 1) rfl ?_
    refine j_if_eq (tgt := 165) (pc := 158) h38 dX12_goes_158 (by decide) (fun c49 => ?_) (fun c49 => ?_)
    · skip
      refine j_aload_n (pc := 165) dX12_goes_165 rfl (q := 5) rfl ?_
      refine j_getr (pc := 166) jv2_0 jm_01 kf_RX12_336 0 kg2_0_57 rfl dX12_goes_166 ?_
      refine j_iload_n (pc := 169) dX12_goes_169 rfl (q := 6) rfl ?_
      refine j_iald (pc := 170) jv2_47 jm_01 rfl (by decide) ka2_47 dX12_goes_170 (fun c50 h51 => ?_)
      refine j_iconst (pc := 171) dX12_goes_171 ?_
      refine j_icmp_ne (tgt := 179) (pc := 172) h51 (jm_inL (by decide) (by decide)) dX12_goes_172 (by decide) (fun c52 => ?_) (fun c52 => ?_)
      · skip
        refine j_iconst (pc := 175) dX12_goes_175 ?_
        refine j_goto (tgt := 180) (pc := 176) dX12_goes_176 (by decide) ?_
        refine j_sub (pc := 180) [(0, jm_vr wd2 X 0 0), (1, jm_i l1), (3, jm_i v3), (4, jm_i v7), (7, jm_i v42)] [5, 6, 4, 3, 0] rfl ?_
        exact bX12_goes_180 X fu  M43 l1 v3 v7 v42 2 (M43 46 0 (jm_w ((jm_w (4 * l1)) + (M43 45 0 l1)))) (jm_w ((jm_w (4 * l1)) + (M43 45 0 l1))) hl1 h4 h8 h44 (jm_inL (by decide) (by decide)) h48 (jm_w_in _)
      · skip
        refine j_iconst (pc := 179) dX12_goes_179 ?_
        refine j_sub (pc := 180) [(0, jm_vr wd2 X 0 0), (1, jm_i l1), (3, jm_i v3), (4, jm_i v7), (7, jm_i v42)] [5, 6, 4, 3, 0] rfl ?_
        exact bX12_goes_180 X fu  M43 l1 v3 v7 v42 1 (M43 46 0 (jm_w ((jm_w (4 * l1)) + (M43 45 0 l1)))) (jm_w ((jm_w (4 * l1)) + (M43 45 0 l1))) hl1 h4 h8 h44 (jm_inL (by decide) (by decide)) h48 (jm_w_in _)
    · skip
      refine j_iconst (pc := 161) dX12_goes_161 ?_
      refine j_goto (tgt := 180) (pc := 162) dX12_goes_162 (by decide) ?_
      refine j_sub (pc := 180) [(0, jm_vr wd2 X 0 0), (1, jm_i l1), (3, jm_i v3), (4, jm_i v7), (7, jm_i v42)] [5, 6, 4, 3, 0] rfl ?_
      exact bX12_goes_180 X fu  M43 l1 v3 v7 v42 0 (M43 46 0 (jm_w ((jm_w (4 * l1)) + (M43 45 0 l1)))) (jm_w ((jm_w (4 * l1)) + (M43 45 0 l1))) hl1 h4 h8 h44 (jm_inL (by decide) (by decide)) h48 (jm_w_in _)
  · skip
    refine j_aload_n (pc := 83) dX12_goes_83 rfl (q := 3) rfl ?_
    refine j_getr (pc := 84) jv2_0 jm_01 kf_RX12_309 0 kg2_0_49 rfl dX12_goes_84 ?_
    refine j_iload_n (pc := 87) dX12_goes_87 rfl (q := 4) rfl ?_
    refine j_iconst (pc := 88) dX12_goes_88 ?_
    refine j_iast (pc := 89) jv2_39 jm_01 rfl (by decide) wI2 ka2_39 (jm_inL (by decide) (by decide)) dX12_goes_89 (fun c53 M54 => ?_)
    refine j_aload_n (pc := 90) dX12_goes_90 rfl (q := 3) rfl ?_
    refine j_getr (pc := 91) jv2_0 jm_01 kf_RX12_321 0 kg2_0_50 rfl dX12_goes_91 ?_
    refine j_iload_n (pc := 94) dX12_goes_94 rfl (q := 4) rfl ?_
    refine j_iload_n (pc := 95) dX12_goes_95 rfl (q := 5) rfl ?_
    refine j_iast (pc := 96) jv2_40 jm_01 rfl (by decide) wI2 ka2_40 hl2 dX12_goes_96 (fun c55 M56 => ?_)
    exact j_vret (pc := 97) dX12_goes_97
abbrev rmX12_runs : Room := { frames := 6, cells := 0, slots := 0, locals := 149 }
set_option maxHeartbeats 4000000 in
set_option maxRecDepth 100000 in
theorem b0X12_runs_9 (X : jm_X) (fu : Nat) (k9 : jm_M → Int → jm_R) (hk9 : ∀ (M : jm_M) (l1 : Int) (hl1 : jm_in l1), jm_J wd2 jm_qv cX12_runs 2 RX12 rmX12_runs X M [(0, jm_vr wd2 X 0 0), (1, jm_i l1)] [] 9 (k9 M l1)) : ∀ (M : jm_M) (l1 : Int) (hl1 : jm_in l1), jm_J wd2 jm_qv cX12_runs 2 RX12 rmX12_runs X M [(0, jm_vr wd2 X 0 0), (1, jm_i l1)] [] 9 (gX12_runs_9 fu k9 M l1) := by
  intro M l1 hl1
  unfold gX12_runs_9
  refine j_iload_n (pc := 9) dX12_runs_9 rfl (q := 1) rfl ?_
  refine j_if_lt (tgt := 32) (pc := 10) hl1 dX12_runs_10 (by decide) (fun c1 => ?_) (fun c1 => ?_)
  · skip
    exact j_vret (pc := 32) dX12_runs_32
  · skip
    refine j_aload_n (pc := 13) dX12_runs_13 rfl (q := 0) rfl ?_
    refine j_iload_n (pc := 14) dX12_runs_14 rfl (q := 1) rfl ?_
    refine j_aload_n (pc := 15) dX12_runs_15 rfl (q := 0) rfl ?_
    refine j_getr (pc := 16) jv2_0 jm_01 kf_RX12_318 0 kg2_0_51 rfl dX12_runs_16 ?_
    refine j_iload_n (pc := 19) dX12_runs_19 rfl (q := 1) rfl ?_
    refine j_iald (pc := 20) jv2_41 jm_01 rfl (by decide) ka2_41 dX12_runs_20 (fun c2 h3 => ?_)
    refine j_callVv2 (pc := 21) (ct_X12_goes fu M l1 (M 41 0 l1) hl1 h3) kg_1554 km_X12_goes kv_X12_goes rfl rfl ⟨(Nat.le_of_ble_eq_true rfl), (Nat.le_of_ble_eq_true rfl)⟩ jv2_0 jm_01 ko2_0 rfl rfl (Nat.le_of_ble_eq_true rfl) dX12_runs_21 (fun v4 M5 => ?_)
    refine j_aload_n (pc := 24) dX12_runs_24 rfl (q := 0) rfl ?_
    refine j_callVi0 (pc := 25) (ct_X12_next fu M5 ) kg_1546 km_X12_next kv_X12_next rfl rfl ⟨(Nat.le_of_ble_eq_true rfl), (Nat.le_of_ble_eq_true rfl)⟩ jv2_0 jm_01 ko2_0 rfl rfl (Nat.le_of_ble_eq_true rfl) dX12_runs_25 (fun v6 M7 h8 => ?_)
    refine j_istore_n (pc := 28) [(1, jm_i v6), (0, jm_vr wd2 X 0 0)] dX12_runs_28 rfl (by decide) rfl ?_
    refine j_goto (tgt := 9) (pc := 29) dX12_runs_29 (by decide) ?_
    refine j_sub (pc := 9) [(0, jm_vr wd2 X 0 0), (1, jm_i v6)] [1, 0] rfl ?_
    exact hk9 M7 v6 h8
theorem bX12_runs_9 (X : jm_X) (fu : Nat) : ∀ (n : Nat) (M : jm_M) (l1 : Int) (hl1 : jm_in l1), jm_J wd2 jm_qv cX12_runs 2 RX12 rmX12_runs X M [(0, jm_vr wd2 X 0 0), (1, jm_i l1)] [] 9 (fX12_runs_9 fu n M l1) := by
  intro n
  induction n with
  | zero => intro M l1 hl1; exact j_none
  | succ n ih => intro M l1 hl1; exact b0X12_runs_9 X fu (fX12_runs_9 fu n) ih M l1 hl1
set_option maxHeartbeats 4000000 in
set_option maxRecDepth 100000 in
theorem ct_X12_runs (fu : Nat) (M : jm_M) : jm_Cv wd2 yX12_runs cX12_runs 2 none rmX12_runs M (fun G ad => [.ref (ad (jm_r wd2 0 0))]) (fX12_runs fu M ) := by
  refine jm_met_v (fun X => [(0, jm_vr wd2 X 0 0)]) (by decide) (fun _ _ => (Nat.le_of_ble_eq_true rfl)) (fun _ => rfl) (fun X => ?_)
  unfold fX12_runs
  refine j_aload_n (pc := 0) dX12_runs_0 rfl (q := 0) rfl ?_
  refine j_callVv0 (pc := 1) (ct_X12_starts fu M ) kg_1542 km_X12_starts kv_X12_starts rfl rfl ⟨(Nat.le_of_ble_eq_true rfl), (Nat.le_of_ble_eq_true rfl)⟩ jv2_0 jm_01 ko2_0 rfl rfl (Nat.le_of_ble_eq_true rfl) dX12_runs_1 (fun v1 M2 => ?_)
  refine j_aload_n (pc := 4) dX12_runs_4 rfl (q := 0) rfl ?_
  refine j_callVi0 (pc := 5) (ct_X12_next fu M2 ) kg_1546 km_X12_next kv_X12_next rfl rfl ⟨(Nat.le_of_ble_eq_true rfl), (Nat.le_of_ble_eq_true rfl)⟩ jv2_0 jm_01 ko2_0 rfl rfl (Nat.le_of_ble_eq_true rfl) dX12_runs_5 (fun v3 M4 h5 => ?_)
  refine j_istore_n (pc := 8) [(1, jm_i v3), (0, jm_vr wd2 X 0 0)] dX12_runs_8 rfl (by decide) rfl ?_
  refine j_sub (pc := 9) [(0, jm_vr wd2 X 0 0), (1, jm_i v3)] [1, 0] rfl ?_
  exact bX12_runs_9 X fu  fu M4 v3 h5
abbrev rmJ6_bitCount_0f7a4_w2 : Room := { frames := 0, cells := 0, slots := 0, locals := 0 }
set_option maxHeartbeats 4000000 in
set_option maxRecDepth 100000 in
theorem ct_J6_bitCount_0f7a4_w2 (M : jm_M) (l0 : Int) (hl0 : jm_in l0) : jm_Ci wd2 yJ6_bitCount_0f7a4 cJ6_bitCount_0f7a4 1 (some .int) rmJ6_bitCount_0f7a4_w2 M (fun G ad => [jm_i l0]) (fJ6_bitCount_0f7a4_w2 M l0) := by
  refine jm_met_i (fun X => [(0, jm_i l0)]) (by decide) (fun _ _ => (Nat.le_of_ble_eq_true rfl)) (fun _ => rfl) (fun X => ?_)
  unfold fJ6_bitCount_0f7a4_w2
  refine j_iload_n (pc := 0) dJ6_bitCount_0f7a4_0 rfl (q := 0) rfl ?_
  refine j_iload_n (pc := 1) dJ6_bitCount_0f7a4_1 rfl (q := 0) rfl ?_
  refine j_iconst (pc := 2) dJ6_bitCount_0f7a4_2 ?_
  refine j_iushr (pc := 3) dJ6_bitCount_0f7a4_3 ?_
  refine j_ldcw (pc := 4) 1431655765 kg_1093 (by decide) dJ6_bitCount_0f7a4_4 ?_
  refine j_iand (pc := 7) dJ6_bitCount_0f7a4_7 ?_
  refine j_isub (pc := 8) dJ6_bitCount_0f7a4_8 ?_
  refine j_nm (pc := 9) (jm_w_in _) (fun v1 h2 => ?_)
  refine j_istore_n (pc := 9) [(0, jm_i v1)] dJ6_bitCount_0f7a4_9 rfl (by decide) rfl ?_
  refine j_iload_n (pc := 10) dJ6_bitCount_0f7a4_10 rfl (q := 0) rfl ?_
  refine j_ldcw (pc := 11) 858993459 kg_1094 (by decide) dJ6_bitCount_0f7a4_11 ?_
  refine j_iand (pc := 14) dJ6_bitCount_0f7a4_14 ?_
  refine j_iload_n (pc := 15) dJ6_bitCount_0f7a4_15 rfl (q := 0) rfl ?_
  refine j_iconst (pc := 16) dJ6_bitCount_0f7a4_16 ?_
  refine j_iushr (pc := 17) dJ6_bitCount_0f7a4_17 ?_
  refine j_ldcw (pc := 18) 858993459 kg_1094 (by decide) dJ6_bitCount_0f7a4_18 ?_
  refine j_iand (pc := 21) dJ6_bitCount_0f7a4_21 ?_
  refine j_iadd (pc := 22) dJ6_bitCount_0f7a4_22 ?_
  refine j_nm (pc := 23) (jm_w_in _) (fun v3 h4 => ?_)
  refine j_istore_n (pc := 23) [(0, jm_i v3)] dJ6_bitCount_0f7a4_23 rfl (by decide) rfl ?_
  refine j_iload_n (pc := 24) dJ6_bitCount_0f7a4_24 rfl (q := 0) rfl ?_
  refine j_iload_n (pc := 25) dJ6_bitCount_0f7a4_25 rfl (q := 0) rfl ?_
  refine j_iconst (pc := 26) dJ6_bitCount_0f7a4_26 ?_
  refine j_iushr (pc := 27) dJ6_bitCount_0f7a4_27 ?_
  refine j_iadd (pc := 28) dJ6_bitCount_0f7a4_28 ?_
  refine j_ldcw (pc := 29) 252645135 kg_1095 (by decide) dJ6_bitCount_0f7a4_29 ?_
  refine j_iand (pc := 32) dJ6_bitCount_0f7a4_32 ?_
  refine j_nm (pc := 33) (jm_and_in _ _) (fun v5 h6 => ?_)
  refine j_istore_n (pc := 33) [(0, jm_i v5)] dJ6_bitCount_0f7a4_33 rfl (by decide) rfl ?_
  refine j_iload_n (pc := 34) dJ6_bitCount_0f7a4_34 rfl (q := 0) rfl ?_
  refine j_iload_n (pc := 35) dJ6_bitCount_0f7a4_35 rfl (q := 0) rfl ?_
  refine j_bipush (pc := 36) 8 dJ6_bitCount_0f7a4_36 (by decide) ?_
  refine j_iushr (pc := 38) dJ6_bitCount_0f7a4_38 ?_
  refine j_iadd (pc := 39) dJ6_bitCount_0f7a4_39 ?_
  refine j_nm (pc := 40) (jm_w_in _) (fun v7 h8 => ?_)
  refine j_istore_n (pc := 40) [(0, jm_i v7)] dJ6_bitCount_0f7a4_40 rfl (by decide) rfl ?_
  refine j_iload_n (pc := 41) dJ6_bitCount_0f7a4_41 rfl (q := 0) rfl ?_
  refine j_iload_n (pc := 42) dJ6_bitCount_0f7a4_42 rfl (q := 0) rfl ?_
  refine j_bipush (pc := 43) 16 dJ6_bitCount_0f7a4_43 (by decide) ?_
  refine j_iushr (pc := 45) dJ6_bitCount_0f7a4_45 ?_
  refine j_iadd (pc := 46) dJ6_bitCount_0f7a4_46 ?_
  refine j_nm (pc := 47) (jm_w_in _) (fun v9 h10 => ?_)
  refine j_istore_n (pc := 47) [(0, jm_i v9)] dJ6_bitCount_0f7a4_47 rfl (by decide) rfl ?_
  refine j_iload_n (pc := 48) dJ6_bitCount_0f7a4_48 rfl (q := 0) rfl ?_
  refine j_bipush (pc := 49) 63 dJ6_bitCount_0f7a4_49 (by decide) ?_
  refine j_iand (pc := 51) dJ6_bitCount_0f7a4_51 ?_
  exact j_iret (pc := 52) (jm_and_in _ _) rfl dJ6_bitCount_0f7a4_52
abbrev rmX12_of : Room := { frames := 7, cells := 0, slots := 0, locals := 170 }
set_option maxHeartbeats 4000000 in
set_option maxRecDepth 100000 in
theorem ct_X12_of (fu : Nat) (M : jm_M) (l1 l2 : Int) (hl1 : jm_in l1) (hl2 : jm_in l2) : jm_Ci wd2 yX12_of cX12_of 3 (some .int) rmX12_of M (fun G ad => [.ref (ad (jm_r wd2 0 0)), jm_i l1, jm_i l2]) (fX12_of fu M l1 l2) := by
  refine jm_met_i (fun X => [(0, jm_vr wd2 X 0 0), (1, jm_i l1), (2, jm_i l2)]) (by decide) (fun _ _ => (Nat.le_of_ble_eq_true rfl)) (fun _ => rfl) (fun X => ?_)
  unfold fX12_of
  refine j_aload_n (pc := 0) dX12_of_0 rfl (q := 0) rfl ?_
  refine j_iconst (pc := 1) dX12_of_1 ?_
  refine j_put (pc := 2) jv2_0 jm_01 kf_RX12_3 wI2 kp_X12_0 kx2_0_0 (jm_inL (by decide) (by decide)) rfl rfl dX12_of_2 (fun M1 => ?_)
  refine j_aload_n (pc := 5) dX12_of_5 rfl (q := 0) rfl ?_
  refine j_iload_n (pc := 6) dX12_of_6 rfl (q := 1) rfl ?_
  refine j_callVi1 (pc := 7) (ct_X12_isCar M1 l1 hl1) kg_1405 km_X12_isCar kv_X12_isCar rfl rfl ⟨(Nat.le_of_ble_eq_true rfl), (Nat.le_of_ble_eq_true rfl)⟩ jv2_0 jm_01 ko2_0 rfl rfl (Nat.le_of_ble_eq_true rfl) dX12_of_7 (fun v2 M3 h4 => ?_)
  refine j_if_eq (tgt := 25) (pc := 10) h4 dX12_of_10 (by decide) (fun c5 => ?_) (fun c5 => ?_)
  · skip
    refine j_aload_n (pc := 25) dX12_of_25 rfl (q := 0) rfl ?_
    refine j_callVi0 (pc := 26) (ct_X12_refuse M3 ) kg_1534 km_X12_refuse kv_X12_refuse rfl rfl ⟨(Nat.le_of_ble_eq_true rfl), (Nat.le_of_ble_eq_true rfl)⟩ jv2_0 jm_01 ko2_0 rfl rfl (Nat.le_of_ble_eq_true rfl) dX12_of_26 (fun v6 M7 h8 => ?_)
    exact j_iret (pc := 29) h8 rfl dX12_of_29
  · skip
    refine j_iload_n (pc := 13) dX12_of_13 rfl (q := 2) rfl ?_
    refine j_i2l (pc := 14) hl2 dX12_of_14 ?_
    refine j_lconst (pc := 15) 0 dX12_of_15 rfl ?_
    refine j_ldc2 (pc := 16) 10 kg_1533 (by decide) dX12_of_16 ?_
    refine j_callSi3 (pc := 19) (ct_X12_in M3 l2 0 10 hl2 (jm_inL (by decide) (by decide)) (jm_inL (by decide) (by decide))) kg_1347 km_X12_in kg_1348 rfl rfl ⟨(Nat.le_of_ble_eq_true rfl), (Nat.le_of_ble_eq_true rfl)⟩ rfl rfl (Nat.le_of_ble_eq_true rfl) dX12_of_19 (fun v9 M10 h11 => ?_)
    refine j_if_ne (tgt := 30) (pc := 22) h11 dX12_of_22 (by decide) (fun c12 => ?_) (fun c12 => ?_)
    · skip
      refine j_aload_n (pc := 25) dX12_of_25 rfl (q := 0) rfl ?_
      refine j_callVi0 (pc := 26) (ct_X12_refuse M10 ) kg_1534 km_X12_refuse kv_X12_refuse rfl rfl ⟨(Nat.le_of_ble_eq_true rfl), (Nat.le_of_ble_eq_true rfl)⟩ jv2_0 jm_01 ko2_0 rfl rfl (Nat.le_of_ble_eq_true rfl) dX12_of_26 (fun v13 M14 h15 => ?_)
      exact j_iret (pc := 29) h15 rfl dX12_of_29
    · skip
      refine j_aload_n (pc := 30) dX12_of_30 rfl (q := 0) rfl ?_
      refine j_callVv0 (pc := 31) (ct_X12_runs fu M10 ) kg_1538 km_X12_runs kv_X12_runs rfl rfl ⟨(Nat.le_of_ble_eq_true rfl), (Nat.le_of_ble_eq_true rfl)⟩ jv2_0 jm_01 ko2_0 rfl rfl (Nat.le_of_ble_eq_true rfl) dX12_of_31 (fun v16 M17 => ?_)
      refine j_iload_n (pc := 34) dX12_of_34 rfl (q := 2) rfl ?_
      refine j_ite (pc := 35) (fun c18 => ?_) (fun c18 => ?_)
      · skip
        refine j_tabIn (off := (53)) (tgt := 88) (pc := 35) 0 hl2 dX12_of_35 c18 (by decide) (by decide) rfl (by decide) ?_
        refine j_aload_n (pc := 88) dX12_of_88 rfl (q := 0) rfl ?_
        refine j_getr (pc := 89) jv2_0 jm_01 kf_RX12_309 0 kg2_0_49 rfl dX12_of_89 ?_
        refine j_iload_n (pc := 92) dX12_of_92 rfl (q := 1) rfl ?_
        refine j_iald (pc := 93) jv2_39 jm_01 rfl (by decide) ka2_39 dX12_of_93 (fun c19 h20 => ?_)
        exact j_iret (pc := 94) h20 rfl dX12_of_94
      · skip
        refine j_ite (pc := 35) (fun c21 => ?_) (fun c21 => ?_)
        · skip
          refine j_tabIn (off := (60)) (tgt := 95) (pc := 35) 1 hl2 dX12_of_35 c21 (by decide) (by decide) rfl (by decide) ?_
          refine j_aload_n (pc := 95) dX12_of_95 rfl (q := 0) rfl ?_
          refine j_getr (pc := 96) jv2_0 jm_01 kf_RX12_321 0 kg2_0_50 rfl dX12_of_96 ?_
          refine j_iload_n (pc := 99) dX12_of_99 rfl (q := 1) rfl ?_
          refine j_iald (pc := 100) jv2_40 jm_01 rfl (by decide) ka2_40 dX12_of_100 (fun c22 h23 => ?_)
          exact j_iret (pc := 101) h23 rfl dX12_of_101
        · skip
          refine j_ite (pc := 35) (fun c24 => ?_) (fun c24 => ?_)
          · skip
            refine j_tabIn (off := (67)) (tgt := 102) (pc := 35) 2 hl2 dX12_of_35 c24 (by decide) (by decide) rfl (by decide) ?_
            refine j_aload_n (pc := 102) dX12_of_102 rfl (q := 0) rfl ?_
            refine j_getr (pc := 103) jv2_0 jm_01 kf_RX12_327 0 kg2_0_53 rfl dX12_of_103 ?_
            refine j_iload_n (pc := 106) dX12_of_106 rfl (q := 1) rfl ?_
            refine j_iald (pc := 107) jv2_43 jm_01 rfl (by decide) ka2_43 dX12_of_107 (fun c25 h26 => ?_)
            exact j_iret (pc := 108) h26 rfl dX12_of_108
          · skip
            refine j_ite (pc := 35) (fun c27 => ?_) (fun c27 => ?_)
            · skip
              refine j_tabIn (off := (74)) (tgt := 109) (pc := 35) 3 hl2 dX12_of_35 c27 (by decide) (by decide) rfl (by decide) ?_
              refine j_aload_n (pc := 109) dX12_of_109 rfl (q := 0) rfl ?_
              refine j_getr (pc := 110) jv2_0 jm_01 kf_RX12_342 0 kg2_0_59 rfl dX12_of_110 ?_
              refine j_iload_n (pc := 113) dX12_of_113 rfl (q := 1) rfl ?_
              refine j_iald (pc := 114) jv2_49 jm_01 rfl (by decide) ka2_49 dX12_of_114 (fun c28 h29 => ?_)
              exact j_iret (pc := 115) h29 rfl dX12_of_115
            · skip
              refine j_ite (pc := 35) (fun c30 => ?_) (fun c30 => ?_)
              · skip
                refine j_tabIn (off := (81)) (tgt := 116) (pc := 35) 4 hl2 dX12_of_35 c30 (by decide) (by decide) rfl (by decide) ?_
                refine j_aload_n (pc := 116) dX12_of_116 rfl (q := 0) rfl ?_
                refine j_getr (pc := 117) jv2_0 jm_01 kf_RX12_345 0 kg2_0_60 rfl dX12_of_117 ?_
                refine j_iload_n (pc := 120) dX12_of_120 rfl (q := 1) rfl ?_
                refine j_iald (pc := 121) jv2_50 jm_01 rfl (by decide) ka2_50 dX12_of_121 (fun c31 h32 => ?_)
                refine j_callSi1 (pc := 122) (ct_J6_bitCount_0f7a4_w2 M17 (M17 50 0 l1) h32) kg_1622 km_J6_bitCount_0f7a4 kg_1091 rfl rfl ⟨(Nat.le_of_ble_eq_true rfl), (Nat.le_of_ble_eq_true rfl)⟩ rfl rfl (Nat.le_of_ble_eq_true rfl) dX12_of_122 (fun v33 M34 h35 => ?_)
                exact j_iret (pc := 125) h35 rfl dX12_of_125
              · skip
                refine j_ite (pc := 35) (fun c36 => ?_) (fun c36 => ?_)
                · skip
                  refine j_tabIn (off := (91)) (tgt := 126) (pc := 35) 5 hl2 dX12_of_35 c36 (by decide) (by decide) rfl (by decide) ?_
                  refine j_aload_n (pc := 126) dX12_of_126 rfl (q := 0) rfl ?_
                  refine j_getr (pc := 127) jv2_0 jm_01 kf_RX12_348 0 kg2_0_61 rfl dX12_of_127 ?_
                  refine j_iload_n (pc := 130) dX12_of_130 rfl (q := 1) rfl ?_
                  refine j_iald (pc := 131) jv2_51 jm_01 rfl (by decide) ka2_51 dX12_of_131 (fun c37 h38 => ?_)
                  exact j_iret (pc := 132) h38 rfl dX12_of_132
                · skip
                  refine j_ite (pc := 35) (fun c39 => ?_) (fun c39 => ?_)
                  · skip
                    refine j_tabIn (off := (98)) (tgt := 133) (pc := 35) 6 hl2 dX12_of_35 c39 (by decide) (by decide) rfl (by decide) ?_
                    refine j_aload_n (pc := 133) dX12_of_133 rfl (q := 0) rfl ?_
                    refine j_getr (pc := 134) jv2_0 jm_01 kf_RX12_330 0 kg2_0_54 rfl dX12_of_134 ?_
                    refine j_iload_n (pc := 137) dX12_of_137 rfl (q := 1) rfl ?_
                    refine j_iald (pc := 138) jv2_44 jm_01 rfl (by decide) ka2_44 dX12_of_138 (fun c40 h41 => ?_)
                    exact j_iret (pc := 139) h41 rfl dX12_of_139
                  · skip
                    refine j_ite (pc := 35) (fun c42 => ?_) (fun c42 => ?_)
                    · skip
                      refine j_tabIn (off := (105)) (tgt := 140) (pc := 35) 7 hl2 dX12_of_35 c42 (by decide) (by decide) rfl (by decide) ?_
                      refine j_aload_n (pc := 140) dX12_of_140 rfl (q := 0) rfl ?_
                      refine j_getr (pc := 141) jv2_0 jm_01 kf_RX12_333 0 kg2_0_55 rfl dX12_of_141 ?_
                      refine j_iload_n (pc := 144) dX12_of_144 rfl (q := 1) rfl ?_
                      refine j_iald (pc := 145) jv2_45 jm_01 rfl (by decide) ka2_45 dX12_of_145 (fun c43 h44 => ?_)
                      exact j_iret (pc := 146) h44 rfl dX12_of_146
                    · skip
                      refine j_ite (pc := 35) (fun c45 => ?_) (fun c45 => ?_)
                      · skip
                        refine j_tabIn (off := (112)) (tgt := 147) (pc := 35) 8 hl2 dX12_of_35 c45 (by decide) (by decide) rfl (by decide) ?_
                        refine j_aload_n (pc := 147) dX12_of_147 rfl (q := 0) rfl ?_
                        refine j_getr (pc := 148) jv2_0 jm_01 kf_RX12_333 0 kg2_0_55 rfl dX12_of_148 ?_
                        refine j_iload_n (pc := 151) dX12_of_151 rfl (q := 1) rfl ?_
                        refine j_iald (pc := 152) jv2_45 jm_01 rfl (by decide) ka2_45 dX12_of_152 (fun c46 h47 => ?_)
                        refine j_if_ge (tgt := 160) (pc := 153) h47 dX12_of_153 (by decide) (fun c48 => ?_) (fun c48 => ?_)
                        · skip
                          refine j_aload_n (pc := 160) dX12_of_160 rfl (q := 0) rfl ?_
                          refine j_getr (pc := 161) jv2_0 jm_01 kf_RX12_360 0 kg2_0_56 rfl dX12_of_161 ?_
                          refine j_iconst (pc := 164) dX12_of_164 ?_
                          refine j_iload_n (pc := 165) dX12_of_165 rfl (q := 1) rfl ?_
                          refine j_imul (pc := 166) dX12_of_166 ?_
                          refine j_aload_n (pc := 167) dX12_of_167 rfl (q := 0) rfl ?_
                          refine j_getr (pc := 168) jv2_0 jm_01 kf_RX12_333 0 kg2_0_55 rfl dX12_of_168 ?_
                          refine j_iload_n (pc := 171) dX12_of_171 rfl (q := 1) rfl ?_
                          refine j_iald (pc := 172) jv2_45 jm_01 rfl (by decide) ka2_45 dX12_of_172 (fun c49 h50 => ?_)
                          refine j_iadd (pc := 173) dX12_of_173 ?_
                          refine j_iald (pc := 174) jv2_46 jm_01 rfl (by decide) ka2_46 dX12_of_174 (fun c51 h52 => ?_)
                          exact j_iret (pc := 175) h52 rfl dX12_of_175
                        · skip
                          refine j_iconst (pc := 156) dX12_of_156 ?_
                          refine j_goto (tgt := 175) (pc := 157) dX12_of_157 (by decide) ?_
                          exact j_iret (pc := 175) (jm_inL (by decide) (by decide)) rfl dX12_of_175
                      · skip
                        refine j_ite (pc := 35) (fun c53 => ?_) (fun c53 => ?_)
                        · skip
                          refine j_tabIn (off := (141)) (tgt := 176) (pc := 35) 9 hl2 dX12_of_35 c53 (by decide) (by decide) rfl (by decide) ?_
                          refine j_aload_n (pc := 176) dX12_of_176 rfl (q := 0) rfl ?_
                          refine j_getr (pc := 177) jv2_0 jm_01 kf_RX12_351 0 kg2_0_62 rfl dX12_of_177 ?_
                          refine j_iload_n (pc := 180) dX12_of_180 rfl (q := 1) rfl ?_
                          refine j_iald (pc := 181) jv2_52 jm_01 rfl (by decide) ka2_52 dX12_of_181 (fun c54 h55 => ?_)
                          exact j_iret (pc := 182) h55 rfl dX12_of_182
                        · skip
                          refine j_tabOut (tgt := 183) (pc := 35) hl2 dX12_of_35 (by omega) (by decide) ?_
                          refine j_aload_n (pc := 183) dX12_of_183 rfl (q := 0) rfl ?_
                          refine j_getr (pc := 184) jv2_0 jm_01 kf_RX12_354 0 kg2_0_63 rfl dX12_of_184 ?_
                          refine j_iload_n (pc := 187) dX12_of_187 rfl (q := 1) rfl ?_
                          refine j_iald (pc := 188) jv2_53 jm_01 rfl (by decide) ka2_53 dX12_of_188 (fun c56 h57 => ?_)
                          exact j_iret (pc := 189) h57 rfl dX12_of_189
abbrev rmX12_at : Room := { frames := 7, cells := 0, slots := 0, locals := 170 }
set_option maxHeartbeats 4000000 in
set_option maxRecDepth 100000 in
theorem ct_X12_at (fu : Nat) (M : jm_M) (l1 l2 l3 : Int) (hl1 : jm_in l1) (hl2 : jm_in l2) (hl3 : jm_in l3) : jm_Ci wd2 yX12_at cX12_at 4 (some .int) rmX12_at M (fun G ad => [.ref (ad (jm_r wd2 0 0)), jm_i l1, jm_i l2, jm_i l3]) (fX12_at fu M l1 l2 l3) := by
  refine jm_met_i (fun X => [(0, jm_vr wd2 X 0 0), (1, jm_i l1), (2, jm_i l2), (3, jm_i l3)]) (by decide) (fun _ _ => (Nat.le_of_ble_eq_true rfl)) (fun _ => rfl) (fun X => ?_)
  unfold fX12_at
  refine j_aload_n (pc := 0) dX12_at_0 rfl (q := 0) rfl ?_
  refine j_iconst (pc := 1) dX12_at_1 ?_
  refine j_put (pc := 2) jv2_0 jm_01 kf_RX12_3 wI2 kp_X12_0 kx2_0_0 (jm_inL (by decide) (by decide)) rfl rfl dX12_at_2 (fun M1 => ?_)
  refine j_aload_n (pc := 5) dX12_at_5 rfl (q := 0) rfl ?_
  refine j_iload_n (pc := 6) dX12_at_6 rfl (q := 1) rfl ?_
  refine j_callVi1 (pc := 7) (ct_X12_isCar M1 l1 hl1) kg_1405 km_X12_isCar kv_X12_isCar rfl rfl ⟨(Nat.le_of_ble_eq_true rfl), (Nat.le_of_ble_eq_true rfl)⟩ jv2_0 jm_01 ko2_0 rfl rfl (Nat.le_of_ble_eq_true rfl) dX12_at_7 (fun v2 M3 h4 => ?_)
  refine j_if_eq (tgt := 29) (pc := 10) h4 dX12_at_10 (by decide) (fun c5 => ?_) (fun c5 => ?_)
  · skip
    refine j_iconst (pc := 29) dX12_at_29 ?_
    exact j_iret (pc := 30) (jm_inL (by decide) (by decide)) rfl dX12_at_30
  · skip
    refine j_aload_n (pc := 13) dX12_at_13 rfl (q := 0) rfl ?_
    refine j_iload_n (pc := 14) dX12_at_14 rfl (q := 2) rfl ?_
    refine j_callVi1 (pc := 15) (ct_X12_isLap M3 l2 hl2) kg_1413 km_X12_isLap kv_X12_isLap rfl rfl ⟨(Nat.le_of_ble_eq_true rfl), (Nat.le_of_ble_eq_true rfl)⟩ jv2_0 jm_01 ko2_0 rfl rfl (Nat.le_of_ble_eq_true rfl) dX12_at_15 (fun v6 M7 h8 => ?_)
    refine j_if_eq (tgt := 29) (pc := 18) h8 dX12_at_18 (by decide) (fun c9 => ?_) (fun c9 => ?_)
    · skip
      refine j_iconst (pc := 29) dX12_at_29 ?_
      exact j_iret (pc := 30) (jm_inL (by decide) (by decide)) rfl dX12_at_30
    · skip
      refine j_aload_n (pc := 21) dX12_at_21 rfl (q := 0) rfl ?_
      refine j_iload_n (pc := 22) dX12_at_22 rfl (q := 3) rfl ?_
      refine j_callVi1 (pc := 23) (ct_X12_isSector M7 l3 hl3) kg_1360 km_X12_isSector kv_X12_isSector rfl rfl ⟨(Nat.le_of_ble_eq_true rfl), (Nat.le_of_ble_eq_true rfl)⟩ jv2_0 jm_01 ko2_0 rfl rfl (Nat.le_of_ble_eq_true rfl) dX12_at_23 (fun v10 M11 h12 => ?_)
      refine j_if_ne (tgt := 31) (pc := 26) h12 dX12_at_26 (by decide) (fun c13 => ?_) (fun c13 => ?_)
      · skip
        refine j_iconst (pc := 29) dX12_at_29 ?_
        exact j_iret (pc := 30) (jm_inL (by decide) (by decide)) rfl dX12_at_30
      · skip
        refine j_aload_n (pc := 31) dX12_at_31 rfl (q := 0) rfl ?_
        refine j_callVv0 (pc := 32) (ct_X12_runs fu M11 ) kg_1538 km_X12_runs kv_X12_runs rfl rfl ⟨(Nat.le_of_ble_eq_true rfl), (Nat.le_of_ble_eq_true rfl)⟩ jv2_0 jm_01 ko2_0 rfl rfl (Nat.le_of_ble_eq_true rfl) dX12_at_32 (fun v14 M15 => ?_)
        refine j_aload_n (pc := 35) dX12_at_35 rfl (q := 0) rfl ?_
        refine j_getr (pc := 36) jv2_0 jm_01 kf_RX12_363 0 kg2_0_65 rfl dX12_at_36 ?_
        refine j_bipush (pc := 39) 60 dX12_at_39 (by decide) ?_
        refine j_iload_n (pc := 41) dX12_at_41 rfl (q := 1) rfl ?_
        refine j_imul (pc := 42) dX12_at_42 ?_
        refine j_aload_n (pc := 43) dX12_at_43 rfl (q := 0) rfl ?_
        refine j_geti (pc := 44) jv2_0 jm_01 kf_RX12_7 kg2_0_1 dX12_at_44 (fun h16 => ?_)
        refine j_iload_n (pc := 47) dX12_at_47 rfl (q := 2) rfl ?_
        refine j_imul (pc := 48) dX12_at_48 ?_
        refine j_iadd (pc := 49) dX12_at_49 ?_
        refine j_iload_n (pc := 50) dX12_at_50 rfl (q := 3) rfl ?_
        refine j_iadd (pc := 51) dX12_at_51 ?_
        refine j_iald (pc := 52) jv2_55 jm_01 rfl (by decide) ka2_55 dX12_at_52 (fun c17 h18 => ?_)
        exact j_iret (pc := 53) h18 rfl dX12_at_53
abbrev rmX12_ledBy : Room := { frames := 0, cells := 0, slots := 0, locals := 0 }
set_option maxHeartbeats 4000000 in
set_option maxRecDepth 100000 in
theorem b0X12_ledBy_43 (X : jm_X) (fu : Nat) (k14 : jm_M → Int → Int → Int → jm_R) (k43 : jm_M → Int → Int → Int → Int → Int → Int → jm_R) (hk14 : ∀ (M : jm_M) (l2 l3 l4 : Int) (hl2 : jm_in l2) (hl3 : jm_in l3) (hl4 : jm_in l4), jm_J wd2 (jm_qi .int) cX12_ledBy 9 RX12 rmX12_ledBy X M [(0, jm_vr wd2 X 0 0), (2, jm_i l2), (3, jm_i l3), (4, jm_i l4)] [] 14 (k14 M l2 l3 l4)) (hk43 : ∀ (M : jm_M) (l2 l3 l4 l5 l6 l7 : Int) (hl2 : jm_in l2) (hl3 : jm_in l3) (hl4 : jm_in l4) (hl5 : jm_in l5) (hl6 : jm_in l6) (hl7 : jm_in l7), jm_J wd2 (jm_qi .int) cX12_ledBy 9 RX12 rmX12_ledBy X M [(0, jm_vr wd2 X 0 0), (2, jm_i l2), (3, jm_i l3), (4, jm_i l4), (5, jm_i l5), (6, jm_i l6), (7, jm_i l7)] [] 43 (k43 M l2 l3 l4 l5 l6 l7)) : ∀ (M : jm_M) (l2 l3 l4 l5 l6 l7 : Int) (hl2 : jm_in l2) (hl3 : jm_in l3) (hl4 : jm_in l4) (hl5 : jm_in l5) (hl6 : jm_in l6) (hl7 : jm_in l7), jm_J wd2 (jm_qi .int) cX12_ledBy 9 RX12 rmX12_ledBy X M [(0, jm_vr wd2 X 0 0), (2, jm_i l2), (3, jm_i l3), (4, jm_i l4), (5, jm_i l5), (6, jm_i l6), (7, jm_i l7)] [] 43 (gX12_ledBy_43 fu k14 k43 M l2 l3 l4 l5 l6 l7) := by
  intro M l2 l3 l4 l5 l6 l7 hl2 hl3 hl4 hl5 hl6 hl7
  unfold gX12_ledBy_43
  refine j_iload (pc := 43) dX12_ledBy_43 (q := 6) rfl ?_
  refine j_aload_n (pc := 45) dX12_ledBy_45 rfl (q := 0) rfl ?_
  refine j_geti (pc := 46) jv2_0 jm_01 kf_RX12_30 kg2_0_17 dX12_ledBy_46 (fun h1 => ?_)
  refine j_icmp_ge (tgt := 108) (pc := 49) hl7 h1 dX12_ledBy_49 (by decide) (fun c2 => ?_) (fun c2 => ?_)
  · skip
    refine j_iload (pc := 108) dX12_ledBy_108 (q := 4) rfl ?_
    refine j_if_lt (tgt := 122) (pc := 110) hl5 dX12_ledBy_110 (by decide) (fun c3 => ?_) (fun c3 => ?_)
    · skip
      refine j_iinc (pc := 122) [(0, jm_vr wd2 X 0 0), (2, jm_i l2), (3, jm_i l3), (5, jm_i l5), (6, jm_i l6), (7, jm_i l7)] (q := 3) dX12_ledBy_122 rfl (by decide) (fun _ => rfl) (fun v4 h5 => ?_)
      refine j_goto (tgt := 14) (pc := 125) dX12_ledBy_125 (by decide) ?_
      refine j_sub (pc := 14) [(0, jm_vr wd2 X 0 0), (2, jm_i l2), (3, jm_i l3), (4, jm_i v4)] [1, 2, 3, 0] rfl ?_
      exact hk14 M l2 l3 v4 hl2 hl3 h5
    · skip
      refine j_iload (pc := 113) dX12_ledBy_113 (q := 5) rfl ?_
      refine j_iload_n (pc := 115) dX12_ledBy_115 rfl (q := 1) rfl ?_
      refine j_icmp_ne (tgt := 122) (pc := 116) hl6 hl2 dX12_ledBy_116 (by decide) (fun c6 => ?_) (fun c6 => ?_)
      · skip
        refine j_iload (pc := 119) dX12_ledBy_119 (q := 3) rfl ?_
        exact j_iret (pc := 121) hl4 rfl dX12_ledBy_121
      · skip
        refine j_iinc (pc := 122) [(0, jm_vr wd2 X 0 0), (2, jm_i l2), (3, jm_i l3), (5, jm_i l5), (6, jm_i l6), (7, jm_i l7)] (q := 3) dX12_ledBy_122 rfl (by decide) (fun _ => rfl) (fun v7 h8 => ?_)
        refine j_goto (tgt := 14) (pc := 125) dX12_ledBy_125 (by decide) ?_
        refine j_sub (pc := 14) [(0, jm_vr wd2 X 0 0), (2, jm_i l2), (3, jm_i l3), (4, jm_i v7)] [1, 2, 3, 0] rfl ?_
        exact hk14 M l2 l3 v7 hl2 hl3 h8
  · skip
    refine j_aload_n (pc := 52) dX12_ledBy_52 rfl (q := 0) rfl ?_
    refine j_getr (pc := 53) jv2_0 jm_01 kf_RX12_363 0 kg2_0_65 rfl dX12_ledBy_53 ?_
    refine j_bipush (pc := 56) 60 dX12_ledBy_56 (by decide) ?_
    refine j_iload (pc := 58) dX12_ledBy_58 (q := 6) rfl ?_
    refine j_imul (pc := 60) dX12_ledBy_60 ?_
    refine j_iload_n (pc := 61) dX12_ledBy_61 rfl (q := 2) rfl ?_
    refine j_iadd (pc := 62) dX12_ledBy_62 ?_
    refine j_iald (pc := 63) jv2_55 jm_01 rfl (by decide) ka2_55 dX12_ledBy_63 (fun c9 h10 => ?_)
    refine j_nm (pc := 64) h10 (fun v11 h12 => ?_)
    refine j_istore (pc := 64) [(8, jm_i v11), (0, jm_vr wd2 X 0 0), (2, jm_i l2), (3, jm_i l3), (4, jm_i l4), (5, jm_i l5), (6, jm_i l6), (7, jm_i l7)] dX12_ledBy_64 (by decide) rfl ?_
    refine j_iload (pc := 66) dX12_ledBy_66 (q := 6) rfl ?_
    refine j_iload (pc := 68) dX12_ledBy_68 (q := 0) rfl ?_
    refine j_if_lt (tgt := 98) (pc := 70) h12 dX12_ledBy_70 (by decide) (fun c13 => ?_) (fun c13 => ?_)
    · skip
      refine j_iconst (pc := 98) dX12_ledBy_98 ?_
      refine j_iadd (pc := 99) dX12_ledBy_99 ?_
      refine j_nm (pc := 100) (jm_w_in _) (fun v14 h15 => ?_)
      refine j_istore (pc := 100) [(6, jm_i v14), (8, jm_i v11), (0, jm_vr wd2 X 0 0), (2, jm_i l2), (3, jm_i l3), (4, jm_i l4), (5, jm_i l5), (7, jm_i l7)] dX12_ledBy_100 (by decide) rfl ?_
      refine j_iinc (pc := 102) [(6, jm_i v14), (8, jm_i v11), (0, jm_vr wd2 X 0 0), (2, jm_i l2), (3, jm_i l3), (4, jm_i l4), (5, jm_i l5)] (q := 7) dX12_ledBy_102 rfl (by decide) (fun _ => rfl) (fun v16 h17 => ?_)
      refine j_goto (tgt := 43) (pc := 105) dX12_ledBy_105 (by decide) ?_
      refine j_sub (pc := 43) [(0, jm_vr wd2 X 0 0), (2, jm_i l2), (3, jm_i l3), (4, jm_i l4), (5, jm_i l5), (6, jm_i v14), (7, jm_i v16)] [3, 4, 5, 6, 7, 1, 0] rfl ?_
      exact hk43 M l2 l3 l4 l5 v14 v16 hl2 hl3 hl4 hl5 h15 h17
    · skip
      refine j_iload (pc := 73) dX12_ledBy_73 (q := 0) rfl ?_
      refine j_iload (pc := 75) dX12_ledBy_75 (q := 5) rfl ?_
      refine j_icmp_lt (tgt := 94) (pc := 77) h12 hl5 dX12_ledBy_77 (by decide) (fun c18 => ?_) (fun c18 => ?_)
      · skip
        refine j_iconst (pc := 94) dX12_ledBy_94 ?_
        refine j_goto (tgt := 99) (pc := 95) dX12_ledBy_95 (by decide) ?_
        refine j_iadd (pc := 99) dX12_ledBy_99 ?_
        refine j_nm (pc := 100) (jm_w_in _) (fun v19 h20 => ?_)
        refine j_istore (pc := 100) [(6, jm_i v19), (8, jm_i v11), (0, jm_vr wd2 X 0 0), (2, jm_i l2), (3, jm_i l3), (4, jm_i l4), (5, jm_i l5), (7, jm_i l7)] dX12_ledBy_100 (by decide) rfl ?_
        refine j_iinc (pc := 102) [(6, jm_i v19), (8, jm_i v11), (0, jm_vr wd2 X 0 0), (2, jm_i l2), (3, jm_i l3), (4, jm_i l4), (5, jm_i l5)] (q := 7) dX12_ledBy_102 rfl (by decide) (fun _ => rfl) (fun v21 h22 => ?_)
        refine j_goto (tgt := 43) (pc := 105) dX12_ledBy_105 (by decide) ?_
        refine j_sub (pc := 43) [(0, jm_vr wd2 X 0 0), (2, jm_i l2), (3, jm_i l3), (4, jm_i l4), (5, jm_i l5), (6, jm_i v19), (7, jm_i v21)] [3, 4, 5, 6, 7, 1, 0] rfl ?_
        exact hk43 M l2 l3 l4 l5 v19 v21 hl2 hl3 hl4 hl5 h20 h22
      · skip
        refine j_iload (pc := 80) dX12_ledBy_80 (q := 0) rfl ?_
        refine j_iload (pc := 82) dX12_ledBy_82 (q := 5) rfl ?_
        refine j_icmp_ne (tgt := 98) (pc := 84) h12 hl5 dX12_ledBy_84 (by decide) (fun c23 => ?_) (fun c23 => ?_)
        · skip
          refine j_iload (pc := 87) dX12_ledBy_87 (q := 7) rfl ?_
          refine j_iload (pc := 89) dX12_ledBy_89 (q := 4) rfl ?_
          refine j_icmp_ge (tgt := 98) (pc := 91) hl7 hl4 dX12_ledBy_91 (by decide) (fun c24 => ?_) (fun c24 => ?_)
          · skip
            refine j_iconst (pc := 98) dX12_ledBy_98 ?_
            refine j_iadd (pc := 99) dX12_ledBy_99 ?_
            refine j_nm (pc := 100) (jm_w_in _) (fun v25 h26 => ?_)
            refine j_istore (pc := 100) [(6, jm_i v25), (8, jm_i v11), (0, jm_vr wd2 X 0 0), (2, jm_i l2), (3, jm_i l3), (4, jm_i l4), (5, jm_i l5), (7, jm_i l7)] dX12_ledBy_100 (by decide) rfl ?_
            refine j_iinc (pc := 102) [(6, jm_i v25), (8, jm_i v11), (0, jm_vr wd2 X 0 0), (2, jm_i l2), (3, jm_i l3), (4, jm_i l4), (5, jm_i l5)] (q := 7) dX12_ledBy_102 rfl (by decide) (fun _ => rfl) (fun v27 h28 => ?_)
            refine j_goto (tgt := 43) (pc := 105) dX12_ledBy_105 (by decide) ?_
            refine j_sub (pc := 43) [(0, jm_vr wd2 X 0 0), (2, jm_i l2), (3, jm_i l3), (4, jm_i l4), (5, jm_i l5), (6, jm_i v25), (7, jm_i v27)] [3, 4, 5, 6, 7, 1, 0] rfl ?_
            exact hk43 M l2 l3 l4 l5 v25 v27 hl2 hl3 hl4 hl5 h26 h28
          · skip
            refine j_iconst (pc := 94) dX12_ledBy_94 ?_
            refine j_goto (tgt := 99) (pc := 95) dX12_ledBy_95 (by decide) ?_
            refine j_iadd (pc := 99) dX12_ledBy_99 ?_
            refine j_nm (pc := 100) (jm_w_in _) (fun v29 h30 => ?_)
            refine j_istore (pc := 100) [(6, jm_i v29), (8, jm_i v11), (0, jm_vr wd2 X 0 0), (2, jm_i l2), (3, jm_i l3), (4, jm_i l4), (5, jm_i l5), (7, jm_i l7)] dX12_ledBy_100 (by decide) rfl ?_
            refine j_iinc (pc := 102) [(6, jm_i v29), (8, jm_i v11), (0, jm_vr wd2 X 0 0), (2, jm_i l2), (3, jm_i l3), (4, jm_i l4), (5, jm_i l5)] (q := 7) dX12_ledBy_102 rfl (by decide) (fun _ => rfl) (fun v31 h32 => ?_)
            refine j_goto (tgt := 43) (pc := 105) dX12_ledBy_105 (by decide) ?_
            refine j_sub (pc := 43) [(0, jm_vr wd2 X 0 0), (2, jm_i l2), (3, jm_i l3), (4, jm_i l4), (5, jm_i l5), (6, jm_i v29), (7, jm_i v31)] [3, 4, 5, 6, 7, 1, 0] rfl ?_
            exact hk43 M l2 l3 l4 l5 v29 v31 hl2 hl3 hl4 hl5 h30 h32
        · skip
          refine j_iconst (pc := 98) dX12_ledBy_98 ?_
          refine j_iadd (pc := 99) dX12_ledBy_99 ?_
          refine j_nm (pc := 100) (jm_w_in _) (fun v33 h34 => ?_)
          refine j_istore (pc := 100) [(6, jm_i v33), (8, jm_i v11), (0, jm_vr wd2 X 0 0), (2, jm_i l2), (3, jm_i l3), (4, jm_i l4), (5, jm_i l5), (7, jm_i l7)] dX12_ledBy_100 (by decide) rfl ?_
          refine j_iinc (pc := 102) [(6, jm_i v33), (8, jm_i v11), (0, jm_vr wd2 X 0 0), (2, jm_i l2), (3, jm_i l3), (4, jm_i l4), (5, jm_i l5)] (q := 7) dX12_ledBy_102 rfl (by decide) (fun _ => rfl) (fun v35 h36 => ?_)
          refine j_goto (tgt := 43) (pc := 105) dX12_ledBy_105 (by decide) ?_
          refine j_sub (pc := 43) [(0, jm_vr wd2 X 0 0), (2, jm_i l2), (3, jm_i l3), (4, jm_i l4), (5, jm_i l5), (6, jm_i v33), (7, jm_i v35)] [3, 4, 5, 6, 7, 1, 0] rfl ?_
          exact hk43 M l2 l3 l4 l5 v33 v35 hl2 hl3 hl4 hl5 h34 h36
theorem bX12_ledBy_43 (X : jm_X) (fu : Nat) (k14 : jm_M → Int → Int → Int → jm_R) (hk14 : ∀ (M : jm_M) (l2 l3 l4 : Int) (hl2 : jm_in l2) (hl3 : jm_in l3) (hl4 : jm_in l4), jm_J wd2 (jm_qi .int) cX12_ledBy 9 RX12 rmX12_ledBy X M [(0, jm_vr wd2 X 0 0), (2, jm_i l2), (3, jm_i l3), (4, jm_i l4)] [] 14 (k14 M l2 l3 l4)) : ∀ (n : Nat) (M : jm_M) (l2 l3 l4 l5 l6 l7 : Int) (hl2 : jm_in l2) (hl3 : jm_in l3) (hl4 : jm_in l4) (hl5 : jm_in l5) (hl6 : jm_in l6) (hl7 : jm_in l7), jm_J wd2 (jm_qi .int) cX12_ledBy 9 RX12 rmX12_ledBy X M [(0, jm_vr wd2 X 0 0), (2, jm_i l2), (3, jm_i l3), (4, jm_i l4), (5, jm_i l5), (6, jm_i l6), (7, jm_i l7)] [] 43 (fX12_ledBy_43 fu k14 n M l2 l3 l4 l5 l6 l7) := by
  intro n
  induction n with
  | zero => intro M l2 l3 l4 l5 l6 l7 hl2 hl3 hl4 hl5 hl6 hl7; exact j_none
  | succ n ih => intro M l2 l3 l4 l5 l6 l7 hl2 hl3 hl4 hl5 hl6 hl7; exact b0X12_ledBy_43 X fu k14 (fX12_ledBy_43 fu k14 n) hk14 ih M l2 l3 l4 l5 l6 l7 hl2 hl3 hl4 hl5 hl6 hl7
set_option maxHeartbeats 4000000 in
set_option maxRecDepth 100000 in
theorem b0X12_ledBy_14 (X : jm_X) (fu : Nat) (k14 : jm_M → Int → Int → Int → jm_R) (hk14 : ∀ (M : jm_M) (l2 l3 l4 : Int) (hl2 : jm_in l2) (hl3 : jm_in l3) (hl4 : jm_in l4), jm_J wd2 (jm_qi .int) cX12_ledBy 9 RX12 rmX12_ledBy X M [(0, jm_vr wd2 X 0 0), (2, jm_i l2), (3, jm_i l3), (4, jm_i l4)] [] 14 (k14 M l2 l3 l4)) : ∀ (M : jm_M) (l2 l3 l4 : Int) (hl2 : jm_in l2) (hl3 : jm_in l3) (hl4 : jm_in l4), jm_J wd2 (jm_qi .int) cX12_ledBy 9 RX12 rmX12_ledBy X M [(0, jm_vr wd2 X 0 0), (2, jm_i l2), (3, jm_i l3), (4, jm_i l4)] [] 14 (gX12_ledBy_14 fu k14 M l2 l3 l4) := by
  intro M l2 l3 l4 hl2 hl3 hl4
  unfold gX12_ledBy_14
  refine j_iload (pc := 14) dX12_ledBy_14 (q := 3) rfl ?_
  refine j_aload_n (pc := 16) dX12_ledBy_16 rfl (q := 0) rfl ?_
  refine j_geti (pc := 17) jv2_0 jm_01 kf_RX12_30 kg2_0_17 dX12_ledBy_17 (fun h1 => ?_)
  refine j_icmp_ge (tgt := 128) (pc := 20) hl4 h1 dX12_ledBy_20 (by decide) (fun c2 => ?_) (fun c2 => ?_)
  · skip
    refine j_iconst (pc := 128) dX12_ledBy_128 ?_
    exact j_iret (pc := 129) (jm_inL (by decide) (by decide)) rfl dX12_ledBy_129
  · skip
    refine j_aload_n (pc := 23) dX12_ledBy_23 rfl (q := 0) rfl ?_
    refine j_getr (pc := 24) jv2_0 jm_01 kf_RX12_363 0 kg2_0_65 rfl dX12_ledBy_24 ?_
    refine j_bipush (pc := 27) 60 dX12_ledBy_27 (by decide) ?_
    refine j_iload (pc := 29) dX12_ledBy_29 (q := 3) rfl ?_
    refine j_imul (pc := 31) dX12_ledBy_31 ?_
    refine j_iload_n (pc := 32) dX12_ledBy_32 rfl (q := 2) rfl ?_
    refine j_iadd (pc := 33) dX12_ledBy_33 ?_
    refine j_iald (pc := 34) jv2_55 jm_01 rfl (by decide) ka2_55 dX12_ledBy_34 (fun c3 h4 => ?_)
    refine j_nm (pc := 35) h4 (fun v5 h6 => ?_)
    refine j_istore (pc := 35) [(5, jm_i v5), (0, jm_vr wd2 X 0 0), (2, jm_i l2), (3, jm_i l3), (4, jm_i l4)] dX12_ledBy_35 (by decide) rfl ?_
    refine j_iconst (pc := 37) dX12_ledBy_37 ?_
    refine j_istore (pc := 38) [(6, jm_i 0), (5, jm_i v5), (0, jm_vr wd2 X 0 0), (2, jm_i l2), (3, jm_i l3), (4, jm_i l4)] dX12_ledBy_38 (by decide) rfl ?_
    refine j_iconst (pc := 40) dX12_ledBy_40 ?_
    refine j_istore (pc := 41) [(7, jm_i 0), (6, jm_i 0), (5, jm_i v5), (0, jm_vr wd2 X 0 0), (2, jm_i l2), (3, jm_i l3), (4, jm_i l4)] dX12_ledBy_41 (by decide) rfl ?_
    refine j_sub (pc := 43) [(0, jm_vr wd2 X 0 0), (2, jm_i l2), (3, jm_i l3), (4, jm_i l4), (5, jm_i v5), (6, jm_i 0), (7, jm_i 0)] [3, 4, 5, 6, 2, 1, 0] rfl ?_
    exact bX12_ledBy_43 X fu k14 hk14 fu M l2 l3 l4 v5 0 0 hl2 hl3 hl4 h6 (jm_inL (by decide) (by decide)) (jm_inL (by decide) (by decide))
theorem bX12_ledBy_14 (X : jm_X) (fu : Nat) : ∀ (n : Nat) (M : jm_M) (l2 l3 l4 : Int) (hl2 : jm_in l2) (hl3 : jm_in l3) (hl4 : jm_in l4), jm_J wd2 (jm_qi .int) cX12_ledBy 9 RX12 rmX12_ledBy X M [(0, jm_vr wd2 X 0 0), (2, jm_i l2), (3, jm_i l3), (4, jm_i l4)] [] 14 (fX12_ledBy_14 fu n M l2 l3 l4) := by
  intro n
  induction n with
  | zero => intro M l2 l3 l4 hl2 hl3 hl4; exact j_none
  | succ n ih => intro M l2 l3 l4 hl2 hl3 hl4; exact b0X12_ledBy_14 X fu (fX12_ledBy_14 fu n) ih M l2 l3 l4 hl2 hl3 hl4
set_option maxHeartbeats 4000000 in
set_option maxRecDepth 100000 in
theorem ct_X12_ledBy (fu : Nat) (M : jm_M) (l1 l2 : Int) (hl1 : jm_in l1) (hl2 : jm_in l2) : jm_Ci wd2 yX12_ledBy cX12_ledBy 9 (some .int) rmX12_ledBy M (fun G ad => [.ref (ad (jm_r wd2 0 0)), jm_i l1, jm_i l2]) (fX12_ledBy fu M l1 l2) := by
  refine jm_met_i (fun X => [(0, jm_vr wd2 X 0 0), (1, jm_i l1), (2, jm_i l2)]) (by decide) (fun _ _ => (Nat.le_of_ble_eq_true rfl)) (fun _ => rfl) (fun X => ?_)
  unfold fX12_ledBy
  refine j_aload_n (pc := 0) dX12_ledBy_0 rfl (q := 0) rfl ?_
  refine j_geti (pc := 1) jv2_0 jm_01 kf_RX12_7 kg2_0_1 dX12_ledBy_1 (fun h1 => ?_)
  refine j_iload_n (pc := 4) dX12_ledBy_4 rfl (q := 1) rfl ?_
  refine j_iconst (pc := 5) dX12_ledBy_5 ?_
  refine j_iadd (pc := 6) dX12_ledBy_6 ?_
  refine j_imul (pc := 7) dX12_ledBy_7 ?_
  refine j_iconst (pc := 8) dX12_ledBy_8 ?_
  refine j_isub (pc := 9) dX12_ledBy_9 ?_
  refine j_nm (pc := 10) (jm_w_in _) (fun v2 h3 => ?_)
  refine j_istore_n (pc := 10) [(3, jm_i v2), (0, jm_vr wd2 X 0 0), (1, jm_i l1), (2, jm_i l2)] dX12_ledBy_10 rfl (by decide) rfl ?_
  refine j_iconst (pc := 11) dX12_ledBy_11 ?_
  refine j_istore (pc := 12) [(4, jm_i 0), (3, jm_i v2), (0, jm_vr wd2 X 0 0), (1, jm_i l1), (2, jm_i l2)] dX12_ledBy_12 (by decide) rfl ?_
  refine j_sub (pc := 14) [(0, jm_vr wd2 X 0 0), (2, jm_i l2), (3, jm_i v2), (4, jm_i 0)] [2, 4, 1, 0] rfl ?_
  exact bX12_ledBy_14 X fu  fu M l2 v2 0 hl2 h3 (jm_inL (by decide) (by decide))
abbrev rmX12_led : Room := { frames := 7, cells := 0, slots := 0, locals := 170 }
set_option maxHeartbeats 4000000 in
set_option maxRecDepth 100000 in
theorem ct_X12_led (fu : Nat) (M : jm_M) (l1 l2 : Int) (hl1 : jm_in l1) (hl2 : jm_in l2) : jm_Ci wd2 yX12_led cX12_led 3 (some .int) rmX12_led M (fun G ad => [.ref (ad (jm_r wd2 0 0)), jm_i l1, jm_i l2]) (fX12_led fu M l1 l2) := by
  refine jm_met_i (fun X => [(0, jm_vr wd2 X 0 0), (1, jm_i l1), (2, jm_i l2)]) (by decide) (fun _ _ => (Nat.le_of_ble_eq_true rfl)) (fun _ => rfl) (fun X => ?_)
  unfold fX12_led
  refine j_aload_n (pc := 0) dX12_led_0 rfl (q := 0) rfl ?_
  refine j_iconst (pc := 1) dX12_led_1 ?_
  refine j_put (pc := 2) jv2_0 jm_01 kf_RX12_3 wI2 kp_X12_0 kx2_0_0 (jm_inL (by decide) (by decide)) rfl rfl dX12_led_2 (fun M1 => ?_)
  refine j_aload_n (pc := 5) dX12_led_5 rfl (q := 0) rfl ?_
  refine j_iload_n (pc := 6) dX12_led_6 rfl (q := 1) rfl ?_
  refine j_callVi1 (pc := 7) (ct_X12_isLap M1 l1 hl1) kg_1413 km_X12_isLap kv_X12_isLap rfl rfl ⟨(Nat.le_of_ble_eq_true rfl), (Nat.le_of_ble_eq_true rfl)⟩ jv2_0 jm_01 ko2_0 rfl rfl (Nat.le_of_ble_eq_true rfl) dX12_led_7 (fun v2 M3 h4 => ?_)
  refine j_if_eq (tgt := 17) (pc := 10) h4 dX12_led_10 (by decide) (fun c5 => ?_) (fun c5 => ?_)
  · skip
    refine j_iconst (pc := 17) dX12_led_17 ?_
    exact j_iret (pc := 18) (jm_inL (by decide) (by decide)) rfl dX12_led_18
  · skip
    refine j_iload_n (pc := 13) dX12_led_13 rfl (q := 2) rfl ?_
    refine j_if_ge (tgt := 19) (pc := 14) hl2 dX12_led_14 (by decide) (fun c6 => ?_) (fun c6 => ?_)
    · skip
      refine j_aload_n (pc := 19) dX12_led_19 rfl (q := 0) rfl ?_
      refine j_callVv0 (pc := 20) (ct_X12_runs fu M3 ) kg_1538 km_X12_runs kv_X12_runs rfl rfl ⟨(Nat.le_of_ble_eq_true rfl), (Nat.le_of_ble_eq_true rfl)⟩ jv2_0 jm_01 ko2_0 rfl rfl (Nat.le_of_ble_eq_true rfl) dX12_led_20 (fun v7 M8 => ?_)
      refine j_aload_n (pc := 23) dX12_led_23 rfl (q := 0) rfl ?_
      refine j_iload_n (pc := 24) dX12_led_24 rfl (q := 1) rfl ?_
      refine j_iload_n (pc := 25) dX12_led_25 rfl (q := 2) rfl ?_
      refine j_callVi2 (pc := 26) (ct_X12_ledBy fu M8 l1 l2 hl1 hl2) kg_1631 km_X12_ledBy kv_X12_ledBy rfl rfl ⟨(Nat.le_of_ble_eq_true rfl), (Nat.le_of_ble_eq_true rfl)⟩ jv2_0 jm_01 ko2_0 rfl rfl (Nat.le_of_ble_eq_true rfl) dX12_led_26 (fun v9 M10 h11 => ?_)
      exact j_iret (pc := 29) h11 rfl dX12_led_29
    · skip
      refine j_iconst (pc := 17) dX12_led_17 ?_
      exact j_iret (pc := 18) (jm_inL (by decide) (by decide)) rfl dX12_led_18
abbrev rmX12_waited : Room := { frames := 7, cells := 0, slots := 0, locals := 170 }
set_option maxHeartbeats 4000000 in
set_option maxRecDepth 100000 in
theorem ct_X12_waited (fu : Nat) (M : jm_M) (l1 : Int) (hl1 : jm_in l1) : jm_Ci wd2 yX12_waited cX12_waited 2 (some .int) rmX12_waited M (fun G ad => [.ref (ad (jm_r wd2 0 0)), jm_i l1]) (fX12_waited fu M l1) := by
  refine jm_met_i (fun X => [(0, jm_vr wd2 X 0 0), (1, jm_i l1)]) (by decide) (fun _ _ => (Nat.le_of_ble_eq_true rfl)) (fun _ => rfl) (fun X => ?_)
  unfold fX12_waited
  refine j_aload_n (pc := 0) dX12_waited_0 rfl (q := 0) rfl ?_
  refine j_iconst (pc := 1) dX12_waited_1 ?_
  refine j_put (pc := 2) jv2_0 jm_01 kf_RX12_3 wI2 kp_X12_0 kx2_0_0 (jm_inL (by decide) (by decide)) rfl rfl dX12_waited_2 (fun M1 => ?_)
  refine j_aload_n (pc := 5) dX12_waited_5 rfl (q := 0) rfl ?_
  refine j_iload_n (pc := 6) dX12_waited_6 rfl (q := 1) rfl ?_
  refine j_callVi1 (pc := 7) (ct_X12_isCar M1 l1 hl1) kg_1405 km_X12_isCar kv_X12_isCar rfl rfl ⟨(Nat.le_of_ble_eq_true rfl), (Nat.le_of_ble_eq_true rfl)⟩ jv2_0 jm_01 ko2_0 rfl rfl (Nat.le_of_ble_eq_true rfl) dX12_waited_7 (fun v2 M3 h4 => ?_)
  refine j_if_ne (tgt := 15) (pc := 10) h4 dX12_waited_10 (by decide) (fun c5 => ?_) (fun c5 => ?_)
  · skip
    refine j_iconst (pc := 13) dX12_waited_13 ?_
    exact j_iret (pc := 14) (jm_inL (by decide) (by decide)) rfl dX12_waited_14
  · skip
    refine j_aload_n (pc := 15) dX12_waited_15 rfl (q := 0) rfl ?_
    refine j_callVv0 (pc := 16) (ct_X12_runs fu M3 ) kg_1538 km_X12_runs kv_X12_runs rfl rfl ⟨(Nat.le_of_ble_eq_true rfl), (Nat.le_of_ble_eq_true rfl)⟩ jv2_0 jm_01 ko2_0 rfl rfl (Nat.le_of_ble_eq_true rfl) dX12_waited_16 (fun v6 M7 => ?_)
    refine j_aload_n (pc := 19) dX12_waited_19 rfl (q := 0) rfl ?_
    refine j_getr (pc := 20) jv2_0 jm_01 kf_RX12_357 0 kg2_0_64 rfl dX12_waited_20 ?_
    refine j_iload_n (pc := 23) dX12_waited_23 rfl (q := 1) rfl ?_
    refine j_iald (pc := 24) jv2_54 jm_01 rfl (by decide) ka2_54 dX12_waited_24 (fun c8 h9 => ?_)
    exact j_iret (pc := 25) h9 rfl dX12_waited_25
abbrev rmX12_leads : Room := { frames := 7, cells := 0, slots := 0, locals := 170 }
set_option maxHeartbeats 4000000 in
set_option maxRecDepth 100000 in
theorem b0X12_leads_13 (X : jm_X) (fu : Nat) (k13 : jm_M → Int → Int → jm_R) (hk13 : ∀ (M : jm_M) (l1 l2 : Int) (hl1 : jm_in l1) (hl2 : jm_in l2), jm_J wd2 (jm_qi .int) cX12_leads 3 RX12 rmX12_leads X M [(0, jm_vr wd2 X 0 0), (1, jm_i l1), (2, jm_i l2)] [] 13 (k13 M l1 l2)) : ∀ (M : jm_M) (l1 l2 : Int) (hl1 : jm_in l1) (hl2 : jm_in l2), jm_J wd2 (jm_qi .int) cX12_leads 3 RX12 rmX12_leads X M [(0, jm_vr wd2 X 0 0), (1, jm_i l1), (2, jm_i l2)] [] 13 (gX12_leads_13 fu k13 M l1 l2) := by
  intro M l1 l2 hl1 hl2
  unfold gX12_leads_13
  refine j_iload_n (pc := 13) dX12_leads_13 rfl (q := 2) rfl ?_
  refine j_aload_n (pc := 14) dX12_leads_14 rfl (q := 0) rfl ?_
  refine j_geti (pc := 15) jv2_0 jm_01 kf_RX12_10 kg2_0_2 dX12_leads_15 (fun h1 => ?_)
  refine j_icmp_ge (tgt := 61) (pc := 18) hl2 h1 dX12_leads_18 (by decide) (fun c2 => ?_) (fun c2 => ?_)
  · skip
    refine j_iload_n (pc := 61) dX12_leads_61 rfl (q := 1) rfl ?_
    exact j_iret (pc := 62) hl1 rfl dX12_leads_62
  · skip
    refine j_iload_n (pc := 21) dX12_leads_21 rfl (q := 1) rfl ?_
    refine j_aload_n (pc := 22) dX12_leads_22 rfl (q := 0) rfl ?_
    refine j_iload_n (pc := 23) dX12_leads_23 rfl (q := 2) rfl ?_
    refine j_iconst (pc := 24) dX12_leads_24 ?_
    refine j_callVi2 (pc := 25) (ct_X12_ledBy fu M l2 0 hl2 (jm_inL (by decide) (by decide))) kg_1631 km_X12_ledBy kv_X12_ledBy rfl rfl ⟨(Nat.le_of_ble_eq_true rfl), (Nat.le_of_ble_eq_true rfl)⟩ jv2_0 jm_01 ko2_0 rfl rfl (Nat.le_of_ble_eq_true rfl) dX12_leads_25 (fun v3 M4 h5 => ?_)
    refine j_if_lt (tgt := 52) (pc := 28) h5 dX12_leads_28 (by decide) (fun c6 => ?_) (fun c6 => ?_)
    · skip
      refine j_iconst (pc := 52) dX12_leads_52 ?_
      refine j_iadd (pc := 53) dX12_leads_53 ?_
      refine j_nm (pc := 54) (jm_w_in _) (fun v7 h8 => ?_)
      refine j_istore_n (pc := 54) [(1, jm_i v7), (0, jm_vr wd2 X 0 0), (2, jm_i l2)] dX12_leads_54 rfl (by decide) rfl ?_
      refine j_iinc (pc := 55) [(1, jm_i v7), (0, jm_vr wd2 X 0 0)] (q := 2) dX12_leads_55 rfl (by decide) (fun _ => rfl) (fun v9 h10 => ?_)
      refine j_goto (tgt := 13) (pc := 58) dX12_leads_58 (by decide) ?_
      refine j_sub (pc := 13) [(0, jm_vr wd2 X 0 0), (1, jm_i v7), (2, jm_i v9)] [2, 1, 0] rfl ?_
      exact hk13 M4 v7 v9 h8 h10
    · skip
      refine j_aload_n (pc := 31) dX12_leads_31 rfl (q := 0) rfl ?_
      refine j_iload_n (pc := 32) dX12_leads_32 rfl (q := 2) rfl ?_
      refine j_iconst (pc := 33) dX12_leads_33 ?_
      refine j_callVi2 (pc := 34) (ct_X12_ledBy fu M4 l2 0 hl2 (jm_inL (by decide) (by decide))) kg_1631 km_X12_ledBy kv_X12_ledBy rfl rfl ⟨(Nat.le_of_ble_eq_true rfl), (Nat.le_of_ble_eq_true rfl)⟩ jv2_0 jm_01 ko2_0 rfl rfl (Nat.le_of_ble_eq_true rfl) dX12_leads_34 (fun v11 M12 h13 => ?_)
      refine j_aload_n (pc := 37) dX12_leads_37 rfl (q := 0) rfl ?_
      refine j_iload_n (pc := 38) dX12_leads_38 rfl (q := 2) rfl ?_
      refine j_iconst (pc := 39) dX12_leads_39 ?_
      refine j_isub (pc := 40) dX12_leads_40 ?_
      refine j_iconst (pc := 41) dX12_leads_41 ?_
      refine j_callVi2 (pc := 42) (ct_X12_ledBy fu M12 (jm_w (l2 - 1)) 0 (jm_w_in _) (jm_inL (by decide) (by decide))) kg_1631 km_X12_ledBy kv_X12_ledBy rfl rfl ⟨(Nat.le_of_ble_eq_true rfl), (Nat.le_of_ble_eq_true rfl)⟩ jv2_0 jm_01 ko2_0 rfl rfl (Nat.le_of_ble_eq_true rfl) dX12_leads_42 (fun v14 M15 h16 => ?_)
      refine j_icmp_eq (tgt := 52) (pc := 45) h13 h16 dX12_leads_45 (by decide) (fun c17 => ?_) (fun c17 => ?_)
      · skip
        refine j_iconst (pc := 52) dX12_leads_52 ?_
        refine j_iadd (pc := 53) dX12_leads_53 ?_
        refine j_nm (pc := 54) (jm_w_in _) (fun v18 h19 => ?_)
        refine j_istore_n (pc := 54) [(1, jm_i v18), (0, jm_vr wd2 X 0 0), (2, jm_i l2)] dX12_leads_54 rfl (by decide) rfl ?_
        refine j_iinc (pc := 55) [(1, jm_i v18), (0, jm_vr wd2 X 0 0)] (q := 2) dX12_leads_55 rfl (by decide) (fun _ => rfl) (fun v20 h21 => ?_)
        refine j_goto (tgt := 13) (pc := 58) dX12_leads_58 (by decide) ?_
        refine j_sub (pc := 13) [(0, jm_vr wd2 X 0 0), (1, jm_i v18), (2, jm_i v20)] [2, 1, 0] rfl ?_
        exact hk13 M15 v18 v20 h19 h21
      · skip
        refine j_iconst (pc := 48) dX12_leads_48 ?_
        refine j_goto (tgt := 53) (pc := 49) dX12_leads_49 (by decide) ?_
        refine j_iadd (pc := 53) dX12_leads_53 ?_
        refine j_nm (pc := 54) (jm_w_in _) (fun v22 h23 => ?_)
        refine j_istore_n (pc := 54) [(1, jm_i v22), (0, jm_vr wd2 X 0 0), (2, jm_i l2)] dX12_leads_54 rfl (by decide) rfl ?_
        refine j_iinc (pc := 55) [(1, jm_i v22), (0, jm_vr wd2 X 0 0)] (q := 2) dX12_leads_55 rfl (by decide) (fun _ => rfl) (fun v24 h25 => ?_)
        refine j_goto (tgt := 13) (pc := 58) dX12_leads_58 (by decide) ?_
        refine j_sub (pc := 13) [(0, jm_vr wd2 X 0 0), (1, jm_i v22), (2, jm_i v24)] [2, 1, 0] rfl ?_
        exact hk13 M15 v22 v24 h23 h25
theorem bX12_leads_13 (X : jm_X) (fu : Nat) : ∀ (n : Nat) (M : jm_M) (l1 l2 : Int) (hl1 : jm_in l1) (hl2 : jm_in l2), jm_J wd2 (jm_qi .int) cX12_leads 3 RX12 rmX12_leads X M [(0, jm_vr wd2 X 0 0), (1, jm_i l1), (2, jm_i l2)] [] 13 (fX12_leads_13 fu n M l1 l2) := by
  intro n
  induction n with
  | zero => intro M l1 l2 hl1 hl2; exact j_none
  | succ n ih => intro M l1 l2 hl1 hl2; exact b0X12_leads_13 X fu (fX12_leads_13 fu n) ih M l1 l2 hl1 hl2
set_option maxHeartbeats 4000000 in
set_option maxRecDepth 100000 in
theorem ct_X12_leads (fu : Nat) (M : jm_M) : jm_Ci wd2 yX12_leads cX12_leads 3 (some .int) rmX12_leads M (fun G ad => [.ref (ad (jm_r wd2 0 0))]) (fX12_leads fu M ) := by
  refine jm_met_i (fun X => [(0, jm_vr wd2 X 0 0)]) (by decide) (fun _ _ => (Nat.le_of_ble_eq_true rfl)) (fun _ => rfl) (fun X => ?_)
  unfold fX12_leads
  refine j_aload_n (pc := 0) dX12_leads_0 rfl (q := 0) rfl ?_
  refine j_iconst (pc := 1) dX12_leads_1 ?_
  refine j_put (pc := 2) jv2_0 jm_01 kf_RX12_3 wI2 kp_X12_0 kx2_0_0 (jm_inL (by decide) (by decide)) rfl rfl dX12_leads_2 (fun M1 => ?_)
  refine j_aload_n (pc := 5) dX12_leads_5 rfl (q := 0) rfl ?_
  refine j_callVv0 (pc := 6) (ct_X12_runs fu M1 ) kg_1538 km_X12_runs kv_X12_runs rfl rfl ⟨(Nat.le_of_ble_eq_true rfl), (Nat.le_of_ble_eq_true rfl)⟩ jv2_0 jm_01 ko2_0 rfl rfl (Nat.le_of_ble_eq_true rfl) dX12_leads_6 (fun v2 M3 => ?_)
  refine j_iconst (pc := 9) dX12_leads_9 ?_
  refine j_istore_n (pc := 10) [(1, jm_i 0), (0, jm_vr wd2 X 0 0)] dX12_leads_10 rfl (by decide) rfl ?_
  refine j_iconst (pc := 11) dX12_leads_11 ?_
  refine j_istore_n (pc := 12) [(2, jm_i 1), (1, jm_i 0), (0, jm_vr wd2 X 0 0)] dX12_leads_12 rfl (by decide) rfl ?_
  refine j_sub (pc := 13) [(0, jm_vr wd2 X 0 0), (1, jm_i 0), (2, jm_i 1)] [2, 1, 0] rfl ?_
  exact bX12_leads_13 X fu  fu M3 0 1 (jm_inL (by decide) (by decide)) (jm_inL (by decide) (by decide))
abbrev rmX12_sign : Room := { frames := 0, cells := 0, slots := 0, locals := 0 }
set_option maxHeartbeats 4000000 in
set_option maxRecDepth 100000 in
theorem b0X12_sign_18 (X : jm_X) (fu : Nat) (k18 : jm_M → Int → Int → jm_R) (hk18 : ∀ (M : jm_M) (l1 l2 : Int) (hl1 : jm_in l1) (hl2 : jm_in l2), jm_J wd2 (jm_qi .int) cX12_sign 3 RX12 rmX12_sign X M [(0, jm_vr wd2 X 0 0), (1, jm_i l1), (2, jm_i l2)] [] 18 (k18 M l1 l2)) : ∀ (M : jm_M) (l1 l2 : Int) (hl1 : jm_in l1) (hl2 : jm_in l2), jm_J wd2 (jm_qi .int) cX12_sign 3 RX12 rmX12_sign X M [(0, jm_vr wd2 X 0 0), (1, jm_i l1), (2, jm_i l2)] [] 18 (gX12_sign_18 fu k18 M l1 l2) := by
  intro M l1 l2 hl1 hl2
  unfold gX12_sign_18
  refine j_iload_n (pc := 18) dX12_sign_18 rfl (q := 2) rfl ?_
  refine j_iconst (pc := 19) dX12_sign_19 ?_
  refine j_icmp_ge (tgt := 53) (pc := 20) hl2 (jm_inL (by decide) (by decide)) dX12_sign_20 (by decide) (fun c1 => ?_) (fun c1 => ?_)
  · skip
    refine j_aload_n (pc := 53) dX12_sign_53 rfl (q := 0) rfl ?_
    refine j_dup (pc := 54) dX12_sign_54 rfl ?_
    refine j_geti (pc := 55) jv2_0 jm_01 kf_RX12_188 kg2_0_40 dX12_sign_55 (fun h2 => ?_)
    refine j_iconst (pc := 58) dX12_sign_58 ?_
    refine j_iadd (pc := 59) dX12_sign_59 ?_
    refine j_put (pc := 60) jv2_0 jm_01 kf_RX12_188 wI2 kp_X12_40 kx2_0_40 (jm_w_in _) rfl rfl dX12_sign_60 (fun M3 => ?_)
    refine j_aload_n (pc := 63) dX12_sign_63 rfl (q := 0) rfl ?_
    refine j_geti (pc := 64) jv2_0 jm_01 kf_RX12_188 kg2_0_40 dX12_sign_64 (fun h4 => ?_)
    exact j_iret (pc := 67) h4 rfl dX12_sign_67
  · skip
    refine j_aload_n (pc := 23) dX12_sign_23 rfl (q := 0) rfl ?_
    refine j_getr (pc := 24) jv2_0 jm_01 kf_RX12_191 0 kg2_0_39 rfl dX12_sign_24 ?_
    refine j_aload_n (pc := 27) dX12_sign_27 rfl (q := 0) rfl ?_
    refine j_geti (pc := 28) jv2_0 jm_01 kf_RX12_188 kg2_0_40 dX12_sign_28 (fun h5 => ?_)
    refine j_iload_n (pc := 31) dX12_sign_31 rfl (q := 2) rfl ?_
    refine j_iadd (pc := 32) dX12_sign_32 ?_
    refine j_iload_n (pc := 33) dX12_sign_33 rfl (q := 1) rfl ?_
    refine j_bipush (pc := 34) 24 dX12_sign_34 (by decide) ?_
    refine j_bipush (pc := 36) 8 dX12_sign_36 (by decide) ?_
    refine j_iload_n (pc := 38) dX12_sign_38 rfl (q := 2) rfl ?_
    refine j_imul (pc := 39) dX12_sign_39 ?_
    refine j_isub (pc := 40) dX12_sign_40 ?_
    refine j_ishr (pc := 41) dX12_sign_41 ?_
    refine j_sipush (pc := 42) 255 dX12_sign_42 (by decide) ?_
    refine j_iand (pc := 45) dX12_sign_45 ?_
    refine j_iast (pc := 46) jv2_34 jm_01 rfl (by decide) wI2 ka2_34 (jm_and_in _ _) dX12_sign_46 (fun c6 M7 => ?_)
    refine j_iinc (pc := 47) [(0, jm_vr wd2 X 0 0), (1, jm_i l1)] (q := 2) dX12_sign_47 rfl (by decide) (fun _ => rfl) (fun v8 h9 => ?_)
    refine j_goto (tgt := 18) (pc := 50) dX12_sign_50 (by decide) ?_
    refine j_sub (pc := 18) [(0, jm_vr wd2 X 0 0), (1, jm_i l1), (2, jm_i v8)] [1, 2, 0] rfl ?_
    exact hk18 M7 l1 v8 hl1 h9
theorem bX12_sign_18 (X : jm_X) (fu : Nat) : ∀ (n : Nat) (M : jm_M) (l1 l2 : Int) (hl1 : jm_in l1) (hl2 : jm_in l2), jm_J wd2 (jm_qi .int) cX12_sign 3 RX12 rmX12_sign X M [(0, jm_vr wd2 X 0 0), (1, jm_i l1), (2, jm_i l2)] [] 18 (fX12_sign_18 fu n M l1 l2) := by
  intro n
  induction n with
  | zero => intro M l1 l2 hl1 hl2; exact j_none
  | succ n ih => intro M l1 l2 hl1 hl2; exact b0X12_sign_18 X fu (fX12_sign_18 fu n) ih M l1 l2 hl1 hl2
set_option maxHeartbeats 4000000 in
set_option maxRecDepth 100000 in
theorem ct_X12_sign (fu : Nat) (M : jm_M) (l1 : Int) (hl1 : jm_in l1) : jm_Ci wd2 yX12_sign cX12_sign 3 (some .int) rmX12_sign M (fun G ad => [.ref (ad (jm_r wd2 0 0)), jm_i l1]) (fX12_sign fu M l1) := by
  refine jm_met_i (fun X => [(0, jm_vr wd2 X 0 0), (1, jm_i l1)]) (by decide) (fun _ _ => (Nat.le_of_ble_eq_true rfl)) (fun _ => rfl) (fun X => ?_)
  unfold fX12_sign
  refine j_aload_n (pc := 0) dX12_sign_0 rfl (q := 0) rfl ?_
  refine j_iconst (pc := 1) dX12_sign_1 ?_
  refine j_put (pc := 2) jv2_0 jm_01 kf_RX12_3 wI2 kp_X12_0 kx2_0_0 (jm_inL (by decide) (by decide)) rfl rfl dX12_sign_2 (fun M1 => ?_)
  refine j_aload_n (pc := 5) dX12_sign_5 rfl (q := 0) rfl ?_
  refine j_geti (pc := 6) jv2_0 jm_01 kf_RX12_188 kg2_0_40 dX12_sign_6 (fun h2 => ?_)
  refine j_bipush (pc := 9) 96 dX12_sign_9 (by decide) ?_
  refine j_icmp_le (tgt := 16) (pc := 11) h2 (jm_inL (by decide) (by decide)) dX12_sign_11 (by decide) (fun c3 => ?_) (fun c3 => ?_)
  · skip
    refine j_iconst (pc := 16) dX12_sign_16 ?_
    refine j_istore_n (pc := 17) [(2, jm_i 0), (0, jm_vr wd2 X 0 0), (1, jm_i l1)] dX12_sign_17 rfl (by decide) rfl ?_
    refine j_sub (pc := 18) [(0, jm_vr wd2 X 0 0), (1, jm_i l1), (2, jm_i 0)] [1, 2, 0] rfl ?_
    exact bX12_sign_18 X fu  fu M1 l1 0 hl1 (jm_inL (by decide) (by decide))
  · skip
    refine j_iconst (pc := 14) dX12_sign_14 ?_
    exact j_iret (pc := 15) (jm_inL (by decide) (by decide)) rfl dX12_sign_15
abbrev rmX12_end : Room := { frames := 1, cells := 0, slots := 0, locals := 25 }
set_option maxHeartbeats 4000000 in
set_option maxRecDepth 100000 in
theorem ct_X12_end (M : jm_M) (l1 : Int) (hl1 : jm_in l1) : jm_Ci wd2 yX12_end cX12_end 2 (some .boolean) rmX12_end M (fun G ad => [.ref (ad (jm_r wd2 0 0)), jm_i l1]) (fX12_end M l1) := by
  refine jm_met_i (fun X => [(0, jm_vr wd2 X 0 0), (1, jm_i l1)]) (by decide) (fun _ _ => (Nat.le_of_ble_eq_true rfl)) (fun _ => rfl) (fun X => ?_)
  unfold fX12_end
  refine j_aload_n (pc := 0) dX12_end_0 rfl (q := 0) rfl ?_
  refine j_iconst (pc := 1) dX12_end_1 ?_
  refine j_put (pc := 2) jv2_0 jm_01 kf_RX12_3 wI2 kp_X12_0 kx2_0_0 (jm_inL (by decide) (by decide)) rfl rfl dX12_end_2 (fun M1 => ?_)
  refine j_iload_n (pc := 5) dX12_end_5 rfl (q := 1) rfl ?_
  refine j_i2l (pc := 6) hl1 dX12_end_6 ?_
  refine j_lconst (pc := 7) 0 dX12_end_7 rfl ?_
  refine j_aload_n (pc := 8) dX12_end_8 rfl (q := 0) rfl ?_
  refine j_geti (pc := 9) jv2_0 jm_01 kf_RX12_188 kg2_0_40 dX12_end_9 (fun h2 => ?_)
  refine j_i2l (pc := 12) h2 dX12_end_12 ?_
  refine j_callSi3 (pc := 13) (ct_X12_in M1 l1 0 (M1 0 0 40) hl1 (jm_inL (by decide) (by decide)) h2) kg_1347 km_X12_in kg_1348 rfl rfl ⟨(Nat.le_of_ble_eq_true rfl), (Nat.le_of_ble_eq_true rfl)⟩ rfl rfl (Nat.le_of_ble_eq_true rfl) dX12_end_13 (fun v3 M4 h5 => ?_)
  refine j_if_ne (tgt := 21) (pc := 16) h5 dX12_end_16 (by decide) (fun c6 => ?_) (fun c6 => ?_)
  · skip
    refine j_iconst (pc := 19) dX12_end_19 ?_
    exact j_iret (pc := 20) (jm_inL (by decide) (by decide)) rfl dX12_end_20
  · skip
    refine j_aload_n (pc := 21) dX12_end_21 rfl (q := 0) rfl ?_
    refine j_iload_n (pc := 22) dX12_end_22 rfl (q := 1) rfl ?_
    refine j_put (pc := 23) jv2_0 jm_01 kf_RX12_188 wI2 kp_X12_40 kx2_0_40 hl1 rfl rfl dX12_end_23 (fun M7 => ?_)
    refine j_iconst (pc := 26) dX12_end_26 ?_
    exact j_iret (pc := 27) (jm_inL (by decide) (by decide)) rfl dX12_end_27
abbrev rmX12_isDay : Room := { frames := 1, cells := 0, slots := 0, locals := 25 }
set_option maxHeartbeats 4000000 in
set_option maxRecDepth 100000 in
theorem ct_X12_isDay (M : jm_M) (l0 : Int) (hl0 : jm_in l0) : jm_Ci wd2 yX12_isDay cX12_isDay 1 (some .boolean) rmX12_isDay M (fun G ad => [jm_i l0]) (fX12_isDay M l0) := by
  refine jm_met_i (fun X => [(0, jm_i l0)]) (by decide) (fun _ _ => (Nat.le_of_ble_eq_true rfl)) (fun _ => rfl) (fun X => ?_)
  unfold fX12_isDay
  refine j_iload_n (pc := 0) dX12_isDay_0 rfl (q := 0) rfl ?_
  refine j_i2l (pc := 1) hl0 dX12_isDay_1 ?_
  refine j_lconst (pc := 2) 0 dX12_isDay_2 rfl ?_
  refine j_ldc2 (pc := 3) 99 kg_1650 (by decide) dX12_isDay_3 ?_
  refine j_callSi3 (pc := 6) (ct_X12_in M l0 0 99 hl0 (jm_inL (by decide) (by decide)) (jm_inL (by decide) (by decide))) kg_1347 km_X12_in kg_1348 rfl rfl ⟨(Nat.le_of_ble_eq_true rfl), (Nat.le_of_ble_eq_true rfl)⟩ rfl rfl (Nat.le_of_ble_eq_true rfl) dX12_isDay_6 (fun v1 M2 h3 => ?_)
  exact j_zret (pc := 9) h3 dX12_isDay_9
abbrev rmX12_rule : Room := { frames := 514, cells := 0, slots := 0, locals := 30692 }
set_option maxHeartbeats 4000000 in
set_option maxRecDepth 100000 in
theorem ct_X12_rule (fu : Nat) (M : jm_M) (l1 : Int) (hl1 : jm_in l1) : jm_Ci wd2 yX12_rule cX12_rule 3 (some .int) rmX12_rule M (fun G ad => [.ref (ad (jm_r wd2 0 0)), jm_i l1]) (fX12_rule fu M l1) := by
  refine jm_met_i (fun X => [(0, jm_vr wd2 X 0 0), (1, jm_i l1)]) (by decide) (fun _ _ => (Nat.le_of_ble_eq_true rfl)) (fun _ => rfl) (fun X => ?_)
  unfold fX12_rule
  refine j_aload_n (pc := 0) dX12_rule_0 rfl (q := 0) rfl ?_
  refine j_iconst (pc := 1) dX12_rule_1 ?_
  refine j_put (pc := 2) jv2_0 jm_01 kf_RX12_3 wI2 kp_X12_0 kx2_0_0 (jm_inL (by decide) (by decide)) rfl rfl dX12_rule_2 (fun M1 => ?_)
  refine j_iload_n (pc := 5) dX12_rule_5 rfl (q := 1) rfl ?_
  refine j_callSi1 (pc := 6) (ct_X12_isDay M1 l1 hl1) kg_1647 km_X12_isDay kg_1648 rfl rfl ⟨(Nat.le_of_ble_eq_true rfl), (Nat.le_of_ble_eq_true rfl)⟩ rfl rfl (Nat.le_of_ble_eq_true rfl) dX12_rule_6 (fun v2 M3 h4 => ?_)
  refine j_if_eq (tgt := 21) (pc := 9) h4 dX12_rule_9 (by decide) (fun c5 => ?_) (fun c5 => ?_)
  · skip
    refine j_aload_n (pc := 21) dX12_rule_21 rfl (q := 0) rfl ?_
    refine j_iconst (pc := 22) dX12_rule_22 ?_
    refine j_put (pc := 23) jv2_0 jm_01 kf_RX12_188 wI2 kp_X12_40 kx2_0_40 (jm_inL (by decide) (by decide)) rfl rfl dX12_rule_23 (fun M6 => ?_)
    refine j_bipush (pc := 26) (-100) dX12_rule_26 (by decide) ?_
    exact j_iret (pc := 28) (jm_inL (by decide) (by decide)) rfl dX12_rule_28
  · skip
    refine j_aload_n (pc := 12) dX12_rule_12 rfl (q := 0) rfl ?_
    refine j_geti (pc := 13) jv2_0 jm_01 kf_RX12_33 kg2_0_72 dX12_rule_13 (fun h7 => ?_)
    refine j_bipush (pc := 16) 10 dX12_rule_16 (by decide) ?_
    refine j_icmp_ne (tgt := 29) (pc := 18) h7 (jm_inL (by decide) (by decide)) dX12_rule_18 (by decide) (fun c8 => ?_) (fun c8 => ?_)
    · skip
      refine j_aload_n (pc := 21) dX12_rule_21 rfl (q := 0) rfl ?_
      refine j_iconst (pc := 22) dX12_rule_22 ?_
      refine j_put (pc := 23) jv2_0 jm_01 kf_RX12_188 wI2 kp_X12_40 kx2_0_40 (jm_inL (by decide) (by decide)) rfl rfl dX12_rule_23 (fun M9 => ?_)
      refine j_bipush (pc := 26) (-100) dX12_rule_26 (by decide) ?_
      exact j_iret (pc := 28) (jm_inL (by decide) (by decide)) rfl dX12_rule_28
    · skip
      refine j_aload_n (pc := 29) dX12_rule_29 rfl (q := 0) rfl ?_
      refine j_bipush (pc := 30) 6 dX12_rule_30 (by decide) ?_
      refine j_aload_n (pc := 32) dX12_rule_32 rfl (q := 0) rfl ?_
      refine j_geti (pc := 33) jv2_0 jm_01 kf_RX12_33 kg2_0_72 dX12_rule_33 (fun h10 => ?_)
      refine j_iadd (pc := 36) dX12_rule_36 ?_
      refine j_iconst (pc := 37) dX12_rule_37 ?_
      refine j_callVi2 (pc := 38) (ct_X12_reads fu M3 (jm_w (6 + (M3 0 0 72))) 0 (jm_w_in _) (jm_inL (by decide) (by decide))) kg_1456 km_X12_reads kv_X12_reads rfl rfl ⟨(Nat.le_of_ble_eq_true rfl), (Nat.le_of_ble_eq_true rfl)⟩ jv2_0 jm_01 ko2_0 rfl rfl (Nat.le_of_ble_eq_true rfl) dX12_rule_38 (fun v11 M12 h13 => ?_)
      refine j_istore_n (pc := 41) [(2, jm_i v11), (0, jm_vr wd2 X 0 0), (1, jm_i l1)] dX12_rule_41 rfl (by decide) rfl ?_
      refine j_iload_n (pc := 42) dX12_rule_42 rfl (q := 0) rfl ?_
      refine j_if_ge (tgt := 48) (pc := 43) h13 dX12_rule_43 (by decide) (fun c14 => ?_) (fun c14 => ?_)
      · skip
        refine j_aload_n (pc := 48) dX12_rule_48 rfl (q := 1) rfl ?_
        refine j_getr (pc := 49) jv2_0 jm_01 kf_RX12_465 0 kg2_0_73 rfl dX12_rule_49 ?_
        refine j_aload_n (pc := 52) dX12_rule_52 rfl (q := 1) rfl ?_
        refine j_geti (pc := 53) jv2_0 jm_01 kf_RX12_33 kg2_0_72 dX12_rule_53 (fun h15 => ?_)
        refine j_iload_n (pc := 56) dX12_rule_56 rfl (q := 2) rfl ?_
        refine j_iast (pc := 57) jv2_61 jm_01 rfl (by decide) wI2 ka2_61 hl1 dX12_rule_57 (fun c16 M17 => ?_)
        refine j_aload_n (pc := 58) dX12_rule_58 rfl (q := 1) rfl ?_
        refine j_dup (pc := 59) dX12_rule_59 rfl ?_
        refine j_geti (pc := 60) jv2_0 jm_01 kf_RX12_33 kg2_0_72 dX12_rule_60 (fun h18 => ?_)
        refine j_iconst (pc := 63) dX12_rule_63 ?_
        refine j_iadd (pc := 64) dX12_rule_64 ?_
        refine j_put (pc := 65) jv2_0 jm_01 kf_RX12_33 wI2 kp_X12_72 kx2_0_72 (jm_w_in _) rfl rfl dX12_rule_65 (fun M19 => ?_)
        refine j_aload_n (pc := 68) dX12_rule_68 rfl (q := 1) rfl ?_
        refine j_geti (pc := 69) jv2_0 jm_01 kf_RX12_33 kg2_0_72 dX12_rule_69 (fun h20 => ?_)
        exact j_iret (pc := 72) h20 rfl dX12_rule_72
      · skip
        refine j_iload_n (pc := 46) dX12_rule_46 rfl (q := 0) rfl ?_
        exact j_iret (pc := 47) h13 rfl dX12_rule_47
abbrev rmX12_finding : Room := { frames := 2, cells := 0, slots := 0, locals := 46 }
set_option maxHeartbeats 4000000 in
set_option maxRecDepth 100000 in
theorem bX12_finding_71 (X : jm_X) (fu : Nat) : ∀ (M : jm_M) (l1 l2 l3 l4 s0 : Int) (hl1 : jm_in l1) (hl2 : jm_in l2) (hl3 : jm_in l3) (hl4 : jm_in l4) (hs0 : jm_in s0), jm_J wd2 (jm_qi .int) cX12_finding 6 RX12 rmX12_finding X M [(0, jm_vr wd2 X 0 0), (1, jm_i l1), (2, jm_i l2), (3, jm_i l3), (4, jm_i l4)] [jm_i s0] 71 (gX12_finding_71 fu M l1 l2 l3 l4 s0) := by
  intro M l1 l2 l3 l4 s0 hl1 hl2 hl3 hl4 hs0
  unfold gX12_finding_71
  refine j_istore (pc := 71) [(5, jm_i s0), (0, jm_vr wd2 X 0 0), (1, jm_i l1), (2, jm_i l2), (3, jm_i l3), (4, jm_i l4)] dX12_finding_71 (by decide) rfl ?_
  refine j_iload (pc := 73) dX12_finding_73 (q := 0) rfl ?_
  refine j_if_ne (tgt := 80) (pc := 75) hs0 dX12_finding_75 (by decide) (fun c1 => ?_) (fun c1 => ?_)
  · skip
    refine j_iconst (pc := 78) dX12_finding_78 ?_
    exact j_iret (pc := 79) (jm_inL (by decide) (by decide)) rfl dX12_finding_79
  · skip
    refine j_aload_n (pc := 80) dX12_finding_80 rfl (q := 1) rfl ?_
    refine j_getr (pc := 81) jv2_0 jm_01 kf_RX12_472 0 kg2_0_76 rfl dX12_finding_81 ?_
    refine j_aload_n (pc := 84) dX12_finding_84 rfl (q := 1) rfl ?_
    refine j_geti (pc := 85) jv2_0 jm_01 kf_RX12_36 kg2_0_75 dX12_finding_85 (fun h2 => ?_)
    refine j_iload_n (pc := 88) dX12_finding_88 rfl (q := 2) rfl ?_
    refine j_iast (pc := 89) jv2_63 jm_01 rfl (by decide) wI2 ka2_63 hl1 dX12_finding_89 (fun c3 M4 => ?_)
    refine j_aload_n (pc := 90) dX12_finding_90 rfl (q := 1) rfl ?_
    refine j_getr (pc := 91) jv2_0 jm_01 kf_RX12_475 0 kg2_0_77 rfl dX12_finding_91 ?_
    refine j_aload_n (pc := 94) dX12_finding_94 rfl (q := 1) rfl ?_
    refine j_geti (pc := 95) jv2_0 jm_01 kf_RX12_36 kg2_0_75 dX12_finding_95 (fun h5 => ?_)
    refine j_iload_n (pc := 98) dX12_finding_98 rfl (q := 3) rfl ?_
    refine j_iast (pc := 99) jv2_64 jm_01 rfl (by decide) wI2 ka2_64 hl2 dX12_finding_99 (fun c6 M7 => ?_)
    refine j_aload_n (pc := 100) dX12_finding_100 rfl (q := 1) rfl ?_
    refine j_getr (pc := 101) jv2_0 jm_01 kf_RX12_478 0 kg2_0_78 rfl dX12_finding_101 ?_
    refine j_aload_n (pc := 104) dX12_finding_104 rfl (q := 1) rfl ?_
    refine j_geti (pc := 105) jv2_0 jm_01 kf_RX12_36 kg2_0_75 dX12_finding_105 (fun h8 => ?_)
    refine j_iload_n (pc := 108) dX12_finding_108 rfl (q := 4) rfl ?_
    refine j_iast (pc := 109) jv2_65 jm_01 rfl (by decide) wI2 ka2_65 hl3 dX12_finding_109 (fun c9 M10 => ?_)
    refine j_aload_n (pc := 110) dX12_finding_110 rfl (q := 1) rfl ?_
    refine j_getr (pc := 111) jv2_0 jm_01 kf_RX12_481 0 kg2_0_79 rfl dX12_finding_111 ?_
    refine j_aload_n (pc := 114) dX12_finding_114 rfl (q := 1) rfl ?_
    refine j_geti (pc := 115) jv2_0 jm_01 kf_RX12_36 kg2_0_75 dX12_finding_115 (fun h11 => ?_)
    refine j_iload (pc := 118) dX12_finding_118 (q := 5) rfl ?_
    refine j_iast (pc := 120) jv2_66 jm_01 rfl (by decide) wI2 ka2_66 hl4 dX12_finding_120 (fun c12 M13 => ?_)
    refine j_aload_n (pc := 121) dX12_finding_121 rfl (q := 1) rfl ?_
    refine j_dup (pc := 122) dX12_finding_122 rfl ?_
    refine j_geti (pc := 123) jv2_0 jm_01 kf_RX12_36 kg2_0_75 dX12_finding_123 (fun h14 => ?_)
    refine j_iconst (pc := 126) dX12_finding_126 ?_
    refine j_iadd (pc := 127) dX12_finding_127 ?_
    refine j_put (pc := 128) jv2_0 jm_01 kf_RX12_36 wI2 kp_X12_75 kx2_0_75 (jm_w_in _) rfl rfl dX12_finding_128 (fun M15 => ?_)
    refine j_aload_n (pc := 131) dX12_finding_131 rfl (q := 1) rfl ?_
    refine j_geti (pc := 132) jv2_0 jm_01 kf_RX12_36 kg2_0_75 dX12_finding_132 (fun h16 => ?_)
    exact j_iret (pc := 135) h16 rfl dX12_finding_135
set_option maxHeartbeats 4000000 in
set_option maxRecDepth 100000 in
theorem bX12_finding_57 (X : jm_X) (fu : Nat) : ∀ (M : jm_M) (l1 l2 l3 l4 : Int) (hl1 : jm_in l1) (hl2 : jm_in l2) (hl3 : jm_in l3) (hl4 : jm_in l4), jm_J wd2 (jm_qi .int) cX12_finding 6 RX12 rmX12_finding X M [(0, jm_vr wd2 X 0 0), (1, jm_i l1), (2, jm_i l2), (3, jm_i l3), (4, jm_i l4)] [] 57 (gX12_finding_57 fu M l1 l2 l3 l4) := by
  intro M l1 l2 l3 l4 hl1 hl2 hl3 hl4
  unfold gX12_finding_57
  refine j_aload_n (pc := 57) dX12_finding_57 rfl (q := 0) rfl ?_
  refine j_geti (pc := 58) jv2_0 jm_01 kf_RX12_36 kg2_0_75 dX12_finding_58 (fun h1 => ?_)
  refine j_bipush (pc := 61) 20 dX12_finding_61 (by decide) ?_
  refine j_icmp_ge (tgt := 70) (pc := 63) h1 (jm_inL (by decide) (by decide)) dX12_finding_63 (by decide) (fun c2 => ?_) (fun c2 => ?_)
  · skip
    refine j_iconst (pc := 70) dX12_finding_70 ?_
    refine j_sub (pc := 71) [(0, jm_vr wd2 X 0 0), (1, jm_i l1), (2, jm_i l2), (3, jm_i l3), (4, jm_i l4)] [0, 1, 2, 3, 4] rfl ?_
    exact bX12_finding_71 X fu  M l1 l2 l3 l4 0 hl1 hl2 hl3 hl4 (jm_inL (by decide) (by decide))
  · skip
    refine j_iconst (pc := 66) dX12_finding_66 ?_
    refine j_goto (tgt := 71) (pc := 67) dX12_finding_67 (by decide) ?_
    refine j_sub (pc := 71) [(0, jm_vr wd2 X 0 0), (1, jm_i l1), (2, jm_i l2), (3, jm_i l3), (4, jm_i l4)] [0, 1, 2, 3, 4] rfl ?_
    exact bX12_finding_71 X fu  M l1 l2 l3 l4 1 hl1 hl2 hl3 hl4 (jm_inL (by decide) (by decide))
set_option maxHeartbeats 4000000 in
set_option maxRecDepth 100000 in
theorem bX12_finding_37 (X : jm_X) (fu : Nat) : ∀ (M : jm_M) (l1 l2 l3 l4 : Int) (hl1 : jm_in l1) (hl2 : jm_in l2) (hl3 : jm_in l3) (hl4 : jm_in l4), jm_J wd2 (jm_qi .int) cX12_finding 6 RX12 rmX12_finding X M [(0, jm_vr wd2 X 0 0), (1, jm_i l1), (2, jm_i l2), (3, jm_i l3), (4, jm_i l4)] [] 37 (gX12_finding_37 fu M l1 l2 l3 l4) := by
  intro M l1 l2 l3 l4 hl1 hl2 hl3 hl4
  unfold gX12_finding_37
  refine j_iload_n (pc := 37) dX12_finding_37 rfl (q := 3) rfl ?_
  refine j_iconst (pc := 38) dX12_finding_38 ?_
  refine j_icmp_ne (tgt := 70) (pc := 39) hl3 (jm_inL (by decide) (by decide)) dX12_finding_39 (by decide) (fun c1 => ?_) (fun c1 => ?_)
  · skip
    refine j_iload (pc := 42) dX12_finding_42 (q := 4) rfl ?_
    refine j_i2l (pc := 44) hl4 dX12_finding_44 ?_
    refine j_ldc2 (pc := 45) (-60000) kg_1656 (by decide) dX12_finding_45 ?_
    refine j_ldc2 (pc := 48) 60000 kg_1365 (by decide) dX12_finding_48 ?_
    refine j_callSi3 (pc := 51) (ct_X12_in M l4 (-60000) 60000 hl4 (jm_inL (by decide) (by decide)) (jm_inL (by decide) (by decide))) kg_1347 km_X12_in kg_1348 rfl rfl ⟨(Nat.le_of_ble_eq_true rfl), (Nat.le_of_ble_eq_true rfl)⟩ rfl rfl (Nat.le_of_ble_eq_true rfl) dX12_finding_51 (fun v2 M3 h4 => ?_)
    refine j_if_eq (tgt := 70) (pc := 54) h4 dX12_finding_54 (by decide) (fun c5 => ?_) (fun c5 => ?_)
    · skip
      refine j_iconst (pc := 70) dX12_finding_70 ?_
      refine j_sub (pc := 71) [(0, jm_vr wd2 X 0 0), (1, jm_i l1), (2, jm_i l2), (3, jm_i l3), (4, jm_i l4)] [0, 1, 2, 3, 4] rfl ?_
      exact bX12_finding_71 X fu  M3 l1 l2 l3 l4 0 hl1 hl2 hl3 hl4 (jm_inL (by decide) (by decide))
    · skip
      refine j_sub (pc := 57) [(0, jm_vr wd2 X 0 0), (1, jm_i l1), (2, jm_i l2), (3, jm_i l3), (4, jm_i l4)] [0, 1, 2, 3, 4] rfl ?_
      exact bX12_finding_57 X fu  M3 l1 l2 l3 l4 hl1 hl2 hl3 hl4
  · skip
    refine j_iconst (pc := 70) dX12_finding_70 ?_
    refine j_sub (pc := 71) [(0, jm_vr wd2 X 0 0), (1, jm_i l1), (2, jm_i l2), (3, jm_i l3), (4, jm_i l4)] [0, 1, 2, 3, 4] rfl ?_
    exact bX12_finding_71 X fu  M l1 l2 l3 l4 0 hl1 hl2 hl3 hl4 (jm_inL (by decide) (by decide))
set_option maxHeartbeats 4000000 in
set_option maxRecDepth 100000 in
theorem ct_X12_finding (fu : Nat) (M : jm_M) (l1 l2 l3 l4 : Int) (hl1 : jm_in l1) (hl2 : jm_in l2) (hl3 : jm_in l3) (hl4 : jm_in l4) : jm_Ci wd2 yX12_finding cX12_finding 6 (some .int) rmX12_finding M (fun G ad => [.ref (ad (jm_r wd2 0 0)), jm_i l1, jm_i l2, jm_i l3, jm_i l4]) (fX12_finding fu M l1 l2 l3 l4) := by
  refine jm_met_i (fun X => [(0, jm_vr wd2 X 0 0), (1, jm_i l1), (2, jm_i l2), (3, jm_i l3), (4, jm_i l4)]) (by decide) (fun _ _ => (Nat.le_of_ble_eq_true rfl)) (fun _ => rfl) (fun X => ?_)
  unfold fX12_finding
  refine j_aload_n (pc := 0) dX12_finding_0 rfl (q := 0) rfl ?_
  refine j_iconst (pc := 1) dX12_finding_1 ?_
  refine j_put (pc := 2) jv2_0 jm_01 kf_RX12_3 wI2 kp_X12_0 kx2_0_0 (jm_inL (by decide) (by decide)) rfl rfl dX12_finding_2 (fun M1 => ?_)
  refine j_iload_n (pc := 5) dX12_finding_5 rfl (q := 1) rfl ?_
  refine j_callSi1 (pc := 6) (ct_X12_isDay M1 l1 hl1) kg_1647 km_X12_isDay kg_1648 rfl rfl ⟨(Nat.le_of_ble_eq_true rfl), (Nat.le_of_ble_eq_true rfl)⟩ rfl rfl (Nat.le_of_ble_eq_true rfl) dX12_finding_6 (fun v2 M3 h4 => ?_)
  refine j_if_eq (tgt := 70) (pc := 9) h4 dX12_finding_9 (by decide) (fun c5 => ?_) (fun c5 => ?_)
  · skip
    refine j_iconst (pc := 70) dX12_finding_70 ?_
    refine j_sub (pc := 71) [(0, jm_vr wd2 X 0 0), (1, jm_i l1), (2, jm_i l2), (3, jm_i l3), (4, jm_i l4)] [0, 1, 2, 3, 4] rfl ?_
    exact bX12_finding_71 X fu  M3 l1 l2 l3 l4 0 hl1 hl2 hl3 hl4 (jm_inL (by decide) (by decide))
  · skip
    refine j_aload_n (pc := 12) dX12_finding_12 rfl (q := 0) rfl ?_
    refine j_iload_n (pc := 13) dX12_finding_13 rfl (q := 2) rfl ?_
    refine j_callVi1 (pc := 14) (ct_X12_isCar M3 l2 hl2) kg_1405 km_X12_isCar kv_X12_isCar rfl rfl ⟨(Nat.le_of_ble_eq_true rfl), (Nat.le_of_ble_eq_true rfl)⟩ jv2_0 jm_01 ko2_0 rfl rfl (Nat.le_of_ble_eq_true rfl) dX12_finding_14 (fun v6 M7 h8 => ?_)
    refine j_if_eq (tgt := 70) (pc := 17) h8 dX12_finding_17 (by decide) (fun c9 => ?_) (fun c9 => ?_)
    · skip
      refine j_iconst (pc := 70) dX12_finding_70 ?_
      refine j_sub (pc := 71) [(0, jm_vr wd2 X 0 0), (1, jm_i l1), (2, jm_i l2), (3, jm_i l3), (4, jm_i l4)] [0, 1, 2, 3, 4] rfl ?_
      exact bX12_finding_71 X fu  M7 l1 l2 l3 l4 0 hl1 hl2 hl3 hl4 (jm_inL (by decide) (by decide))
    · skip
      refine j_iload_n (pc := 20) dX12_finding_20 rfl (q := 3) rfl ?_
      refine j_if_ne (tgt := 37) (pc := 21) hl3 dX12_finding_21 (by decide) (fun c10 => ?_) (fun c10 => ?_)
      · skip
        refine j_iload (pc := 24) dX12_finding_24 (q := 4) rfl ?_
        refine j_i2l (pc := 26) hl4 dX12_finding_26 ?_
        refine j_lconst (pc := 27) 0 dX12_finding_27 rfl ?_
        refine j_ldc2 (pc := 28) 999 kg_1655 (by decide) dX12_finding_28 ?_
        refine j_callSi3 (pc := 31) (ct_X12_in M7 l4 0 999 hl4 (jm_inL (by decide) (by decide)) (jm_inL (by decide) (by decide))) kg_1347 km_X12_in kg_1348 rfl rfl ⟨(Nat.le_of_ble_eq_true rfl), (Nat.le_of_ble_eq_true rfl)⟩ rfl rfl (Nat.le_of_ble_eq_true rfl) dX12_finding_31 (fun v11 M12 h13 => ?_)
        refine j_if_ne (tgt := 57) (pc := 34) h13 dX12_finding_34 (by decide) (fun c14 => ?_) (fun c14 => ?_)
        · skip
          refine j_sub (pc := 37) [(0, jm_vr wd2 X 0 0), (1, jm_i l1), (2, jm_i l2), (3, jm_i l3), (4, jm_i l4)] [0, 1, 2, 3, 4] rfl ?_
          exact bX12_finding_37 X fu  M12 l1 l2 l3 l4 hl1 hl2 hl3 hl4
        · skip
          refine j_sub (pc := 57) [(0, jm_vr wd2 X 0 0), (1, jm_i l1), (2, jm_i l2), (3, jm_i l3), (4, jm_i l4)] [0, 1, 2, 3, 4] rfl ?_
          exact bX12_finding_57 X fu  M12 l1 l2 l3 l4 hl1 hl2 hl3 hl4
      · skip
        refine j_sub (pc := 37) [(0, jm_vr wd2 X 0 0), (1, jm_i l1), (2, jm_i l2), (3, jm_i l3), (4, jm_i l4)] [0, 1, 2, 3, 4] rfl ?_
        exact bX12_finding_37 X fu  M7 l1 l2 l3 l4 hl1 hl2 hl3 hl4
abbrev rmX12_weight : Room := { frames := 0, cells := 0, slots := 0, locals := 0 }
set_option maxHeartbeats 4000000 in
set_option maxRecDepth 100000 in
theorem b0X12_weight_5 (X : jm_X) (fu : Nat) (k5 : jm_M → Int → Int → Int → Int → jm_R) (hk5 : ∀ (M : jm_M) (l1 l2 l3 l4 : Int) (hl1 : jm_in l1) (hl2 : jm_in l2) (hl3 : jm_in l3) (hl4 : jm_in l4), jm_J wd2 (jm_qi .int) cX12_weight 5 RX12 rmX12_weight X M [(0, jm_vr wd2 X 0 0), (1, jm_i l1), (2, jm_i l2), (3, jm_i l3), (4, jm_i l4)] [] 5 (k5 M l1 l2 l3 l4)) : ∀ (M : jm_M) (l1 l2 l3 l4 : Int) (hl1 : jm_in l1) (hl2 : jm_in l2) (hl3 : jm_in l3) (hl4 : jm_in l4), jm_J wd2 (jm_qi .int) cX12_weight 5 RX12 rmX12_weight X M [(0, jm_vr wd2 X 0 0), (1, jm_i l1), (2, jm_i l2), (3, jm_i l3), (4, jm_i l4)] [] 5 (gX12_weight_5 fu k5 M l1 l2 l3 l4) := by
  intro M l1 l2 l3 l4 hl1 hl2 hl3 hl4
  unfold gX12_weight_5
  refine j_iload (pc := 5) dX12_weight_5 (q := 4) rfl ?_
  refine j_aload_n (pc := 7) dX12_weight_7 rfl (q := 0) rfl ?_
  refine j_geti (pc := 8) jv2_0 jm_01 kf_RX12_36 kg2_0_75 dX12_weight_8 (fun h1 => ?_)
  refine j_icmp_ge (tgt := 75) (pc := 11) hl4 h1 dX12_weight_11 (by decide) (fun c2 => ?_) (fun c2 => ?_)
  · skip
    refine j_iload_n (pc := 75) dX12_weight_75 rfl (q := 3) rfl ?_
    refine j_if_ge (tgt := 83) (pc := 76) hl3 dX12_weight_76 (by decide) (fun c3 => ?_) (fun c3 => ?_)
    · skip
      refine j_aload_n (pc := 83) dX12_weight_83 rfl (q := 0) rfl ?_
      refine j_getr (pc := 84) jv2_0 jm_01 kf_RX12_481 0 kg2_0_79 rfl dX12_weight_84 ?_
      refine j_iload_n (pc := 87) dX12_weight_87 rfl (q := 3) rfl ?_
      refine j_iald (pc := 88) jv2_66 jm_01 rfl (by decide) ka2_66 dX12_weight_88 (fun c4 h5 => ?_)
      exact j_iret (pc := 89) h5 rfl dX12_weight_89
    · skip
      refine j_iconst (pc := 79) dX12_weight_79 ?_
      refine j_goto (tgt := 89) (pc := 80) dX12_weight_80 (by decide) ?_
      exact j_iret (pc := 89) (jm_inL (by decide) (by decide)) rfl dX12_weight_89
  · skip
    refine j_aload_n (pc := 14) dX12_weight_14 rfl (q := 0) rfl ?_
    refine j_getr (pc := 15) jv2_0 jm_01 kf_RX12_475 0 kg2_0_77 rfl dX12_weight_15 ?_
    refine j_iload (pc := 18) dX12_weight_18 (q := 4) rfl ?_
    refine j_iald (pc := 20) jv2_64 jm_01 rfl (by decide) ka2_64 dX12_weight_20 (fun c6 h7 => ?_)
    refine j_iload_n (pc := 21) dX12_weight_21 rfl (q := 1) rfl ?_
    refine j_icmp_ne (tgt := 69) (pc := 22) h7 hl1 dX12_weight_22 (by decide) (fun c8 => ?_) (fun c8 => ?_)
    · skip
      refine j_aload_n (pc := 25) dX12_weight_25 rfl (q := 0) rfl ?_
      refine j_getr (pc := 26) jv2_0 jm_01 kf_RX12_478 0 kg2_0_78 rfl dX12_weight_26 ?_
      refine j_iload (pc := 29) dX12_weight_29 (q := 4) rfl ?_
      refine j_iald (pc := 31) jv2_65 jm_01 rfl (by decide) ka2_65 dX12_weight_31 (fun c9 h10 => ?_)
      refine j_if_ne (tgt := 69) (pc := 32) h10 dX12_weight_32 (by decide) (fun c11 => ?_) (fun c11 => ?_)
      · skip
        refine j_aload_n (pc := 35) dX12_weight_35 rfl (q := 0) rfl ?_
        refine j_getr (pc := 36) jv2_0 jm_01 kf_RX12_472 0 kg2_0_76 rfl dX12_weight_36 ?_
        refine j_iload (pc := 39) dX12_weight_39 (q := 4) rfl ?_
        refine j_iald (pc := 41) jv2_63 jm_01 rfl (by decide) ka2_63 dX12_weight_41 (fun c12 h13 => ?_)
        refine j_iload_n (pc := 42) dX12_weight_42 rfl (q := 2) rfl ?_
        refine j_icmp_gt (tgt := 69) (pc := 43) h13 hl2 dX12_weight_43 (by decide) (fun c14 => ?_) (fun c14 => ?_)
        · skip
          refine j_iinc (pc := 69) [(0, jm_vr wd2 X 0 0), (1, jm_i l1), (2, jm_i l2), (3, jm_i l3)] (q := 4) dX12_weight_69 rfl (by decide) (fun _ => rfl) (fun v15 h16 => ?_)
          refine j_goto (tgt := 5) (pc := 72) dX12_weight_72 (by decide) ?_
          refine j_sub (pc := 5) [(0, jm_vr wd2 X 0 0), (1, jm_i l1), (2, jm_i l2), (3, jm_i l3), (4, jm_i v15)] [1, 2, 3, 4, 0] rfl ?_
          exact hk5 M l1 l2 l3 v15 hl1 hl2 hl3 h16
        · skip
          refine j_iload_n (pc := 46) dX12_weight_46 rfl (q := 3) rfl ?_
          refine j_if_lt (tgt := 66) (pc := 47) hl3 dX12_weight_47 (by decide) (fun c17 => ?_) (fun c17 => ?_)
          · skip
            refine j_iload (pc := 66) dX12_weight_66 (q := 4) rfl ?_
            refine j_istore_n (pc := 68) [(3, jm_i l4), (0, jm_vr wd2 X 0 0), (1, jm_i l1), (2, jm_i l2), (4, jm_i l4)] dX12_weight_68 rfl (by decide) rfl ?_
            refine j_iinc (pc := 69) [(3, jm_i l4), (0, jm_vr wd2 X 0 0), (1, jm_i l1), (2, jm_i l2)] (q := 4) dX12_weight_69 rfl (by decide) (fun _ => rfl) (fun v18 h19 => ?_)
            refine j_goto (tgt := 5) (pc := 72) dX12_weight_72 (by decide) ?_
            refine j_sub (pc := 5) [(0, jm_vr wd2 X 0 0), (1, jm_i l1), (2, jm_i l2), (3, jm_i l4), (4, jm_i v18)] [2, 3, 4, 1, 0] rfl ?_
            exact hk5 M l1 l2 l4 v18 hl1 hl2 hl4 h19
          · skip
            refine j_aload_n (pc := 50) dX12_weight_50 rfl (q := 0) rfl ?_
            refine j_getr (pc := 51) jv2_0 jm_01 kf_RX12_472 0 kg2_0_76 rfl dX12_weight_51 ?_
            refine j_iload (pc := 54) dX12_weight_54 (q := 4) rfl ?_
            refine j_iald (pc := 56) jv2_63 jm_01 rfl (by decide) ka2_63 dX12_weight_56 (fun c20 h21 => ?_)
            refine j_aload_n (pc := 57) dX12_weight_57 rfl (q := 0) rfl ?_
            refine j_getr (pc := 58) jv2_0 jm_01 kf_RX12_472 0 kg2_0_76 rfl dX12_weight_58 ?_
            refine j_iload_n (pc := 61) dX12_weight_61 rfl (q := 3) rfl ?_
            refine j_iald (pc := 62) jv2_63 jm_01 rfl (by decide) ka2_63 dX12_weight_62 (fun c22 h23 => ?_)
            refine j_icmp_lt (tgt := 69) (pc := 63) h21 h23 dX12_weight_63 (by decide) (fun c24 => ?_) (fun c24 => ?_)
            · skip
              refine j_iinc (pc := 69) [(0, jm_vr wd2 X 0 0), (1, jm_i l1), (2, jm_i l2), (3, jm_i l3)] (q := 4) dX12_weight_69 rfl (by decide) (fun _ => rfl) (fun v25 h26 => ?_)
              refine j_goto (tgt := 5) (pc := 72) dX12_weight_72 (by decide) ?_
              refine j_sub (pc := 5) [(0, jm_vr wd2 X 0 0), (1, jm_i l1), (2, jm_i l2), (3, jm_i l3), (4, jm_i v25)] [1, 2, 3, 4, 0] rfl ?_
              exact hk5 M l1 l2 l3 v25 hl1 hl2 hl3 h26
            · skip
              refine j_iload (pc := 66) dX12_weight_66 (q := 4) rfl ?_
              refine j_istore_n (pc := 68) [(3, jm_i l4), (0, jm_vr wd2 X 0 0), (1, jm_i l1), (2, jm_i l2), (4, jm_i l4)] dX12_weight_68 rfl (by decide) rfl ?_
              refine j_iinc (pc := 69) [(3, jm_i l4), (0, jm_vr wd2 X 0 0), (1, jm_i l1), (2, jm_i l2)] (q := 4) dX12_weight_69 rfl (by decide) (fun _ => rfl) (fun v27 h28 => ?_)
              refine j_goto (tgt := 5) (pc := 72) dX12_weight_72 (by decide) ?_
              refine j_sub (pc := 5) [(0, jm_vr wd2 X 0 0), (1, jm_i l1), (2, jm_i l2), (3, jm_i l4), (4, jm_i v27)] [2, 3, 4, 1, 0] rfl ?_
              exact hk5 M l1 l2 l4 v27 hl1 hl2 hl4 h28
      · skip
        refine j_iinc (pc := 69) [(0, jm_vr wd2 X 0 0), (1, jm_i l1), (2, jm_i l2), (3, jm_i l3)] (q := 4) dX12_weight_69 rfl (by decide) (fun _ => rfl) (fun v29 h30 => ?_)
        refine j_goto (tgt := 5) (pc := 72) dX12_weight_72 (by decide) ?_
        refine j_sub (pc := 5) [(0, jm_vr wd2 X 0 0), (1, jm_i l1), (2, jm_i l2), (3, jm_i l3), (4, jm_i v29)] [1, 2, 3, 4, 0] rfl ?_
        exact hk5 M l1 l2 l3 v29 hl1 hl2 hl3 h30
    · skip
      refine j_iinc (pc := 69) [(0, jm_vr wd2 X 0 0), (1, jm_i l1), (2, jm_i l2), (3, jm_i l3)] (q := 4) dX12_weight_69 rfl (by decide) (fun _ => rfl) (fun v31 h32 => ?_)
      refine j_goto (tgt := 5) (pc := 72) dX12_weight_72 (by decide) ?_
      refine j_sub (pc := 5) [(0, jm_vr wd2 X 0 0), (1, jm_i l1), (2, jm_i l2), (3, jm_i l3), (4, jm_i v31)] [1, 2, 3, 4, 0] rfl ?_
      exact hk5 M l1 l2 l3 v31 hl1 hl2 hl3 h32
theorem bX12_weight_5 (X : jm_X) (fu : Nat) : ∀ (n : Nat) (M : jm_M) (l1 l2 l3 l4 : Int) (hl1 : jm_in l1) (hl2 : jm_in l2) (hl3 : jm_in l3) (hl4 : jm_in l4), jm_J wd2 (jm_qi .int) cX12_weight 5 RX12 rmX12_weight X M [(0, jm_vr wd2 X 0 0), (1, jm_i l1), (2, jm_i l2), (3, jm_i l3), (4, jm_i l4)] [] 5 (fX12_weight_5 fu n M l1 l2 l3 l4) := by
  intro n
  induction n with
  | zero => intro M l1 l2 l3 l4 hl1 hl2 hl3 hl4; exact j_none
  | succ n ih => intro M l1 l2 l3 l4 hl1 hl2 hl3 hl4; exact b0X12_weight_5 X fu (fX12_weight_5 fu n) ih M l1 l2 l3 l4 hl1 hl2 hl3 hl4
set_option maxHeartbeats 4000000 in
set_option maxRecDepth 100000 in
theorem ct_X12_weight (fu : Nat) (M : jm_M) (l1 l2 : Int) (hl1 : jm_in l1) (hl2 : jm_in l2) : jm_Ci wd2 yX12_weight cX12_weight 5 (some .int) rmX12_weight M (fun G ad => [.ref (ad (jm_r wd2 0 0)), jm_i l1, jm_i l2]) (fX12_weight fu M l1 l2) := by
  refine jm_met_i (fun X => [(0, jm_vr wd2 X 0 0), (1, jm_i l1), (2, jm_i l2)]) (by decide) (fun _ _ => (Nat.le_of_ble_eq_true rfl)) (fun _ => rfl) (fun X => ?_)
  unfold fX12_weight
  refine j_iconst (pc := 0) dX12_weight_0 ?_
  refine j_istore_n (pc := 1) [(3, jm_i (-1)), (0, jm_vr wd2 X 0 0), (1, jm_i l1), (2, jm_i l2)] dX12_weight_1 rfl (by decide) rfl ?_
  refine j_iconst (pc := 2) dX12_weight_2 ?_
  refine j_istore (pc := 3) [(4, jm_i 0), (3, jm_i (-1)), (0, jm_vr wd2 X 0 0), (1, jm_i l1), (2, jm_i l2)] dX12_weight_3 (by decide) rfl ?_
  refine j_sub (pc := 5) [(0, jm_vr wd2 X 0 0), (1, jm_i l1), (2, jm_i l2), (3, jm_i (-1)), (4, jm_i 0)] [2, 3, 4, 1, 0] rfl ?_
  exact bX12_weight_5 X fu  fu M l1 l2 (-1) 0 hl1 hl2 (jm_inL (by decide) (by decide)) (jm_inL (by decide) (by decide))
abbrev rmX12_secondsOf : Room := { frames := 3, cells := 0, slots := 0, locals := 67 }
set_option maxHeartbeats 4000000 in
set_option maxRecDepth 100000 in
theorem b0X12_secondsOf_136 (X : jm_X) (fu : Nat) (k136 : jm_M → Int → Int → Int → jm_R) (hk136 : ∀ (M : jm_M) (l2 l3 l4 : Int) (hl2 : jm_in l2) (hl3 : jm_in l3) (hl4 : jm_in l4), jm_J wd2 (jm_qi .int) cX12_secondsOf 6 RX12 rmX12_secondsOf X M [(0, jm_vr wd2 X 0 0), (2, jm_i l2), (3, jm_i l3), (4, jm_i l4)] [] 136 (k136 M l2 l3 l4)) : ∀ (M : jm_M) (l2 l3 l4 : Int) (hl2 : jm_in l2) (hl3 : jm_in l3) (hl4 : jm_in l4), jm_J wd2 (jm_qi .int) cX12_secondsOf 6 RX12 rmX12_secondsOf X M [(0, jm_vr wd2 X 0 0), (2, jm_i l2), (3, jm_i l3), (4, jm_i l4)] [] 136 (gX12_secondsOf_136 fu k136 M l2 l3 l4) := by
  intro M l2 l3 l4 hl2 hl3 hl4
  unfold gX12_secondsOf_136
  refine j_iload (pc := 136) dX12_secondsOf_136 (q := 3) rfl ?_
  refine j_aload_n (pc := 138) dX12_secondsOf_138 rfl (q := 0) rfl ?_
  refine j_geti (pc := 139) jv2_0 jm_01 kf_RX12_33 kg2_0_72 dX12_secondsOf_139 (fun h1 => ?_)
  refine j_icmp_ge (tgt := 220) (pc := 142) hl4 h1 dX12_secondsOf_142 (by decide) (fun c2 => ?_) (fun c2 => ?_)
  · skip
    refine j_iload_n (pc := 220) dX12_secondsOf_220 rfl (q := 2) rfl ?_
    exact j_iret (pc := 221) hl3 rfl dX12_secondsOf_221
  · skip
    refine j_bipush (pc := 145) 100 dX12_secondsOf_145 (by decide) ?_
    refine j_bipush (pc := 147) 6 dX12_secondsOf_147 (by decide) ?_
    refine j_iload (pc := 149) dX12_secondsOf_149 (q := 3) rfl ?_
    refine j_iadd (pc := 151) dX12_secondsOf_151 ?_
    refine j_imul (pc := 152) dX12_secondsOf_152 ?_
    refine j_nm (pc := 153) (jm_w_in _) (fun v3 h4 => ?_)
    refine j_istore (pc := 153) [(5, jm_i v3), (0, jm_vr wd2 X 0 0), (2, jm_i l2), (3, jm_i l3), (4, jm_i l4)] dX12_secondsOf_153 (by decide) rfl ?_
    refine j_aload_n (pc := 155) dX12_secondsOf_155 rfl (q := 1) rfl ?_
    refine j_getr (pc := 156) jv2_0 jm_01 kf_RX12_465 0 kg2_0_73 rfl dX12_secondsOf_156 ?_
    refine j_iload (pc := 159) dX12_secondsOf_159 (q := 4) rfl ?_
    refine j_iald (pc := 161) jv2_61 jm_01 rfl (by decide) ka2_61 dX12_secondsOf_161 (fun c5 h6 => ?_)
    refine j_iload_n (pc := 162) dX12_secondsOf_162 rfl (q := 2) rfl ?_
    refine j_icmp_gt (tgt := 214) (pc := 163) h6 hl2 dX12_secondsOf_163 (by decide) (fun c7 => ?_) (fun c7 => ?_)
    · skip
      refine j_iinc (pc := 214) [(5, jm_i v3), (0, jm_vr wd2 X 0 0), (2, jm_i l2), (3, jm_i l3)] (q := 4) dX12_secondsOf_214 rfl (by decide) (fun _ => rfl) (fun v8 h9 => ?_)
      refine j_goto (tgt := 136) (pc := 217) dX12_secondsOf_217 (by decide) ?_
      refine j_sub (pc := 136) [(0, jm_vr wd2 X 0 0), (2, jm_i l2), (3, jm_i l3), (4, jm_i v8)] [2, 3, 4, 0] rfl ?_
      exact hk136 M l2 l3 v8 hl2 hl3 h9
    · skip
      refine j_aload_n (pc := 166) dX12_secondsOf_166 rfl (q := 1) rfl ?_
      refine j_iload (pc := 167) dX12_secondsOf_167 (q := 0) rfl ?_
      refine j_iload (pc := 169) dX12_secondsOf_169 (q := 0) rfl ?_
      refine j_aload_n (pc := 171) dX12_secondsOf_171 rfl (q := 1) rfl ?_
      refine j_getr (pc := 172) jv2_0 jm_01 kf_RX12_208 0 kg2_0_45 rfl dX12_secondsOf_172 ?_
      refine j_bipush (pc := 175) 6 dX12_secondsOf_175 (by decide) ?_
      refine j_iload (pc := 177) dX12_secondsOf_177 (q := 4) rfl ?_
      refine j_iadd (pc := 179) dX12_secondsOf_179 ?_
      refine j_iald (pc := 180) jv2_36 jm_01 rfl (by decide) ka2_36 dX12_secondsOf_180 (fun c10 h11 => ?_)
      refine j_iadd (pc := 181) dX12_secondsOf_181 ?_
      refine j_callVi2 (pc := 182) (ct_X12_gives fu M v3 (jm_w (v3 + (M 36 0 (jm_w (6 + l4))))) h4 (jm_w_in _)) kg_1611 km_X12_gives kv_X12_gives rfl rfl ⟨(Nat.le_of_ble_eq_true rfl), (Nat.le_of_ble_eq_true rfl)⟩ jv2_0 jm_01 ko2_0 rfl rfl (Nat.le_of_ble_eq_true rfl) dX12_secondsOf_182 (fun v12 M13 h14 => ?_)
      refine j_if_ne (tgt := 191) (pc := 185) h14 dX12_secondsOf_185 (by decide) (fun c15 => ?_) (fun c15 => ?_)
      · skip
        refine j_goto (tgt := 214) (pc := 188) dX12_secondsOf_188 (by decide) ?_
        refine j_iinc (pc := 214) [(5, jm_i v3), (0, jm_vr wd2 X 0 0), (2, jm_i l2), (3, jm_i l3)] (q := 4) dX12_secondsOf_214 rfl (by decide) (fun _ => rfl) (fun v16 h17 => ?_)
        refine j_goto (tgt := 136) (pc := 217) dX12_secondsOf_217 (by decide) ?_
        refine j_sub (pc := 136) [(0, jm_vr wd2 X 0 0), (2, jm_i l2), (3, jm_i l3), (4, jm_i v16)] [2, 3, 4, 0] rfl ?_
        exact hk136 M13 l2 l3 v16 hl2 hl3 h17
      · skip
        refine j_aload_n (pc := 191) dX12_secondsOf_191 rfl (q := 1) rfl ?_
        refine j_getr (pc := 192) jv2_0 jm_01 kf_RX12_269 0 kg2_0_74 rfl dX12_secondsOf_192 ?_
        refine j_iload (pc := 195) dX12_secondsOf_195 (q := 4) rfl ?_
        refine j_iald (pc := 197) jv2_62 jm_01 rfl (by decide) ka2_62 dX12_secondsOf_197 (fun c18 h19 => ?_)
        refine j_if_ge (tgt := 204) (pc := 198) h19 dX12_secondsOf_198 (by decide) (fun c20 => ?_) (fun c20 => ?_)
        · skip
          refine j_iload_n (pc := 204) dX12_secondsOf_204 rfl (q := 3) rfl ?_
          refine j_aload_n (pc := 205) dX12_secondsOf_205 rfl (q := 1) rfl ?_
          refine j_getr (pc := 206) jv2_0 jm_01 kf_RX12_269 0 kg2_0_74 rfl dX12_secondsOf_206 ?_
          refine j_iload (pc := 209) dX12_secondsOf_209 (q := 4) rfl ?_
          refine j_iald (pc := 211) jv2_62 jm_01 rfl (by decide) ka2_62 dX12_secondsOf_211 (fun c21 h22 => ?_)
          refine j_iadd (pc := 212) dX12_secondsOf_212 ?_
          refine j_nm (pc := 213) (jm_w_in _) (fun v23 h24 => ?_)
          refine j_istore_n (pc := 213) [(3, jm_i v23), (5, jm_i v3), (0, jm_vr wd2 X 0 0), (2, jm_i l2), (4, jm_i l4)] dX12_secondsOf_213 rfl (by decide) rfl ?_
          refine j_iinc (pc := 214) [(3, jm_i v23), (5, jm_i v3), (0, jm_vr wd2 X 0 0), (2, jm_i l2)] (q := 4) dX12_secondsOf_214 rfl (by decide) (fun _ => rfl) (fun v25 h26 => ?_)
          refine j_goto (tgt := 136) (pc := 217) dX12_secondsOf_217 (by decide) ?_
          refine j_sub (pc := 136) [(0, jm_vr wd2 X 0 0), (2, jm_i l2), (3, jm_i v23), (4, jm_i v25)] [3, 4, 1, 0] rfl ?_
          exact hk136 M13 l2 v23 v25 hl2 h24 h26
        · skip
          refine j_bipush (pc := 201) (-2) dX12_secondsOf_201 (by decide) ?_
          exact j_iret (pc := 203) (jm_inL (by decide) (by decide)) rfl dX12_secondsOf_203
theorem bX12_secondsOf_136 (X : jm_X) (fu : Nat) : ∀ (n : Nat) (M : jm_M) (l2 l3 l4 : Int) (hl2 : jm_in l2) (hl3 : jm_in l3) (hl4 : jm_in l4), jm_J wd2 (jm_qi .int) cX12_secondsOf 6 RX12 rmX12_secondsOf X M [(0, jm_vr wd2 X 0 0), (2, jm_i l2), (3, jm_i l3), (4, jm_i l4)] [] 136 (fX12_secondsOf_136 fu n M l2 l3 l4) := by
  intro n
  induction n with
  | zero => intro M l2 l3 l4 hl2 hl3 hl4; exact j_none
  | succ n ih => intro M l2 l3 l4 hl2 hl3 hl4; exact b0X12_secondsOf_136 X fu (fX12_secondsOf_136 fu n) ih M l2 l3 l4 hl2 hl3 hl4
set_option maxHeartbeats 4000000 in
set_option maxRecDepth 100000 in
theorem bX12_secondsOf_101 (X : jm_X) (fu : Nat) : ∀ (M : jm_M) (l1 l2 s0 s1 : Int) (hl1 : jm_in l1) (hl2 : jm_in l2) (hs0 : jm_in s0) (hs1 : jm_in s1), jm_J wd2 (jm_qi .int) cX12_secondsOf 6 RX12 rmX12_secondsOf X M [(0, jm_vr wd2 X 0 0), (1, jm_i l1), (2, jm_i l2)] [jm_i s0, jm_i s1, jm_vr wd2 X 38 0] 101 (gX12_secondsOf_101 fu M l1 l2 s0 s1) := by
  intro M l1 l2 s0 s1 hl1 hl2 hs0 hs1
  unfold gX12_secondsOf_101
  refine j_callSi1 (pc := 101) (ct_X12_truth M s0 hs0) kg_1608 km_X12_truth kg_1609 rfl rfl ⟨(Nat.le_of_ble_eq_true rfl), (Nat.le_of_ble_eq_true rfl)⟩ rfl rfl (Nat.le_of_ble_eq_true rfl) dX12_secondsOf_101 (fun v1 M2 h3 => ?_)
  refine j_iast (pc := 104) jv2_38 jm_01 rfl (by decide) wI2 ka2_38 h3 dX12_secondsOf_104 (fun c4 M5 => ?_)
  refine j_aload_n (pc := 105) dX12_secondsOf_105 rfl (q := 0) rfl ?_
  refine j_getr (pc := 106) jv2_0 jm_01 kf_RX12_299 0 kg2_0_48 rfl dX12_secondsOf_106 ?_
  refine j_bipush (pc := 109) 7 dX12_secondsOf_109 (by decide) ?_
  refine j_aload_n (pc := 111) dX12_secondsOf_111 rfl (q := 0) rfl ?_
  refine j_getr (pc := 112) jv2_0 jm_01 kf_RX12_330 0 kg2_0_54 rfl dX12_secondsOf_112 ?_
  refine j_iload_n (pc := 115) dX12_secondsOf_115 rfl (q := 1) rfl ?_
  refine j_iald (pc := 116) jv2_44 jm_01 rfl (by decide) ka2_44 dX12_secondsOf_116 (fun c6 h7 => ?_)
  refine j_iast (pc := 117) jv2_38 jm_01 rfl (by decide) wI2 ka2_38 h7 dX12_secondsOf_117 (fun c8 M9 => ?_)
  refine j_aload_n (pc := 118) dX12_secondsOf_118 rfl (q := 0) rfl ?_
  refine j_getr (pc := 119) jv2_0 jm_01 kf_RX12_299 0 kg2_0_48 rfl dX12_secondsOf_119 ?_
  refine j_bipush (pc := 122) 8 dX12_secondsOf_122 (by decide) ?_
  refine j_aload_n (pc := 124) dX12_secondsOf_124 rfl (q := 0) rfl ?_
  refine j_getr (pc := 125) jv2_0 jm_01 kf_RX12_124 0 kg2_0_21 rfl dX12_secondsOf_125 ?_
  refine j_iload_n (pc := 128) dX12_secondsOf_128 rfl (q := 1) rfl ?_
  refine j_iald (pc := 129) jv2_16 jm_01 rfl (by decide) ka2_16 dX12_secondsOf_129 (fun c10 h11 => ?_)
  refine j_iast (pc := 130) jv2_38 jm_01 rfl (by decide) wI2 ka2_38 h11 dX12_secondsOf_130 (fun c12 M13 => ?_)
  refine j_iconst (pc := 131) dX12_secondsOf_131 ?_
  refine j_istore_n (pc := 132) [(3, jm_i 0), (0, jm_vr wd2 X 0 0), (1, jm_i l1), (2, jm_i l2)] dX12_secondsOf_132 rfl (by decide) rfl ?_
  refine j_iconst (pc := 133) dX12_secondsOf_133 ?_
  refine j_istore (pc := 134) [(4, jm_i 0), (3, jm_i 0), (0, jm_vr wd2 X 0 0), (1, jm_i l1), (2, jm_i l2)] dX12_secondsOf_134 (by decide) rfl ?_
  refine j_sub (pc := 136) [(0, jm_vr wd2 X 0 0), (2, jm_i l2), (3, jm_i 0), (4, jm_i 0)] [2, 4, 1, 0] rfl ?_
  exact bX12_secondsOf_136 X fu  fu M13 l2 0 0 hl2 (jm_inL (by decide) (by decide)) (jm_inL (by decide) (by decide))
set_option maxHeartbeats 4000000 in
set_option maxRecDepth 100000 in
theorem ct_X12_secondsOf (fu : Nat) (M : jm_M) (l1 l2 : Int) (hl1 : jm_in l1) (hl2 : jm_in l2) : jm_Ci wd2 yX12_secondsOf cX12_secondsOf 6 (some .int) rmX12_secondsOf M (fun G ad => [.ref (ad (jm_r wd2 0 0)), jm_i l1, jm_i l2]) (fX12_secondsOf fu M l1 l2) := by
  refine jm_met_i (fun X => [(0, jm_vr wd2 X 0 0), (1, jm_i l1), (2, jm_i l2)]) (by decide) (fun _ _ => (Nat.le_of_ble_eq_true rfl)) (fun _ => rfl) (fun X => ?_)
  unfold fX12_secondsOf
  refine j_aload_n (pc := 0) dX12_secondsOf_0 rfl (q := 0) rfl ?_
  refine j_getr (pc := 1) jv2_0 jm_01 kf_RX12_299 0 kg2_0_48 rfl dX12_secondsOf_1 ?_
  refine j_iconst (pc := 4) dX12_secondsOf_4 ?_
  refine j_aload_n (pc := 5) dX12_secondsOf_5 rfl (q := 0) rfl ?_
  refine j_getr (pc := 6) jv2_0 jm_01 kf_RX12_342 0 kg2_0_59 rfl dX12_secondsOf_6 ?_
  refine j_iload_n (pc := 9) dX12_secondsOf_9 rfl (q := 1) rfl ?_
  refine j_iald (pc := 10) jv2_49 jm_01 rfl (by decide) ka2_49 dX12_secondsOf_10 (fun c1 h2 => ?_)
  refine j_iast (pc := 11) jv2_38 jm_01 rfl (by decide) wI2 ka2_38 h2 dX12_secondsOf_11 (fun c3 M4 => ?_)
  refine j_aload_n (pc := 12) dX12_secondsOf_12 rfl (q := 0) rfl ?_
  refine j_getr (pc := 13) jv2_0 jm_01 kf_RX12_299 0 kg2_0_48 rfl dX12_secondsOf_13 ?_
  refine j_iconst (pc := 16) dX12_secondsOf_16 ?_
  refine j_aload_n (pc := 17) dX12_secondsOf_17 rfl (q := 0) rfl ?_
  refine j_getr (pc := 18) jv2_0 jm_01 kf_RX12_345 0 kg2_0_60 rfl dX12_secondsOf_18 ?_
  refine j_iload_n (pc := 21) dX12_secondsOf_21 rfl (q := 1) rfl ?_
  refine j_iald (pc := 22) jv2_50 jm_01 rfl (by decide) ka2_50 dX12_secondsOf_22 (fun c5 h6 => ?_)
  refine j_callSi1 (pc := 23) (ct_J6_bitCount_0f7a4_w2 M4 (M4 50 0 l1) h6) kg_1622 km_J6_bitCount_0f7a4 kg_1091 rfl rfl ⟨(Nat.le_of_ble_eq_true rfl), (Nat.le_of_ble_eq_true rfl)⟩ rfl rfl (Nat.le_of_ble_eq_true rfl) dX12_secondsOf_23 (fun v7 M8 h9 => ?_)
  refine j_iast (pc := 26) jv2_38 jm_01 rfl (by decide) wI2 ka2_38 h9 dX12_secondsOf_26 (fun c10 M11 => ?_)
  refine j_aload_n (pc := 27) dX12_secondsOf_27 rfl (q := 0) rfl ?_
  refine j_getr (pc := 28) jv2_0 jm_01 kf_RX12_299 0 kg2_0_48 rfl dX12_secondsOf_28 ?_
  refine j_iconst (pc := 31) dX12_secondsOf_31 ?_
  refine j_aload_n (pc := 32) dX12_secondsOf_32 rfl (q := 0) rfl ?_
  refine j_getr (pc := 33) jv2_0 jm_01 kf_RX12_348 0 kg2_0_61 rfl dX12_secondsOf_33 ?_
  refine j_iload_n (pc := 36) dX12_secondsOf_36 rfl (q := 1) rfl ?_
  refine j_iald (pc := 37) jv2_51 jm_01 rfl (by decide) ka2_51 dX12_secondsOf_37 (fun c12 h13 => ?_)
  refine j_iast (pc := 38) jv2_38 jm_01 rfl (by decide) wI2 ka2_38 h13 dX12_secondsOf_38 (fun c14 M15 => ?_)
  refine j_aload_n (pc := 39) dX12_secondsOf_39 rfl (q := 0) rfl ?_
  refine j_getr (pc := 40) jv2_0 jm_01 kf_RX12_299 0 kg2_0_48 rfl dX12_secondsOf_40 ?_
  refine j_iconst (pc := 43) dX12_secondsOf_43 ?_
  refine j_aload_n (pc := 44) dX12_secondsOf_44 rfl (q := 0) rfl ?_
  refine j_getr (pc := 45) jv2_0 jm_01 kf_RX12_327 0 kg2_0_53 rfl dX12_secondsOf_45 ?_
  refine j_iload_n (pc := 48) dX12_secondsOf_48 rfl (q := 1) rfl ?_
  refine j_iald (pc := 49) jv2_43 jm_01 rfl (by decide) ka2_43 dX12_secondsOf_49 (fun c16 h17 => ?_)
  refine j_aload_n (pc := 50) dX12_secondsOf_50 rfl (q := 0) rfl ?_
  refine j_geti (pc := 51) jv2_0 jm_01 kf_RX12_7 kg2_0_1 dX12_secondsOf_51 (fun h18 => ?_)
  refine j_gd (pc := 54) (fun c19 => ?_)
  refine j_idiv (pc := 54) h17 h18 dX12_secondsOf_54 c19 ?_
  refine j_iast (pc := 55) jv2_38 jm_01 rfl (by decide) wI2 ka2_38 (jm_div_in _ _) dX12_secondsOf_55 (fun c20 M21 => ?_)
  refine j_aload_n (pc := 56) dX12_secondsOf_56 rfl (q := 0) rfl ?_
  refine j_getr (pc := 57) jv2_0 jm_01 kf_RX12_299 0 kg2_0_48 rfl dX12_secondsOf_57 ?_
  refine j_iconst (pc := 60) dX12_secondsOf_60 ?_
  refine j_aload_n (pc := 61) dX12_secondsOf_61 rfl (q := 0) rfl ?_
  refine j_iload_n (pc := 62) dX12_secondsOf_62 rfl (q := 1) rfl ?_
  refine j_iload_n (pc := 63) dX12_secondsOf_63 rfl (q := 2) rfl ?_
  refine j_callVi2 (pc := 64) (ct_X12_weight fu M21 l1 l2 hl1 hl2) kg_1665 km_X12_weight kv_X12_weight rfl rfl ⟨(Nat.le_of_ble_eq_true rfl), (Nat.le_of_ble_eq_true rfl)⟩ jv2_0 jm_01 ko2_0 rfl rfl (Nat.le_of_ble_eq_true rfl) dX12_secondsOf_64 (fun v22 M23 h24 => ?_)
  refine j_iast (pc := 67) jv2_38 jm_01 rfl (by decide) wI2 ka2_38 h24 dX12_secondsOf_67 (fun c25 M26 => ?_)
  refine j_aload_n (pc := 68) dX12_secondsOf_68 rfl (q := 0) rfl ?_
  refine j_getr (pc := 69) jv2_0 jm_01 kf_RX12_299 0 kg2_0_48 rfl dX12_secondsOf_69 ?_
  refine j_iconst (pc := 72) dX12_secondsOf_72 ?_
  refine j_aload_n (pc := 73) dX12_secondsOf_73 rfl (q := 0) rfl ?_
  refine j_getr (pc := 74) jv2_0 jm_01 kf_RX12_127 0 kg2_0_22 rfl dX12_secondsOf_74 ?_
  refine j_iload_n (pc := 77) dX12_secondsOf_77 rfl (q := 1) rfl ?_
  refine j_iald (pc := 78) jv2_17 jm_01 rfl (by decide) ka2_17 dX12_secondsOf_78 (fun c27 h28 => ?_)
  refine j_iast (pc := 79) jv2_38 jm_01 rfl (by decide) wI2 ka2_38 h28 dX12_secondsOf_79 (fun c29 M30 => ?_)
  refine j_aload_n (pc := 80) dX12_secondsOf_80 rfl (q := 0) rfl ?_
  refine j_getr (pc := 81) jv2_0 jm_01 kf_RX12_299 0 kg2_0_48 rfl dX12_secondsOf_81 ?_
  refine j_bipush (pc := 84) 6 dX12_secondsOf_84 (by decide) ?_
  refine j_aload_n (pc := 86) dX12_secondsOf_86 rfl (q := 0) rfl ?_
  refine j_getr (pc := 87) jv2_0 jm_01 kf_RX12_309 0 kg2_0_49 rfl dX12_secondsOf_87 ?_
  refine j_iload_n (pc := 90) dX12_secondsOf_90 rfl (q := 1) rfl ?_
  refine j_iald (pc := 91) jv2_39 jm_01 rfl (by decide) ka2_39 dX12_secondsOf_91 (fun c31 h32 => ?_)
  refine j_iconst (pc := 92) dX12_secondsOf_92 ?_
  refine j_icmp_ne (tgt := 100) (pc := 93) h32 (jm_inL (by decide) (by decide)) dX12_secondsOf_93 (by decide) (fun c33 => ?_) (fun c33 => ?_)
  · skip
    refine j_iconst (pc := 96) dX12_secondsOf_96 ?_
    refine j_goto (tgt := 101) (pc := 97) dX12_secondsOf_97 (by decide) ?_
    refine j_sub (pc := 101) [(0, jm_vr wd2 X 0 0), (1, jm_i l1), (2, jm_i l2)] [0, 1, 2] rfl ?_
    exact bX12_secondsOf_101 X fu  M30 l1 l2 1 6 hl1 hl2 (jm_inL (by decide) (by decide)) (jm_inL (by decide) (by decide))
  · skip
    refine j_iconst (pc := 100) dX12_secondsOf_100 ?_
    refine j_sub (pc := 101) [(0, jm_vr wd2 X 0 0), (1, jm_i l1), (2, jm_i l2)] [0, 1, 2] rfl ?_
    exact bX12_secondsOf_101 X fu  M30 l1 l2 0 6 hl1 hl2 (jm_inL (by decide) (by decide)) (jm_inL (by decide) (by decide))
abbrev rmX12_seconds : Room := { frames := 7, cells := 0, slots := 0, locals := 170 }
set_option maxHeartbeats 4000000 in
set_option maxRecDepth 100000 in
theorem ct_X12_seconds (fu : Nat) (M : jm_M) (l1 l2 : Int) (hl1 : jm_in l1) (hl2 : jm_in l2) : jm_Ci wd2 yX12_seconds cX12_seconds 3 (some .int) rmX12_seconds M (fun G ad => [.ref (ad (jm_r wd2 0 0)), jm_i l1, jm_i l2]) (fX12_seconds fu M l1 l2) := by
  refine jm_met_i (fun X => [(0, jm_vr wd2 X 0 0), (1, jm_i l1), (2, jm_i l2)]) (by decide) (fun _ _ => (Nat.le_of_ble_eq_true rfl)) (fun _ => rfl) (fun X => ?_)
  unfold fX12_seconds
  refine j_aload_n (pc := 0) dX12_seconds_0 rfl (q := 0) rfl ?_
  refine j_iconst (pc := 1) dX12_seconds_1 ?_
  refine j_put (pc := 2) jv2_0 jm_01 kf_RX12_3 wI2 kp_X12_0 kx2_0_0 (jm_inL (by decide) (by decide)) rfl rfl dX12_seconds_2 (fun M1 => ?_)
  refine j_aload_n (pc := 5) dX12_seconds_5 rfl (q := 0) rfl ?_
  refine j_iload_n (pc := 6) dX12_seconds_6 rfl (q := 1) rfl ?_
  refine j_callVi1 (pc := 7) (ct_X12_isCar M1 l1 hl1) kg_1405 km_X12_isCar kv_X12_isCar rfl rfl ⟨(Nat.le_of_ble_eq_true rfl), (Nat.le_of_ble_eq_true rfl)⟩ jv2_0 jm_01 ko2_0 rfl rfl (Nat.le_of_ble_eq_true rfl) dX12_seconds_7 (fun v2 M3 h4 => ?_)
  refine j_if_eq (tgt := 20) (pc := 10) h4 dX12_seconds_10 (by decide) (fun c5 => ?_) (fun c5 => ?_)
  · skip
    refine j_iconst (pc := 20) dX12_seconds_20 ?_
    exact j_iret (pc := 21) (jm_inL (by decide) (by decide)) rfl dX12_seconds_21
  · skip
    refine j_iload_n (pc := 13) dX12_seconds_13 rfl (q := 2) rfl ?_
    refine j_callSi1 (pc := 14) (ct_X12_isDay M3 l2 hl2) kg_1647 km_X12_isDay kg_1648 rfl rfl ⟨(Nat.le_of_ble_eq_true rfl), (Nat.le_of_ble_eq_true rfl)⟩ rfl rfl (Nat.le_of_ble_eq_true rfl) dX12_seconds_14 (fun v6 M7 h8 => ?_)
    refine j_if_ne (tgt := 22) (pc := 17) h8 dX12_seconds_17 (by decide) (fun c9 => ?_) (fun c9 => ?_)
    · skip
      refine j_iconst (pc := 20) dX12_seconds_20 ?_
      exact j_iret (pc := 21) (jm_inL (by decide) (by decide)) rfl dX12_seconds_21
    · skip
      refine j_aload_n (pc := 22) dX12_seconds_22 rfl (q := 0) rfl ?_
      refine j_callVv0 (pc := 23) (ct_X12_runs fu M7 ) kg_1538 km_X12_runs kv_X12_runs rfl rfl ⟨(Nat.le_of_ble_eq_true rfl), (Nat.le_of_ble_eq_true rfl)⟩ jv2_0 jm_01 ko2_0 rfl rfl (Nat.le_of_ble_eq_true rfl) dX12_seconds_23 (fun v10 M11 => ?_)
      refine j_aload_n (pc := 26) dX12_seconds_26 rfl (q := 0) rfl ?_
      refine j_iload_n (pc := 27) dX12_seconds_27 rfl (q := 1) rfl ?_
      refine j_iload_n (pc := 28) dX12_seconds_28 rfl (q := 2) rfl ?_
      refine j_callVi2 (pc := 29) (ct_X12_secondsOf fu M11 l1 l2 hl1 hl2) kg_1661 km_X12_secondsOf kv_X12_secondsOf rfl rfl ⟨(Nat.le_of_ble_eq_true rfl), (Nat.le_of_ble_eq_true rfl)⟩ jv2_0 jm_01 ko2_0 rfl rfl (Nat.le_of_ble_eq_true rfl) dX12_seconds_29 (fun v12 M13 h14 => ?_)
      exact j_iret (pc := 32) h14 rfl dX12_seconds_32
abbrev rmX12_timeFound : Room := { frames := 0, cells := 0, slots := 0, locals := 0 }
set_option maxHeartbeats 4000000 in
set_option maxRecDepth 100000 in
theorem b0X12_timeFound_5 (X : jm_X) (fu : Nat) (k5 : jm_M → Int → Int → Int → Int → jm_R) (hk5 : ∀ (M : jm_M) (l1 l2 l3 l4 : Int) (hl1 : jm_in l1) (hl2 : jm_in l2) (hl3 : jm_in l3) (hl4 : jm_in l4), jm_J wd2 (jm_qi .int) cX12_timeFound 5 RX12 rmX12_timeFound X M [(0, jm_vr wd2 X 0 0), (1, jm_i l1), (2, jm_i l2), (3, jm_i l3), (4, jm_i l4)] [] 5 (k5 M l1 l2 l3 l4)) : ∀ (M : jm_M) (l1 l2 l3 l4 : Int) (hl1 : jm_in l1) (hl2 : jm_in l2) (hl3 : jm_in l3) (hl4 : jm_in l4), jm_J wd2 (jm_qi .int) cX12_timeFound 5 RX12 rmX12_timeFound X M [(0, jm_vr wd2 X 0 0), (1, jm_i l1), (2, jm_i l2), (3, jm_i l3), (4, jm_i l4)] [] 5 (gX12_timeFound_5 fu k5 M l1 l2 l3 l4) := by
  intro M l1 l2 l3 l4 hl1 hl2 hl3 hl4
  unfold gX12_timeFound_5
  refine j_iload (pc := 5) dX12_timeFound_5 (q := 4) rfl ?_
  refine j_aload_n (pc := 7) dX12_timeFound_7 rfl (q := 0) rfl ?_
  refine j_geti (pc := 8) jv2_0 jm_01 kf_RX12_36 kg2_0_75 dX12_timeFound_8 (fun h1 => ?_)
  refine j_icmp_ge (tgt := 67) (pc := 11) hl4 h1 dX12_timeFound_11 (by decide) (fun c2 => ?_) (fun c2 => ?_)
  · skip
    refine j_iload_n (pc := 67) dX12_timeFound_67 rfl (q := 3) rfl ?_
    exact j_iret (pc := 68) hl3 rfl dX12_timeFound_68
  · skip
    refine j_iload_n (pc := 14) dX12_timeFound_14 rfl (q := 3) rfl ?_
    refine j_aload_n (pc := 15) dX12_timeFound_15 rfl (q := 0) rfl ?_
    refine j_getr (pc := 16) jv2_0 jm_01 kf_RX12_475 0 kg2_0_77 rfl dX12_timeFound_16 ?_
    refine j_iload (pc := 19) dX12_timeFound_19 (q := 4) rfl ?_
    refine j_iald (pc := 21) jv2_64 jm_01 rfl (by decide) ka2_64 dX12_timeFound_21 (fun c3 h4 => ?_)
    refine j_iload_n (pc := 22) dX12_timeFound_22 rfl (q := 1) rfl ?_
    refine j_icmp_ne (tgt := 58) (pc := 23) h4 hl1 dX12_timeFound_23 (by decide) (fun c5 => ?_) (fun c5 => ?_)
    · skip
      refine j_aload_n (pc := 26) dX12_timeFound_26 rfl (q := 0) rfl ?_
      refine j_getr (pc := 27) jv2_0 jm_01 kf_RX12_478 0 kg2_0_78 rfl dX12_timeFound_27 ?_
      refine j_iload (pc := 30) dX12_timeFound_30 (q := 4) rfl ?_
      refine j_iald (pc := 32) jv2_65 jm_01 rfl (by decide) ka2_65 dX12_timeFound_32 (fun c6 h7 => ?_)
      refine j_iconst (pc := 33) dX12_timeFound_33 ?_
      refine j_icmp_ne (tgt := 58) (pc := 34) h7 (jm_inL (by decide) (by decide)) dX12_timeFound_34 (by decide) (fun c8 => ?_) (fun c8 => ?_)
      · skip
        refine j_aload_n (pc := 37) dX12_timeFound_37 rfl (q := 0) rfl ?_
        refine j_getr (pc := 38) jv2_0 jm_01 kf_RX12_472 0 kg2_0_76 rfl dX12_timeFound_38 ?_
        refine j_iload (pc := 41) dX12_timeFound_41 (q := 4) rfl ?_
        refine j_iald (pc := 43) jv2_63 jm_01 rfl (by decide) ka2_63 dX12_timeFound_43 (fun c9 h10 => ?_)
        refine j_iload_n (pc := 44) dX12_timeFound_44 rfl (q := 2) rfl ?_
        refine j_icmp_gt (tgt := 58) (pc := 45) h10 hl2 dX12_timeFound_45 (by decide) (fun c11 => ?_) (fun c11 => ?_)
        · skip
          refine j_iconst (pc := 58) dX12_timeFound_58 ?_
          refine j_iadd (pc := 59) dX12_timeFound_59 ?_
          refine j_nm (pc := 60) (jm_w_in _) (fun v12 h13 => ?_)
          refine j_istore_n (pc := 60) [(3, jm_i v12), (0, jm_vr wd2 X 0 0), (1, jm_i l1), (2, jm_i l2), (4, jm_i l4)] dX12_timeFound_60 rfl (by decide) rfl ?_
          refine j_iinc (pc := 61) [(3, jm_i v12), (0, jm_vr wd2 X 0 0), (1, jm_i l1), (2, jm_i l2)] (q := 4) dX12_timeFound_61 rfl (by decide) (fun _ => rfl) (fun v14 h15 => ?_)
          refine j_goto (tgt := 5) (pc := 64) dX12_timeFound_64 (by decide) ?_
          refine j_sub (pc := 5) [(0, jm_vr wd2 X 0 0), (1, jm_i l1), (2, jm_i l2), (3, jm_i v12), (4, jm_i v14)] [2, 3, 4, 1, 0] rfl ?_
          exact hk5 M l1 l2 v12 v14 hl1 hl2 h13 h15
        · skip
          refine j_aload_n (pc := 48) dX12_timeFound_48 rfl (q := 0) rfl ?_
          refine j_getr (pc := 49) jv2_0 jm_01 kf_RX12_481 0 kg2_0_79 rfl dX12_timeFound_49 ?_
          refine j_iload (pc := 52) dX12_timeFound_52 (q := 4) rfl ?_
          refine j_iald (pc := 54) jv2_66 jm_01 rfl (by decide) ka2_66 dX12_timeFound_54 (fun c16 h17 => ?_)
          refine j_goto (tgt := 59) (pc := 55) dX12_timeFound_55 (by decide) ?_
          refine j_iadd (pc := 59) dX12_timeFound_59 ?_
          refine j_nm (pc := 60) (jm_w_in _) (fun v18 h19 => ?_)
          refine j_istore_n (pc := 60) [(3, jm_i v18), (0, jm_vr wd2 X 0 0), (1, jm_i l1), (2, jm_i l2), (4, jm_i l4)] dX12_timeFound_60 rfl (by decide) rfl ?_
          refine j_iinc (pc := 61) [(3, jm_i v18), (0, jm_vr wd2 X 0 0), (1, jm_i l1), (2, jm_i l2)] (q := 4) dX12_timeFound_61 rfl (by decide) (fun _ => rfl) (fun v20 h21 => ?_)
          refine j_goto (tgt := 5) (pc := 64) dX12_timeFound_64 (by decide) ?_
          refine j_sub (pc := 5) [(0, jm_vr wd2 X 0 0), (1, jm_i l1), (2, jm_i l2), (3, jm_i v18), (4, jm_i v20)] [2, 3, 4, 1, 0] rfl ?_
          exact hk5 M l1 l2 v18 v20 hl1 hl2 h19 h21
      · skip
        refine j_iconst (pc := 58) dX12_timeFound_58 ?_
        refine j_iadd (pc := 59) dX12_timeFound_59 ?_
        refine j_nm (pc := 60) (jm_w_in _) (fun v22 h23 => ?_)
        refine j_istore_n (pc := 60) [(3, jm_i v22), (0, jm_vr wd2 X 0 0), (1, jm_i l1), (2, jm_i l2), (4, jm_i l4)] dX12_timeFound_60 rfl (by decide) rfl ?_
        refine j_iinc (pc := 61) [(3, jm_i v22), (0, jm_vr wd2 X 0 0), (1, jm_i l1), (2, jm_i l2)] (q := 4) dX12_timeFound_61 rfl (by decide) (fun _ => rfl) (fun v24 h25 => ?_)
        refine j_goto (tgt := 5) (pc := 64) dX12_timeFound_64 (by decide) ?_
        refine j_sub (pc := 5) [(0, jm_vr wd2 X 0 0), (1, jm_i l1), (2, jm_i l2), (3, jm_i v22), (4, jm_i v24)] [2, 3, 4, 1, 0] rfl ?_
        exact hk5 M l1 l2 v22 v24 hl1 hl2 h23 h25
    · skip
      refine j_iconst (pc := 58) dX12_timeFound_58 ?_
      refine j_iadd (pc := 59) dX12_timeFound_59 ?_
      refine j_nm (pc := 60) (jm_w_in _) (fun v26 h27 => ?_)
      refine j_istore_n (pc := 60) [(3, jm_i v26), (0, jm_vr wd2 X 0 0), (1, jm_i l1), (2, jm_i l2), (4, jm_i l4)] dX12_timeFound_60 rfl (by decide) rfl ?_
      refine j_iinc (pc := 61) [(3, jm_i v26), (0, jm_vr wd2 X 0 0), (1, jm_i l1), (2, jm_i l2)] (q := 4) dX12_timeFound_61 rfl (by decide) (fun _ => rfl) (fun v28 h29 => ?_)
      refine j_goto (tgt := 5) (pc := 64) dX12_timeFound_64 (by decide) ?_
      refine j_sub (pc := 5) [(0, jm_vr wd2 X 0 0), (1, jm_i l1), (2, jm_i l2), (3, jm_i v26), (4, jm_i v28)] [2, 3, 4, 1, 0] rfl ?_
      exact hk5 M l1 l2 v26 v28 hl1 hl2 h27 h29
theorem bX12_timeFound_5 (X : jm_X) (fu : Nat) : ∀ (n : Nat) (M : jm_M) (l1 l2 l3 l4 : Int) (hl1 : jm_in l1) (hl2 : jm_in l2) (hl3 : jm_in l3) (hl4 : jm_in l4), jm_J wd2 (jm_qi .int) cX12_timeFound 5 RX12 rmX12_timeFound X M [(0, jm_vr wd2 X 0 0), (1, jm_i l1), (2, jm_i l2), (3, jm_i l3), (4, jm_i l4)] [] 5 (fX12_timeFound_5 fu n M l1 l2 l3 l4) := by
  intro n
  induction n with
  | zero => intro M l1 l2 l3 l4 hl1 hl2 hl3 hl4; exact j_none
  | succ n ih => intro M l1 l2 l3 l4 hl1 hl2 hl3 hl4; exact b0X12_timeFound_5 X fu (fX12_timeFound_5 fu n) ih M l1 l2 l3 l4 hl1 hl2 hl3 hl4
set_option maxHeartbeats 4000000 in
set_option maxRecDepth 100000 in
theorem ct_X12_timeFound (fu : Nat) (M : jm_M) (l1 l2 : Int) (hl1 : jm_in l1) (hl2 : jm_in l2) : jm_Ci wd2 yX12_timeFound cX12_timeFound 5 (some .int) rmX12_timeFound M (fun G ad => [.ref (ad (jm_r wd2 0 0)), jm_i l1, jm_i l2]) (fX12_timeFound fu M l1 l2) := by
  refine jm_met_i (fun X => [(0, jm_vr wd2 X 0 0), (1, jm_i l1), (2, jm_i l2)]) (by decide) (fun _ _ => (Nat.le_of_ble_eq_true rfl)) (fun _ => rfl) (fun X => ?_)
  unfold fX12_timeFound
  refine j_iconst (pc := 0) dX12_timeFound_0 ?_
  refine j_istore_n (pc := 1) [(3, jm_i 0), (0, jm_vr wd2 X 0 0), (1, jm_i l1), (2, jm_i l2)] dX12_timeFound_1 rfl (by decide) rfl ?_
  refine j_iconst (pc := 2) dX12_timeFound_2 ?_
  refine j_istore (pc := 3) [(4, jm_i 0), (3, jm_i 0), (0, jm_vr wd2 X 0 0), (1, jm_i l1), (2, jm_i l2)] dX12_timeFound_3 (by decide) rfl ?_
  refine j_sub (pc := 5) [(0, jm_vr wd2 X 0 0), (1, jm_i l1), (2, jm_i l2), (3, jm_i 0), (4, jm_i 0)] [2, 3, 4, 1, 0] rfl ?_
  exact bX12_timeFound_5 X fu  fu M l1 l2 0 0 hl1 hl2 (jm_inL (by decide) (by decide)) (jm_inL (by decide) (by decide))
