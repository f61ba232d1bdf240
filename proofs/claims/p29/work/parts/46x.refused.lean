/-! p29: open walks: isRefused0 isRefused1 -/
theorem v_693 : Cond.methodLink "PuzzleRegistryLaw" 132 yL_all ∈ TW := q_mem 693 (by decide +kernel) rfl
theorem v_332 : Cond.methodLink "PuzzleRegistryLaw" 136 yL_act ∈ TW := q_mem 332 (by decide +kernel) rfl
set_option maxRecDepth 100000 in
theorem v_692 : Cond.code yL_isRefused cL_isRefused 15 (some .boolean) ∈ TW := q_mem 692 rfl rfl
theorem v_691 : Cond.static yL_isRefused ∈ TW := q_mem 691 (by decide +kernel) rfl
theorem ck_L_isRefused : CKg yL_isRefused (Cond.code yL_isRefused cL_isRefused 15 (some .boolean)) 6 := ⟨v_692, w_60, ⟨by decide +kernel, by decide +kernel⟩, by decide +kernel, v_691⟩
set_option maxHeartbeats 8000000 in
set_option maxRecDepth 100000 in
theorem t_isRefused0 {l : Launch} (hfl : l.flags = flags0) {D : va_G} {cI cZ cL : ClassId} {ad aa : Nat → Nat} {fa S : Mem} (hD : va_D (aC ad cI) (wC ad cI mem0)) (hA : ∀ q, aW (wA aa cI mem0) q → ¬ aC ad cI q) (hfa : FA fa 0 0) (hJ : JS S 0 0) :
    GM l D cI cZ cL ad aa fa S yL_isRefused [Cond.code yL_isRefused cL_isRefused 15 (some .boolean)] 10 150 [.ref (ad 0), .ref (aa 0), .ref (aa 2), .ref (aa 3), .ref (aa 5), .int 0] 0 0 (pR) := by
  refine GM.of (by decide) (Nat.le_of_ble_eq_true rfl) hfl hD hA hJ ?_
  intro p e s m args below meth c ls hx hb hr hlk hown C hw hl
  obtain ⟨⟨hm0, hm1⟩, ⟨f50, f51, f52, f54⟩, fh, ff, fr⟩ := hfa
  have hl : lv_has ls 15 [(0, .ref (ad 0)), (1, .ref (aa 0)), (2, .ref (aa 2)), (3, .ref (aa 3)), (4, .ref (aa 5)), (5, .int 0)] := hl
  have hN : s.heap.size + 0 ≤ s.heap.size := Nat.le_refl _
  refine lv_iload hx hb dL_isRefused_0 (lv_at hl 5 rfl) ?_
  refine lv_iconst (v := 2) hx hb dL_isRefused_2 (by decide) ?_
  refine lv_irem hx hb dL_isRefused_3 (by decide) ?_
  refine q_top (y := 0) (by decide) ?_
  refine lv_if_ne (tgt := 11) hx hb dL_isRefused_4 (by decide) (fun c_1 => ?_) (fun c_1 => ?_)
  · skip
    exact absurd c_1 (by decide)
  · skip
    refine lv_iconst (v := 1) hx hb dL_isRefused_7 (by decide) ?_
    refine lv_goto (tgt := 12) hx hb dL_isRefused_8 (by decide) ?_
    refine lv_istore (lv' := [(6, .int 1), (0, .ref (ad 0)), (1, .ref (aa 0)), (2, .ref (aa 2)), (3, .ref (aa 3)), (4, .ref (aa 5)), (5, .int 0)]) hx hb dL_isRefused_12 hl (by decide) rfl (fun ls hl => ?_)
    refine lv_iload hx hb dL_isRefused_14 (lv_at hl 0 rfl) ?_
    refine lv_if_eq (tgt := 29) hx hb dL_isRefused_16 (by decide) (fun c_2 => ?_) (fun c_2 => ?_)
    · skip
      exact absurd c_2 (by decide)
    · skip
      refine lv_iconst (v := (-1)) hx hb dL_isRefused_19 (by decide) ?_
      refine lv_iload hx hb dL_isRefused_20 (lv_at hl 6 rfl) ?_
      refine lv_bipush (v := 30) hx hb dL_isRefused_22 (by decide) ?_
      refine lv_irem hx hb dL_isRefused_24 (by decide) ?_
      refine q_top (y := 0) (by decide) ?_
      refine lv_isub hx hb dL_isRefused_25 ?_
      refine q_top (y := (-1)) (by decide) ?_
      refine lv_goto (tgt := 39) hx hb dL_isRefused_26 (by decide) ?_
      refine lv_istore (lv' := [(7, .int (-1)), (6, .int 1), (0, .ref (ad 0)), (1, .ref (aa 0)), (2, .ref (aa 2)), (3, .ref (aa 3)), (4, .ref (aa 5)), (5, .int 0)]) hx hb dL_isRefused_39 hl (by decide) rfl (fun ls hl => ?_)
      refine lv_iload hx hb dL_isRefused_41 (lv_at hl 1 rfl) ?_
      refine lv_if_eq (tgt := 56) hx hb dL_isRefused_43 (by decide) (fun c_3 => ?_) (fun c_3 => ?_)
      · skip
        exact absurd c_3 (by decide)
      · skip
        refine lv_iconst (v := (-1)) hx hb dL_isRefused_46 (by decide) ?_
        refine lv_iload hx hb dL_isRefused_47 (lv_at hl 7 rfl) ?_
        refine lv_bipush (v := 30) hx hb dL_isRefused_49 (by decide) ?_
        refine lv_irem hx hb dL_isRefused_51 (by decide) ?_
        refine q_top (y := 0) (by decide) ?_
        refine lv_isub hx hb dL_isRefused_52 ?_
        refine q_top (y := (-1)) (by decide) ?_
        refine lv_goto (tgt := 66) hx hb dL_isRefused_53 (by decide) ?_
        refine lv_istore (lv' := [(8, .int (-1)), (7, .int (-1)), (6, .int 1), (0, .ref (ad 0)), (1, .ref (aa 0)), (2, .ref (aa 2)), (3, .ref (aa 3)), (4, .ref (aa 5)), (5, .int 0)]) hx hb dL_isRefused_66 hl (by decide) rfl (fun ls hl => ?_)
        refine lv_aload_n hx hb dL_isRefused_68 rfl (lv_at hl 3 rfl) ?_
        refine lv_aload hx hb dL_isRefused_69 (lv_at hl 7 rfl) ?_
        refine g_hl (rest := []) C hw (t_all C.1.2.2.2.2 C.2.2.1 C.2.2.2.1 ⟨⟨hm0, hm1⟩, ⟨f50, f51, f52, f54⟩, fh, ff, fr⟩ hw.2.2.2) ck_L_all v_693 hl.1 rfl ⟨Nat.le_of_ble_eq_true rfl, Nat.le_of_ble_eq_true rfl⟩ (Nat.le_of_ble_eq_true rfl) dL_isRefused_71 ⟨by omega, by omega⟩ (fun v S H locs hpo hle hw => ?_)
        obtain ⟨z4, rfl⟩ := hpo
        have hN : s.heap.size + (0) ≤ H.size := by omega
        refine W.widen (k := 0) (n := 6 * (0)) (by omega) (by omega) ?_
        refine lv_lstore (lv' := [(9, .long z4), (8, .int (-1)), (7, .int (-1)), (6, .int 1), (0, .ref (ad 0)), (1, .ref (aa 0)), (2, .ref (aa 2)), (3, .ref (aa 3)), (4, .ref (aa 5)), (5, .int 0)]) hx hb dL_isRefused_74 hl (by decide) rfl (fun ls hl => ?_)
        refine lv_aload_n hx hb dL_isRefused_76 rfl (lv_at hl 4 rfl) ?_
        refine lv_iconst (v := 0) hx hb dL_isRefused_77 (by decide) ?_
        refine lv_iload hx hb dL_isRefused_78 (lv_at hl 3 rfl) ?_
        refine lv_if_eq (tgt := 93) hx hb dL_isRefused_80 (by decide) (fun c_5 => ?_) (fun c_5 => ?_)
        · skip
          exact absurd c_5 (by decide)
        · skip
          refine lv_iconst (v := 0) hx hb dL_isRefused_83 (by decide) ?_
          refine lv_iload hx hb dL_isRefused_84 (lv_at hl 9 rfl) ?_
          refine lv_bipush (v := 30) hx hb dL_isRefused_86 (by decide) ?_
          refine lv_irem hx hb dL_isRefused_88 (by decide) ?_
          refine q_top (y := 0) (by decide) ?_
          refine lv_isub hx hb dL_isRefused_89 ?_
          refine q_top (y := 0) (by decide) ?_
          refine lv_goto (tgt := 102) hx hb dL_isRefused_90 (by decide) ?_
          refine lv_iconst (v := 0) hx hb dL_isRefused_102 (by decide) ?_
          refine lv_iconst (v := 0) hx hb dL_isRefused_103 (by decide) ?_
          refine lv_iconst (v := 0) hx hb dL_isRefused_104 (by decide) ?_
          refine g_hlW (rest := []) C hw (h_act_0A C.1.2.2.2.2 C.2.2.1 C.2.2.2.1 hw.2.2.2 (0) (0) (0) (0) (f_pass (by decide))) ck_L_act v_332 hl.1 rfl ⟨Nat.le_of_ble_eq_true rfl, Nat.le_of_ble_eq_true rfl⟩ (Nat.le_of_ble_eq_true rfl) dL_isRefused_105 ⟨by omega, by omega⟩ (fun v S H locs hpo hle hw => ?_)
          obtain ⟨rfl, hgr⟩ := hpo
          have hN : s.heap.size + (1) ≤ H.size := by omega
          refine W.widen (k := 1) (n := 6 * (1)) (by omega) (by omega) ?_
          refine lv_sipush (v := (-1202)) hx hb dL_isRefused_108 (by decide) ?_
          refine lv_icmp_ne (tgt := 515) hx hb dL_isRefused_111 (by decide) (fun c_6 => ?_) (fun c_6 => ?_)
          · skip
            exact absurd c_6 (by decide)
          · skip
            refine lv_aload_n hx hb dL_isRefused_114 rfl (lv_at hl 4 rfl) ?_
            refine lv_iconst (v := 1) hx hb dL_isRefused_115 (by decide) ?_
            refine lv_iload hx hb dL_isRefused_116 (lv_at hl 3 rfl) ?_
            refine lv_if_eq (tgt := 131) hx hb dL_isRefused_118 (by decide) (fun c_7 => ?_) (fun c_7 => ?_)
            · skip
              exact absurd c_7 (by decide)
            · skip
              refine lv_iconst (v := 0) hx hb dL_isRefused_121 (by decide) ?_
              refine lv_iload hx hb dL_isRefused_122 (lv_at hl 9 rfl) ?_
              refine lv_bipush (v := 30) hx hb dL_isRefused_124 (by decide) ?_
              refine lv_irem hx hb dL_isRefused_126 (by decide) ?_
              refine q_top (y := 0) (by decide) ?_
              refine lv_isub hx hb dL_isRefused_127 ?_
              refine q_top (y := 0) (by decide) ?_
              refine lv_goto (tgt := 133) hx hb dL_isRefused_128 (by decide) ?_
              refine lv_iconst (v := 5) hx hb dL_isRefused_133 (by decide) ?_
              refine lv_iconst (v := 5) hx hb dL_isRefused_134 (by decide) ?_
              refine lv_iconst (v := 5) hx hb dL_isRefused_135 (by decide) ?_
              refine g_hlW (rest := []) C hw (h_act_1A C.1.2.2.2.2 C.2.2.1 C.2.2.2.1 hw.2.2.2 (0) (5) (5) (5) (f_add1 (by decide))) ck_L_act v_332 hl.1 rfl ⟨Nat.le_of_ble_eq_true rfl, Nat.le_of_ble_eq_true rfl⟩ (Nat.le_of_ble_eq_true rfl) dL_isRefused_136 ⟨by omega, by omega⟩ (fun v S H locs hpo hle hw => ?_)
              obtain ⟨rfl, hgr⟩ := hpo
              have hN : s.heap.size + (2) ≤ H.size := by omega
              refine W.widen (k := 2) (n := 6 * (2)) (by omega) (by omega) ?_
              refine lv_sipush (v := (-1202)) hx hb dL_isRefused_139 (by decide) ?_
              refine lv_icmp_ne (tgt := 515) hx hb dL_isRefused_142 (by decide) (fun c_8 => ?_) (fun c_8 => ?_)
              · skip
                exact absurd c_8 (by decide)
              · skip
                refine lv_aload_n hx hb dL_isRefused_145 rfl (lv_at hl 4 rfl) ?_
                refine lv_iconst (v := 1) hx hb dL_isRefused_146 (by decide) ?_
                refine lv_iconst (v := 5) hx hb dL_isRefused_147 (by decide) ?_
                refine lv_iload hx hb dL_isRefused_148 (lv_at hl 3 rfl) ?_
                refine lv_if_eq (tgt := 163) hx hb dL_isRefused_150 (by decide) (fun c_9 => ?_) (fun c_9 => ?_)
                · skip
                  exact absurd c_9 (by decide)
                · skip
                  refine lv_iconst (v := (-1)) hx hb dL_isRefused_153 (by decide) ?_
                  refine lv_iload hx hb dL_isRefused_154 (lv_at hl 9 rfl) ?_
                  refine lv_bipush (v := 30) hx hb dL_isRefused_156 (by decide) ?_
                  refine lv_irem hx hb dL_isRefused_158 (by decide) ?_
                  refine q_top (y := 0) (by decide) ?_
                  refine lv_isub hx hb dL_isRefused_159 ?_
                  refine q_top (y := (-1)) (by decide) ?_
                  refine lv_goto (tgt := 166) hx hb dL_isRefused_160 (by decide) ?_
                  refine lv_iconst (v := 5) hx hb dL_isRefused_166 (by decide) ?_
                  refine lv_iconst (v := 5) hx hb dL_isRefused_167 (by decide) ?_
                  refine g_hlW (rest := []) C hw (h_act_1A C.1.2.2.2.2 C.2.2.1 C.2.2.2.1 hw.2.2.2 (5) ((-1)) (5) (5) (f_add2 (by decide) (by decide))) ck_L_act v_332 hl.1 rfl ⟨Nat.le_of_ble_eq_true rfl, Nat.le_of_ble_eq_true rfl⟩ (Nat.le_of_ble_eq_true rfl) dL_isRefused_168 ⟨by omega, by omega⟩ (fun v S H locs hpo hle hw => ?_)
                  obtain ⟨rfl, hgr⟩ := hpo
                  have hN : s.heap.size + (3) ≤ H.size := by omega
                  refine W.widen (k := 3) (n := 6 * (3)) (by omega) (by omega) ?_
                  refine lv_sipush (v := (-1202)) hx hb dL_isRefused_171 (by decide) ?_
                  refine lv_icmp_ne (tgt := 515) hx hb dL_isRefused_174 (by decide) (fun c_10 => ?_) (fun c_10 => ?_)
                  · skip
                    exact absurd c_10 (by decide)
                  · skip
                    refine lv_aload_n hx hb dL_isRefused_177 rfl (lv_at hl 4 rfl) ?_
                    refine lv_iconst (v := 1) hx hb dL_isRefused_178 (by decide) ?_
                    refine lv_iconst (v := 5) hx hb dL_isRefused_179 (by decide) ?_
                    refine lv_iconst (v := 5) hx hb dL_isRefused_180 (by decide) ?_
                    refine lv_iload hx hb dL_isRefused_181 (lv_at hl 3 rfl) ?_
                    refine lv_if_eq (tgt := 196) hx hb dL_isRefused_183 (by decide) (fun c_11 => ?_) (fun c_11 => ?_)
                    · skip
                      exact absurd c_11 (by decide)
                    · skip
                      refine lv_iconst (v := (-1)) hx hb dL_isRefused_186 (by decide) ?_
                      refine lv_iload hx hb dL_isRefused_187 (lv_at hl 9 rfl) ?_
                      refine lv_bipush (v := 30) hx hb dL_isRefused_189 (by decide) ?_
                      refine lv_irem hx hb dL_isRefused_191 (by decide) ?_
                      refine q_top (y := 0) (by decide) ?_
                      refine lv_isub hx hb dL_isRefused_192 ?_
                      refine q_top (y := (-1)) (by decide) ?_
                      refine lv_goto (tgt := 198) hx hb dL_isRefused_193 (by decide) ?_
                      refine lv_iconst (v := 5) hx hb dL_isRefused_198 (by decide) ?_
                      refine g_hlW (rest := []) C hw (h_act_1A C.1.2.2.2.2 C.2.2.1 C.2.2.2.1 hw.2.2.2 (5) (5) ((-1)) (5) (f_add3 (by decide) (by decide) (by decide))) ck_L_act v_332 hl.1 rfl ⟨Nat.le_of_ble_eq_true rfl, Nat.le_of_ble_eq_true rfl⟩ (Nat.le_of_ble_eq_true rfl) dL_isRefused_199 ⟨by omega, by omega⟩ (fun v S H locs hpo hle hw => ?_)
                      obtain ⟨rfl, hgr⟩ := hpo
                      have hN : s.heap.size + (4) ≤ H.size := by omega
                      refine W.widen (k := 4) (n := 6 * (4)) (by omega) (by omega) ?_
                      refine lv_sipush (v := (-1202)) hx hb dL_isRefused_202 (by decide) ?_
                      refine lv_icmp_ne (tgt := 515) hx hb dL_isRefused_205 (by decide) (fun c_12 => ?_) (fun c_12 => ?_)
                      · skip
                        exact absurd c_12 (by decide)
                      · skip
                        refine lv_aload_n hx hb dL_isRefused_208 rfl (lv_at hl 4 rfl) ?_
                        refine lv_iconst (v := 1) hx hb dL_isRefused_209 (by decide) ?_
                        refine lv_iconst (v := 5) hx hb dL_isRefused_210 (by decide) ?_
                        refine lv_iconst (v := 5) hx hb dL_isRefused_211 (by decide) ?_
                        refine lv_iconst (v := 5) hx hb dL_isRefused_212 (by decide) ?_
                        refine lv_iload hx hb dL_isRefused_213 (lv_at hl 3 rfl) ?_
                        refine lv_if_eq (tgt := 228) hx hb dL_isRefused_215 (by decide) (fun c_13 => ?_) (fun c_13 => ?_)
                        · skip
                          exact absurd c_13 (by decide)
                        · skip
                          refine lv_iconst (v := 0) hx hb dL_isRefused_218 (by decide) ?_
                          refine lv_iload hx hb dL_isRefused_219 (lv_at hl 9 rfl) ?_
                          refine lv_bipush (v := 30) hx hb dL_isRefused_221 (by decide) ?_
                          refine lv_irem hx hb dL_isRefused_223 (by decide) ?_
                          refine q_top (y := 0) (by decide) ?_
                          refine lv_isub hx hb dL_isRefused_224 ?_
                          refine q_top (y := 0) (by decide) ?_
                          refine lv_goto (tgt := 230) hx hb dL_isRefused_225 (by decide) ?_
                          refine g_hlW (rest := []) C hw (h_act_1A C.1.2.2.2.2 C.2.2.1 C.2.2.2.1 hw.2.2.2 (5) (5) (5) (0) (f_add4 (by decide) (by decide) (by decide) (by decide))) ck_L_act v_332 hl.1 rfl ⟨Nat.le_of_ble_eq_true rfl, Nat.le_of_ble_eq_true rfl⟩ (Nat.le_of_ble_eq_true rfl) dL_isRefused_230 ⟨by omega, by omega⟩ (fun v S H locs hpo hle hw => ?_)
                          obtain ⟨rfl, hgr⟩ := hpo
                          have hN : s.heap.size + (5) ≤ H.size := by omega
                          refine W.widen (k := 5) (n := 6 * (5)) (by omega) (by omega) ?_
                          refine lv_sipush (v := (-1202)) hx hb dL_isRefused_233 (by decide) ?_
                          refine lv_icmp_ne (tgt := 515) hx hb dL_isRefused_236 (by decide) (fun c_14 => ?_) (fun c_14 => ?_)
                          · skip
                            exact absurd c_14 (by decide)
                          · skip
                            refine lv_aload_n hx hb dL_isRefused_239 rfl (lv_at hl 4 rfl) ?_
                            refine lv_iconst (v := 2) hx hb dL_isRefused_240 (by decide) ?_
                            refine lv_iload hx hb dL_isRefused_241 (lv_at hl 1 rfl) ?_
                            refine lv_iload hx hb dL_isRefused_243 (lv_at hl 1 rfl) ?_
                            refine lv_iconst (v := 0) hx hb dL_isRefused_245 (by decide) ?_
                            refine lv_iconst (v := 0) hx hb dL_isRefused_246 (by decide) ?_
                            refine g_hlW (rest := []) C hw (h_act_2I C.1.2.2.2.2 C.2.2.1 C.2.2.2.1 hw.2.2.2 ((-1)) ((-1)) (0) (0) (f_need_a (noM))) ck_L_act v_332 hl.1 rfl ⟨Nat.le_of_ble_eq_true rfl, Nat.le_of_ble_eq_true rfl⟩ (Nat.le_of_ble_eq_true rfl) dL_isRefused_247 ⟨by omega, by omega⟩ (fun v S H locs hpo hle hw => ?_)
                            obtain ⟨rfl, hgr⟩ := hpo
                            have hN : s.heap.size + (6) ≤ H.size := by omega
                            refine W.widen (k := 6) (n := 6 * (6)) (by omega) (by omega) ?_
                            refine lv_sipush (v := (-1201)) hx hb dL_isRefused_250 (by decide) ?_
                            refine lv_icmp_ne (tgt := 515) hx hb dL_isRefused_253 (by decide) (fun c_15 => ?_) (fun c_15 => ?_)
                            · skip
                              exact absurd c_15 (by decide)
                            · skip
                              refine lv_aload_n hx hb dL_isRefused_256 rfl (lv_at hl 4 rfl) ?_
                              refine lv_iconst (v := 5) hx hb dL_isRefused_257 (by decide) ?_
                              refine lv_iload hx hb dL_isRefused_258 (lv_at hl 2 rfl) ?_
                              refine lv_iload hx hb dL_isRefused_260 (lv_at hl 1 rfl) ?_
                              refine lv_iconst (v := (-1)) hx hb dL_isRefused_262 (by decide) ?_
                              refine lv_iconst (v := 0) hx hb dL_isRefused_263 (by decide) ?_
                              refine g_hlW (rest := []) C hw (h_act_5I C.1.2.2.2.2 C.2.2.1 C.2.2.2.1 hw.2.2.2 ((-1)) ((-1)) ((-1)) (0) (f_ans_a (noM))) ck_L_act v_332 hl.1 rfl ⟨Nat.le_of_ble_eq_true rfl, Nat.le_of_ble_eq_true rfl⟩ (Nat.le_of_ble_eq_true rfl) dL_isRefused_264 ⟨by omega, by omega⟩ (fun v S H locs hpo hle hw => ?_)
                              obtain ⟨rfl, hgr⟩ := hpo
                              have hN : s.heap.size + (7) ≤ H.size := by omega
                              refine W.widen (k := 7) (n := 6 * (7)) (by omega) (by omega) ?_
                              refine lv_sipush (v := (-1201)) hx hb dL_isRefused_267 (by decide) ?_
                              refine lv_icmp_ne (tgt := 515) hx hb dL_isRefused_270 (by decide) (fun c_16 => ?_) (fun c_16 => ?_)
                              · skip
                                exact absurd c_16 (by decide)
                              · skip
                                refine lv_aload_n hx hb dL_isRefused_273 rfl (lv_at hl 4 rfl) ?_
                                refine lv_bipush (v := 6) hx hb dL_isRefused_274 (by decide) ?_
                                refine lv_iload hx hb dL_isRefused_276 (lv_at hl 2 rfl) ?_
                                refine lv_iload hx hb dL_isRefused_278 (lv_at hl 1 rfl) ?_
                                refine lv_iconst (v := 0) hx hb dL_isRefused_280 (by decide) ?_
                                refine lv_iconst (v := 0) hx hb dL_isRefused_281 (by decide) ?_
                                refine g_hlW (rest := []) C hw (h_act_6I C.1.2.2.2.2 C.2.2.1 C.2.2.2.1 hw.2.2.2 ((-1)) ((-1)) (0) (0) (f_hint_a (noM))) ck_L_act v_332 hl.1 rfl ⟨Nat.le_of_ble_eq_true rfl, Nat.le_of_ble_eq_true rfl⟩ (Nat.le_of_ble_eq_true rfl) dL_isRefused_282 ⟨by omega, by omega⟩ (fun v S H locs hpo hle hw => ?_)
                                obtain ⟨rfl, hgr⟩ := hpo
                                have hN : s.heap.size + (8) ≤ H.size := by omega
                                refine W.widen (k := 8) (n := 6 * (8)) (by omega) (by omega) ?_
                                refine lv_sipush (v := (-1201)) hx hb dL_isRefused_285 (by decide) ?_
                                refine lv_icmp_ne (tgt := 515) hx hb dL_isRefused_288 (by decide) (fun c_17 => ?_) (fun c_17 => ?_)
                                · skip
                                  exact absurd c_17 (by decide)
                                · skip
                                  refine lv_aload_n hx hb dL_isRefused_291 rfl (lv_at hl 4 rfl) ?_
                                  refine lv_bipush (v := 7) hx hb dL_isRefused_292 (by decide) ?_
                                  refine lv_iload hx hb dL_isRefused_294 (lv_at hl 2 rfl) ?_
                                  refine lv_iload hx hb dL_isRefused_296 (lv_at hl 1 rfl) ?_
                                  refine lv_iconst (v := 0) hx hb dL_isRefused_298 (by decide) ?_
                                  refine lv_iconst (v := 0) hx hb dL_isRefused_299 (by decide) ?_
                                  refine g_hlW (rest := []) C hw (h_act_7I C.1.2.2.2.2 C.2.2.1 C.2.2.2.1 hw.2.2.2 ((-1)) ((-1)) (0) (0) (f_clear_a (noM))) ck_L_act v_332 hl.1 rfl ⟨Nat.le_of_ble_eq_true rfl, Nat.le_of_ble_eq_true rfl⟩ (Nat.le_of_ble_eq_true rfl) dL_isRefused_300 ⟨by omega, by omega⟩ (fun v S H locs hpo hle hw => ?_)
                                  obtain ⟨rfl, hgr⟩ := hpo
                                  have hN : s.heap.size + (9) ≤ H.size := by omega
                                  refine W.widen (k := 9) (n := 6 * (9)) (by omega) (by omega) ?_
                                  refine lv_sipush (v := (-1201)) hx hb dL_isRefused_303 (by decide) ?_
                                  refine lv_icmp_ne (tgt := 515) hx hb dL_isRefused_306 (by decide) (fun c_18 => ?_) (fun c_18 => ?_)
                                  · skip
                                    exact absurd c_18 (by decide)
                                  · skip
                                    refine lv_aload_n hx hb dL_isRefused_309 rfl (lv_at hl 4 rfl) ?_
                                    refine lv_bipush (v := 8) hx hb dL_isRefused_310 (by decide) ?_
                                    refine lv_iload hx hb dL_isRefused_312 (lv_at hl 2 rfl) ?_
                                    refine lv_iload hx hb dL_isRefused_314 (lv_at hl 2 rfl) ?_
                                    refine lv_iconst (v := 0) hx hb dL_isRefused_316 (by decide) ?_
                                    refine lv_iconst (v := 0) hx hb dL_isRefused_317 (by decide) ?_
                                    refine g_hlW (rest := []) C hw (h_act_8I C.1.2.2.2.2 C.2.2.1 C.2.2.2.1 hw.2.2.2 ((-1)) ((-1)) (0) (0) (f_pard_a (noM))) ck_L_act v_332 hl.1 rfl ⟨Nat.le_of_ble_eq_true rfl, Nat.le_of_ble_eq_true rfl⟩ (Nat.le_of_ble_eq_true rfl) dL_isRefused_318 ⟨by omega, by omega⟩ (fun v S H locs hpo hle hw => ?_)
                                    obtain ⟨rfl, hgr⟩ := hpo
                                    have hN : s.heap.size + (10) ≤ H.size := by omega
                                    refine W.widen (k := 10) (n := 6 * (10)) (by omega) (by omega) ?_
                                    refine lv_sipush (v := (-1201)) hx hb dL_isRefused_321 (by decide) ?_
                                    refine lv_icmp_ne (tgt := 515) hx hb dL_isRefused_324 (by decide) (fun c_19 => ?_) (fun c_19 => ?_)
                                    · skip
                                      exact absurd c_19 (by decide)
                                    · skip
                                      refine lv_aload_n hx hb dL_isRefused_327 rfl (lv_at hl 4 rfl) ?_
                                      refine lv_bipush (v := 9) hx hb dL_isRefused_328 (by decide) ?_
                                      refine lv_iload hx hb dL_isRefused_330 (lv_at hl 3 rfl) ?_
                                      refine lv_if_eq (tgt := 345) hx hb dL_isRefused_332 (by decide) (fun c_20 => ?_) (fun c_20 => ?_)
                                      · skip
                                        exact absurd c_20 (by decide)
                                      · skip
                                        refine lv_iconst (v := 0) hx hb dL_isRefused_335 (by decide) ?_
                                        refine lv_iload hx hb dL_isRefused_336 (lv_at hl 9 rfl) ?_
                                        refine lv_bipush (v := 30) hx hb dL_isRefused_338 (by decide) ?_
                                        refine lv_irem hx hb dL_isRefused_340 (by decide) ?_
                                        refine q_top (y := 0) (by decide) ?_
                                        refine lv_isub hx hb dL_isRefused_341 ?_
                                        refine q_top (y := 0) (by decide) ?_
                                        refine lv_goto (tgt := 347) hx hb dL_isRefused_342 (by decide) ?_
                                        refine lv_iconst (v := 0) hx hb dL_isRefused_347 (by decide) ?_
                                        refine lv_iconst (v := 0) hx hb dL_isRefused_348 (by decide) ?_
                                        refine lv_iconst (v := 0) hx hb dL_isRefused_349 (by decide) ?_
                                        refine g_hlW (rest := []) C hw (h_act_9A C.1.2.2.2.2 C.2.2.1 C.2.2.2.1 hw.2.2.2 (0) (0) (0) (0) (f_bound (by decide))) ck_L_act v_332 hl.1 rfl ⟨Nat.le_of_ble_eq_true rfl, Nat.le_of_ble_eq_true rfl⟩ (Nat.le_of_ble_eq_true rfl) dL_isRefused_350 ⟨by omega, by omega⟩ (fun v S H locs hpo hle hw => ?_)
                                        obtain ⟨rfl, hgr⟩ := hpo
                                        have hN : s.heap.size + (11) ≤ H.size := by omega
                                        refine W.widen (k := 11) (n := 6 * (11)) (by omega) (by omega) ?_
                                        refine lv_sipush (v := (-1202)) hx hb dL_isRefused_353 (by decide) ?_
                                        refine lv_icmp_ne (tgt := 515) hx hb dL_isRefused_356 (by decide) (fun c_21 => ?_) (fun c_21 => ?_)
                                        · skip
                                          exact absurd c_21 (by decide)
                                        · skip
                                          refine lv_aload_n hx hb dL_isRefused_359 rfl (lv_at hl 4 rfl) ?_
                                          refine lv_bipush (v := 10) hx hb dL_isRefused_360 (by decide) ?_
                                          refine lv_iload hx hb dL_isRefused_362 (lv_at hl 3 rfl) ?_
                                          refine lv_if_eq (tgt := 377) hx hb dL_isRefused_364 (by decide) (fun c_22 => ?_) (fun c_22 => ?_)
                                          · skip
                                            exact absurd c_22 (by decide)
                                          · skip
                                            refine lv_iconst (v := 0) hx hb dL_isRefused_367 (by decide) ?_
                                            refine lv_iload hx hb dL_isRefused_368 (lv_at hl 9 rfl) ?_
                                            refine lv_bipush (v := 30) hx hb dL_isRefused_370 (by decide) ?_
                                            refine lv_irem hx hb dL_isRefused_372 (by decide) ?_
                                            refine q_top (y := 0) (by decide) ?_
                                            refine lv_isub hx hb dL_isRefused_373 ?_
                                            refine q_top (y := 0) (by decide) ?_
                                            refine lv_goto (tgt := 379) hx hb dL_isRefused_374 (by decide) ?_
                                            refine lv_iconst (v := 5) hx hb dL_isRefused_379 (by decide) ?_
                                            refine lv_iconst (v := 0) hx hb dL_isRefused_380 (by decide) ?_
                                            refine lv_iconst (v := 0) hx hb dL_isRefused_381 (by decide) ?_
                                            refine g_hlW (rest := []) C hw (h_act_10A C.1.2.2.2.2 C.2.2.1 C.2.2.2.1 hw.2.2.2 (0) (5) (0) (0) (f_setp1 (by decide))) ck_L_act v_332 hl.1 rfl ⟨Nat.le_of_ble_eq_true rfl, Nat.le_of_ble_eq_true rfl⟩ (Nat.le_of_ble_eq_true rfl) dL_isRefused_382 ⟨by omega, by omega⟩ (fun v S H locs hpo hle hw => ?_)
                                            obtain ⟨rfl, hgr⟩ := hpo
                                            have hN : s.heap.size + (12) ≤ H.size := by omega
                                            refine W.widen (k := 12) (n := 6 * (12)) (by omega) (by omega) ?_
                                            refine lv_sipush (v := (-1202)) hx hb dL_isRefused_385 (by decide) ?_
                                            refine lv_icmp_ne (tgt := 515) hx hb dL_isRefused_388 (by decide) (fun c_23 => ?_) (fun c_23 => ?_)
                                            · skip
                                              exact absurd c_23 (by decide)
                                            · skip
                                              refine lv_aload_n hx hb dL_isRefused_391 rfl (lv_at hl 4 rfl) ?_
                                              refine lv_bipush (v := 10) hx hb dL_isRefused_392 (by decide) ?_
                                              refine lv_iconst (v := 1) hx hb dL_isRefused_394 (by decide) ?_
                                              refine lv_iload hx hb dL_isRefused_395 (lv_at hl 9 rfl) ?_
                                              refine lv_bipush (v := 8) hx hb dL_isRefused_397 (by decide) ?_
                                              refine lv_irem hx hb dL_isRefused_399 (by decide) ?_
                                              refine q_top (y := 0) (by decide) ?_
                                              refine lv_iadd hx hb dL_isRefused_400 ?_
                                              refine q_top (y := 1) (by decide) ?_
                                              refine lv_iload hx hb dL_isRefused_401 (lv_at hl 3 rfl) ?_
                                              refine lv_if_eq (tgt := 416) hx hb dL_isRefused_403 (by decide) (fun c_24 => ?_) (fun c_24 => ?_)
                                              · skip
                                                exact absurd c_24 (by decide)
                                              · skip
                                                refine lv_iconst (v := (-1)) hx hb dL_isRefused_406 (by decide) ?_
                                                refine lv_iload hx hb dL_isRefused_407 (lv_at hl 9 rfl) ?_
                                                refine lv_bipush (v := 30) hx hb dL_isRefused_409 (by decide) ?_
                                                refine lv_irem hx hb dL_isRefused_411 (by decide) ?_
                                                refine q_top (y := 0) (by decide) ?_
                                                refine lv_isub hx hb dL_isRefused_412 ?_
                                                refine q_top (y := (-1)) (by decide) ?_
                                                refine lv_goto (tgt := 419) hx hb dL_isRefused_413 (by decide) ?_
                                                refine lv_iconst (v := 0) hx hb dL_isRefused_419 (by decide) ?_
                                                refine lv_iconst (v := 0) hx hb dL_isRefused_420 (by decide) ?_
                                                refine g_hlW (rest := []) C hw (h_act_10A C.1.2.2.2.2 C.2.2.1 C.2.2.2.1 hw.2.2.2 (1) ((-1)) (0) (0) (f_setp2 (by decide) (by decide))) ck_L_act v_332 hl.1 rfl ⟨Nat.le_of_ble_eq_true rfl, Nat.le_of_ble_eq_true rfl⟩ (Nat.le_of_ble_eq_true rfl) dL_isRefused_421 ⟨by omega, by omega⟩ (fun v S H locs hpo hle hw => ?_)
                                                obtain ⟨rfl, hgr⟩ := hpo
                                                have hN : s.heap.size + (13) ≤ H.size := by omega
                                                refine W.widen (k := 13) (n := 6 * (13)) (by omega) (by omega) ?_
                                                refine lv_sipush (v := (-1202)) hx hb dL_isRefused_424 (by decide) ?_
                                                refine lv_icmp_ne (tgt := 515) hx hb dL_isRefused_427 (by decide) (fun c_25 => ?_) (fun c_25 => ?_)
                                                · skip
                                                  exact absurd c_25 (by decide)
                                                · skip
                                                  refine lv_aload_n hx hb dL_isRefused_430 rfl (lv_at hl 4 rfl) ?_
                                                  refine lv_iconst (v := 3) hx hb dL_isRefused_431 (by decide) ?_
                                                  refine lv_iload hx hb dL_isRefused_432 (lv_at hl 1 rfl) ?_
                                                  refine lv_iconst (v := 0) hx hb dL_isRefused_434 (by decide) ?_
                                                  refine g_hlW (rest := []) C hw (h_of_3I C.1.2.2.2.2 C.2.2.1 C.2.2.2.1 hw.2.2.2 ((-1)) (0) (f_free (noM))) ck_L_of v_516 hl.1 rfl ⟨Nat.le_of_ble_eq_true rfl, Nat.le_of_ble_eq_true rfl⟩ (Nat.le_of_ble_eq_true rfl) dL_isRefused_435 ⟨by omega, by omega⟩ (fun v S H locs hpo hle hw => ?_)
                                                  obtain ⟨rfl, hgr⟩ := hpo
                                                  have hN : s.heap.size + (14) ≤ H.size := by omega
                                                  refine W.widen (k := 14) (n := 6 * (14)) (by omega) (by omega) ?_
                                                  refine lv_sipush (v := (-1201)) hx hb dL_isRefused_438 (by decide) ?_
                                                  refine lv_icmp_ne (tgt := 515) hx hb dL_isRefused_441 (by decide) (fun c_26 => ?_) (fun c_26 => ?_)
                                                  · skip
                                                    exact absurd c_26 (by decide)
                                                  · skip
                                                    refine lv_aload_n hx hb dL_isRefused_444 rfl (lv_at hl 4 rfl) ?_
                                                    refine lv_bipush (v := 8) hx hb dL_isRefused_445 (by decide) ?_
                                                    refine lv_iload hx hb dL_isRefused_447 (lv_at hl 1 rfl) ?_
                                                    refine lv_iconst (v := 0) hx hb dL_isRefused_449 (by decide) ?_
                                                    refine g_hlW (rest := []) C hw (h_of_8I C.1.2.2.2.2 C.2.2.1 C.2.2.2.1 hw.2.2.2 ((-1)) (0) (f_hang (noM))) ck_L_of v_516 hl.1 rfl ⟨Nat.le_of_ble_eq_true rfl, Nat.le_of_ble_eq_true rfl⟩ (Nat.le_of_ble_eq_true rfl) dL_isRefused_450 ⟨by omega, by omega⟩ (fun v S H locs hpo hle hw => ?_)
                                                    obtain ⟨rfl, hgr⟩ := hpo
                                                    have hN : s.heap.size + (15) ≤ H.size := by omega
                                                    refine W.widen (k := 15) (n := 6 * (15)) (by omega) (by omega) ?_
                                                    refine lv_sipush (v := (-1201)) hx hb dL_isRefused_453 (by decide) ?_
                                                    refine lv_icmp_ne (tgt := 515) hx hb dL_isRefused_456 (by decide) (fun c_27 => ?_) (fun c_27 => ?_)
                                                    · skip
                                                      exact absurd c_27 (by decide)
                                                    · skip
                                                      refine lv_aload hx hb dL_isRefused_459 (lv_at hl 8 rfl) ?_
                                                      refine lv_iconst (v := 4) hx hb dL_isRefused_461 (by decide) ?_
                                                      refine g_ld (n := 5) (i := 4) C hw 5 rfl (by omega) (Nat.le_of_ble_eq_true rfl) dL_isRefused_462 ?_
                                                      refine q_top (y := 0) (f54) ?_
                                                      refine lv_if_eq (tgt := 511) hx hb dL_isRefused_463 (by decide) (fun c_28 => ?_) (fun c_28 => ?_)
                                                      · skip
                                                        refine lv_iconst (v := 1) hx hb dL_isRefused_511 (by decide) ?_
                                                        refine lv_goto (tgt := 516) hx hb dL_isRefused_512 (by decide) ?_
                                                        refine lv_istore (lv' := [(11, .int 1), (9, .long z4), (8, .int (-1)), (7, .int (-1)), (6, .int 1), (0, .ref (ad 0)), (1, .ref (aa 0)), (2, .ref (aa 2)), (3, .ref (aa 3)), (4, .ref (aa 5)), (5, .int 0)]) hx hb dL_isRefused_516 hl (by decide) rfl (fun ls hl => ?_)
                                                        refine lv_bipush (v := 9) hx hb dL_isRefused_518 (by decide) ?_
                                                        refine lv_istore (lv' := [(12, .int 9), (11, .int 1), (9, .long z4), (8, .int (-1)), (7, .int (-1)), (6, .int 1), (0, .ref (ad 0)), (1, .ref (aa 0)), (2, .ref (aa 2)), (3, .ref (aa 3)), (4, .ref (aa 5)), (5, .int 0)]) hx hb dL_isRefused_520 hl (by decide) rfl (fun ls hl => ?_)
                                                        have hj_562_30 : ∀ (S : Mem) (H : Heap) (locs : List Loc), GW D cI (aC ad cI) ad aa fa 0 0 s S H locs → s.heap.size + (19) ≤ H.size → ∀ ls : Array Slot, lv_has ls 15 [(11, .int 1), (9, .long z4), (8, .int (-1)), (7, .int (-1)), (6, .int 1), (0, .ref (ad 0)), (1, .ref (aa 0)), (2, .ref (aa 2)), (3, .ref (aa 3)), (4, .ref (aa 5)), (5, .int 0)] → W p l e (rg 10 150) s m args below meth c H locs (28) (6 * (28)) (MQ below (QG D cI ad 0 0 (pR)) args s 150 (6 * 150) (aC ad cI)) (F0 m 562 ls []) := by
                                                          intro S H locs hw hN ls hl
                                                          refine lv_iconst (v := 0) hx hb dL_isRefused_562 (by decide) ?_
                                                          refine lv_istore (lv' := [(12, .int 0), (11, .int 1), (9, .long z4), (8, .int (-1)), (7, .int (-1)), (6, .int 1), (0, .ref (ad 0)), (1, .ref (aa 0)), (2, .ref (aa 2)), (3, .ref (aa 3)), (4, .ref (aa 5)), (5, .int 0)]) hx hb dL_isRefused_563 hl (by decide) rfl (fun ls hl => ?_)
                                                          refine lv_iload hx hb dL_isRefused_565 (lv_at hl 0 rfl) ?_
                                                          refine lv_aload hx hb dL_isRefused_567 (lv_at hl 10 rfl) ?_
                                                          refine lv_iconst (v := 1) hx hb dL_isRefused_569 (by decide) ?_
                                                          refine g_ld (n := 5) (i := 1) C hw 5 rfl (by omega) (Nat.le_of_ble_eq_true rfl) dL_isRefused_570 ?_
                                                          refine q_top (y := 0) (f51) ?_
                                                          refine lv_icmp_ge (tgt := 943) hx hb dL_isRefused_571 (by decide) (fun c_31 => ?_) (fun c_31 => ?_)
                                                          · skip
                                                            refine lv_iconst (v := 0) hx hb dL_isRefused_943 (by decide) ?_
                                                            refine lv_istore (lv' := [(12, .int 0), (11, .int 1), (9, .long z4), (8, .int (-1)), (7, .int (-1)), (6, .int 1), (0, .ref (ad 0)), (1, .ref (aa 0)), (2, .ref (aa 2)), (3, .ref (aa 3)), (4, .ref (aa 5)), (5, .int 0)]) hx hb dL_isRefused_944 hl (by decide) rfl (fun ls hl => ?_)
                                                            refine lv_iload hx hb dL_isRefused_946 (lv_at hl 0 rfl) ?_
                                                            refine lv_aload hx hb dL_isRefused_948 (lv_at hl 10 rfl) ?_
                                                            refine lv_iconst (v := 0) hx hb dL_isRefused_950 (by decide) ?_
                                                            refine g_ld (n := 5) (i := 0) C hw 5 rfl (by omega) (Nat.le_of_ble_eq_true rfl) dL_isRefused_951 ?_
                                                            refine q_top (y := 0) (f50) ?_
                                                            refine lv_icmp_ge (tgt := 1119) hx hb dL_isRefused_952 (by decide) (fun c_32 => ?_) (fun c_32 => ?_)
                                                            · skip
                                                              refine lv_iload hx hb dL_isRefused_1119 (lv_at hl 1 rfl) ?_
                                                              refine lv_if_eq (tgt := 1140) hx hb dL_isRefused_1121 (by decide) (fun c_33 => ?_) (fun c_33 => ?_)
                                                              · skip
                                                                exact absurd c_33 (by decide)
                                                              · skip
                                                                refine lv_aload_n hx hb dL_isRefused_1124 rfl (lv_at hl 6 rfl) ?_
                                                                refine lv_aload hx hb dL_isRefused_1125 (lv_at hl 10 rfl) ?_
                                                                refine g_hl (rest := []) C hw (t_all C.1.2.2.2.2 C.2.2.1 C.2.2.2.1 ⟨⟨hm0, hm1⟩, ⟨f50, f51, f52, f54⟩, fh, ff, fr⟩ hw.2.2.2) ck_L_all v_693 hl.1 rfl ⟨Nat.le_of_ble_eq_true rfl, Nat.le_of_ble_eq_true rfl⟩ (Nat.le_of_ble_eq_true rfl) dL_isRefused_1127 ⟨by omega, by omega⟩ (fun v S H locs hpo hle hw => ?_)
                                                                obtain ⟨z34, rfl⟩ := hpo
                                                                have hN : s.heap.size + (19) ≤ H.size := by omega
                                                                refine W.widen (k := 28) (n := 6 * (28)) (by omega) (by omega) ?_
                                                                refine lv_lload hx hb dL_isRefused_1130 (lv_at hl 2 rfl) ?_
                                                                refine W.lcmp hx hb dL_isRefused_1132 ?_
                                                                refine g_any (fun z35 => ?_)
                                                                refine lv_if_ne (tgt := 1140) hx hb dL_isRefused_1133 (by decide) (fun c_36 => ?_) (fun c_36 => ?_)
                                                                · skip
                                                                  refine lv_iconst (v := 0) hx hb dL_isRefused_1140 (by decide) ?_
                                                                  exact g_ret (mc := 150) hx hb hr hlk hw (by decide) (⟨⟨false, rfl⟩, by omega⟩) ⟨by omega, by omega⟩ dL_isRefused_1141
                                                                · skip
                                                                  refine lv_iconst (v := 1) hx hb dL_isRefused_1136 (by decide) ?_
                                                                  refine lv_goto (tgt := 1141) hx hb dL_isRefused_1137 (by decide) ?_
                                                                  exact g_ret (mc := 150) hx hb hr hlk hw (by decide) (⟨⟨true, rfl⟩, by omega⟩) ⟨by omega, by omega⟩ dL_isRefused_1141
                                                            · skip
                                                              exact absurd c_32 (by decide)
                                                          · skip
                                                            exact absurd c_31 (by decide)
                                                        have hloop_522_37 : ∀ (n i29 : Nat), i29 ≤ 13 → 13 < i29 + n → 9 ≤ i29 → ∀ (S : Mem) (H : Heap) (locs : List Loc), GW D cI (aC ad cI) ad aa fa 0 0 s S H locs → s.heap.size + (1 * i29 + 6) ≤ H.size → ∀ ls : Array Slot, lv_has ls 15 [(12, .int (nI i29)), (11, .int 1), (9, .long z4), (8, .int (-1)), (7, .int (-1)), (6, .int 1), (0, .ref (ad 0)), (1, .ref (aa 0)), (2, .ref (aa 2)), (3, .ref (aa 3)), (4, .ref (aa 5)), (5, .int 0)] → W p l e (rg 10 150) s m args below meth c H locs (1 * i29 + 15) (6 * (1 * i29 + 15)) (MQ below (QG D cI ad 0 0 (pR)) args s 150 (6 * 150) (aC ad cI)) (F0 m 522 ls []) := by
                                                          intro n
                                                          induction n with
                                                          | zero => intro i29 h1 h2; exact absurd h2 (by omega)
                                                          | succ n ih_522 =>
                                                            intro i29 hi_522 hn_522 hs_522 S H locs hw hN ls hl
                                                            refine lv_iload hx hb dL_isRefused_522 (lv_at hl 0 rfl) ?_
                                                            refine lv_bipush (v := 13) hx hb dL_isRefused_524 (by decide) ?_
                                                            refine lv_icmp_ge (tgt := 562) hx hb dL_isRefused_526 (by decide) (fun c_38 => ?_) (fun c_38 => ?_)
                                                            · skip
                                                              have c_38 : 13 ≤ i29 := n_le (a := 13) (b := i29) (by omega) (by omega) c_38
                                                              refine W.widen (k := 28) (n := 6 * (28)) (by omega) (by omega) ?_
                                                              exact hj_562_30 S H locs hw (by omega)  ls (lv_sub hl [1, 2, 3, 4, 5, 6, 7, 8, 9, 10, 11] rfl)
                                                            · skip
                                                              have c_38 : i29 < 13 := n_nle (a := 13) (b := i29) (by omega) (by omega) c_38
                                                              refine lv_iload hx hb dL_isRefused_529 (lv_at hl 1 rfl) ?_
                                                              refine lv_if_eq (tgt := 562) hx hb dL_isRefused_531 (by decide) (fun c_39 => ?_) (fun c_39 => ?_)
                                                              · skip
                                                                exact absurd c_39 (by decide)
                                                              · skip
                                                                refine lv_aload_n hx hb dL_isRefused_534 rfl (lv_at hl 6 rfl) ?_
                                                                refine lv_iload hx hb dL_isRefused_535 (lv_at hl 0 rfl) ?_
                                                                refine lv_iload hx hb dL_isRefused_537 (lv_at hl 4 rfl) ?_
                                                                refine lv_iconst (v := 0) hx hb dL_isRefused_539 (by decide) ?_
                                                                refine g_hlW (rest := []) C hw (of_bad C.1.2.2.2.2 C.2.2.1 C.2.2.2.1 hw.2.2.2 (w := i29) ⟨by omega, by omega⟩ ((-1)) (0) (noM)) ck_L_of v_516 hl.1 rfl ⟨Nat.le_of_ble_eq_true rfl, Nat.le_of_ble_eq_true rfl⟩ (Nat.le_of_ble_eq_true rfl) dL_isRefused_540 ⟨by omega, by omega⟩ (fun v S H locs hpo hle hw => ?_)
                                                                obtain ⟨rfl, hgr⟩ := hpo
                                                                have hN : s.heap.size + (1 * i29 + 7) ≤ H.size := by omega
                                                                refine W.widen (k := 1 * i29 + 16) (n := 6 * (1 * i29 + 16)) (by omega) (by omega) ?_
                                                                refine lv_sipush (v := (-1201)) hx hb dL_isRefused_543 (by decide) ?_
                                                                refine lv_icmp_ne (tgt := 553) hx hb dL_isRefused_546 (by decide) (fun c_40 => ?_) (fun c_40 => ?_)
                                                                · skip
                                                                  exact absurd c_40 (by decide)
                                                                · skip
                                                                  refine lv_iconst (v := 1) hx hb dL_isRefused_549 (by decide) ?_
                                                                  refine lv_goto (tgt := 554) hx hb dL_isRefused_550 (by decide) ?_
                                                                  refine lv_istore (lv' := [(11, .int 1), (12, .int (nI i29)), (9, .long z4), (8, .int (-1)), (7, .int (-1)), (6, .int 1), (0, .ref (ad 0)), (1, .ref (aa 0)), (2, .ref (aa 2)), (3, .ref (aa 3)), (4, .ref (aa 5)), (5, .int 0)]) hx hb dL_isRefused_554 hl (by decide) rfl (fun ls hl => ?_)
                                                                  refine lv_iinc (v := nI (i29 + 1)) (lv' := [(12, .int (nI (i29 + 1))), (11, .int 1), (9, .long z4), (8, .int (-1)), (7, .int (-1)), (6, .int 1), (0, .ref (ad 0)), (1, .ref (aa 0)), (2, .ref (aa 2)), (3, .ref (aa 3)), (4, .ref (aa 5)), (5, .int 0)]) hx hb dL_isRefused_556 hl (k := 1) rfl (nI_1 i29) (by decide) rfl (fun ls hl => ?_)
                                                                  refine lv_goto (tgt := 522) hx hb dL_isRefused_559 (by decide) ?_
                                                                  refine W.widen (k := 1 * (i29 + 1) + 15) (n := 6 * (1 * (i29 + 1) + 15)) (by omega) (by omega) ?_
                                                                  exact ih_522 (i29 + 1) (by omega) (by omega) (by omega) S H locs hw (by omega)  ls (lv_sub hl [0, 1, 2, 3, 4, 5, 6, 7, 8, 9, 10, 11] rfl)
                                                        refine W.widen (k := 1 * (9) + 15) (n := 6 * (1 * (9) + 15)) (by omega) (by omega) ?_
                                                        exact hloop_522_37 (13 + 1) (9) (by omega) (by omega) (by omega) S H locs hw (by omega)  ls (lv_sub hl [0, 1, 2, 3, 4, 5, 6, 7, 8, 9, 10, 11] rfl)
                                                      · skip
                                                        exact absurd c_28 (by decide)

set_option maxHeartbeats 8000000 in
set_option maxRecDepth 100000 in
theorem t_isRefused1 {l : Launch} (hfl : l.flags = flags0) {D : va_G} {cI cZ cL : ClassId} {ad aa : Nat → Nat} {fa S : Mem} {m0 m1 : Nat} (hD : va_D (aC ad cI) (wC ad cI mem0)) (hA : ∀ q, aW (wA aa cI mem0) q → ¬ aC ad cI q) (hfa : FA fa m0 m1) (hJ : JS S m0 m1) :
    GM l D cI cZ cL ad aa fa S yL_isRefused [Cond.code yL_isRefused cL_isRefused 15 (some .boolean)] 10 150 [.ref (ad 0), .ref (aa 0), .ref (aa 2), .ref (aa 3), .ref (aa 5), .int 1] m0 m1 (pR) := by
  refine GM.of (by decide) (Nat.le_of_ble_eq_true rfl) hfl hD hA hJ ?_
  intro p e s m args below meth c ls hx hb hr hlk hown C hw hl
  obtain ⟨⟨hm0, hm1⟩, ⟨f50, f51, f52, f54⟩, fh, ff, fr⟩ := hfa
  have hl : lv_has ls 15 [(0, .ref (ad 0)), (1, .ref (aa 0)), (2, .ref (aa 2)), (3, .ref (aa 3)), (4, .ref (aa 5)), (5, .int 1)] := hl
  have hN : s.heap.size + 0 ≤ s.heap.size := Nat.le_refl _
  refine lv_iload hx hb dL_isRefused_0 (lv_at hl 5 rfl) ?_
  refine lv_iconst (v := 2) hx hb dL_isRefused_2 (by decide) ?_
  refine lv_irem hx hb dL_isRefused_3 (by decide) ?_
  refine q_top (y := 1) (by decide) ?_
  refine lv_if_ne (tgt := 11) hx hb dL_isRefused_4 (by decide) (fun c_1 => ?_) (fun c_1 => ?_)
  · skip
    refine lv_iconst (v := 0) hx hb dL_isRefused_11 (by decide) ?_
    refine lv_istore (lv' := [(6, .int 0), (0, .ref (ad 0)), (1, .ref (aa 0)), (2, .ref (aa 2)), (3, .ref (aa 3)), (4, .ref (aa 5)), (5, .int 1)]) hx hb dL_isRefused_12 hl (by decide) rfl (fun ls hl => ?_)
    refine lv_iload hx hb dL_isRefused_14 (lv_at hl 0 rfl) ?_
    refine lv_if_eq (tgt := 29) hx hb dL_isRefused_16 (by decide) (fun c_2 => ?_) (fun c_2 => ?_)
    · skip
      refine lv_aload hx hb dL_isRefused_29 (lv_at hl 5 rfl) ?_
      refine lv_iconst (v := 1) hx hb dL_isRefused_31 (by decide) ?_
      refine g_ld (n := 5) (i := 1) C hw 5 rfl (by omega) (Nat.le_of_ble_eq_true rfl) dL_isRefused_32 ?_
      refine q_top (y := nI m1) (f51) ?_
      refine lv_iload hx hb dL_isRefused_33 (lv_at hl 6 rfl) ?_
      refine lv_bipush (v := 30) hx hb dL_isRefused_35 (by decide) ?_
      refine lv_irem hx hb dL_isRefused_37 (by decide) ?_
      refine q_top (y := 1) (by decide) ?_
      refine lv_iadd hx hb dL_isRefused_38 ?_
      refine q_top (y := nI (m1 + 1)) (nI_add m1 1) ?_
      refine lv_istore (lv' := [(7, .int (nI (m1 + 1))), (6, .int 0), (0, .ref (ad 0)), (1, .ref (aa 0)), (2, .ref (aa 2)), (3, .ref (aa 3)), (4, .ref (aa 5)), (5, .int 1)]) hx hb dL_isRefused_39 hl (by decide) rfl (fun ls hl => ?_)
      refine lv_iload hx hb dL_isRefused_41 (lv_at hl 1 rfl) ?_
      refine lv_if_eq (tgt := 56) hx hb dL_isRefused_43 (by decide) (fun c_3 => ?_) (fun c_3 => ?_)
      · skip
        refine lv_aload hx hb dL_isRefused_56 (lv_at hl 6 rfl) ?_
        refine lv_iconst (v := 0) hx hb dL_isRefused_58 (by decide) ?_
        refine g_ld (n := 5) (i := 0) C hw 5 rfl (by omega) (Nat.le_of_ble_eq_true rfl) dL_isRefused_59 ?_
        refine q_top (y := nI m0) (f50) ?_
        refine lv_iload hx hb dL_isRefused_60 (lv_at hl 7 rfl) ?_
        refine lv_bipush (v := 30) hx hb dL_isRefused_62 (by decide) ?_
        refine lv_irem hx hb dL_isRefused_64 (by decide) ?_
        refine q_top (y := 1) (by decide) ?_
        refine lv_iadd hx hb dL_isRefused_65 ?_
        refine q_top (y := nI (m0 + 1)) (nI_add m0 1) ?_
        refine lv_istore (lv' := [(8, .int (nI (m0 + 1))), (7, .int (nI (m1 + 1))), (6, .int 0), (0, .ref (ad 0)), (1, .ref (aa 0)), (2, .ref (aa 2)), (3, .ref (aa 3)), (4, .ref (aa 5)), (5, .int 1)]) hx hb dL_isRefused_66 hl (by decide) rfl (fun ls hl => ?_)
        refine lv_aload_n hx hb dL_isRefused_68 rfl (lv_at hl 3 rfl) ?_
        refine lv_aload hx hb dL_isRefused_69 (lv_at hl 7 rfl) ?_
        refine g_hl (rest := []) C hw (t_all C.1.2.2.2.2 C.2.2.1 C.2.2.2.1 ⟨⟨hm0, hm1⟩, ⟨f50, f51, f52, f54⟩, fh, ff, fr⟩ hw.2.2.2) ck_L_all v_693 hl.1 rfl ⟨Nat.le_of_ble_eq_true rfl, Nat.le_of_ble_eq_true rfl⟩ (Nat.le_of_ble_eq_true rfl) dL_isRefused_71 ⟨by omega, by omega⟩ (fun v S H locs hpo hle hw => ?_)
        obtain ⟨z4, rfl⟩ := hpo
        have hN : s.heap.size + (0) ≤ H.size := by omega
        refine W.widen (k := 0) (n := 6 * (0)) (by omega) (by omega) ?_
        refine lv_lstore (lv' := [(9, .long z4), (8, .int (nI (m0 + 1))), (7, .int (nI (m1 + 1))), (6, .int 0), (0, .ref (ad 0)), (1, .ref (aa 0)), (2, .ref (aa 2)), (3, .ref (aa 3)), (4, .ref (aa 5)), (5, .int 1)]) hx hb dL_isRefused_74 hl (by decide) rfl (fun ls hl => ?_)
        refine lv_aload_n hx hb dL_isRefused_76 rfl (lv_at hl 4 rfl) ?_
        refine lv_iconst (v := 0) hx hb dL_isRefused_77 (by decide) ?_
        refine lv_iload hx hb dL_isRefused_78 (lv_at hl 3 rfl) ?_
        refine lv_if_eq (tgt := 93) hx hb dL_isRefused_80 (by decide) (fun c_5 => ?_) (fun c_5 => ?_)
        · skip
          refine lv_sipush (v := 501) hx hb dL_isRefused_93 (by decide) ?_
          refine lv_iload hx hb dL_isRefused_96 (lv_at hl 9 rfl) ?_
          refine lv_bipush (v := 30) hx hb dL_isRefused_98 (by decide) ?_
          refine lv_irem hx hb dL_isRefused_100 (by decide) ?_
          refine q_top (y := 1) (by decide) ?_
          refine lv_iadd hx hb dL_isRefused_101 ?_
          refine q_top (y := 502) (by decide) ?_
          refine lv_iconst (v := 0) hx hb dL_isRefused_102 (by decide) ?_
          refine lv_iconst (v := 0) hx hb dL_isRefused_103 (by decide) ?_
          refine lv_iconst (v := 0) hx hb dL_isRefused_104 (by decide) ?_
          refine g_hlW (rest := []) C hw (h_act_0A C.1.2.2.2.2 C.2.2.1 C.2.2.2.1 hw.2.2.2 (502) (0) (0) (0) (f_pass (by decide))) ck_L_act v_332 hl.1 rfl ⟨Nat.le_of_ble_eq_true rfl, Nat.le_of_ble_eq_true rfl⟩ (Nat.le_of_ble_eq_true rfl) dL_isRefused_105 ⟨by omega, by omega⟩ (fun v S H locs hpo hle hw => ?_)
          obtain ⟨rfl, hgr⟩ := hpo
          have hN : s.heap.size + (1) ≤ H.size := by omega
          refine W.widen (k := 1) (n := 6 * (1)) (by omega) (by omega) ?_
          refine lv_sipush (v := (-1202)) hx hb dL_isRefused_108 (by decide) ?_
          refine lv_icmp_ne (tgt := 515) hx hb dL_isRefused_111 (by decide) (fun c_6 => ?_) (fun c_6 => ?_)
          · skip
            exact absurd c_6 (by decide)
          · skip
            refine lv_aload_n hx hb dL_isRefused_114 rfl (lv_at hl 4 rfl) ?_
            refine lv_iconst (v := 1) hx hb dL_isRefused_115 (by decide) ?_
            refine lv_iload hx hb dL_isRefused_116 (lv_at hl 3 rfl) ?_
            refine lv_if_eq (tgt := 131) hx hb dL_isRefused_118 (by decide) (fun c_7 => ?_) (fun c_7 => ?_)
            · skip
              refine lv_bipush (v := 51) hx hb dL_isRefused_131 (by decide) ?_
              refine lv_iconst (v := 5) hx hb dL_isRefused_133 (by decide) ?_
              refine lv_iconst (v := 5) hx hb dL_isRefused_134 (by decide) ?_
              refine lv_iconst (v := 5) hx hb dL_isRefused_135 (by decide) ?_
              refine g_hlW (rest := []) C hw (h_act_1A C.1.2.2.2.2 C.2.2.1 C.2.2.2.1 hw.2.2.2 (51) (5) (5) (5) (f_add1 (by decide))) ck_L_act v_332 hl.1 rfl ⟨Nat.le_of_ble_eq_true rfl, Nat.le_of_ble_eq_true rfl⟩ (Nat.le_of_ble_eq_true rfl) dL_isRefused_136 ⟨by omega, by omega⟩ (fun v S H locs hpo hle hw => ?_)
              obtain ⟨rfl, hgr⟩ := hpo
              have hN : s.heap.size + (2) ≤ H.size := by omega
              refine W.widen (k := 2) (n := 6 * (2)) (by omega) (by omega) ?_
              refine lv_sipush (v := (-1202)) hx hb dL_isRefused_139 (by decide) ?_
              refine lv_icmp_ne (tgt := 515) hx hb dL_isRefused_142 (by decide) (fun c_8 => ?_) (fun c_8 => ?_)
              · skip
                exact absurd c_8 (by decide)
              · skip
                refine lv_aload_n hx hb dL_isRefused_145 rfl (lv_at hl 4 rfl) ?_
                refine lv_iconst (v := 1) hx hb dL_isRefused_146 (by decide) ?_
                refine lv_iconst (v := 5) hx hb dL_isRefused_147 (by decide) ?_
                refine lv_iload hx hb dL_isRefused_148 (lv_at hl 3 rfl) ?_
                refine lv_if_eq (tgt := 163) hx hb dL_isRefused_150 (by decide) (fun c_9 => ?_) (fun c_9 => ?_)
                · skip
                  refine lv_sipush (v := 10000) hx hb dL_isRefused_163 (by decide) ?_
                  refine lv_iconst (v := 5) hx hb dL_isRefused_166 (by decide) ?_
                  refine lv_iconst (v := 5) hx hb dL_isRefused_167 (by decide) ?_
                  refine g_hlW (rest := []) C hw (h_act_1A C.1.2.2.2.2 C.2.2.1 C.2.2.2.1 hw.2.2.2 (5) (10000) (5) (5) (f_add2 (by decide) (by decide))) ck_L_act v_332 hl.1 rfl ⟨Nat.le_of_ble_eq_true rfl, Nat.le_of_ble_eq_true rfl⟩ (Nat.le_of_ble_eq_true rfl) dL_isRefused_168 ⟨by omega, by omega⟩ (fun v S H locs hpo hle hw => ?_)
                  obtain ⟨rfl, hgr⟩ := hpo
                  have hN : s.heap.size + (3) ≤ H.size := by omega
                  refine W.widen (k := 3) (n := 6 * (3)) (by omega) (by omega) ?_
                  refine lv_sipush (v := (-1202)) hx hb dL_isRefused_171 (by decide) ?_
                  refine lv_icmp_ne (tgt := 515) hx hb dL_isRefused_174 (by decide) (fun c_10 => ?_) (fun c_10 => ?_)
                  · skip
                    exact absurd c_10 (by decide)
                  · skip
                    refine lv_aload_n hx hb dL_isRefused_177 rfl (lv_at hl 4 rfl) ?_
                    refine lv_iconst (v := 1) hx hb dL_isRefused_178 (by decide) ?_
                    refine lv_iconst (v := 5) hx hb dL_isRefused_179 (by decide) ?_
                    refine lv_iconst (v := 5) hx hb dL_isRefused_180 (by decide) ?_
                    refine lv_iload hx hb dL_isRefused_181 (lv_at hl 3 rfl) ?_
                    refine lv_if_eq (tgt := 196) hx hb dL_isRefused_183 (by decide) (fun c_11 => ?_) (fun c_11 => ?_)
                    · skip
                      refine lv_bipush (v := 101) hx hb dL_isRefused_196 (by decide) ?_
                      refine lv_iconst (v := 5) hx hb dL_isRefused_198 (by decide) ?_
                      refine g_hlW (rest := []) C hw (h_act_1A C.1.2.2.2.2 C.2.2.1 C.2.2.2.1 hw.2.2.2 (5) (5) (101) (5) (f_add3 (by decide) (by decide) (by decide))) ck_L_act v_332 hl.1 rfl ⟨Nat.le_of_ble_eq_true rfl, Nat.le_of_ble_eq_true rfl⟩ (Nat.le_of_ble_eq_true rfl) dL_isRefused_199 ⟨by omega, by omega⟩ (fun v S H locs hpo hle hw => ?_)
                      obtain ⟨rfl, hgr⟩ := hpo
                      have hN : s.heap.size + (4) ≤ H.size := by omega
                      refine W.widen (k := 4) (n := 6 * (4)) (by omega) (by omega) ?_
                      refine lv_sipush (v := (-1202)) hx hb dL_isRefused_202 (by decide) ?_
                      refine lv_icmp_ne (tgt := 515) hx hb dL_isRefused_205 (by decide) (fun c_12 => ?_) (fun c_12 => ?_)
                      · skip
                        exact absurd c_12 (by decide)
                      · skip
                        refine lv_aload_n hx hb dL_isRefused_208 rfl (lv_at hl 4 rfl) ?_
                        refine lv_iconst (v := 1) hx hb dL_isRefused_209 (by decide) ?_
                        refine lv_iconst (v := 5) hx hb dL_isRefused_210 (by decide) ?_
                        refine lv_iconst (v := 5) hx hb dL_isRefused_211 (by decide) ?_
                        refine lv_iconst (v := 5) hx hb dL_isRefused_212 (by decide) ?_
                        refine lv_iload hx hb dL_isRefused_213 (lv_at hl 3 rfl) ?_
                        refine lv_if_eq (tgt := 228) hx hb dL_isRefused_215 (by decide) (fun c_13 => ?_) (fun c_13 => ?_)
                        · skip
                          refine lv_bipush (v := 41) hx hb dL_isRefused_228 (by decide) ?_
                          refine g_hlW (rest := []) C hw (h_act_1A C.1.2.2.2.2 C.2.2.1 C.2.2.2.1 hw.2.2.2 (5) (5) (5) (41) (f_add4 (by decide) (by decide) (by decide) (by decide))) ck_L_act v_332 hl.1 rfl ⟨Nat.le_of_ble_eq_true rfl, Nat.le_of_ble_eq_true rfl⟩ (Nat.le_of_ble_eq_true rfl) dL_isRefused_230 ⟨by omega, by omega⟩ (fun v S H locs hpo hle hw => ?_)
                          obtain ⟨rfl, hgr⟩ := hpo
                          have hN : s.heap.size + (5) ≤ H.size := by omega
                          refine W.widen (k := 5) (n := 6 * (5)) (by omega) (by omega) ?_
                          refine lv_sipush (v := (-1202)) hx hb dL_isRefused_233 (by decide) ?_
                          refine lv_icmp_ne (tgt := 515) hx hb dL_isRefused_236 (by decide) (fun c_14 => ?_) (fun c_14 => ?_)
                          · skip
                            exact absurd c_14 (by decide)
                          · skip
                            refine lv_aload_n hx hb dL_isRefused_239 rfl (lv_at hl 4 rfl) ?_
                            refine lv_iconst (v := 2) hx hb dL_isRefused_240 (by decide) ?_
                            refine lv_iload hx hb dL_isRefused_241 (lv_at hl 1 rfl) ?_
                            refine lv_iload hx hb dL_isRefused_243 (lv_at hl 1 rfl) ?_
                            refine lv_iconst (v := 0) hx hb dL_isRefused_245 (by decide) ?_
                            refine lv_iconst (v := 0) hx hb dL_isRefused_246 (by decide) ?_
                            refine g_hlW (rest := []) C hw (h_act_2I C.1.2.2.2.2 C.2.2.1 C.2.2.2.1 hw.2.2.2 (nI (m0 + 1)) (nI (m0 + 1)) (0) (0) (f_need_a (noR hw.2.2.2 (by omega) (by omega)))) ck_L_act v_332 hl.1 rfl ⟨Nat.le_of_ble_eq_true rfl, Nat.le_of_ble_eq_true rfl⟩ (Nat.le_of_ble_eq_true rfl) dL_isRefused_247 ⟨by omega, by omega⟩ (fun v S H locs hpo hle hw => ?_)
                            obtain ⟨rfl, hgr⟩ := hpo
                            have hN : s.heap.size + (6) ≤ H.size := by omega
                            refine W.widen (k := 6) (n := 6 * (6)) (by omega) (by omega) ?_
                            refine lv_sipush (v := (-1201)) hx hb dL_isRefused_250 (by decide) ?_
                            refine lv_icmp_ne (tgt := 515) hx hb dL_isRefused_253 (by decide) (fun c_15 => ?_) (fun c_15 => ?_)
                            · skip
                              exact absurd c_15 (by decide)
                            · skip
                              refine lv_aload_n hx hb dL_isRefused_256 rfl (lv_at hl 4 rfl) ?_
                              refine lv_iconst (v := 5) hx hb dL_isRefused_257 (by decide) ?_
                              refine lv_iload hx hb dL_isRefused_258 (lv_at hl 2 rfl) ?_
                              refine lv_iload hx hb dL_isRefused_260 (lv_at hl 1 rfl) ?_
                              refine lv_iconst (v := (-1)) hx hb dL_isRefused_262 (by decide) ?_
                              refine lv_iconst (v := 0) hx hb dL_isRefused_263 (by decide) ?_
                              refine g_hlW (rest := []) C hw (h_act_5I C.1.2.2.2.2 C.2.2.1 C.2.2.2.1 hw.2.2.2 (nI (m1 + 1)) (nI (m0 + 1)) ((-1)) (0) (f_ans_a (noT hw.2.2.2 (by omega) (by omega)))) ck_L_act v_332 hl.1 rfl ⟨Nat.le_of_ble_eq_true rfl, Nat.le_of_ble_eq_true rfl⟩ (Nat.le_of_ble_eq_true rfl) dL_isRefused_264 ⟨by omega, by omega⟩ (fun v S H locs hpo hle hw => ?_)
                              obtain ⟨rfl, hgr⟩ := hpo
                              have hN : s.heap.size + (7) ≤ H.size := by omega
                              refine W.widen (k := 7) (n := 6 * (7)) (by omega) (by omega) ?_
                              refine lv_sipush (v := (-1201)) hx hb dL_isRefused_267 (by decide) ?_
                              refine lv_icmp_ne (tgt := 515) hx hb dL_isRefused_270 (by decide) (fun c_16 => ?_) (fun c_16 => ?_)
                              · skip
                                exact absurd c_16 (by decide)
                              · skip
                                refine lv_aload_n hx hb dL_isRefused_273 rfl (lv_at hl 4 rfl) ?_
                                refine lv_bipush (v := 6) hx hb dL_isRefused_274 (by decide) ?_
                                refine lv_iload hx hb dL_isRefused_276 (lv_at hl 2 rfl) ?_
                                refine lv_iload hx hb dL_isRefused_278 (lv_at hl 1 rfl) ?_
                                refine lv_iconst (v := 0) hx hb dL_isRefused_280 (by decide) ?_
                                refine lv_iconst (v := 0) hx hb dL_isRefused_281 (by decide) ?_
                                refine g_hlW (rest := []) C hw (h_act_6I C.1.2.2.2.2 C.2.2.1 C.2.2.2.1 hw.2.2.2 (nI (m1 + 1)) (nI (m0 + 1)) (0) (0) (f_hint_a (noT hw.2.2.2 (by omega) (by omega)))) ck_L_act v_332 hl.1 rfl ⟨Nat.le_of_ble_eq_true rfl, Nat.le_of_ble_eq_true rfl⟩ (Nat.le_of_ble_eq_true rfl) dL_isRefused_282 ⟨by omega, by omega⟩ (fun v S H locs hpo hle hw => ?_)
                                obtain ⟨rfl, hgr⟩ := hpo
                                have hN : s.heap.size + (8) ≤ H.size := by omega
                                refine W.widen (k := 8) (n := 6 * (8)) (by omega) (by omega) ?_
                                refine lv_sipush (v := (-1201)) hx hb dL_isRefused_285 (by decide) ?_
                                refine lv_icmp_ne (tgt := 515) hx hb dL_isRefused_288 (by decide) (fun c_17 => ?_) (fun c_17 => ?_)
                                · skip
                                  exact absurd c_17 (by decide)
                                · skip
                                  refine lv_aload_n hx hb dL_isRefused_291 rfl (lv_at hl 4 rfl) ?_
                                  refine lv_bipush (v := 7) hx hb dL_isRefused_292 (by decide) ?_
                                  refine lv_iload hx hb dL_isRefused_294 (lv_at hl 2 rfl) ?_
                                  refine lv_iload hx hb dL_isRefused_296 (lv_at hl 1 rfl) ?_
                                  refine lv_iconst (v := 0) hx hb dL_isRefused_298 (by decide) ?_
                                  refine lv_iconst (v := 0) hx hb dL_isRefused_299 (by decide) ?_
                                  refine g_hlW (rest := []) C hw (h_act_7I C.1.2.2.2.2 C.2.2.1 C.2.2.2.1 hw.2.2.2 (nI (m1 + 1)) (nI (m0 + 1)) (0) (0) (f_clear_a (noT hw.2.2.2 (by omega) (by omega)))) ck_L_act v_332 hl.1 rfl ⟨Nat.le_of_ble_eq_true rfl, Nat.le_of_ble_eq_true rfl⟩ (Nat.le_of_ble_eq_true rfl) dL_isRefused_300 ⟨by omega, by omega⟩ (fun v S H locs hpo hle hw => ?_)
                                  obtain ⟨rfl, hgr⟩ := hpo
                                  have hN : s.heap.size + (9) ≤ H.size := by omega
                                  refine W.widen (k := 9) (n := 6 * (9)) (by omega) (by omega) ?_
                                  refine lv_sipush (v := (-1201)) hx hb dL_isRefused_303 (by decide) ?_
                                  refine lv_icmp_ne (tgt := 515) hx hb dL_isRefused_306 (by decide) (fun c_18 => ?_) (fun c_18 => ?_)
                                  · skip
                                    exact absurd c_18 (by decide)
                                  · skip
                                    refine lv_aload_n hx hb dL_isRefused_309 rfl (lv_at hl 4 rfl) ?_
                                    refine lv_bipush (v := 8) hx hb dL_isRefused_310 (by decide) ?_
                                    refine lv_iload hx hb dL_isRefused_312 (lv_at hl 2 rfl) ?_
                                    refine lv_iload hx hb dL_isRefused_314 (lv_at hl 2 rfl) ?_
                                    refine lv_iconst (v := 0) hx hb dL_isRefused_316 (by decide) ?_
                                    refine lv_iconst (v := 0) hx hb dL_isRefused_317 (by decide) ?_
                                    refine g_hlW (rest := []) C hw (h_act_8I C.1.2.2.2.2 C.2.2.1 C.2.2.2.1 hw.2.2.2 (nI (m1 + 1)) (nI (m1 + 1)) (0) (0) (f_pard_a (noT hw.2.2.2 (by omega) (by omega)))) ck_L_act v_332 hl.1 rfl ⟨Nat.le_of_ble_eq_true rfl, Nat.le_of_ble_eq_true rfl⟩ (Nat.le_of_ble_eq_true rfl) dL_isRefused_318 ⟨by omega, by omega⟩ (fun v S H locs hpo hle hw => ?_)
                                    obtain ⟨rfl, hgr⟩ := hpo
                                    have hN : s.heap.size + (10) ≤ H.size := by omega
                                    refine W.widen (k := 10) (n := 6 * (10)) (by omega) (by omega) ?_
                                    refine lv_sipush (v := (-1201)) hx hb dL_isRefused_321 (by decide) ?_
                                    refine lv_icmp_ne (tgt := 515) hx hb dL_isRefused_324 (by decide) (fun c_19 => ?_) (fun c_19 => ?_)
                                    · skip
                                      exact absurd c_19 (by decide)
                                    · skip
                                      refine lv_aload_n hx hb dL_isRefused_327 rfl (lv_at hl 4 rfl) ?_
                                      refine lv_bipush (v := 9) hx hb dL_isRefused_328 (by decide) ?_
                                      refine lv_iload hx hb dL_isRefused_330 (lv_at hl 3 rfl) ?_
                                      refine lv_if_eq (tgt := 345) hx hb dL_isRefused_332 (by decide) (fun c_20 => ?_) (fun c_20 => ?_)
                                      · skip
                                        refine lv_bipush (v := 21) hx hb dL_isRefused_345 (by decide) ?_
                                        refine lv_iconst (v := 0) hx hb dL_isRefused_347 (by decide) ?_
                                        refine lv_iconst (v := 0) hx hb dL_isRefused_348 (by decide) ?_
                                        refine lv_iconst (v := 0) hx hb dL_isRefused_349 (by decide) ?_
                                        refine g_hlW (rest := []) C hw (h_act_9A C.1.2.2.2.2 C.2.2.1 C.2.2.2.1 hw.2.2.2 (21) (0) (0) (0) (f_bound (by decide))) ck_L_act v_332 hl.1 rfl ⟨Nat.le_of_ble_eq_true rfl, Nat.le_of_ble_eq_true rfl⟩ (Nat.le_of_ble_eq_true rfl) dL_isRefused_350 ⟨by omega, by omega⟩ (fun v S H locs hpo hle hw => ?_)
                                        obtain ⟨rfl, hgr⟩ := hpo
                                        have hN : s.heap.size + (11) ≤ H.size := by omega
                                        refine W.widen (k := 11) (n := 6 * (11)) (by omega) (by omega) ?_
                                        refine lv_sipush (v := (-1202)) hx hb dL_isRefused_353 (by decide) ?_
                                        refine lv_icmp_ne (tgt := 515) hx hb dL_isRefused_356 (by decide) (fun c_21 => ?_) (fun c_21 => ?_)
                                        · skip
                                          exact absurd c_21 (by decide)
                                        · skip
                                          refine lv_aload_n hx hb dL_isRefused_359 rfl (lv_at hl 4 rfl) ?_
                                          refine lv_bipush (v := 10) hx hb dL_isRefused_360 (by decide) ?_
                                          refine lv_iload hx hb dL_isRefused_362 (lv_at hl 3 rfl) ?_
                                          refine lv_if_eq (tgt := 377) hx hb dL_isRefused_364 (by decide) (fun c_22 => ?_) (fun c_22 => ?_)
                                          · skip
                                            refine lv_bipush (v := 9) hx hb dL_isRefused_377 (by decide) ?_
                                            refine lv_iconst (v := 5) hx hb dL_isRefused_379 (by decide) ?_
                                            refine lv_iconst (v := 0) hx hb dL_isRefused_380 (by decide) ?_
                                            refine lv_iconst (v := 0) hx hb dL_isRefused_381 (by decide) ?_
                                            refine g_hlW (rest := []) C hw (h_act_10A C.1.2.2.2.2 C.2.2.1 C.2.2.2.1 hw.2.2.2 (9) (5) (0) (0) (f_setp1 (by decide))) ck_L_act v_332 hl.1 rfl ⟨Nat.le_of_ble_eq_true rfl, Nat.le_of_ble_eq_true rfl⟩ (Nat.le_of_ble_eq_true rfl) dL_isRefused_382 ⟨by omega, by omega⟩ (fun v S H locs hpo hle hw => ?_)
                                            obtain ⟨rfl, hgr⟩ := hpo
                                            have hN : s.heap.size + (12) ≤ H.size := by omega
                                            refine W.widen (k := 12) (n := 6 * (12)) (by omega) (by omega) ?_
                                            refine lv_sipush (v := (-1202)) hx hb dL_isRefused_385 (by decide) ?_
                                            refine lv_icmp_ne (tgt := 515) hx hb dL_isRefused_388 (by decide) (fun c_23 => ?_) (fun c_23 => ?_)
                                            · skip
                                              exact absurd c_23 (by decide)
                                            · skip
                                              refine lv_aload_n hx hb dL_isRefused_391 rfl (lv_at hl 4 rfl) ?_
                                              refine lv_bipush (v := 10) hx hb dL_isRefused_392 (by decide) ?_
                                              refine lv_iconst (v := 1) hx hb dL_isRefused_394 (by decide) ?_
                                              refine lv_iload hx hb dL_isRefused_395 (lv_at hl 9 rfl) ?_
                                              refine lv_bipush (v := 8) hx hb dL_isRefused_397 (by decide) ?_
                                              refine lv_irem hx hb dL_isRefused_399 (by decide) ?_
                                              refine q_top (y := 1) (by decide) ?_
                                              refine lv_iadd hx hb dL_isRefused_400 ?_
                                              refine q_top (y := 2) (by decide) ?_
                                              refine lv_iload hx hb dL_isRefused_401 (lv_at hl 3 rfl) ?_
                                              refine lv_if_eq (tgt := 416) hx hb dL_isRefused_403 (by decide) (fun c_24 => ?_) (fun c_24 => ?_)
                                              · skip
                                                refine lv_sipush (v := 1001) hx hb dL_isRefused_416 (by decide) ?_
                                                refine lv_iconst (v := 0) hx hb dL_isRefused_419 (by decide) ?_
                                                refine lv_iconst (v := 0) hx hb dL_isRefused_420 (by decide) ?_
                                                refine g_hlW (rest := []) C hw (h_act_10A C.1.2.2.2.2 C.2.2.1 C.2.2.2.1 hw.2.2.2 (2) (1001) (0) (0) (f_setp2 (by decide) (by decide))) ck_L_act v_332 hl.1 rfl ⟨Nat.le_of_ble_eq_true rfl, Nat.le_of_ble_eq_true rfl⟩ (Nat.le_of_ble_eq_true rfl) dL_isRefused_421 ⟨by omega, by omega⟩ (fun v S H locs hpo hle hw => ?_)
                                                obtain ⟨rfl, hgr⟩ := hpo
                                                have hN : s.heap.size + (13) ≤ H.size := by omega
                                                refine W.widen (k := 13) (n := 6 * (13)) (by omega) (by omega) ?_
                                                refine lv_sipush (v := (-1202)) hx hb dL_isRefused_424 (by decide) ?_
                                                refine lv_icmp_ne (tgt := 515) hx hb dL_isRefused_427 (by decide) (fun c_25 => ?_) (fun c_25 => ?_)
                                                · skip
                                                  exact absurd c_25 (by decide)
                                                · skip
                                                  refine lv_aload_n hx hb dL_isRefused_430 rfl (lv_at hl 4 rfl) ?_
                                                  refine lv_iconst (v := 3) hx hb dL_isRefused_431 (by decide) ?_
                                                  refine lv_iload hx hb dL_isRefused_432 (lv_at hl 1 rfl) ?_
                                                  refine lv_iconst (v := 0) hx hb dL_isRefused_434 (by decide) ?_
                                                  refine g_hlW (rest := []) C hw (h_of_3I C.1.2.2.2.2 C.2.2.1 C.2.2.2.1 hw.2.2.2 (nI (m0 + 1)) (0) (f_free (noR hw.2.2.2 (by omega) (by omega)))) ck_L_of v_516 hl.1 rfl ⟨Nat.le_of_ble_eq_true rfl, Nat.le_of_ble_eq_true rfl⟩ (Nat.le_of_ble_eq_true rfl) dL_isRefused_435 ⟨by omega, by omega⟩ (fun v S H locs hpo hle hw => ?_)
                                                  obtain ⟨rfl, hgr⟩ := hpo
                                                  have hN : s.heap.size + (14) ≤ H.size := by omega
                                                  refine W.widen (k := 14) (n := 6 * (14)) (by omega) (by omega) ?_
                                                  refine lv_sipush (v := (-1201)) hx hb dL_isRefused_438 (by decide) ?_
                                                  refine lv_icmp_ne (tgt := 515) hx hb dL_isRefused_441 (by decide) (fun c_26 => ?_) (fun c_26 => ?_)
                                                  · skip
                                                    exact absurd c_26 (by decide)
                                                  · skip
                                                    refine lv_aload_n hx hb dL_isRefused_444 rfl (lv_at hl 4 rfl) ?_
                                                    refine lv_bipush (v := 8) hx hb dL_isRefused_445 (by decide) ?_
                                                    refine lv_iload hx hb dL_isRefused_447 (lv_at hl 1 rfl) ?_
                                                    refine lv_iconst (v := 0) hx hb dL_isRefused_449 (by decide) ?_
                                                    refine g_hlW (rest := []) C hw (h_of_8I C.1.2.2.2.2 C.2.2.1 C.2.2.2.1 hw.2.2.2 (nI (m0 + 1)) (0) (f_hang (noR hw.2.2.2 (by omega) (by omega)))) ck_L_of v_516 hl.1 rfl ⟨Nat.le_of_ble_eq_true rfl, Nat.le_of_ble_eq_true rfl⟩ (Nat.le_of_ble_eq_true rfl) dL_isRefused_450 ⟨by omega, by omega⟩ (fun v S H locs hpo hle hw => ?_)
                                                    obtain ⟨rfl, hgr⟩ := hpo
                                                    have hN : s.heap.size + (15) ≤ H.size := by omega
                                                    refine W.widen (k := 15) (n := 6 * (15)) (by omega) (by omega) ?_
                                                    refine lv_sipush (v := (-1201)) hx hb dL_isRefused_453 (by decide) ?_
                                                    refine lv_icmp_ne (tgt := 515) hx hb dL_isRefused_456 (by decide) (fun c_27 => ?_) (fun c_27 => ?_)
                                                    · skip
                                                      exact absurd c_27 (by decide)
                                                    · skip
                                                      refine lv_aload hx hb dL_isRefused_459 (lv_at hl 8 rfl) ?_
                                                      refine lv_iconst (v := 4) hx hb dL_isRefused_461 (by decide) ?_
                                                      refine g_ld (n := 5) (i := 4) C hw 5 rfl (by omega) (Nat.le_of_ble_eq_true rfl) dL_isRefused_462 ?_
                                                      refine q_top (y := 0) (f54) ?_
                                                      refine lv_if_eq (tgt := 511) hx hb dL_isRefused_463 (by decide) (fun c_28 => ?_) (fun c_28 => ?_)
                                                      · skip
                                                        refine lv_iconst (v := 1) hx hb dL_isRefused_511 (by decide) ?_
                                                        refine lv_goto (tgt := 516) hx hb dL_isRefused_512 (by decide) ?_
                                                        refine lv_istore (lv' := [(11, .int 1), (9, .long z4), (8, .int (nI (m0 + 1))), (7, .int (nI (m1 + 1))), (6, .int 0), (0, .ref (ad 0)), (1, .ref (aa 0)), (2, .ref (aa 2)), (3, .ref (aa 3)), (4, .ref (aa 5)), (5, .int 1)]) hx hb dL_isRefused_516 hl (by decide) rfl (fun ls hl => ?_)
                                                        refine lv_bipush (v := 9) hx hb dL_isRefused_518 (by decide) ?_
                                                        refine lv_istore (lv' := [(12, .int 9), (11, .int 1), (9, .long z4), (8, .int (nI (m0 + 1))), (7, .int (nI (m1 + 1))), (6, .int 0), (0, .ref (ad 0)), (1, .ref (aa 0)), (2, .ref (aa 2)), (3, .ref (aa 3)), (4, .ref (aa 5)), (5, .int 1)]) hx hb dL_isRefused_520 hl (by decide) rfl (fun ls hl => ?_)
                                                        have hj_562_30 : ∀ (S : Mem) (H : Heap) (locs : List Loc), GW D cI (aC ad cI) ad aa fa m0 m1 s S H locs → s.heap.size + (19) ≤ H.size → ∀ ls : Array Slot, lv_has ls 15 [(11, .int 1), (9, .long z4), (8, .int (nI (m0 + 1))), (7, .int (nI (m1 + 1))), (6, .int 0), (0, .ref (ad 0)), (1, .ref (aa 0)), (2, .ref (aa 2)), (3, .ref (aa 3)), (4, .ref (aa 5)), (5, .int 1)] → W p l e (rg 10 150) s m args below meth c H locs (28) (6 * (28)) (MQ below (QG D cI ad m0 m1 (pR)) args s 150 (6 * 150) (aC ad cI)) (F0 m 562 ls []) := by
                                                          intro S H locs hw hN ls hl
                                                          refine lv_iconst (v := 0) hx hb dL_isRefused_562 (by decide) ?_
                                                          refine lv_istore (lv' := [(12, .int 0), (11, .int 1), (9, .long z4), (8, .int (nI (m0 + 1))), (7, .int (nI (m1 + 1))), (6, .int 0), (0, .ref (ad 0)), (1, .ref (aa 0)), (2, .ref (aa 2)), (3, .ref (aa 3)), (4, .ref (aa 5)), (5, .int 1)]) hx hb dL_isRefused_563 hl (by decide) rfl (fun ls hl => ?_)
                                                          have hj_943_32 : ∀ (S : Mem) (H : Heap) (locs : List Loc), GW D cI (aC ad cI) ad aa fa m0 m1 s S H locs → s.heap.size + (19) ≤ H.size → ∀ ls : Array Slot, lv_has ls 15 [(11, .int 1), (9, .long z4), (8, .int (nI (m0 + 1))), (0, .ref (ad 0)), (1, .ref (aa 0)), (4, .ref (aa 5))] → W p l e (rg 10 150) s m args below meth c H locs (21 * m1 + 28) (6 * (21 * m1 + 28)) (MQ below (QG D cI ad m0 m1 (pR)) args s 150 (6 * 150) (aC ad cI)) (F0 m 943 ls []) := by
                                                            intro S H locs hw hN ls hl
                                                            refine lv_iconst (v := 0) hx hb dL_isRefused_943 (by decide) ?_
                                                            refine lv_istore (lv' := [(12, .int 0), (11, .int 1), (9, .long z4), (8, .int (nI (m0 + 1))), (0, .ref (ad 0)), (1, .ref (aa 0)), (4, .ref (aa 5))]) hx hb dL_isRefused_944 hl (by decide) rfl (fun ls hl => ?_)
                                                            have hj_1119_34 : ∀ (S : Mem) (H : Heap) (locs : List Loc), GW D cI (aC ad cI) ad aa fa m0 m1 s S H locs → s.heap.size + (19) ≤ H.size → ∀ ls : Array Slot, lv_has ls 15 [(11, .int 1), (9, .long z4), (0, .ref (ad 0)), (4, .ref (aa 5))] → W p l e (rg 10 150) s m args below meth c H locs (5 * m0 + 21 * m1 + 28) (6 * (5 * m0 + 21 * m1 + 28)) (MQ below (QG D cI ad m0 m1 (pR)) args s 150 (6 * 150) (aC ad cI)) (F0 m 1119 ls []) := by
                                                              intro S H locs hw hN ls hl
                                                              refine lv_iload hx hb dL_isRefused_1119 (lv_at hl 0 rfl) ?_
                                                              refine lv_if_eq (tgt := 1140) hx hb dL_isRefused_1121 (by decide) (fun c_35 => ?_) (fun c_35 => ?_)
                                                              · skip
                                                                exact absurd c_35 (by decide)
                                                              · skip
                                                                refine lv_aload_n hx hb dL_isRefused_1124 rfl (lv_at hl 2 rfl) ?_
                                                                refine lv_aload hx hb dL_isRefused_1125 (lv_at hl 3 rfl) ?_
                                                                refine g_hl (rest := []) C hw (t_all C.1.2.2.2.2 C.2.2.1 C.2.2.2.1 ⟨⟨hm0, hm1⟩, ⟨f50, f51, f52, f54⟩, fh, ff, fr⟩ hw.2.2.2) ck_L_all v_693 hl.1 rfl ⟨Nat.le_of_ble_eq_true rfl, Nat.le_of_ble_eq_true rfl⟩ (Nat.le_of_ble_eq_true rfl) dL_isRefused_1127 ⟨by omega, by omega⟩ (fun v S H locs hpo hle hw => ?_)
                                                                obtain ⟨z36, rfl⟩ := hpo
                                                                have hN : s.heap.size + (19) ≤ H.size := by omega
                                                                refine W.widen (k := 5 * m0 + 21 * m1 + 28) (n := 6 * (5 * m0 + 21 * m1 + 28)) (by omega) (by omega) ?_
                                                                refine lv_lload hx hb dL_isRefused_1130 (lv_at hl 1 rfl) ?_
                                                                refine W.lcmp hx hb dL_isRefused_1132 ?_
                                                                refine g_any (fun z37 => ?_)
                                                                refine lv_if_ne (tgt := 1140) hx hb dL_isRefused_1133 (by decide) (fun c_38 => ?_) (fun c_38 => ?_)
                                                                · skip
                                                                  refine lv_iconst (v := 0) hx hb dL_isRefused_1140 (by decide) ?_
                                                                  exact g_ret (mc := 150) hx hb hr hlk hw (by decide) (⟨⟨false, rfl⟩, by omega⟩) ⟨by omega, by omega⟩ dL_isRefused_1141
                                                                · skip
                                                                  refine lv_iconst (v := 1) hx hb dL_isRefused_1136 (by decide) ?_
                                                                  refine lv_goto (tgt := 1141) hx hb dL_isRefused_1137 (by decide) ?_
                                                                  exact g_ret (mc := 150) hx hb hr hlk hw (by decide) (⟨⟨true, rfl⟩, by omega⟩) ⟨by omega, by omega⟩ dL_isRefused_1141
                                                            have hloop_946_39 : ∀ (n i33 : Nat), i33 ≤ m0 → m0 < i33 + n → 0 ≤ i33 → ∀ (S : Mem) (H : Heap) (locs : List Loc), GW D cI (aC ad cI) ad aa fa m0 m1 s S H locs → s.heap.size + (19) ≤ H.size → ∀ ls : Array Slot, lv_has ls 15 [(12, .int (nI i33)), (11, .int 1), (9, .long z4), (8, .int (nI (m0 + 1))), (0, .ref (ad 0)), (1, .ref (aa 0)), (4, .ref (aa 5))] → W p l e (rg 10 150) s m args below meth c H locs (5 * i33 + 21 * m1 + 28) (6 * (5 * i33 + 21 * m1 + 28)) (MQ below (QG D cI ad m0 m1 (pR)) args s 150 (6 * 150) (aC ad cI)) (F0 m 946 ls []) := by
                                                              intro n
                                                              induction n with
                                                              | zero => intro i33 h1 h2; exact absurd h2 (by omega)
                                                              | succ n ih_946 =>
                                                                intro i33 hi_946 hn_946 hs_946 S H locs hw hN ls hl
                                                                refine lv_iload hx hb dL_isRefused_946 (lv_at hl 0 rfl) ?_
                                                                refine lv_aload hx hb dL_isRefused_948 (lv_at hl 6 rfl) ?_
                                                                refine lv_iconst (v := 0) hx hb dL_isRefused_950 (by decide) ?_
                                                                refine g_ld (n := 5) (i := 0) C hw 5 rfl (by omega) (Nat.le_of_ble_eq_true rfl) dL_isRefused_951 ?_
                                                                refine q_top (y := nI m0) (f50) ?_
                                                                refine lv_icmp_ge (tgt := 1119) hx hb dL_isRefused_952 (by decide) (fun c_40 => ?_) (fun c_40 => ?_)
                                                                · skip
                                                                  have c_40 : m0 ≤ i33 := n_le (a := m0) (b := i33) (by omega) (by omega) c_40
                                                                  refine W.widen (k := 5 * m0 + 21 * m1 + 28) (n := 6 * (5 * m0 + 21 * m1 + 28)) (by omega) (by omega) ?_
                                                                  exact hj_1119_34 S H locs hw (by omega)  ls (lv_sub hl [1, 2, 4, 6] rfl)
                                                                · skip
                                                                  have c_40 : i33 < m0 := n_nle (a := m0) (b := i33) (by omega) (by omega) c_40
                                                                  refine lv_iload hx hb dL_isRefused_955 (lv_at hl 1 rfl) ?_
                                                                  refine lv_if_eq (tgt := 1119) hx hb dL_isRefused_957 (by decide) (fun c_41 => ?_) (fun c_41 => ?_)
                                                                  · skip
                                                                    exact absurd c_41 (by decide)
                                                                  · skip
                                                                    refine lv_aload_n hx hb dL_isRefused_960 rfl (lv_at hl 4 rfl) ?_
                                                                    refine lv_iconst (v := 2) hx hb dL_isRefused_961 (by decide) ?_
                                                                    refine lv_iload hx hb dL_isRefused_962 (lv_at hl 0 rfl) ?_
                                                                    refine lv_iload hx hb dL_isRefused_964 (lv_at hl 3 rfl) ?_
                                                                    refine lv_iconst (v := 0) hx hb dL_isRefused_966 (by decide) ?_
                                                                    refine lv_iconst (v := 0) hx hb dL_isRefused_967 (by decide) ?_
                                                                    refine g_hlW (rest := []) C hw (h_act_2I C.1.2.2.2.2 C.2.2.1 C.2.2.2.1 hw.2.2.2 (nI i33) (nI (m0 + 1)) (0) (0) (f_need_b (okR hw.2.2.2 (k := i33) (by omega)) (noR hw.2.2.2 (by omega) (by omega)))) ck_L_act v_332 hl.1 rfl ⟨Nat.le_of_ble_eq_true rfl, Nat.le_of_ble_eq_true rfl⟩ (Nat.le_of_ble_eq_true rfl) dL_isRefused_968 ⟨by omega, by omega⟩ (fun v S H locs hpo hle hw => ?_)
                                                                    obtain ⟨rfl, hgr⟩ := hpo
                                                                    have hN : s.heap.size + (19) ≤ H.size := by omega
                                                                    refine W.widen (k := 5 * i33 + 21 * m1 + 29) (n := 6 * (5 * i33 + 21 * m1 + 29)) (by omega) (by omega) ?_
                                                                    refine lv_sipush (v := (-1201)) hx hb dL_isRefused_971 (by decide) ?_
                                                                    refine lv_icmp_ne (tgt := 998) hx hb dL_isRefused_974 (by decide) (fun c_42 => ?_) (fun c_42 => ?_)
                                                                    · skip
                                                                      exact absurd c_42 (by decide)
                                                                    · skip
                                                                      refine lv_aload_n hx hb dL_isRefused_977 rfl (lv_at hl 4 rfl) ?_
                                                                      refine lv_iconst (v := 2) hx hb dL_isRefused_978 (by decide) ?_
                                                                      refine lv_iload hx hb dL_isRefused_979 (lv_at hl 0 rfl) ?_
                                                                      refine lv_iload hx hb dL_isRefused_981 (lv_at hl 0 rfl) ?_
                                                                      refine lv_iconst (v := 0) hx hb dL_isRefused_983 (by decide) ?_
                                                                      refine lv_iconst (v := 0) hx hb dL_isRefused_984 (by decide) ?_
                                                                      refine g_hlW (rest := []) C hw (h_act_2A C.1.2.2.2.2 C.2.2.1 C.2.2.2.1 hw.2.2.2 (nI i33) (nI i33) (0) (0) (f_need_c (okR hw.2.2.2 (k := i33) (by omega)) (okR hw.2.2.2 (k := i33) (by omega)) (by rw [iNs (by omega)]; omega))) ck_L_act v_332 hl.1 rfl ⟨Nat.le_of_ble_eq_true rfl, Nat.le_of_ble_eq_true rfl⟩ (Nat.le_of_ble_eq_true rfl) dL_isRefused_985 ⟨by omega, by omega⟩ (fun v S H locs hpo hle hw => ?_)
                                                                      obtain ⟨rfl, hgr⟩ := hpo
                                                                      have hN : s.heap.size + (19) ≤ H.size := by omega
                                                                      refine W.widen (k := 5 * i33 + 21 * m1 + 30) (n := 6 * (5 * i33 + 21 * m1 + 30)) (by omega) (by omega) ?_
                                                                      refine lv_sipush (v := (-1202)) hx hb dL_isRefused_988 (by decide) ?_
                                                                      refine lv_icmp_ne (tgt := 998) hx hb dL_isRefused_991 (by decide) (fun c_43 => ?_) (fun c_43 => ?_)
                                                                      · skip
                                                                        exact absurd c_43 (by decide)
                                                                      · skip
                                                                        refine lv_iconst (v := 1) hx hb dL_isRefused_994 (by decide) ?_
                                                                        refine lv_goto (tgt := 999) hx hb dL_isRefused_995 (by decide) ?_
                                                                        refine lv_istore (lv' := [(11, .int 1), (12, .int (nI i33)), (9, .long z4), (8, .int (nI (m0 + 1))), (0, .ref (ad 0)), (1, .ref (aa 0)), (4, .ref (aa 5))]) hx hb dL_isRefused_999 hl (by decide) rfl (fun ls hl => ?_)
                                                                        refine lv_iconst (v := 0) hx hb dL_isRefused_1001 (by decide) ?_
                                                                        refine lv_istore (lv' := [(13, .int 0), (11, .int 1), (12, .int (nI i33)), (9, .long z4), (8, .int (nI (m0 + 1))), (0, .ref (ad 0)), (1, .ref (aa 0)), (4, .ref (aa 5))]) hx hb dL_isRefused_1002 hl (by decide) rfl (fun ls hl => ?_)
                                                                        have hj_1113_45 : ∀ (S : Mem) (H : Heap) (locs : List Loc), GW D cI (aC ad cI) ad aa fa m0 m1 s S H locs → s.heap.size + (19) ≤ H.size → ∀ ls : Array Slot, lv_has ls 15 [(11, .int 1), (12, .int (nI i33)), (9, .long z4), (8, .int (nI (m0 + 1))), (0, .ref (ad 0)), (1, .ref (aa 0)), (4, .ref (aa 5))] → W p l e (rg 10 150) s m args below meth c H locs (6 * i33 + 21 * m1 + 30) (6 * (6 * i33 + 21 * m1 + 30)) (MQ below (QG D cI ad m0 m1 (pR)) args s 150 (6 * 150) (aC ad cI)) (F0 m 1113 ls []) := by
                                                                          intro S H locs hw hN ls hl
                                                                          refine lv_iinc (v := nI (i33 + 1)) (lv' := [(12, .int (nI (i33 + 1))), (11, .int 1), (9, .long z4), (8, .int (nI (m0 + 1))), (0, .ref (ad 0)), (1, .ref (aa 0)), (4, .ref (aa 5))]) hx hb dL_isRefused_1113 hl (k := 1) rfl (nI_1 i33) (by decide) rfl (fun ls hl => ?_)
                                                                          refine lv_goto (tgt := 946) hx hb dL_isRefused_1116 (by decide) ?_
                                                                          refine W.widen (k := 5 * (i33 + 1) + 21 * m1 + 28) (n := 6 * (5 * (i33 + 1) + 21 * m1 + 28)) (by omega) (by omega) ?_
                                                                          exact ih_946 (i33 + 1) (by omega) (by omega) (by omega) S H locs hw (by omega)  ls (lv_sub hl [0, 1, 2, 3, 4, 5, 6] rfl)
                                                                        have hloop_1004_46 : ∀ (n i44 : Nat), i44 ≤ i33 → i33 < i44 + n → 0 ≤ i44 → ∀ (S : Mem) (H : Heap) (locs : List Loc), GW D cI (aC ad cI) ad aa fa m0 m1 s S H locs → s.heap.size + (19) ≤ H.size → ∀ ls : Array Slot, lv_has ls 15 [(13, .int (nI i44)), (11, .int 1), (12, .int (nI i33)), (9, .long z4), (8, .int (nI (m0 + 1))), (0, .ref (ad 0)), (1, .ref (aa 0)), (4, .ref (aa 5))] → W p l e (rg 10 150) s m args below meth c H locs (5 * i33 + 1 * i44 + 21 * m1 + 30) (6 * (5 * i33 + 1 * i44 + 21 * m1 + 30)) (MQ below (QG D cI ad m0 m1 (pR)) args s 150 (6 * 150) (aC ad cI)) (F0 m 1004 ls []) := by
                                                                          intro n
                                                                          induction n with
                                                                          | zero => intro i44 h1 h2; exact absurd h2 (by omega)
                                                                          | succ n ih_1004 =>
                                                                            intro i44 hi_1004 hn_1004 hs_1004 S H locs hw hN ls hl
                                                                            refine lv_iload hx hb dL_isRefused_1004 (lv_at hl 0 rfl) ?_
                                                                            refine lv_iload hx hb dL_isRefused_1006 (lv_at hl 2 rfl) ?_
                                                                            refine lv_icmp_ge (tgt := 1113) hx hb dL_isRefused_1008 (by decide) (fun c_47 => ?_) (fun c_47 => ?_)
                                                                            · skip
                                                                              have c_47 : i33 ≤ i44 := n_le (a := i33) (b := i44) (by omega) (by omega) c_47
                                                                              refine W.widen (k := 6 * i33 + 21 * m1 + 30) (n := 6 * (6 * i33 + 21 * m1 + 30)) (by omega) (by omega) ?_
                                                                              exact hj_1113_45 S H locs hw (by omega)  ls (lv_sub hl [1, 2, 3, 4, 5, 6, 7] rfl)
                                                                            · skip
                                                                              have c_47 : i44 < i33 := n_nle (a := i33) (b := i44) (by omega) (by omega) c_47
                                                                              refine lv_iload hx hb dL_isRefused_1011 (lv_at hl 1 rfl) ?_
                                                                              refine lv_if_eq (tgt := 1113) hx hb dL_isRefused_1013 (by decide) (fun c_48 => ?_) (fun c_48 => ?_)
                                                                              · skip
                                                                                exact absurd c_48 (by decide)
                                                                              · skip
                                                                                refine lv_aload hx hb dL_isRefused_1016 (lv_at hl 7 rfl) ?_
                                                                                refine lv_iconst (v := 4) hx hb dL_isRefused_1018 (by decide) ?_
                                                                                refine g_ld (n := 5) (i := 4) C hw 5 rfl (by omega) (Nat.le_of_ble_eq_true rfl) dL_isRefused_1019 ?_
                                                                                refine q_top (y := 0) (f54) ?_
                                                                                refine lv_iconst (v := 1) hx hb dL_isRefused_1020 (by decide) ?_
                                                                                refine lv_icmp_eq (tgt := 1054) hx hb dL_isRefused_1021 (by decide) (fun c_49 => ?_) (fun c_49 => ?_)
                                                                                · skip
                                                                                  exact absurd c_49 (by decide)
                                                                                · skip
                                                                                  refine lv_aload_n hx hb dL_isRefused_1024 rfl (lv_at hl 6 rfl) ?_
                                                                                  refine lv_bipush (v := 6) hx hb dL_isRefused_1025 (by decide) ?_
                                                                                  refine lv_iload hx hb dL_isRefused_1027 (lv_at hl 2 rfl) ?_
                                                                                  refine lv_imul hx hb dL_isRefused_1029 ?_
                                                                                  refine q_top (y := nI (6 * i33)) (pk_mul 6 i33) ?_
                                                                                  refine lv_iconst (v := 5) hx hb dL_isRefused_1030 (by decide) ?_
                                                                                  refine lv_iadd hx hb dL_isRefused_1031 ?_
                                                                                  refine q_top (y := nI (6 * i33 + 5)) (nI_add (6 * i33) 5) ?_
                                                                                  refine g_ld (n := 48) (i := (6 * i33 + 5)) C hw 0 rfl (by omega) (Nat.le_of_ble_eq_true rfl) dL_isRefused_1032 ?_
                                                                                  refine q_top (y := 0) ((fr _).2) ?_
                                                                                  refine lv_if_gt (tgt := 1054) hx hb dL_isRefused_1033 (by decide) (fun c_50 => ?_) (fun c_50 => ?_)
                                                                                  · skip
                                                                                    exact absurd c_50 (by decide)
                                                                                  · skip
                                                                                    refine lv_aload_n hx hb dL_isRefused_1036 rfl (lv_at hl 6 rfl) ?_
                                                                                    refine lv_bipush (v := 6) hx hb dL_isRefused_1037 (by decide) ?_
                                                                                    refine lv_iload hx hb dL_isRefused_1039 (lv_at hl 2 rfl) ?_
                                                                                    refine lv_imul hx hb dL_isRefused_1041 ?_
                                                                                    refine q_top (y := nI (6 * i33)) (pk_mul 6 i33) ?_
                                                                                    refine lv_iconst (v := 4) hx hb dL_isRefused_1042 (by decide) ?_
                                                                                    refine lv_iadd hx hb dL_isRefused_1043 ?_
                                                                                    refine q_top (y := nI (6 * i33 + 4)) (nI_add (6 * i33) 4) ?_
                                                                                    refine g_ld (n := 48) (i := (6 * i33 + 4)) C hw 0 rfl (by omega) (Nat.le_of_ble_eq_true rfl) dL_isRefused_1044 ?_
                                                                                    refine q_top (y := 0) ((fr _).1) ?_
                                                                                    refine lv_iload hx hb dL_isRefused_1045 (lv_at hl 0 rfl) ?_
                                                                                    refine lv_ishr hx hb dL_isRefused_1047 ?_
                                                                                    refine q_top (y := 0) (shr_0 _) ?_
                                                                                    refine lv_iconst (v := 1) hx hb dL_isRefused_1048 (by decide) ?_
                                                                                    refine lv_iand hx hb dL_isRefused_1049 ?_
                                                                                    refine q_top (y := 0) (by decide) ?_
                                                                                    refine lv_iconst (v := 1) hx hb dL_isRefused_1050 (by decide) ?_
                                                                                    refine lv_icmp_ne (tgt := 1058) hx hb dL_isRefused_1051 (by decide) (fun c_51 => ?_) (fun c_51 => ?_)
                                                                                    · skip
                                                                                      refine lv_iconst (v := 0) hx hb dL_isRefused_1058 (by decide) ?_
                                                                                      refine lv_istore (lv' := [(14, .int 0), (13, .int (nI i44)), (11, .int 1), (12, .int (nI i33)), (9, .long z4), (8, .int (nI (m0 + 1))), (0, .ref (ad 0)), (1, .ref (aa 0)), (4, .ref (aa 5))]) hx hb dL_isRefused_1059 hl (by decide) rfl (fun ls hl => ?_)
                                                                                      refine lv_aload_n hx hb dL_isRefused_1061 rfl (lv_at hl 6 rfl) ?_
                                                                                      refine lv_iconst (v := 2) hx hb dL_isRefused_1062 (by decide) ?_
                                                                                      refine lv_iload hx hb dL_isRefused_1063 (lv_at hl 1 rfl) ?_
                                                                                      refine lv_iload hx hb dL_isRefused_1065 (lv_at hl 3 rfl) ?_
                                                                                      refine lv_iconst (v := 0) hx hb dL_isRefused_1067 (by decide) ?_
                                                                                      refine lv_iconst (v := 0) hx hb dL_isRefused_1068 (by decide) ?_
                                                                                      refine g_hlW (rest := []) C hw (h_act_2A C.1.2.2.2.2 C.2.2.1 C.2.2.2.1 hw.2.2.2 (nI i44) (nI i33) (0) (0) (f_need_c (okR hw.2.2.2 (k := i44) (by omega)) (okR hw.2.2.2 (k := i33) (by omega)) (by rw [iNs (by omega), iNs (by omega)]; omega))) ck_L_act v_332 hl.1 rfl ⟨Nat.le_of_ble_eq_true rfl, Nat.le_of_ble_eq_true rfl⟩ (Nat.le_of_ble_eq_true rfl) dL_isRefused_1069 ⟨by omega, by omega⟩ (fun v S H locs hpo hle hw => ?_)
                                                                                      obtain ⟨rfl, hgr⟩ := hpo
                                                                                      have hN : s.heap.size + (19) ≤ H.size := by omega
                                                                                      refine W.widen (k := 5 * i33 + 1 * i44 + 21 * m1 + 31) (n := 6 * (5 * i33 + 1 * i44 + 21 * m1 + 31)) (by omega) (by omega) ?_
                                                                                      refine lv_sipush (v := (-1202)) hx hb dL_isRefused_1072 (by decide) ?_
                                                                                      refine lv_icmp_ne (tgt := 1104) hx hb dL_isRefused_1075 (by decide) (fun c_52 => ?_) (fun c_52 => ?_)
                                                                                      · skip
                                                                                        exact absurd c_52 (by decide)
                                                                                      · skip
                                                                                        refine lv_iload hx hb dL_isRefused_1078 (lv_at hl 0 rfl) ?_
                                                                                        refine lv_if_eq (tgt := 1100) hx hb dL_isRefused_1080 (by decide) (fun c_53 => ?_) (fun c_53 => ?_)
                                                                                        · skip
                                                                                          refine lv_iconst (v := 1) hx hb dL_isRefused_1100 (by decide) ?_
                                                                                          refine lv_goto (tgt := 1105) hx hb dL_isRefused_1101 (by decide) ?_
                                                                                          refine lv_istore (lv' := [(11, .int 1), (14, .int 0), (13, .int (nI i44)), (12, .int (nI i33)), (9, .long z4), (8, .int (nI (m0 + 1))), (0, .ref (ad 0)), (1, .ref (aa 0)), (4, .ref (aa 5))]) hx hb dL_isRefused_1105 hl (by decide) rfl (fun ls hl => ?_)
                                                                                          refine lv_iinc (v := nI (i44 + 1)) (lv' := [(13, .int (nI (i44 + 1))), (11, .int 1), (14, .int 0), (12, .int (nI i33)), (9, .long z4), (8, .int (nI (m0 + 1))), (0, .ref (ad 0)), (1, .ref (aa 0)), (4, .ref (aa 5))]) hx hb dL_isRefused_1107 hl (k := 2) rfl (nI_1 i44) (by decide) rfl (fun ls hl => ?_)
                                                                                          refine lv_goto (tgt := 1004) hx hb dL_isRefused_1110 (by decide) ?_
                                                                                          refine W.widen (k := 5 * i33 + 1 * (i44 + 1) + 21 * m1 + 30) (n := 6 * (5 * i33 + 1 * (i44 + 1) + 21 * m1 + 30)) (by omega) (by omega) ?_
                                                                                          exact ih_1004 (i44 + 1) (by omega) (by omega) (by omega) S H locs hw (by omega)  ls (lv_sub hl [0, 1, 3, 4, 5, 6, 7, 8] rfl)
                                                                                        · skip
                                                                                          exact absurd c_53 (by decide)
                                                                                    · skip
                                                                                      exact absurd c_51 (by decide)
                                                                        refine W.widen (k := 5 * i33 + 1 * (0) + 21 * m1 + 30) (n := 6 * (5 * i33 + 1 * (0) + 21 * m1 + 30)) (by omega) (by omega) ?_
                                                                        exact hloop_1004_46 (i33 + 1) (0) (by omega) (by omega) (by omega) S H locs hw (by omega)  ls (lv_sub hl [0, 1, 2, 3, 4, 5, 6, 7] rfl)
                                                            refine W.widen (k := 5 * (0) + 21 * m1 + 28) (n := 6 * (5 * (0) + 21 * m1 + 28)) (by omega) (by omega) ?_
                                                            exact hloop_946_39 (m0 + 1) (0) (by omega) (by omega) (by omega) S H locs hw (by omega)  ls (lv_sub hl [0, 1, 2, 3, 4, 5, 6] rfl)
                                                          have hloop_565_54 : ∀ (n i31 : Nat), i31 ≤ m1 → m1 < i31 + n → 0 ≤ i31 → ∀ (S : Mem) (H : Heap) (locs : List Loc), GW D cI (aC ad cI) ad aa fa m0 m1 s S H locs → s.heap.size + (19) ≤ H.size → ∀ ls : Array Slot, lv_has ls 15 [(12, .int (nI i31)), (11, .int 1), (9, .long z4), (8, .int (nI (m0 + 1))), (7, .int (nI (m1 + 1))), (6, .int 0), (0, .ref (ad 0)), (1, .ref (aa 0)), (2, .ref (aa 2)), (3, .ref (aa 3)), (4, .ref (aa 5)), (5, .int 1)] → W p l e (rg 10 150) s m args below meth c H locs (21 * i31 + 28) (6 * (21 * i31 + 28)) (MQ below (QG D cI ad m0 m1 (pR)) args s 150 (6 * 150) (aC ad cI)) (F0 m 565 ls []) := by
                                                            intro n
                                                            induction n with
                                                            | zero => intro i31 h1 h2; exact absurd h2 (by omega)
                                                            | succ n ih_565 =>
                                                              intro i31 hi_565 hn_565 hs_565 S H locs hw hN ls hl
                                                              refine lv_iload hx hb dL_isRefused_565 (lv_at hl 0 rfl) ?_
                                                              refine lv_aload hx hb dL_isRefused_567 (lv_at hl 10 rfl) ?_
                                                              refine lv_iconst (v := 1) hx hb dL_isRefused_569 (by decide) ?_
                                                              refine g_ld (n := 5) (i := 1) C hw 5 rfl (by omega) (Nat.le_of_ble_eq_true rfl) dL_isRefused_570 ?_
                                                              refine q_top (y := nI m1) (f51) ?_
                                                              refine lv_icmp_ge (tgt := 943) hx hb dL_isRefused_571 (by decide) (fun c_55 => ?_) (fun c_55 => ?_)
                                                              · skip
                                                                have c_55 : m1 ≤ i31 := n_le (a := m1) (b := i31) (by omega) (by omega) c_55
                                                                refine W.widen (k := 21 * m1 + 28) (n := 6 * (21 * m1 + 28)) (by omega) (by omega) ?_
                                                                exact hj_943_32 S H locs hw (by omega)  ls (lv_sub hl [1, 2, 3, 6, 7, 10] rfl)
                                                              · skip
                                                                have c_55 : i31 < m1 := n_nle (a := m1) (b := i31) (by omega) (by omega) c_55
                                                                refine lv_iload hx hb dL_isRefused_574 (lv_at hl 1 rfl) ?_
                                                                refine lv_if_eq (tgt := 943) hx hb dL_isRefused_576 (by decide) (fun c_56 => ?_) (fun c_56 => ?_)
                                                                · skip
                                                                  exact absurd c_56 (by decide)
                                                                · skip
                                                                  refine lv_aload_n hx hb dL_isRefused_579 rfl (lv_at hl 6 rfl) ?_
                                                                  refine lv_bipush (v := 8) hx hb dL_isRefused_580 (by decide) ?_
                                                                  refine lv_iload hx hb dL_isRefused_582 (lv_at hl 0 rfl) ?_
                                                                  refine lv_iload hx hb dL_isRefused_584 (lv_at hl 0 rfl) ?_
                                                                  refine lv_iconst (v := 0) hx hb dL_isRefused_586 (by decide) ?_
                                                                  refine lv_iconst (v := 0) hx hb dL_isRefused_587 (by decide) ?_
                                                                  refine g_hlW (rest := []) C hw (h_act_8A C.1.2.2.2.2 C.2.2.1 C.2.2.2.1 hw.2.2.2 (nI i31) (nI i31) (0) (0) (f_pard_c (okT hw.2.2.2 (t := i31) (by omega)))) ck_L_act v_332 hl.1 rfl ⟨Nat.le_of_ble_eq_true rfl, Nat.le_of_ble_eq_true rfl⟩ (Nat.le_of_ble_eq_true rfl) dL_isRefused_588 ⟨by omega, by omega⟩ (fun v S H locs hpo hle hw => ?_)
                                                                  obtain ⟨rfl, hgr⟩ := hpo
                                                                  have hN : s.heap.size + (19) ≤ H.size := by omega
                                                                  refine W.widen (k := 21 * i31 + 29) (n := 6 * (21 * i31 + 29)) (by omega) (by omega) ?_
                                                                  refine lv_sipush (v := (-1202)) hx hb dL_isRefused_591 (by decide) ?_
                                                                  refine lv_icmp_ne (tgt := 649) hx hb dL_isRefused_594 (by decide) (fun c_57 => ?_) (fun c_57 => ?_)
                                                                  · skip
                                                                    exact absurd c_57 (by decide)
                                                                  · skip
                                                                    refine lv_aload_n hx hb dL_isRefused_597 rfl (lv_at hl 6 rfl) ?_
                                                                    refine lv_bipush (v := 8) hx hb dL_isRefused_598 (by decide) ?_
                                                                    refine lv_iload hx hb dL_isRefused_600 (lv_at hl 0 rfl) ?_
                                                                    refine lv_iload hx hb dL_isRefused_602 (lv_at hl 4 rfl) ?_
                                                                    refine lv_iconst (v := 0) hx hb dL_isRefused_604 (by decide) ?_
                                                                    refine lv_iconst (v := 0) hx hb dL_isRefused_605 (by decide) ?_
                                                                    refine g_hlW (rest := []) C hw (h_act_8I C.1.2.2.2.2 C.2.2.1 C.2.2.2.1 hw.2.2.2 (nI i31) (nI (m1 + 1)) (0) (0) (f_pard_b (okT hw.2.2.2 (t := i31) (by omega)) (noT hw.2.2.2 (by omega) (by omega)))) ck_L_act v_332 hl.1 rfl ⟨Nat.le_of_ble_eq_true rfl, Nat.le_of_ble_eq_true rfl⟩ (Nat.le_of_ble_eq_true rfl) dL_isRefused_606 ⟨by omega, by omega⟩ (fun v S H locs hpo hle hw => ?_)
                                                                    obtain ⟨rfl, hgr⟩ := hpo
                                                                    have hN : s.heap.size + (19) ≤ H.size := by omega
                                                                    refine W.widen (k := 21 * i31 + 30) (n := 6 * (21 * i31 + 30)) (by omega) (by omega) ?_
                                                                    refine lv_sipush (v := (-1201)) hx hb dL_isRefused_609 (by decide) ?_
                                                                    refine lv_icmp_ne (tgt := 649) hx hb dL_isRefused_612 (by decide) (fun c_58 => ?_) (fun c_58 => ?_)
                                                                    · skip
                                                                      exact absurd c_58 (by decide)
                                                                    · skip
                                                                      refine lv_aload_n hx hb dL_isRefused_615 rfl (lv_at hl 6 rfl) ?_
                                                                      refine lv_iconst (v := 4) hx hb dL_isRefused_616 (by decide) ?_
                                                                      refine lv_iload hx hb dL_isRefused_617 (lv_at hl 0 rfl) ?_
                                                                      refine lv_iload hx hb dL_isRefused_619 (lv_at hl 4 rfl) ?_
                                                                      refine g_hlW (rest := []) C hw (h_of_4I C.1.2.2.2.2 C.2.2.1 C.2.2.2.1 hw.2.2.2 (nI i31) (nI (m1 + 1)) (f_like (okT hw.2.2.2 (t := i31) (by omega)) (noT hw.2.2.2 (by omega) (by omega)))) ck_L_of v_516 hl.1 rfl ⟨Nat.le_of_ble_eq_true rfl, Nat.le_of_ble_eq_true rfl⟩ (Nat.le_of_ble_eq_true rfl) dL_isRefused_621 ⟨by omega, by omega⟩ (fun v S H locs hpo hle hw => ?_)
                                                                      obtain ⟨rfl, hgr⟩ := hpo
                                                                      have hN : s.heap.size + (19) ≤ H.size := by omega
                                                                      refine W.widen (k := 21 * i31 + 31) (n := 6 * (21 * i31 + 31)) (by omega) (by omega) ?_
                                                                      refine lv_sipush (v := (-1201)) hx hb dL_isRefused_624 (by decide) ?_
                                                                      refine lv_icmp_ne (tgt := 649) hx hb dL_isRefused_627 (by decide) (fun c_59 => ?_) (fun c_59 => ?_)
                                                                      · skip
                                                                        exact absurd c_59 (by decide)
                                                                      · skip
                                                                        refine lv_aload_n hx hb dL_isRefused_630 rfl (lv_at hl 6 rfl) ?_
                                                                        refine lv_iconst (v := 5) hx hb dL_isRefused_631 (by decide) ?_
                                                                        refine lv_iload hx hb dL_isRefused_632 (lv_at hl 4 rfl) ?_
                                                                        refine lv_iload hx hb dL_isRefused_634 (lv_at hl 0 rfl) ?_
                                                                        refine g_hlW (rest := []) C hw (h_of_5I C.1.2.2.2.2 C.2.2.1 C.2.2.2.1 hw.2.2.2 (nI (m1 + 1)) (nI i31) (f_link (noT hw.2.2.2 (by omega) (by omega)))) ck_L_of v_516 hl.1 rfl ⟨Nat.le_of_ble_eq_true rfl, Nat.le_of_ble_eq_true rfl⟩ (Nat.le_of_ble_eq_true rfl) dL_isRefused_636 ⟨by omega, by omega⟩ (fun v S H locs hpo hle hw => ?_)
                                                                        obtain ⟨rfl, hgr⟩ := hpo
                                                                        have hN : s.heap.size + (19) ≤ H.size := by omega
                                                                        refine W.widen (k := 21 * i31 + 32) (n := 6 * (21 * i31 + 32)) (by omega) (by omega) ?_
                                                                        refine lv_sipush (v := (-1201)) hx hb dL_isRefused_639 (by decide) ?_
                                                                        refine lv_icmp_ne (tgt := 649) hx hb dL_isRefused_642 (by decide) (fun c_60 => ?_) (fun c_60 => ?_)
                                                                        · skip
                                                                          exact absurd c_60 (by decide)
                                                                        · skip
                                                                          refine lv_iconst (v := 1) hx hb dL_isRefused_645 (by decide) ?_
                                                                          refine lv_goto (tgt := 650) hx hb dL_isRefused_646 (by decide) ?_
                                                                          refine lv_istore (lv' := [(11, .int 1), (12, .int (nI i31)), (9, .long z4), (8, .int (nI (m0 + 1))), (7, .int (nI (m1 + 1))), (6, .int 0), (0, .ref (ad 0)), (1, .ref (aa 0)), (2, .ref (aa 2)), (3, .ref (aa 3)), (4, .ref (aa 5)), (5, .int 1)]) hx hb dL_isRefused_650 hl (by decide) rfl (fun ls hl => ?_)
                                                                          refine lv_iconst (v := 0) hx hb dL_isRefused_652 (by decide) ?_
                                                                          refine lv_istore (lv' := [(13, .int 0), (11, .int 1), (12, .int (nI i31)), (9, .long z4), (8, .int (nI (m0 + 1))), (7, .int (nI (m1 + 1))), (6, .int 0), (0, .ref (ad 0)), (1, .ref (aa 0)), (2, .ref (aa 2)), (3, .ref (aa 3)), (4, .ref (aa 5)), (5, .int 1)]) hx hb dL_isRefused_653 hl (by decide) rfl (fun ls hl => ?_)
                                                                          have hj_709_62 : ∀ (S : Mem) (H : Heap) (locs : List Loc), GW D cI (aC ad cI) ad aa fa m0 m1 s S H locs → s.heap.size + (19) ≤ H.size → ∀ ls : Array Slot, lv_has ls 15 [(11, .int 1), (12, .int (nI i31)), (9, .long z4), (8, .int (nI (m0 + 1))), (7, .int (nI (m1 + 1))), (6, .int 0), (0, .ref (ad 0)), (1, .ref (aa 0)), (2, .ref (aa 2)), (3, .ref (aa 3)), (4, .ref (aa 5)), (5, .int 1)] → W p l e (rg 10 150) s m args below meth c H locs (21 * i31 + 40) (6 * (21 * i31 + 40)) (MQ below (QG D cI ad m0 m1 (pR)) args s 150 (6 * 150) (aC ad cI)) (F0 m 709 ls []) := by
                                                                            intro S H locs hw hN ls hl
                                                                            refine lv_iconst (v := 0) hx hb dL_isRefused_709 (by decide) ?_
                                                                            refine lv_istore (lv' := [(13, .int 0), (11, .int 1), (12, .int (nI i31)), (9, .long z4), (8, .int (nI (m0 + 1))), (7, .int (nI (m1 + 1))), (6, .int 0), (0, .ref (ad 0)), (1, .ref (aa 0)), (2, .ref (aa 2)), (3, .ref (aa 3)), (4, .ref (aa 5)), (5, .int 1)]) hx hb dL_isRefused_710 hl (by decide) rfl (fun ls hl => ?_)
                                                                            have hj_937_64 : ∀ (S : Mem) (H : Heap) (locs : List Loc), GW D cI (aC ad cI) ad aa fa m0 m1 s S H locs → s.heap.size + (19) ≤ H.size → ∀ ls : Array Slot, lv_has ls 15 [(11, .int 1), (12, .int (nI i31)), (9, .long z4), (8, .int (nI (m0 + 1))), (7, .int (nI (m1 + 1))), (6, .int 0), (0, .ref (ad 0)), (1, .ref (aa 0)), (2, .ref (aa 2)), (3, .ref (aa 3)), (4, .ref (aa 5)), (5, .int 1)] → W p l e (rg 10 150) s m args below meth c H locs (21 * i31 + 3 * m0 + 40) (6 * (21 * i31 + 3 * m0 + 40)) (MQ below (QG D cI ad m0 m1 (pR)) args s 150 (6 * 150) (aC ad cI)) (F0 m 937 ls []) := by
                                                                              intro S H locs hw hN ls hl
                                                                              refine lv_iinc (v := nI (i31 + 1)) (lv' := [(12, .int (nI (i31 + 1))), (11, .int 1), (9, .long z4), (8, .int (nI (m0 + 1))), (7, .int (nI (m1 + 1))), (6, .int 0), (0, .ref (ad 0)), (1, .ref (aa 0)), (2, .ref (aa 2)), (3, .ref (aa 3)), (4, .ref (aa 5)), (5, .int 1)]) hx hb dL_isRefused_937 hl (k := 1) rfl (nI_1 i31) (by decide) rfl (fun ls hl => ?_)
                                                                              refine lv_goto (tgt := 565) hx hb dL_isRefused_940 (by decide) ?_
                                                                              refine W.widen (k := 21 * (i31 + 1) + 28) (n := 6 * (21 * (i31 + 1) + 28)) (by omega) (by omega) ?_
                                                                              exact ih_565 (i31 + 1) (by omega) (by omega) (by omega) S H locs hw (by omega)  ls (lv_sub hl [0, 1, 2, 3, 4, 5, 6, 7, 8, 9, 10, 11] rfl)
                                                                            have hloop_712_65 : ∀ (n i63 : Nat), i63 ≤ m0 → m0 < i63 + n → 0 ≤ i63 → ∀ (S : Mem) (H : Heap) (locs : List Loc), GW D cI (aC ad cI) ad aa fa m0 m1 s S H locs → s.heap.size + (19) ≤ H.size → ∀ ls : Array Slot, lv_has ls 15 [(13, .int (nI i63)), (11, .int 1), (12, .int (nI i31)), (9, .long z4), (8, .int (nI (m0 + 1))), (7, .int (nI (m1 + 1))), (6, .int 0), (0, .ref (ad 0)), (1, .ref (aa 0)), (2, .ref (aa 2)), (3, .ref (aa 3)), (4, .ref (aa 5)), (5, .int 1)] → W p l e (rg 10 150) s m args below meth c H locs (21 * i31 + 3 * i63 + 40) (6 * (21 * i31 + 3 * i63 + 40)) (MQ below (QG D cI ad m0 m1 (pR)) args s 150 (6 * 150) (aC ad cI)) (F0 m 712 ls []) := by
                                                                              intro n
                                                                              induction n with
                                                                              | zero => intro i63 h1 h2; exact absurd h2 (by omega)
                                                                              | succ n ih_712 =>
                                                                                intro i63 hi_712 hn_712 hs_712 S H locs hw hN ls hl
                                                                                refine lv_iload hx hb dL_isRefused_712 (lv_at hl 0 rfl) ?_
                                                                                refine lv_aload hx hb dL_isRefused_714 (lv_at hl 11 rfl) ?_
                                                                                refine lv_iconst (v := 0) hx hb dL_isRefused_716 (by decide) ?_
                                                                                refine g_ld (n := 5) (i := 0) C hw 5 rfl (by omega) (Nat.le_of_ble_eq_true rfl) dL_isRefused_717 ?_
                                                                                refine q_top (y := nI m0) (f50) ?_
                                                                                refine lv_icmp_ge (tgt := 937) hx hb dL_isRefused_718 (by decide) (fun c_66 => ?_) (fun c_66 => ?_)
                                                                                · skip
                                                                                  have c_66 : m0 ≤ i63 := n_le (a := m0) (b := i63) (by omega) (by omega) c_66
                                                                                  refine W.widen (k := 21 * i31 + 3 * m0 + 40) (n := 6 * (21 * i31 + 3 * m0 + 40)) (by omega) (by omega) ?_
                                                                                  exact hj_937_64 S H locs hw (by omega)  ls (lv_sub hl [1, 2, 3, 4, 5, 6, 7, 8, 9, 10, 11, 12] rfl)
                                                                                · skip
                                                                                  have c_66 : i63 < m0 := n_nle (a := m0) (b := i63) (by omega) (by omega) c_66
                                                                                  refine lv_iload hx hb dL_isRefused_721 (lv_at hl 1 rfl) ?_
                                                                                  refine lv_if_eq (tgt := 937) hx hb dL_isRefused_723 (by decide) (fun c_67 => ?_) (fun c_67 => ?_)
                                                                                  · skip
                                                                                    exact absurd c_67 (by decide)
                                                                                  · skip
                                                                                    refine lv_aload hx hb dL_isRefused_726 (lv_at hl 11 rfl) ?_
                                                                                    refine lv_iconst (v := 4) hx hb dL_isRefused_728 (by decide) ?_
                                                                                    refine g_ld (n := 5) (i := 4) C hw 5 rfl (by omega) (Nat.le_of_ble_eq_true rfl) dL_isRefused_729 ?_
                                                                                    refine q_top (y := 0) (f54) ?_
                                                                                    refine lv_iconst (v := 1) hx hb dL_isRefused_730 (by decide) ?_
                                                                                    refine lv_icmp_eq (tgt := 756) hx hb dL_isRefused_731 (by decide) (fun c_68 => ?_) (fun c_68 => ?_)
                                                                                    · skip
                                                                                      exact absurd c_68 (by decide)
                                                                                    · skip
                                                                                      refine lv_aload_n hx hb dL_isRefused_734 rfl (lv_at hl 7 rfl) ?_
                                                                                      refine lv_iload hx hb dL_isRefused_735 (lv_at hl 2 rfl) ?_
                                                                                      refine lv_iload hx hb dL_isRefused_737 (lv_at hl 0 rfl) ?_
                                                                                      have hv_739 := v_opened hw.2.2.2 (t := i31) (k := i63) (by omega) (by omega)
                                                                                      refine g_rd (rest := []) C hw (c_X5_openedAt l D cI cZ cL ad S (nI i31) (nI i63) hw.2.2.2.i0 (nn_opened hw.2.2.2 (by omega) (by omega))) ck_X5_openedAt v_540 rfl hl.1 rfl ⟨Nat.le_of_ble_eq_true rfl, Nat.le_of_ble_eq_true rfl⟩ (Nat.le_of_ble_eq_true rfl) dL_isRefused_739 ⟨by omega, by omega⟩ ?_
                                                                                      refine q_top (y := 0) (hv_739) ?_
                                                                                      refine lv_if_lt (tgt := 756) hx hb dL_isRefused_742 (by decide) (fun c_69 => ?_) (fun c_69 => ?_)
                                                                                      · skip
                                                                                        exact absurd c_69 (by decide)
                                                                                      · skip
                                                                                        refine lv_aload_n hx hb dL_isRefused_745 rfl (lv_at hl 7 rfl) ?_
                                                                                        refine lv_iload hx hb dL_isRefused_746 (lv_at hl 2 rfl) ?_
                                                                                        refine lv_iload hx hb dL_isRefused_748 (lv_at hl 0 rfl) ?_
                                                                                        have hv_750 := v_solved hw.2.2.2 (t := i31) (k := i63) (by omega) (by omega)
                                                                                        refine g_rd (rest := []) C hw (c_X5_solvedAt l D cI cZ cL ad S (nI i31) (nI i63) hw.2.2.2.i0 (nn_solved hw.2.2.2 (by omega) (by omega))) ck_X5_solvedAt v_231 rfl hl.1 rfl ⟨Nat.le_of_ble_eq_true rfl, Nat.le_of_ble_eq_true rfl⟩ (Nat.le_of_ble_eq_true rfl) dL_isRefused_750 ⟨by omega, by omega⟩ ?_
                                                                                        refine q_top (y := (-1)) (hv_750) ?_
                                                                                        refine lv_if_lt (tgt := 760) hx hb dL_isRefused_753 (by decide) (fun c_70 => ?_) (fun c_70 => ?_)
                                                                                        · skip
                                                                                          refine lv_iconst (v := 0) hx hb dL_isRefused_760 (by decide) ?_
                                                                                          refine lv_istore (lv' := [(14, .int 0), (13, .int (nI i63)), (11, .int 1), (12, .int (nI i31)), (9, .long z4), (8, .int (nI (m0 + 1))), (7, .int (nI (m1 + 1))), (6, .int 0), (0, .ref (ad 0)), (1, .ref (aa 0)), (2, .ref (aa 2)), (3, .ref (aa 3)), (4, .ref (aa 5)), (5, .int 1)]) hx hb dL_isRefused_761 hl (by decide) rfl (fun ls hl => ?_)
                                                                                          refine lv_aload_n hx hb dL_isRefused_763 rfl (lv_at hl 8 rfl) ?_
                                                                                          refine lv_iconst (v := 5) hx hb dL_isRefused_764 (by decide) ?_
                                                                                          refine lv_iload hx hb dL_isRefused_765 (lv_at hl 3 rfl) ?_
                                                                                          refine lv_iload hx hb dL_isRefused_767 (lv_at hl 1 rfl) ?_
                                                                                          refine lv_iload hx hb dL_isRefused_769 (lv_at hl 7 rfl) ?_
                                                                                          refine lv_if_eq (tgt := 784) hx hb dL_isRefused_771 (by decide) (fun c_71 => ?_) (fun c_71 => ?_)
                                                                                          · skip
                                                                                            refine lv_sipush (v := 10000) hx hb dL_isRefused_784 (by decide) ?_
                                                                                            refine lv_iconst (v := 0) hx hb dL_isRefused_787 (by decide) ?_
                                                                                            refine g_hlW (rest := []) C hw (h_act_5A C.1.2.2.2.2 C.2.2.1 C.2.2.2.1 hw.2.2.2 (nI i31) (nI i63) (10000) (0) (f_ans_b (okT hw.2.2.2 (t := i31) (by omega)) (okR hw.2.2.2 (k := i63) (by omega)) (by decide))) ck_L_act v_332 hl.1 rfl ⟨Nat.le_of_ble_eq_true rfl, Nat.le_of_ble_eq_true rfl⟩ (Nat.le_of_ble_eq_true rfl) dL_isRefused_788 ⟨by omega, by omega⟩ (fun v S H locs hpo hle hw => ?_)
                                                                                            obtain ⟨rfl, hgr⟩ := hpo
                                                                                            have hN : s.heap.size + (19) ≤ H.size := by omega
                                                                                            refine W.widen (k := 21 * i31 + 3 * i63 + 41) (n := 6 * (21 * i31 + 3 * i63 + 41)) (by omega) (by omega) ?_
                                                                                            refine lv_sipush (v := (-1202)) hx hb dL_isRefused_791 (by decide) ?_
                                                                                            refine lv_icmp_ne (tgt := 928) hx hb dL_isRefused_794 (by decide) (fun c_72 => ?_) (fun c_72 => ?_)
                                                                                            · skip
                                                                                              exact absurd c_72 (by decide)
                                                                                            · skip
                                                                                              refine lv_aload_n hx hb dL_isRefused_797 rfl (lv_at hl 8 rfl) ?_
                                                                                              refine lv_iconst (v := 5) hx hb dL_isRefused_798 (by decide) ?_
                                                                                              refine lv_iload hx hb dL_isRefused_799 (lv_at hl 6 rfl) ?_
                                                                                              refine lv_iload hx hb dL_isRefused_801 (lv_at hl 1 rfl) ?_
                                                                                              refine lv_iconst (v := 5) hx hb dL_isRefused_803 (by decide) ?_
                                                                                              refine lv_iconst (v := 0) hx hb dL_isRefused_804 (by decide) ?_
                                                                                              refine g_hlW (rest := []) C hw (h_act_5I C.1.2.2.2.2 C.2.2.1 C.2.2.2.1 hw.2.2.2 (nI (m1 + 1)) (nI i63) (5) (0) (f_ans_a (noT hw.2.2.2 (by omega) (by omega)))) ck_L_act v_332 hl.1 rfl ⟨Nat.le_of_ble_eq_true rfl, Nat.le_of_ble_eq_true rfl⟩ (Nat.le_of_ble_eq_true rfl) dL_isRefused_805 ⟨by omega, by omega⟩ (fun v S H locs hpo hle hw => ?_)
                                                                                              obtain ⟨rfl, hgr⟩ := hpo
                                                                                              have hN : s.heap.size + (19) ≤ H.size := by omega
                                                                                              refine W.widen (k := 21 * i31 + 3 * i63 + 42) (n := 6 * (21 * i31 + 3 * i63 + 42)) (by omega) (by omega) ?_
                                                                                              refine lv_sipush (v := (-1201)) hx hb dL_isRefused_808 (by decide) ?_
                                                                                              refine lv_icmp_ne (tgt := 928) hx hb dL_isRefused_811 (by decide) (fun c_73 => ?_) (fun c_73 => ?_)
                                                                                              · skip
                                                                                                exact absurd c_73 (by decide)
                                                                                              · skip
                                                                                                refine lv_iload hx hb dL_isRefused_814 (lv_at hl 0 rfl) ?_
                                                                                                refine lv_if_eq (tgt := 859) hx hb dL_isRefused_816 (by decide) (fun c_74 => ?_) (fun c_74 => ?_)
                                                                                                · skip
                                                                                                  refine lv_aload_n hx hb dL_isRefused_859 rfl (lv_at hl 10 rfl) ?_
                                                                                                  refine lv_bipush (v := 8) hx hb dL_isRefused_860 (by decide) ?_
                                                                                                  refine lv_iload hx hb dL_isRefused_862 (lv_at hl 3 rfl) ?_
                                                                                                  refine lv_imul hx hb dL_isRefused_864 ?_
                                                                                                  refine q_top (y := nI (8 * i31)) (pk_mul 8 i31) ?_
                                                                                                  refine lv_iload hx hb dL_isRefused_865 (lv_at hl 1 rfl) ?_
                                                                                                  refine lv_iadd hx hb dL_isRefused_867 ?_
                                                                                                  refine q_top (y := nI (8 * i31 + i63)) (nI_add (8 * i31) i63) ?_
                                                                                                  refine g_ld (n := 40) (i := (8 * i31 + i63)) C hw 2 rfl (by omega) (Nat.le_of_ble_eq_true rfl) dL_isRefused_868 ?_
                                                                                                  refine q_top (y := 0) (fh _) ?_
                                                                                                  refine lv_iconst (v := 3) hx hb dL_isRefused_869 (by decide) ?_
                                                                                                  refine lv_iand hx hb dL_isRefused_870 ?_
                                                                                                  refine q_top (y := 0) (by decide) ?_
                                                                                                  refine lv_iconst (v := 3) hx hb dL_isRefused_871 (by decide) ?_
                                                                                                  refine lv_icmp_lt (tgt := 893) hx hb dL_isRefused_872 (by decide) (fun c_75 => ?_) (fun c_75 => ?_)
                                                                                                  · skip
                                                                                                    refine lv_aload_n hx hb dL_isRefused_893 rfl (lv_at hl 11 rfl) ?_
                                                                                                    refine lv_iload hx hb dL_isRefused_894 (lv_at hl 3 rfl) ?_
                                                                                                    refine g_ld (n := 5) (i := i31) C hw 3 rfl (by omega) (Nat.le_of_ble_eq_true rfl) dL_isRefused_896 ?_
                                                                                                    refine q_top (y := 0) (ff _) ?_
                                                                                                    refine lv_iload hx hb dL_isRefused_897 (lv_at hl 1 rfl) ?_
                                                                                                    refine lv_ishr hx hb dL_isRefused_899 ?_
                                                                                                    refine q_top (y := 0) (shr_0 _) ?_
                                                                                                    refine lv_iconst (v := 1) hx hb dL_isRefused_900 (by decide) ?_
                                                                                                    refine lv_iand hx hb dL_isRefused_901 ?_
                                                                                                    refine q_top (y := 0) (by decide) ?_
                                                                                                    refine lv_iconst (v := 1) hx hb dL_isRefused_902 (by decide) ?_
                                                                                                    refine lv_icmp_eq (tgt := 924) hx hb dL_isRefused_903 (by decide) (fun c_76 => ?_) (fun c_76 => ?_)
                                                                                                    · skip
                                                                                                      exact absurd c_76 (by decide)
                                                                                                    · skip
                                                                                                      refine lv_aload_n hx hb dL_isRefused_906 rfl (lv_at hl 8 rfl) ?_
                                                                                                      refine lv_bipush (v := 7) hx hb dL_isRefused_907 (by decide) ?_
                                                                                                      refine lv_iload hx hb dL_isRefused_909 (lv_at hl 3 rfl) ?_
                                                                                                      refine lv_iload hx hb dL_isRefused_911 (lv_at hl 1 rfl) ?_
                                                                                                      refine lv_iconst (v := 0) hx hb dL_isRefused_913 (by decide) ?_
                                                                                                      refine lv_iconst (v := 0) hx hb dL_isRefused_914 (by decide) ?_
                                                                                                      refine g_hlW (rest := []) C hw (h_act_7S C.1.2.2.2.2 C.2.2.1 C.2.2.2.1 hw.2.2.2 (nI i31) (nI i63) (0) (0) (f_clear_s hw.2.2.2 (by omega) (by omega))) ck_L_act v_332 hl.1 rfl ⟨Nat.le_of_ble_eq_true rfl, Nat.le_of_ble_eq_true rfl⟩ (Nat.le_of_ble_eq_true rfl) dL_isRefused_915 ⟨by omega, by omega⟩ (fun v S H locs hpo hle hw => ?_)
                                                                                                      obtain ⟨rfl, hgr⟩ := hpo
                                                                                                      have hN : s.heap.size + (19) ≤ H.size := by omega
                                                                                                      refine W.widen (k := 21 * i31 + 3 * i63 + 43) (n := 6 * (21 * i31 + 3 * i63 + 43)) (by omega) (by omega) ?_
                                                                                                      refine lv_sipush (v := (-1203)) hx hb dL_isRefused_918 (by decide) ?_
                                                                                                      refine lv_icmp_ne (tgt := 928) hx hb dL_isRefused_921 (by decide) (fun c_77 => ?_) (fun c_77 => ?_)
                                                                                                      · skip
                                                                                                        exact absurd c_77 (by decide)
                                                                                                      · skip
                                                                                                        refine lv_iconst (v := 1) hx hb dL_isRefused_924 (by decide) ?_
                                                                                                        refine lv_goto (tgt := 929) hx hb dL_isRefused_925 (by decide) ?_
                                                                                                        refine lv_istore (lv' := [(11, .int 1), (14, .int 0), (13, .int (nI i63)), (12, .int (nI i31)), (9, .long z4), (8, .int (nI (m0 + 1))), (7, .int (nI (m1 + 1))), (6, .int 0), (0, .ref (ad 0)), (1, .ref (aa 0)), (2, .ref (aa 2)), (3, .ref (aa 3)), (4, .ref (aa 5)), (5, .int 1)]) hx hb dL_isRefused_929 hl (by decide) rfl (fun ls hl => ?_)
                                                                                                        refine lv_iinc (v := nI (i63 + 1)) (lv' := [(13, .int (nI (i63 + 1))), (11, .int 1), (14, .int 0), (12, .int (nI i31)), (9, .long z4), (8, .int (nI (m0 + 1))), (7, .int (nI (m1 + 1))), (6, .int 0), (0, .ref (ad 0)), (1, .ref (aa 0)), (2, .ref (aa 2)), (3, .ref (aa 3)), (4, .ref (aa 5)), (5, .int 1)]) hx hb dL_isRefused_931 hl (k := 2) rfl (nI_1 i63) (by decide) rfl (fun ls hl => ?_)
                                                                                                        refine lv_goto (tgt := 712) hx hb dL_isRefused_934 (by decide) ?_
                                                                                                        refine W.widen (k := 21 * i31 + 3 * (i63 + 1) + 40) (n := 6 * (21 * i31 + 3 * (i63 + 1) + 40)) (by omega) (by omega) ?_
                                                                                                        exact ih_712 (i63 + 1) (by omega) (by omega) (by omega) S H locs hw (by omega)  ls (lv_sub hl [0, 1, 3, 4, 5, 6, 7, 8, 9, 10, 11, 12, 13] rfl)
                                                                                                  · skip
                                                                                                    exact absurd c_75 (by decide)
                                                                                                · skip
                                                                                                  exact absurd c_74 (by decide)
                                                                                          · skip
                                                                                            exact absurd c_71 (by decide)
                                                                                        · skip
                                                                                          exact absurd c_70 (by decide)
                                                                            refine W.widen (k := 21 * i31 + 3 * (0) + 40) (n := 6 * (21 * i31 + 3 * (0) + 40)) (by omega) (by omega) ?_
                                                                            exact hloop_712_65 (m0 + 1) (0) (by omega) (by omega) (by omega) S H locs hw (by omega)  ls (lv_sub hl [0, 1, 2, 3, 4, 5, 6, 7, 8, 9, 10, 11, 12] rfl)
                                                                          have hloop_655_78 : ∀ (n i61 : Nat), i61 ≤ 8 → 8 < i61 + n → 0 ≤ i61 → ∀ (S : Mem) (H : Heap) (locs : List Loc), GW D cI (aC ad cI) ad aa fa m0 m1 s S H locs → s.heap.size + (19) ≤ H.size → ∀ ls : Array Slot, lv_has ls 15 [(13, .int (nI i61)), (11, .int 1), (12, .int (nI i31)), (9, .long z4), (8, .int (nI (m0 + 1))), (7, .int (nI (m1 + 1))), (6, .int 0), (0, .ref (ad 0)), (1, .ref (aa 0)), (2, .ref (aa 2)), (3, .ref (aa 3)), (4, .ref (aa 5)), (5, .int 1)] → W p l e (rg 10 150) s m args below meth c H locs (21 * i31 + 1 * i61 + 32) (6 * (21 * i31 + 1 * i61 + 32)) (MQ below (QG D cI ad m0 m1 (pR)) args s 150 (6 * 150) (aC ad cI)) (F0 m 655 ls []) := by
                                                                            intro n
                                                                            induction n with
                                                                            | zero => intro i61 h1 h2; exact absurd h2 (by omega)
                                                                            | succ n ih_655 =>
                                                                              intro i61 hi_655 hn_655 hs_655 S H locs hw hN ls hl
                                                                              refine lv_iload hx hb dL_isRefused_655 (lv_at hl 0 rfl) ?_
                                                                              refine lv_bipush (v := 8) hx hb dL_isRefused_657 (by decide) ?_
                                                                              refine lv_icmp_ge (tgt := 709) hx hb dL_isRefused_659 (by decide) (fun c_79 => ?_) (fun c_79 => ?_)
                                                                              · skip
                                                                                have c_79 : 8 ≤ i61 := n_le (a := 8) (b := i61) (by omega) (by omega) c_79
                                                                                refine W.widen (k := 21 * i31 + 40) (n := 6 * (21 * i31 + 40)) (by omega) (by omega) ?_
                                                                                exact hj_709_62 S H locs hw (by omega)  ls (lv_sub hl [1, 2, 3, 4, 5, 6, 7, 8, 9, 10, 11, 12] rfl)
                                                                              · skip
                                                                                have c_79 : i61 < 8 := n_nle (a := 8) (b := i61) (by omega) (by omega) c_79
                                                                                refine lv_iload hx hb dL_isRefused_662 (lv_at hl 1 rfl) ?_
                                                                                refine lv_if_eq (tgt := 709) hx hb dL_isRefused_664 (by decide) (fun c_80 => ?_) (fun c_80 => ?_)
                                                                                · skip
                                                                                  exact absurd c_80 (by decide)
                                                                                · skip
                                                                                  refine lv_iload hx hb dL_isRefused_667 (lv_at hl 0 rfl) ?_
                                                                                  refine lv_iconst (v := 2) hx hb dL_isRefused_669 (by decide) ?_
                                                                                  refine lv_icmp_le (tgt := 680) hx hb dL_isRefused_670 (by decide) (fun c_81 => ?_) (fun c_81 => ?_)
                                                                                  · skip
                                                                                    have c_81 : i61 ≤ 2 := n_le (a := i61) (b := 2) (by omega) (by omega) c_81
                                                                                    refine lv_aload_n hx hb dL_isRefused_680 rfl (lv_at hl 7 rfl) ?_
                                                                                    refine lv_iload hx hb dL_isRefused_681 (lv_at hl 0 rfl) ?_
                                                                                    refine lv_iload hx hb dL_isRefused_683 (lv_at hl 2 rfl) ?_
                                                                                    refine lv_iload hx hb dL_isRefused_685 (lv_at hl 4 rfl) ?_
                                                                                    refine g_hlW (rest := []) C hw (of_bad2 C.1.2.2.2.2 C.2.2.1 C.2.2.2.1 hw.2.2.2 (w := i61) ⟨by omega, by omega⟩ (nI i31) (nI (m0 + 1)) (okT hw.2.2.2 (t := i31) (by omega)) (noR hw.2.2.2 (by omega) (by omega))) ck_L_of v_516 hl.1 rfl ⟨Nat.le_of_ble_eq_true rfl, Nat.le_of_ble_eq_true rfl⟩ (Nat.le_of_ble_eq_true rfl) dL_isRefused_687 ⟨by omega, by omega⟩ (fun v S H locs hpo hle hw => ?_)
                                                                                    obtain ⟨rfl, hgr⟩ := hpo
                                                                                    have hN : s.heap.size + (19) ≤ H.size := by omega
                                                                                    refine W.widen (k := 21 * i31 + 1 * i61 + 33) (n := 6 * (21 * i31 + 1 * i61 + 33)) (by omega) (by omega) ?_
                                                                                    refine lv_sipush (v := (-1201)) hx hb dL_isRefused_690 (by decide) ?_
                                                                                    refine lv_icmp_ne (tgt := 700) hx hb dL_isRefused_693 (by decide) (fun c_82 => ?_) (fun c_82 => ?_)
                                                                                    · skip
                                                                                      exact absurd c_82 (by decide)
                                                                                    · skip
                                                                                      refine lv_iconst (v := 1) hx hb dL_isRefused_696 (by decide) ?_
                                                                                      refine lv_goto (tgt := 701) hx hb dL_isRefused_697 (by decide) ?_
                                                                                      refine lv_istore (lv' := [(11, .int 1), (13, .int (nI i61)), (12, .int (nI i31)), (9, .long z4), (8, .int (nI (m0 + 1))), (7, .int (nI (m1 + 1))), (6, .int 0), (0, .ref (ad 0)), (1, .ref (aa 0)), (2, .ref (aa 2)), (3, .ref (aa 3)), (4, .ref (aa 5)), (5, .int 1)]) hx hb dL_isRefused_701 hl (by decide) rfl (fun ls hl => ?_)
                                                                                      refine lv_iinc (v := nI (i61 + 1)) (lv' := [(13, .int (nI (i61 + 1))), (11, .int 1), (12, .int (nI i31)), (9, .long z4), (8, .int (nI (m0 + 1))), (7, .int (nI (m1 + 1))), (6, .int 0), (0, .ref (ad 0)), (1, .ref (aa 0)), (2, .ref (aa 2)), (3, .ref (aa 3)), (4, .ref (aa 5)), (5, .int 1)]) hx hb dL_isRefused_703 hl (k := 1) rfl (nI_1 i61) (by decide) rfl (fun ls hl => ?_)
                                                                                      refine lv_goto (tgt := 655) hx hb dL_isRefused_706 (by decide) ?_
                                                                                      refine W.widen (k := 21 * i31 + 1 * (i61 + 1) + 32) (n := 6 * (21 * i31 + 1 * (i61 + 1) + 32)) (by omega) (by omega) ?_
                                                                                      exact ih_655 (i61 + 1) (by omega) (by omega) (by omega) S H locs hw (by omega)  ls (lv_sub hl [0, 1, 2, 3, 4, 5, 6, 7, 8, 9, 10, 11, 12] rfl)
                                                                                  · skip
                                                                                    have c_81 : 2 < i61 := n_nle (a := i61) (b := 2) (by omega) (by omega) c_81
                                                                                    refine lv_iload hx hb dL_isRefused_673 (lv_at hl 0 rfl) ?_
                                                                                    refine lv_bipush (v := 6) hx hb dL_isRefused_675 (by decide) ?_
                                                                                    refine lv_icmp_lt (tgt := 696) hx hb dL_isRefused_677 (by decide) (fun c_83 => ?_) (fun c_83 => ?_)
                                                                                    · skip
                                                                                      have c_83 : i61 < 6 := n_lt (a := i61) (b := 6) (by omega) (by omega) c_83
                                                                                      refine lv_iconst (v := 1) hx hb dL_isRefused_696 (by decide) ?_
                                                                                      refine lv_goto (tgt := 701) hx hb dL_isRefused_697 (by decide) ?_
                                                                                      refine lv_istore (lv' := [(11, .int 1), (13, .int (nI i61)), (12, .int (nI i31)), (9, .long z4), (8, .int (nI (m0 + 1))), (7, .int (nI (m1 + 1))), (6, .int 0), (0, .ref (ad 0)), (1, .ref (aa 0)), (2, .ref (aa 2)), (3, .ref (aa 3)), (4, .ref (aa 5)), (5, .int 1)]) hx hb dL_isRefused_701 hl (by decide) rfl (fun ls hl => ?_)
                                                                                      refine lv_iinc (v := nI (i61 + 1)) (lv' := [(13, .int (nI (i61 + 1))), (11, .int 1), (12, .int (nI i31)), (9, .long z4), (8, .int (nI (m0 + 1))), (7, .int (nI (m1 + 1))), (6, .int 0), (0, .ref (ad 0)), (1, .ref (aa 0)), (2, .ref (aa 2)), (3, .ref (aa 3)), (4, .ref (aa 5)), (5, .int 1)]) hx hb dL_isRefused_703 hl (k := 1) rfl (nI_1 i61) (by decide) rfl (fun ls hl => ?_)
                                                                                      refine lv_goto (tgt := 655) hx hb dL_isRefused_706 (by decide) ?_
                                                                                      refine W.widen (k := 21 * i31 + 1 * (i61 + 1) + 32) (n := 6 * (21 * i31 + 1 * (i61 + 1) + 32)) (by omega) (by omega) ?_
                                                                                      exact ih_655 (i61 + 1) (by omega) (by omega) (by omega) S H locs hw (by omega)  ls (lv_sub hl [0, 1, 2, 3, 4, 5, 6, 7, 8, 9, 10, 11, 12] rfl)
                                                                                    · skip
                                                                                      have c_83 : 6 ≤ i61 := n_nlt (a := i61) (b := 6) (by omega) (by omega) c_83
                                                                                      refine lv_aload_n hx hb dL_isRefused_680 rfl (lv_at hl 7 rfl) ?_
                                                                                      refine lv_iload hx hb dL_isRefused_681 (lv_at hl 0 rfl) ?_
                                                                                      refine lv_iload hx hb dL_isRefused_683 (lv_at hl 2 rfl) ?_
                                                                                      refine lv_iload hx hb dL_isRefused_685 (lv_at hl 4 rfl) ?_
                                                                                      refine g_hlW (rest := []) C hw (of_bad2 C.1.2.2.2.2 C.2.2.1 C.2.2.2.1 hw.2.2.2 (w := i61) ⟨by omega, by omega⟩ (nI i31) (nI (m0 + 1)) (okT hw.2.2.2 (t := i31) (by omega)) (noR hw.2.2.2 (by omega) (by omega))) ck_L_of v_516 hl.1 rfl ⟨Nat.le_of_ble_eq_true rfl, Nat.le_of_ble_eq_true rfl⟩ (Nat.le_of_ble_eq_true rfl) dL_isRefused_687 ⟨by omega, by omega⟩ (fun v S H locs hpo hle hw => ?_)
                                                                                      obtain ⟨rfl, hgr⟩ := hpo
                                                                                      have hN : s.heap.size + (19) ≤ H.size := by omega
                                                                                      refine W.widen (k := 21 * i31 + 1 * i61 + 33) (n := 6 * (21 * i31 + 1 * i61 + 33)) (by omega) (by omega) ?_
                                                                                      refine lv_sipush (v := (-1201)) hx hb dL_isRefused_690 (by decide) ?_
                                                                                      refine lv_icmp_ne (tgt := 700) hx hb dL_isRefused_693 (by decide) (fun c_84 => ?_) (fun c_84 => ?_)
                                                                                      · skip
                                                                                        exact absurd c_84 (by decide)
                                                                                      · skip
                                                                                        refine lv_iconst (v := 1) hx hb dL_isRefused_696 (by decide) ?_
                                                                                        refine lv_goto (tgt := 701) hx hb dL_isRefused_697 (by decide) ?_
                                                                                        refine lv_istore (lv' := [(11, .int 1), (13, .int (nI i61)), (12, .int (nI i31)), (9, .long z4), (8, .int (nI (m0 + 1))), (7, .int (nI (m1 + 1))), (6, .int 0), (0, .ref (ad 0)), (1, .ref (aa 0)), (2, .ref (aa 2)), (3, .ref (aa 3)), (4, .ref (aa 5)), (5, .int 1)]) hx hb dL_isRefused_701 hl (by decide) rfl (fun ls hl => ?_)
                                                                                        refine lv_iinc (v := nI (i61 + 1)) (lv' := [(13, .int (nI (i61 + 1))), (11, .int 1), (12, .int (nI i31)), (9, .long z4), (8, .int (nI (m0 + 1))), (7, .int (nI (m1 + 1))), (6, .int 0), (0, .ref (ad 0)), (1, .ref (aa 0)), (2, .ref (aa 2)), (3, .ref (aa 3)), (4, .ref (aa 5)), (5, .int 1)]) hx hb dL_isRefused_703 hl (k := 1) rfl (nI_1 i61) (by decide) rfl (fun ls hl => ?_)
                                                                                        refine lv_goto (tgt := 655) hx hb dL_isRefused_706 (by decide) ?_
                                                                                        refine W.widen (k := 21 * i31 + 1 * (i61 + 1) + 32) (n := 6 * (21 * i31 + 1 * (i61 + 1) + 32)) (by omega) (by omega) ?_
                                                                                        exact ih_655 (i61 + 1) (by omega) (by omega) (by omega) S H locs hw (by omega)  ls (lv_sub hl [0, 1, 2, 3, 4, 5, 6, 7, 8, 9, 10, 11, 12] rfl)
                                                                          refine W.widen (k := 21 * i31 + 1 * (0) + 32) (n := 6 * (21 * i31 + 1 * (0) + 32)) (by omega) (by omega) ?_
                                                                          exact hloop_655_78 (8 + 1) (0) (by omega) (by omega) (by omega) S H locs hw (by omega)  ls (lv_sub hl [0, 1, 2, 3, 4, 5, 6, 7, 8, 9, 10, 11, 12] rfl)
                                                          refine W.widen (k := 21 * (0) + 28) (n := 6 * (21 * (0) + 28)) (by omega) (by omega) ?_
                                                          exact hloop_565_54 (m1 + 1) (0) (by omega) (by omega) (by omega) S H locs hw (by omega)  ls (lv_sub hl [0, 1, 2, 3, 4, 5, 6, 7, 8, 9, 10, 11] rfl)
                                                        have hloop_522_85 : ∀ (n i29 : Nat), i29 ≤ 13 → 13 < i29 + n → 9 ≤ i29 → ∀ (S : Mem) (H : Heap) (locs : List Loc), GW D cI (aC ad cI) ad aa fa m0 m1 s S H locs → s.heap.size + (1 * i29 + 6) ≤ H.size → ∀ ls : Array Slot, lv_has ls 15 [(12, .int (nI i29)), (11, .int 1), (9, .long z4), (8, .int (nI (m0 + 1))), (7, .int (nI (m1 + 1))), (6, .int 0), (0, .ref (ad 0)), (1, .ref (aa 0)), (2, .ref (aa 2)), (3, .ref (aa 3)), (4, .ref (aa 5)), (5, .int 1)] → W p l e (rg 10 150) s m args below meth c H locs (1 * i29 + 15) (6 * (1 * i29 + 15)) (MQ below (QG D cI ad m0 m1 (pR)) args s 150 (6 * 150) (aC ad cI)) (F0 m 522 ls []) := by
                                                          intro n
                                                          induction n with
                                                          | zero => intro i29 h1 h2; exact absurd h2 (by omega)
                                                          | succ n ih_522 =>
                                                            intro i29 hi_522 hn_522 hs_522 S H locs hw hN ls hl
                                                            refine lv_iload hx hb dL_isRefused_522 (lv_at hl 0 rfl) ?_
                                                            refine lv_bipush (v := 13) hx hb dL_isRefused_524 (by decide) ?_
                                                            refine lv_icmp_ge (tgt := 562) hx hb dL_isRefused_526 (by decide) (fun c_86 => ?_) (fun c_86 => ?_)
                                                            · skip
                                                              have c_86 : 13 ≤ i29 := n_le (a := 13) (b := i29) (by omega) (by omega) c_86
                                                              refine W.widen (k := 28) (n := 6 * (28)) (by omega) (by omega) ?_
                                                              exact hj_562_30 S H locs hw (by omega)  ls (lv_sub hl [1, 2, 3, 4, 5, 6, 7, 8, 9, 10, 11] rfl)
                                                            · skip
                                                              have c_86 : i29 < 13 := n_nle (a := 13) (b := i29) (by omega) (by omega) c_86
                                                              refine lv_iload hx hb dL_isRefused_529 (lv_at hl 1 rfl) ?_
                                                              refine lv_if_eq (tgt := 562) hx hb dL_isRefused_531 (by decide) (fun c_87 => ?_) (fun c_87 => ?_)
                                                              · skip
                                                                exact absurd c_87 (by decide)
                                                              · skip
                                                                refine lv_aload_n hx hb dL_isRefused_534 rfl (lv_at hl 6 rfl) ?_
                                                                refine lv_iload hx hb dL_isRefused_535 (lv_at hl 0 rfl) ?_
                                                                refine lv_iload hx hb dL_isRefused_537 (lv_at hl 4 rfl) ?_
                                                                refine lv_iconst (v := 0) hx hb dL_isRefused_539 (by decide) ?_
                                                                refine g_hlW (rest := []) C hw (of_bad C.1.2.2.2.2 C.2.2.1 C.2.2.2.1 hw.2.2.2 (w := i29) ⟨by omega, by omega⟩ (nI (m1 + 1)) (0) (noT hw.2.2.2 (by omega) (by omega))) ck_L_of v_516 hl.1 rfl ⟨Nat.le_of_ble_eq_true rfl, Nat.le_of_ble_eq_true rfl⟩ (Nat.le_of_ble_eq_true rfl) dL_isRefused_540 ⟨by omega, by omega⟩ (fun v S H locs hpo hle hw => ?_)
                                                                obtain ⟨rfl, hgr⟩ := hpo
                                                                have hN : s.heap.size + (1 * i29 + 7) ≤ H.size := by omega
                                                                refine W.widen (k := 1 * i29 + 16) (n := 6 * (1 * i29 + 16)) (by omega) (by omega) ?_
                                                                refine lv_sipush (v := (-1201)) hx hb dL_isRefused_543 (by decide) ?_
                                                                refine lv_icmp_ne (tgt := 553) hx hb dL_isRefused_546 (by decide) (fun c_88 => ?_) (fun c_88 => ?_)
                                                                · skip
                                                                  exact absurd c_88 (by decide)
                                                                · skip
                                                                  refine lv_iconst (v := 1) hx hb dL_isRefused_549 (by decide) ?_
                                                                  refine lv_goto (tgt := 554) hx hb dL_isRefused_550 (by decide) ?_
                                                                  refine lv_istore (lv' := [(11, .int 1), (12, .int (nI i29)), (9, .long z4), (8, .int (nI (m0 + 1))), (7, .int (nI (m1 + 1))), (6, .int 0), (0, .ref (ad 0)), (1, .ref (aa 0)), (2, .ref (aa 2)), (3, .ref (aa 3)), (4, .ref (aa 5)), (5, .int 1)]) hx hb dL_isRefused_554 hl (by decide) rfl (fun ls hl => ?_)
                                                                  refine lv_iinc (v := nI (i29 + 1)) (lv' := [(12, .int (nI (i29 + 1))), (11, .int 1), (9, .long z4), (8, .int (nI (m0 + 1))), (7, .int (nI (m1 + 1))), (6, .int 0), (0, .ref (ad 0)), (1, .ref (aa 0)), (2, .ref (aa 2)), (3, .ref (aa 3)), (4, .ref (aa 5)), (5, .int 1)]) hx hb dL_isRefused_556 hl (k := 1) rfl (nI_1 i29) (by decide) rfl (fun ls hl => ?_)
                                                                  refine lv_goto (tgt := 522) hx hb dL_isRefused_559 (by decide) ?_
                                                                  refine W.widen (k := 1 * (i29 + 1) + 15) (n := 6 * (1 * (i29 + 1) + 15)) (by omega) (by omega) ?_
                                                                  exact ih_522 (i29 + 1) (by omega) (by omega) (by omega) S H locs hw (by omega)  ls (lv_sub hl [0, 1, 2, 3, 4, 5, 6, 7, 8, 9, 10, 11] rfl)
                                                        refine W.widen (k := 1 * (9) + 15) (n := 6 * (1 * (9) + 15)) (by omega) (by omega) ?_
                                                        exact hloop_522_85 (13 + 1) (9) (by omega) (by omega) (by omega) S H locs hw (by omega)  ls (lv_sub hl [0, 1, 2, 3, 4, 5, 6, 7, 8, 9, 10, 11] rfl)
                                                      · skip
                                                        exact absurd c_28 (by decide)
                                              · skip
                                                exact absurd c_24 (by decide)
                                          · skip
                                            exact absurd c_22 (by decide)
                                      · skip
                                        exact absurd c_20 (by decide)
                        · skip
                          exact absurd c_13 (by decide)
                    · skip
                      exact absurd c_11 (by decide)
                · skip
                  exact absurd c_9 (by decide)
            · skip
              exact absurd c_7 (by decide)
        · skip
          exact absurd c_5 (by decide)
      · skip
        exact absurd c_3 (by decide)
    · skip
      exact absurd c_2 (by decide)
  · skip
    exact absurd c_1 (by decide)

