/-! p29: the law's turns -/
set_option maxHeartbeats 8000000 in
set_option maxRecDepth 100000 in
theorem lx_init {p : Program} {l : Launch} {e : Env} {s : State} {m : MethodId} {args : Array Value} {below : List Frame} {meth : Method} {c : Code} {b L : Nat} {xs : Nat → Int32} {D : va_G} {cI cZ cL : ClassId} {ad aa : Nat → Nat} (X : LX p l s m meth c b L xs D cI cZ cL ad aa) {fa S : Mem} {H : Heap} {locs : List Loc} {ls : Array Slot} (hfa : FA fa 0 0) (hw : GW D cI (fun q => s.heap.size ≤ q) ad aa fa 0 0 s S H locs) (hN : s.heap.size + 42 ≤ H.size) (hl : lv_has ls 20 [(0, .ref b), (1, .ref (ad 0)), (2, .ref (aa 0)), (3, .ref (aa 1)), (4, .ref (aa 2)), (5, .ref (aa 3)), (6, .ref (aa 4)), (7, .ref (aa 5)), (8, .ref (aa 6))])
    (kk : ∀ (fa S : Mem) (H : Heap) (locs : List Loc) (ls : Array Slot), FA fa 0 0 → GW D cI (fun q => s.heap.size ≤ q) ad aa fa 0 0 s S H locs → s.heap.size + LB 0 ≤ H.size → lv_has ls 20 [(9, .int (bI true)), (10, .int (nI 0)), (0, .ref b), (1, .ref (ad 0)), (2, .ref (aa 0)), (3, .ref (aa 1)), (4, .ref (aa 2)), (5, .ref (aa 3)), (6, .ref (aa 4)), (7, .ref (aa 5)), (8, .ref (aa 6))] → W p l e (rg 20 20000) s m args below meth c H locs (1000) (6 * (1000)) (MQ below QL args s 20000 (6 * 20000) (fun q => s.heap.size ≤ q)) (F0 m 90 ls [])) :
    W p l e (rg 20 20000) s m args below meth c H locs (600) (6 * (600)) (MQ below QL args s 20000 (6 * 20000) (fun q => s.heap.size ≤ q)) (F0 m 50 ls []) := by
  have C := X.1
  have hx := X.1.1.1
  have hb := X.1.1.2.1
  have hown := X.1.1.2.2.2.1
  unfold LB at kk
  have hN : s.heap.size + (42) ≤ H.size := hN
  obtain ⟨⟨hm0, hm1⟩, ⟨f50, f51, f52, f54⟩, fh, ff, fr⟩ := id hfa
  refine lv_aload_n hx hb dL_law_50 rfl (lv_at hl 1 rfl) ?_
  refine lv_aload_n hx hb dL_law_51 rfl (lv_at hl 2 rfl) ?_
  refine lv_aload hx hb dL_law_52 (lv_at hl 4 rfl) ?_
  refine lv_aload hx hb dL_law_54 (lv_at hl 5 rfl) ?_
  refine lv_aload hx hb dL_law_56 (lv_at hl 7 rfl) ?_
  refine lv_iconst (v := 0) hx hb dL_law_58 (by decide) ?_
  refine g_hl (rest := []) C hw (t_isRefused0 C.1.2.2.2.2 C.2.2.1 C.2.2.2.1 hfa hw.2.2.2) ck_L_isRefused v_690 hl.1 rfl ⟨Nat.le_of_ble_eq_true rfl, Nat.le_of_ble_eq_true rfl⟩ (Nat.le_of_ble_eq_true rfl) dL_law_59 ⟨by omega, by omega⟩ (fun v S H locs hpo hle hw => ?_)
  obtain ⟨⟨z1, rfl⟩, hgr⟩ := hpo
  have hN : s.heap.size + (61) ≤ H.size := by omega
  refine W.widen (k := 750) (n := 6 * (750)) (by omega) (by omega) ?_
  refine lv_if_eq (tgt := 84) hx hb dL_law_62 (by decide) (fun c_2 => ?_) (fun c_2 => ?_)
  · skip
    have c_2 : z1 = false := b_f c_2
    subst c_2
    refine lv_iconst (v := 0) hx hb dL_law_84 (by decide) ?_
    refine lv_istore (lv' := [(9, .int 0), (0, .ref b), (1, .ref (ad 0)), (2, .ref (aa 0)), (3, .ref (aa 1)), (4, .ref (aa 2)), (5, .ref (aa 3)), (6, .ref (aa 4)), (7, .ref (aa 5)), (8, .ref (aa 6))]) hx hb dL_law_85 hl (by decide) rfl (fun ls hl => ?_)
    refine lv_iconst (v := 0) hx hb dL_law_87 (by decide) ?_
    refine lv_istore (lv' := [(10, .int 0), (9, .int 0), (0, .ref b), (1, .ref (ad 0)), (2, .ref (aa 0)), (3, .ref (aa 1)), (4, .ref (aa 2)), (5, .ref (aa 3)), (6, .ref (aa 4)), (7, .ref (aa 5)), (8, .ref (aa 6))]) hx hb dL_law_88 hl (by decide) rfl (fun ls hl => ?_)
    exact lx_end0 (n := 0) X hw (by omega) ⟨by omega, by omega⟩ (lv_sub hl [1, 0] rfl)
  · skip
    have c_2 : z1 = true := b_t c_2
    subst c_2
    refine lv_aload_n hx hb dL_law_65 rfl (lv_at hl 1 rfl) ?_
    refine lv_aload_n hx hb dL_law_66 rfl (lv_at hl 2 rfl) ?_
    refine lv_aload hx hb dL_law_67 (lv_at hl 4 rfl) ?_
    refine lv_aload hx hb dL_law_69 (lv_at hl 5 rfl) ?_
    refine lv_aload hx hb dL_law_71 (lv_at hl 7 rfl) ?_
    refine lv_iconst (v := 1) hx hb dL_law_73 (by decide) ?_
    refine g_hl (rest := []) C hw (t_isRefused1 C.1.2.2.2.2 C.2.2.1 C.2.2.2.1 hfa hw.2.2.2) ck_L_isRefused v_690 hl.1 rfl ⟨Nat.le_of_ble_eq_true rfl, Nat.le_of_ble_eq_true rfl⟩ (Nat.le_of_ble_eq_true rfl) dL_law_74 ⟨by omega, by omega⟩ (fun v S H locs hpo hle hw => ?_)
    obtain ⟨⟨z3, rfl⟩, hgr⟩ := hpo
    have hN : s.heap.size + (80) ≤ H.size := by omega
    refine W.widen (k := 900) (n := 6 * (900)) (by omega) (by omega) ?_
    refine lv_if_eq (tgt := 84) hx hb dL_law_77 (by decide) (fun c_4 => ?_) (fun c_4 => ?_)
    · skip
      have c_4 : z3 = false := b_f c_4
      subst c_4
      refine lv_iconst (v := 0) hx hb dL_law_84 (by decide) ?_
      refine lv_istore (lv' := [(9, .int 0), (0, .ref b), (1, .ref (ad 0)), (2, .ref (aa 0)), (3, .ref (aa 1)), (4, .ref (aa 2)), (5, .ref (aa 3)), (6, .ref (aa 4)), (7, .ref (aa 5)), (8, .ref (aa 6))]) hx hb dL_law_85 hl (by decide) rfl (fun ls hl => ?_)
      refine lv_iconst (v := 0) hx hb dL_law_87 (by decide) ?_
      refine lv_istore (lv' := [(10, .int 0), (9, .int 0), (0, .ref b), (1, .ref (ad 0)), (2, .ref (aa 0)), (3, .ref (aa 1)), (4, .ref (aa 2)), (5, .ref (aa 3)), (6, .ref (aa 4)), (7, .ref (aa 5)), (8, .ref (aa 6))]) hx hb dL_law_88 hl (by decide) rfl (fun ls hl => ?_)
      exact lx_end0 (n := 0) X hw (by omega) ⟨by omega, by omega⟩ (lv_sub hl [1, 0] rfl)
    · skip
      have c_4 : z3 = true := b_t c_4
      subst c_4
      refine lv_iconst (v := 1) hx hb dL_law_80 (by decide) ?_
      refine lv_goto (tgt := 85) hx hb dL_law_81 (by decide) ?_
      refine lv_istore (lv' := [(9, .int 1), (0, .ref b), (1, .ref (ad 0)), (2, .ref (aa 0)), (3, .ref (aa 1)), (4, .ref (aa 2)), (5, .ref (aa 3)), (6, .ref (aa 4)), (7, .ref (aa 5)), (8, .ref (aa 6))]) hx hb dL_law_85 hl (by decide) rfl (fun ls hl => ?_)
      refine lv_iconst (v := 0) hx hb dL_law_87 (by decide) ?_
      refine lv_istore (lv' := [(10, .int 0), (9, .int 1), (0, .ref b), (1, .ref (ad 0)), (2, .ref (aa 0)), (3, .ref (aa 1)), (4, .ref (aa 2)), (5, .ref (aa 3)), (6, .ref (aa 4)), (7, .ref (aa 5)), (8, .ref (aa 6))]) hx hb dL_law_88 hl (by decide) rfl (fun ls hl => ?_)
      refine W.widen (k := 1000) (n := 6 * (1000)) (by omega) (by omega) ?_
      exact kk _ _ _ _ _ hfa hw (by omega) (lv_sub hl [1, 0, 2, 3, 4, 5, 6, 7, 8, 9, 10] rfl)
set_option maxHeartbeats 8000000 in
set_option maxRecDepth 100000 in
theorem lx_T0 {p : Program} {l : Launch} {e : Env} {s : State} {m : MethodId} {args : Array Value} {below : List Frame} {meth : Method} {c : Code} {b L : Nat} {xs : Nat → Int32} {D : va_G} {cI cZ cL : ClassId} {ad aa : Nat → Nat} (X : LX p l s m meth c b L xs D cI cZ cL ad aa) {fa S : Mem} {H : Heap} {locs : List Loc} {ls : Array Slot} {q0 : Nat} (hq : q0 = LB 0) (hfa : FA fa 0 0) (hw : GW D cI (fun q => s.heap.size ≤ q) ad aa fa 0 0 s S H locs) (hN : s.heap.size + q0 ≤ H.size) (hl : lv_has ls 20 [(9, .int (bI true)), (10, .int (nI 0)), (0, .ref b), (1, .ref (ad 0)), (2, .ref (aa 0)), (3, .ref (aa 1)), (4, .ref (aa 2)), (5, .ref (aa 3)), (6, .ref (aa 4)), (7, .ref (aa 5)), (8, .ref (aa 6))])
    (kk : ∀ (fa S : Mem) (H : Heap) (locs : List Loc) (ls : Array Slot), FA fa 0 1 → GW D cI (fun q => s.heap.size ≤ q) ad aa fa 0 1 s S H locs → s.heap.size + LB 1 ≤ H.size → lv_has ls 20 [(9, .int (bI true)), (10, .int (nI 1)), (0, .ref b), (1, .ref (ad 0)), (2, .ref (aa 0)), (3, .ref (aa 1)), (4, .ref (aa 2)), (5, .ref (aa 3)), (6, .ref (aa 4)), (7, .ref (aa 5)), (8, .ref (aa 6))] → W p l e (rg 20 20000) s m args below meth c H locs (1159) (6 * (1159)) (MQ below QL args s 20000 (6 * 20000) (fun q => s.heap.size ≤ q)) (F0 m 90 ls [])) :
    W p l e (rg 20 20000) s m args below meth c H locs (1000) (6 * (1000)) (MQ below QL args s 20000 (6 * 20000) (fun q => s.heap.size ≤ q)) (F0 m 90 ls []) := by
  have C := X.1
  have hx := X.1.1.1
  have hb := X.1.1.2.1
  have hown := X.1.1.2.2.2.1
  unfold LB at hq kk
  have hN : s.heap.size + (1 * q0 + 0) ≤ H.size := by omega
  have hl : lv_has ls 20 [(9, .int (bI true)), (10, .int 0), (0, .ref b), (1, .ref (ad 0)), (2, .ref (aa 0)), (3, .ref (aa 1)), (4, .ref (aa 2)), (5, .ref (aa 3)), (6, .ref (aa 4)), (7, .ref (aa 5)), (8, .ref (aa 6))] := hl
  obtain ⟨⟨hm0, hm1⟩, ⟨f50, f51, f52, f54⟩, fh, ff, fr⟩ := id hfa
  refine lv_iload hx hb dL_law_90 (lv_at hl 1 rfl) ?_
  refine lv_bipush (v := 110) hx hb dL_law_92 (by decide) ?_
  refine lv_icmp_ge (tgt := 1311) hx hb dL_law_94 (by decide) (fun c_1 => ?_) (fun c_1 => ?_)
  · skip
    exact absurd c_1 (by decide)
  · skip
    refine lv_iload hx hb dL_law_97 (lv_at hl 0 rfl) ?_
    refine lv_if_eq (tgt := 1311) hx hb dL_law_99 (by decide) (fun c_2 => ?_) (fun c_2 => ?_)
    · skip
      exact absurd c_2 (by decide)
    · skip
      refine lv_aload_n hx hb dL_law_102 rfl (lv_at hl 2 rfl) ?_
      refine lv_iload hx hb dL_law_103 (lv_at hl 1 rfl) ?_
      refine g_dice (n := 0) X hw (by omega) hl.1 (Nat.le_of_ble_eq_true rfl) ⟨by omega, by omega⟩ dL_law_105 ?_
      refine lv_istore (lv' := [(11, .int 3), (9, .int (bI true)), (10, .int 0), (0, .ref b), (1, .ref (ad 0)), (2, .ref (aa 0)), (3, .ref (aa 1)), (4, .ref (aa 2)), (5, .ref (aa 3)), (6, .ref (aa 4)), (7, .ref (aa 5)), (8, .ref (aa 6))]) hx hb dL_law_108 hl (by decide) rfl (fun ls hl => ?_)
      refine lv_iload hx hb dL_law_110 (lv_at hl 0 rfl) ?_
      refine lv_bipush (v := 32) hx hb dL_law_112 (by decide) ?_
      refine lv_idiv hx hb dL_law_114 (by decide) ?_
      refine q_top (y := 0) (by decide) ?_
      refine lv_istore (lv' := [(12, .int 0), (11, .int 3), (9, .int (bI true)), (10, .int 0), (0, .ref b), (1, .ref (ad 0)), (2, .ref (aa 0)), (3, .ref (aa 1)), (4, .ref (aa 2)), (5, .ref (aa 3)), (6, .ref (aa 4)), (7, .ref (aa 5)), (8, .ref (aa 6))]) hx hb dL_law_115 hl (by decide) rfl (fun ls hl => ?_)
      refine lv_iload hx hb dL_law_117 (lv_at hl 1 rfl) ?_
      refine lv_bipush (v := 32) hx hb dL_law_119 (by decide) ?_
      refine lv_irem hx hb dL_law_121 (by decide) ?_
      refine q_top (y := 3) (by decide) ?_
      refine lv_istore (lv' := [(13, .int 3), (12, .int 0), (11, .int 3), (9, .int (bI true)), (10, .int 0), (0, .ref b), (1, .ref (ad 0)), (2, .ref (aa 0)), (3, .ref (aa 1)), (4, .ref (aa 2)), (5, .ref (aa 3)), (6, .ref (aa 4)), (7, .ref (aa 5)), (8, .ref (aa 6))]) hx hb dL_law_122 hl (by decide) rfl (fun ls hl => ?_)
      refine lv_aload hx hb dL_law_124 (lv_at hl 12 rfl) ?_
      refine lv_iconst (v := 1) hx hb dL_law_126 (by decide) ?_
      refine g_ld (n := 5) (i := 1) C hw 5 rfl (by omega) (Nat.le_of_ble_eq_true rfl) dL_law_127 ?_
      refine q_top (y := 0) (f51) ?_
      refine lv_if_ne (tgt := 135) hx hb dL_law_128 (by decide) (fun c_3 => ?_) (fun c_3 => ?_)
      · skip
        exact absurd c_3 (by decide)
      · skip
        refine lv_iconst (v := 0) hx hb dL_law_131 (by decide) ?_
        refine lv_goto (tgt := 142) hx hb dL_law_132 (by decide) ?_
        refine lv_istore (lv' := [(14, .int 0), (13, .int 3), (12, .int 0), (11, .int 3), (9, .int (bI true)), (10, .int 0), (0, .ref b), (1, .ref (ad 0)), (2, .ref (aa 0)), (3, .ref (aa 1)), (4, .ref (aa 2)), (5, .ref (aa 3)), (6, .ref (aa 4)), (7, .ref (aa 5)), (8, .ref (aa 6))]) hx hb dL_law_142 hl (by decide) rfl (fun ls hl => ?_)
        refine lv_aload hx hb dL_law_144 (lv_at hl 13 rfl) ?_
        refine lv_iconst (v := 0) hx hb dL_law_146 (by decide) ?_
        refine g_ld (n := 5) (i := 0) C hw 5 rfl (by omega) (Nat.le_of_ble_eq_true rfl) dL_law_147 ?_
        refine q_top (y := 0) (f50) ?_
        refine lv_if_ne (tgt := 155) hx hb dL_law_148 (by decide) (fun c_4 => ?_) (fun c_4 => ?_)
        · skip
          exact absurd c_4 (by decide)
        · skip
          refine lv_iconst (v := 0) hx hb dL_law_151 (by decide) ?_
          refine lv_goto (tgt := 164) hx hb dL_law_152 (by decide) ?_
          refine lv_istore (lv' := [(15, .int 0), (14, .int 0), (13, .int 3), (12, .int 0), (11, .int 3), (9, .int (bI true)), (10, .int 0), (0, .ref b), (1, .ref (ad 0)), (2, .ref (aa 0)), (3, .ref (aa 1)), (4, .ref (aa 2)), (5, .ref (aa 3)), (6, .ref (aa 4)), (7, .ref (aa 5)), (8, .ref (aa 6))]) hx hb dL_law_164 hl (by decide) rfl (fun ls hl => ?_)
          refine lv_aload hx hb dL_law_166 (lv_at hl 14 rfl) ?_
          refine lv_iconst (v := 4) hx hb dL_law_168 (by decide) ?_
          refine g_ld (n := 5) (i := 4) C hw 5 rfl (by omega) (Nat.le_of_ble_eq_true rfl) dL_law_169 ?_
          refine q_top (y := 0) (f54) ?_
          refine lv_if_ne (tgt := 230) hx hb dL_law_170 (by decide) (fun c_5 => ?_) (fun c_5 => ?_)
          · skip
            exact absurd c_5 (by decide)
          · skip
            refine lv_aload hx hb dL_law_173 (lv_at hl 14 rfl) ?_
            refine lv_iconst (v := 1) hx hb dL_law_175 (by decide) ?_
            refine g_ld (n := 5) (i := 1) C hw 5 rfl (by omega) (Nat.le_of_ble_eq_true rfl) dL_law_176 ?_
            refine q_top (y := 0) (f51) ?_
            refine lv_iconst (v := 2) hx hb dL_law_177 (by decide) ?_
            refine lv_icmp_lt (tgt := 194) hx hb dL_law_178 (by decide) (fun c_6 => ?_) (fun c_6 => ?_)
            · skip
              refine lv_aload hx hb dL_law_194 (lv_at hl 14 rfl) ?_
              refine lv_iconst (v := 1) hx hb dL_law_196 (by decide) ?_
              refine lv_dup2_11 hx hb dL_law_197 rfl rfl ?_
              refine g_ld (n := 5) (i := 1) C hw 5 rfl (by omega) (Nat.le_of_ble_eq_true rfl) dL_law_198 ?_
              refine q_top (y := 0) (f51) ?_
              refine lv_iconst (v := 1) hx hb dL_law_199 (by decide) ?_
              refine lv_iadd hx hb dL_law_200 ?_
              refine q_top (y := 1) (by decide) ?_
              refine g_st (x := 1) (i := 1) (n := 5) X hw 5 rfl (by omega) (Nat.le_of_ble_eq_true rfl) rfl dL_law_201 (fun H locs hle hw => ?_)
              have hN : s.heap.size + (1 * q0 + 0) ≤ H.size := by omega
              have hfa := hfa.team (by omega)
              obtain ⟨⟨hm0, hm1⟩, ⟨f50, f51, f52, f54⟩, fh, ff, fr⟩ := id hfa
              refine lv_aload_n hx hb dL_law_202 rfl (lv_at hl 8 rfl) ?_
              refine lv_iconst (v := 3) hx hb dL_law_203 (by decide) ?_
              refine lv_iconst (v := 0) hx hb dL_law_204 (by decide) ?_
              refine lv_iconst (v := 0) hx hb dL_law_205 (by decide) ?_
              refine lv_iconst (v := 0) hx hb dL_law_206 (by decide) ?_
              refine lv_iconst (v := 0) hx hb dL_law_207 (by decide) ?_
              have hv_208 : (oAddT S).2.1 = nI 0 := by rw [nn_addT hw.2.2.2 (by decide)]
              refine g_hlW (rest := []) C hw (h_act_3 C.1.2.2.2.2 C.2.2.1 C.2.2.2.1 hw.2.2.2 0 0 0 0 (js_addT hw.2.2.2 (by decide)) (by rw [nn_addT hw.2.2.2 (by decide)])) ck_L_act v_332 hl.1 rfl ⟨Nat.le_of_ble_eq_true rfl, Nat.le_of_ble_eq_true rfl⟩ (Nat.le_of_ble_eq_true rfl) dL_law_208 ⟨by omega, by omega⟩ (fun v S H locs hpo hle hw => ?_)
              have hpo : v = _ := hpo
              subst hpo
              have hN : s.heap.size + (1 * q0 + 0) ≤ H.size := by omega
              refine W.widen (k := 1001) (n := 6 * (1001)) (by omega) (by omega) ?_
              refine q_top (y := 0) (hv_208) ?_
              refine lv_aload hx hb dL_law_211 (lv_at hl 14 rfl) ?_
              refine lv_iconst (v := 1) hx hb dL_law_213 (by decide) ?_
              refine g_ld (n := 5) (i := 1) C hw 5 rfl (by omega) (Nat.le_of_ble_eq_true rfl) dL_law_214 ?_
              refine q_top (y := 1) (f51) ?_
              refine lv_iconst (v := 1) hx hb dL_law_215 (by decide) ?_
              refine lv_isub hx hb dL_law_216 ?_
              refine q_top (y := 0) (by decide) ?_
              refine lv_icmp_ne (tgt := 224) hx hb dL_law_217 (by decide) (fun c_7 => ?_) (fun c_7 => ?_)
              · skip
                exact absurd c_7 (by decide)
              · skip
                refine lv_iconst (v := 1) hx hb dL_law_220 (by decide) ?_
                refine lv_goto (tgt := 225) hx hb dL_law_221 (by decide) ?_
                refine lv_istore (lv' := [(9, .int 1), (15, .int 0), (14, .int 0), (13, .int 3), (12, .int 0), (11, .int 3), (10, .int 0), (0, .ref b), (1, .ref (ad 0)), (2, .ref (aa 0)), (3, .ref (aa 1)), (4, .ref (aa 2)), (5, .ref (aa 3)), (6, .ref (aa 4)), (7, .ref (aa 5)), (8, .ref (aa 6))]) hx hb dL_law_225 hl (by decide) rfl (fun ls hl => ?_)
                refine lv_goto (tgt := 1166) hx hb dL_law_227 (by decide) ?_
                refine lv_iload hx hb dL_law_1166 (lv_at hl 0 rfl) ?_
                refine lv_if_eq (tgt := 1302) hx hb dL_law_1168 (by decide) (fun c_8 => ?_) (fun c_8 => ?_)
                · skip
                  exact absurd c_8 (by decide)
                · skip
                  refine lv_iload hx hb dL_law_1171 (lv_at hl 6 rfl) ?_
                  refine lv_iconst (v := 3) hx hb dL_law_1173 (by decide) ?_
                  refine lv_irem hx hb dL_law_1174 (by decide) ?_
                  refine q_top (y := 0) (by decide) ?_
                  refine lv_if_gt (tgt := 1192) hx hb dL_law_1175 (by decide) (fun c_9 => ?_) (fun c_9 => ?_)
                  · skip
                    exact absurd c_9 (by decide)
                  · skip
                    refine lv_aload_n hx hb dL_law_1178 rfl (lv_at hl 8 rfl) ?_
                    refine lv_aload_n hx hb dL_law_1179 rfl (lv_at hl 9 rfl) ?_
                    refine lv_aload hx hb dL_law_1180 (lv_at hl 11 rfl) ?_
                    refine lv_aload hx hb dL_law_1182 (lv_at hl 12 rfl) ?_
                    refine lv_aload hx hb dL_law_1184 (lv_at hl 14 rfl) ?_
                    refine g_hl (rest := []) C hw (t_areOpened C.1.2.2.2.2 C.2.2.1 C.2.2.2.1 hfa hw.2.2.2) ck_L_areOpened v_665 hl.1 rfl ⟨Nat.le_of_ble_eq_true rfl, Nat.le_of_ble_eq_true rfl⟩ (Nat.le_of_ble_eq_true rfl) dL_law_1186 ⟨by omega, by omega⟩ (fun v S H locs hpo hle hw => ?_)
                    obtain ⟨z10, rfl⟩ := hpo
                    have hN : s.heap.size + (1 * q0 + 0) ≤ H.size := by omega
                    refine W.widen (k := 1007) (n := 6 * (1007)) (by omega) (by omega) ?_
                    refine lv_if_eq (tgt := 1302) hx hb dL_law_1189 (by decide) (fun c_11 => ?_) (fun c_11 => ?_)
                    · skip
                      have c_11 : z10 = false := b_f c_11
                      subst c_11
                      refine lv_iconst (v := 0) hx hb dL_law_1302 (by decide) ?_
                      refine lv_istore (lv' := [(9, .int 0), (15, .int 0), (14, .int 0), (13, .int 3), (12, .int 0), (11, .int 3), (10, .int 0), (0, .ref b), (1, .ref (ad 0)), (2, .ref (aa 0)), (3, .ref (aa 1)), (4, .ref (aa 2)), (5, .ref (aa 3)), (6, .ref (aa 4)), (7, .ref (aa 5)), (8, .ref (aa 6))]) hx hb dL_law_1303 hl (by decide) rfl (fun ls hl => ?_)
                      refine lv_iinc (v := 1) (lv' := [(10, .int 1), (9, .int 0), (15, .int 0), (14, .int 0), (13, .int 3), (12, .int 0), (11, .int 3), (0, .ref b), (1, .ref (ad 0)), (2, .ref (aa 0)), (3, .ref (aa 1)), (4, .ref (aa 2)), (5, .ref (aa 3)), (6, .ref (aa 4)), (7, .ref (aa 5)), (8, .ref (aa 6))]) hx hb dL_law_1305 hl (k := 6) rfl (by decide) (by decide) rfl (fun ls hl => ?_)
                      refine lv_goto (tgt := 90) hx hb dL_law_1308 (by decide) ?_
                      exact lx_end0 (n := 1) X hw (by omega) ⟨by omega, by omega⟩ (lv_sub hl [1, 0] rfl)
                    · skip
                      have c_11 : z10 = true := b_t c_11
                      subst c_11
                      refine lv_aload hx hb dL_law_1192 (lv_at hl 14 rfl) ?_
                      refine lv_iconst (v := 1) hx hb dL_law_1194 (by decide) ?_
                      refine g_ld (n := 5) (i := 1) C hw 5 rfl (by omega) (Nat.le_of_ble_eq_true rfl) dL_law_1195 ?_
                      refine q_top (y := 1) (f51) ?_
                      refine lv_if_eq (tgt := 1251) hx hb dL_law_1196 (by decide) (fun c_12 => ?_) (fun c_12 => ?_)
                      · skip
                        exact absurd c_12 (by decide)
                      · skip
                        refine lv_aload_n hx hb dL_law_1199 rfl (lv_at hl 8 rfl) ?_
                        refine lv_aload_n hx hb dL_law_1200 rfl (lv_at hl 9 rfl) ?_
                        refine lv_aload_n hx hb dL_law_1201 rfl (lv_at hl 10 rfl) ?_
                        refine lv_aload hx hb dL_law_1202 (lv_at hl 15 rfl) ?_
                        refine lv_aload hx hb dL_law_1204 (lv_at hl 14 rfl) ?_
                        refine lv_iload hx hb dL_law_1206 (lv_at hl 4 rfl) ?_
                        refine lv_iconst (v := 3) hx hb dL_law_1208 (by decide) ?_
                        refine lv_idiv hx hb dL_law_1209 (by decide) ?_
                        refine q_top (y := 0) (by decide) ?_
                        refine lv_aload hx hb dL_law_1210 (lv_at hl 14 rfl) ?_
                        refine lv_iconst (v := 1) hx hb dL_law_1212 (by decide) ?_
                        refine g_ld (n := 5) (i := 1) C hw 5 rfl (by omega) (Nat.le_of_ble_eq_true rfl) dL_law_1213 ?_
                        refine q_top (y := 1) (f51) ?_
                        refine lv_irem hx hb dL_law_1214 (by decide) ?_
                        refine q_top (y := 0) (by decide) ?_
                        refine lv_iload hx hb dL_law_1215 (lv_at hl 4 rfl) ?_
                        refine lv_bipush (v := 15) hx hb dL_law_1217 (by decide) ?_
                        refine lv_idiv hx hb dL_law_1219 (by decide) ?_
                        refine q_top (y := 0) (by decide) ?_
                        refine lv_aload hx hb dL_law_1220 (lv_at hl 14 rfl) ?_
                        refine lv_iconst (v := 1) hx hb dL_law_1222 (by decide) ?_
                        refine g_ld (n := 5) (i := 1) C hw 5 rfl (by omega) (Nat.le_of_ble_eq_true rfl) dL_law_1223 ?_
                        refine q_top (y := 1) (f51) ?_
                        refine lv_irem hx hb dL_law_1224 (by decide) ?_
                        refine q_top (y := 0) (by decide) ?_
                        refine g_hl (rest := []) C hw (t_areLinks C.1.2.2.2.2 C.2.2.1 C.2.2.2.1 hfa hw.2.2.2 0 (by omega) 0 (by omega)) ck_L_areLinks v_668 hl.1 rfl ⟨Nat.le_of_ble_eq_true rfl, Nat.le_of_ble_eq_true rfl⟩ (Nat.le_of_ble_eq_true rfl) dL_law_1225 ⟨by omega, by omega⟩ (fun v S H locs hpo hle hw => ?_)
                        obtain ⟨z13, rfl⟩ := hpo
                        have hN : s.heap.size + (1 * q0 + 0) ≤ H.size := by omega
                        refine W.widen (k := 1007) (n := 6 * (1007)) (by omega) (by omega) ?_
                        refine lv_if_eq (tgt := 1302) hx hb dL_law_1228 (by decide) (fun c_14 => ?_) (fun c_14 => ?_)
                        · skip
                          have c_14 : z13 = false := b_f c_14
                          subst c_14
                          refine lv_iconst (v := 0) hx hb dL_law_1302 (by decide) ?_
                          refine lv_istore (lv' := [(9, .int 0), (15, .int 0), (14, .int 0), (13, .int 3), (12, .int 0), (11, .int 3), (10, .int 0), (0, .ref b), (1, .ref (ad 0)), (2, .ref (aa 0)), (3, .ref (aa 1)), (4, .ref (aa 2)), (5, .ref (aa 3)), (6, .ref (aa 4)), (7, .ref (aa 5)), (8, .ref (aa 6))]) hx hb dL_law_1303 hl (by decide) rfl (fun ls hl => ?_)
                          refine lv_iinc (v := 1) (lv' := [(10, .int 1), (9, .int 0), (15, .int 0), (14, .int 0), (13, .int 3), (12, .int 0), (11, .int 3), (0, .ref b), (1, .ref (ad 0)), (2, .ref (aa 0)), (3, .ref (aa 1)), (4, .ref (aa 2)), (5, .ref (aa 3)), (6, .ref (aa 4)), (7, .ref (aa 5)), (8, .ref (aa 6))]) hx hb dL_law_1305 hl (k := 6) rfl (by decide) (by decide) rfl (fun ls hl => ?_)
                          refine lv_goto (tgt := 90) hx hb dL_law_1308 (by decide) ?_
                          exact lx_end0 (n := 1) X hw (by omega) ⟨by omega, by omega⟩ (lv_sub hl [1, 0] rfl)
                        · skip
                          have c_14 : z13 = true := b_t c_14
                          subst c_14
                          refine lv_aload_n hx hb dL_law_1231 rfl (lv_at hl 8 rfl) ?_
                          refine lv_aload_n hx hb dL_law_1232 rfl (lv_at hl 9 rfl) ?_
                          refine lv_aload hx hb dL_law_1233 (lv_at hl 14 rfl) ?_
                          refine lv_iload hx hb dL_law_1235 (lv_at hl 4 rfl) ?_
                          refine lv_bipush (v := 7) hx hb dL_law_1237 (by decide) ?_
                          refine lv_idiv hx hb dL_law_1239 (by decide) ?_
                          refine q_top (y := 0) (by decide) ?_
                          refine lv_aload hx hb dL_law_1240 (lv_at hl 14 rfl) ?_
                          refine lv_iconst (v := 1) hx hb dL_law_1242 (by decide) ?_
                          refine g_ld (n := 5) (i := 1) C hw 5 rfl (by omega) (Nat.le_of_ble_eq_true rfl) dL_law_1243 ?_
                          refine q_top (y := 1) (f51) ?_
                          refine lv_irem hx hb dL_law_1244 (by decide) ?_
                          refine q_top (y := 0) (by decide) ?_
                          refine g_hl (rest := []) C hw (t_areVoid C.1.2.2.2.2 C.2.2.1 C.2.2.2.1 hfa hw.2.2.2 0 (by omega)) ck_L_areVoid v_677 hl.1 rfl ⟨Nat.le_of_ble_eq_true rfl, Nat.le_of_ble_eq_true rfl⟩ (Nat.le_of_ble_eq_true rfl) dL_law_1245 ⟨by omega, by omega⟩ (fun v S H locs hpo hle hw => ?_)
                          obtain ⟨z15, rfl⟩ := hpo
                          have hN : s.heap.size + (1 * q0 + 0) ≤ H.size := by omega
                          refine W.widen (k := 1007) (n := 6 * (1007)) (by omega) (by omega) ?_
                          refine lv_if_eq (tgt := 1302) hx hb dL_law_1248 (by decide) (fun c_16 => ?_) (fun c_16 => ?_)
                          · skip
                            have c_16 : z15 = false := b_f c_16
                            subst c_16
                            refine lv_iconst (v := 0) hx hb dL_law_1302 (by decide) ?_
                            refine lv_istore (lv' := [(9, .int 0), (15, .int 0), (14, .int 0), (13, .int 3), (12, .int 0), (11, .int 3), (10, .int 0), (0, .ref b), (1, .ref (ad 0)), (2, .ref (aa 0)), (3, .ref (aa 1)), (4, .ref (aa 2)), (5, .ref (aa 3)), (6, .ref (aa 4)), (7, .ref (aa 5)), (8, .ref (aa 6))]) hx hb dL_law_1303 hl (by decide) rfl (fun ls hl => ?_)
                            refine lv_iinc (v := 1) (lv' := [(10, .int 1), (9, .int 0), (15, .int 0), (14, .int 0), (13, .int 3), (12, .int 0), (11, .int 3), (0, .ref b), (1, .ref (ad 0)), (2, .ref (aa 0)), (3, .ref (aa 1)), (4, .ref (aa 2)), (5, .ref (aa 3)), (6, .ref (aa 4)), (7, .ref (aa 5)), (8, .ref (aa 6))]) hx hb dL_law_1305 hl (k := 6) rfl (by decide) (by decide) rfl (fun ls hl => ?_)
                            refine lv_goto (tgt := 90) hx hb dL_law_1308 (by decide) ?_
                            exact lx_end0 (n := 1) X hw (by omega) ⟨by omega, by omega⟩ (lv_sub hl [1, 0] rfl)
                          · skip
                            have c_16 : z15 = true := b_t c_16
                            subst c_16
                            refine lv_iload hx hb dL_law_1251 (lv_at hl 6 rfl) ?_
                            refine lv_iconst (v := 3) hx hb dL_law_1253 (by decide) ?_
                            refine lv_irem hx hb dL_law_1254 (by decide) ?_
                            refine q_top (y := 0) (by decide) ?_
                            refine lv_if_gt (tgt := 1272) hx hb dL_law_1255 (by decide) (fun c_17 => ?_) (fun c_17 => ?_)
                            · skip
                              exact absurd c_17 (by decide)
                            · skip
                              refine lv_aload_n hx hb dL_law_1258 rfl (lv_at hl 8 rfl) ?_
                              refine lv_aload_n hx hb dL_law_1259 rfl (lv_at hl 9 rfl) ?_
                              refine lv_aload hx hb dL_law_1260 (lv_at hl 11 rfl) ?_
                              refine lv_aload hx hb dL_law_1262 (lv_at hl 13 rfl) ?_
                              refine lv_aload hx hb dL_law_1264 (lv_at hl 14 rfl) ?_
                              refine g_hl (rest := []) C hw (t_areScores C.1.2.2.2.2 C.2.2.1 C.2.2.2.1 hfa hw.2.2.2) ck_L_areScores v_680 hl.1 rfl ⟨Nat.le_of_ble_eq_true rfl, Nat.le_of_ble_eq_true rfl⟩ (Nat.le_of_ble_eq_true rfl) dL_law_1266 ⟨by omega, by omega⟩ (fun v S H locs hpo hle hw => ?_)
                              obtain ⟨z18, rfl⟩ := hpo
                              have hN : s.heap.size + (1 * q0 + 0) ≤ H.size := by omega
                              refine W.widen (k := 1009) (n := 6 * (1009)) (by omega) (by omega) ?_
                              refine lv_if_eq (tgt := 1302) hx hb dL_law_1269 (by decide) (fun c_19 => ?_) (fun c_19 => ?_)
                              · skip
                                have c_19 : z18 = false := b_f c_19
                                subst c_19
                                refine lv_iconst (v := 0) hx hb dL_law_1302 (by decide) ?_
                                refine lv_istore (lv' := [(9, .int 0), (15, .int 0), (14, .int 0), (13, .int 3), (12, .int 0), (11, .int 3), (10, .int 0), (0, .ref b), (1, .ref (ad 0)), (2, .ref (aa 0)), (3, .ref (aa 1)), (4, .ref (aa 2)), (5, .ref (aa 3)), (6, .ref (aa 4)), (7, .ref (aa 5)), (8, .ref (aa 6))]) hx hb dL_law_1303 hl (by decide) rfl (fun ls hl => ?_)
                                refine lv_iinc (v := 1) (lv' := [(10, .int 1), (9, .int 0), (15, .int 0), (14, .int 0), (13, .int 3), (12, .int 0), (11, .int 3), (0, .ref b), (1, .ref (ad 0)), (2, .ref (aa 0)), (3, .ref (aa 1)), (4, .ref (aa 2)), (5, .ref (aa 3)), (6, .ref (aa 4)), (7, .ref (aa 5)), (8, .ref (aa 6))]) hx hb dL_law_1305 hl (k := 6) rfl (by decide) (by decide) rfl (fun ls hl => ?_)
                                refine lv_goto (tgt := 90) hx hb dL_law_1308 (by decide) ?_
                                exact lx_end0 (n := 1) X hw (by omega) ⟨by omega, by omega⟩ (lv_sub hl [1, 0] rfl)
                              · skip
                                have c_19 : z18 = true := b_t c_19
                                subst c_19
                                refine lv_iload hx hb dL_law_1272 (lv_at hl 6 rfl) ?_
                                refine lv_bipush (v := 22) hx hb dL_law_1274 (by decide) ?_
                                refine lv_irem hx hb dL_law_1276 (by decide) ?_
                                refine q_top (y := 0) (by decide) ?_
                                refine lv_if_gt (tgt := 1298) hx hb dL_law_1277 (by decide) (fun c_20 => ?_) (fun c_20 => ?_)
                                · skip
                                  exact absurd c_20 (by decide)
                                · skip
                                  refine lv_aload_n hx hb dL_law_1280 rfl (lv_at hl 8 rfl) ?_
                                  refine lv_aload_n hx hb dL_law_1281 rfl (lv_at hl 9 rfl) ?_
                                  refine lv_aload hx hb dL_law_1282 (lv_at hl 11 rfl) ?_
                                  refine lv_aload hx hb dL_law_1284 (lv_at hl 12 rfl) ?_
                                  refine lv_aload hx hb dL_law_1286 (lv_at hl 14 rfl) ?_
                                  refine lv_iload hx hb dL_law_1288 (lv_at hl 5 rfl) ?_
                                  refine lv_iconst (v := 3) hx hb dL_law_1290 (by decide) ?_
                                  refine lv_idiv hx hb dL_law_1291 (by decide) ?_
                                  refine q_top (y := 1) (by decide) ?_
                                  refine g_hl (rest := []) C hw (t_isRefused1 C.1.2.2.2.2 C.2.2.1 C.2.2.2.1 hfa hw.2.2.2) ck_L_isRefused v_690 hl.1 rfl ⟨Nat.le_of_ble_eq_true rfl, Nat.le_of_ble_eq_true rfl⟩ (Nat.le_of_ble_eq_true rfl) dL_law_1292 ⟨by omega, by omega⟩ (fun v S H locs hpo hle hw => ?_)
                                  obtain ⟨⟨z21, rfl⟩, hgr⟩ := hpo
                                  have hN : s.heap.size + (1 * q0 + 19) ≤ H.size := by omega
                                  refine W.widen (k := 1159) (n := 6 * (1159)) (by omega) (by omega) ?_
                                  refine lv_if_eq (tgt := 1302) hx hb dL_law_1295 (by decide) (fun c_22 => ?_) (fun c_22 => ?_)
                                  · skip
                                    have c_22 : z21 = false := b_f c_22
                                    subst c_22
                                    refine lv_iconst (v := 0) hx hb dL_law_1302 (by decide) ?_
                                    refine lv_istore (lv' := [(9, .int 0), (15, .int 0), (14, .int 0), (13, .int 3), (12, .int 0), (11, .int 3), (10, .int 0), (0, .ref b), (1, .ref (ad 0)), (2, .ref (aa 0)), (3, .ref (aa 1)), (4, .ref (aa 2)), (5, .ref (aa 3)), (6, .ref (aa 4)), (7, .ref (aa 5)), (8, .ref (aa 6))]) hx hb dL_law_1303 hl (by decide) rfl (fun ls hl => ?_)
                                    refine lv_iinc (v := 1) (lv' := [(10, .int 1), (9, .int 0), (15, .int 0), (14, .int 0), (13, .int 3), (12, .int 0), (11, .int 3), (0, .ref b), (1, .ref (ad 0)), (2, .ref (aa 0)), (3, .ref (aa 1)), (4, .ref (aa 2)), (5, .ref (aa 3)), (6, .ref (aa 4)), (7, .ref (aa 5)), (8, .ref (aa 6))]) hx hb dL_law_1305 hl (k := 6) rfl (by decide) (by decide) rfl (fun ls hl => ?_)
                                    refine lv_goto (tgt := 90) hx hb dL_law_1308 (by decide) ?_
                                    exact lx_end0 (n := 1) X hw (by omega) ⟨by omega, by omega⟩ (lv_sub hl [1, 0] rfl)
                                  · skip
                                    have c_22 : z21 = true := b_t c_22
                                    subst c_22
                                    refine lv_iconst (v := 1) hx hb dL_law_1298 (by decide) ?_
                                    refine lv_goto (tgt := 1303) hx hb dL_law_1299 (by decide) ?_
                                    refine lv_istore (lv' := [(9, .int 1), (15, .int 0), (14, .int 0), (13, .int 3), (12, .int 0), (11, .int 3), (10, .int 0), (0, .ref b), (1, .ref (ad 0)), (2, .ref (aa 0)), (3, .ref (aa 1)), (4, .ref (aa 2)), (5, .ref (aa 3)), (6, .ref (aa 4)), (7, .ref (aa 5)), (8, .ref (aa 6))]) hx hb dL_law_1303 hl (by decide) rfl (fun ls hl => ?_)
                                    refine lv_iinc (v := 1) (lv' := [(10, .int 1), (9, .int 1), (15, .int 0), (14, .int 0), (13, .int 3), (12, .int 0), (11, .int 3), (0, .ref b), (1, .ref (ad 0)), (2, .ref (aa 0)), (3, .ref (aa 1)), (4, .ref (aa 2)), (5, .ref (aa 3)), (6, .ref (aa 4)), (7, .ref (aa 5)), (8, .ref (aa 6))]) hx hb dL_law_1305 hl (k := 6) rfl (by decide) (by decide) rfl (fun ls hl => ?_)
                                    refine lv_goto (tgt := 90) hx hb dL_law_1308 (by decide) ?_
                                    refine W.widen (k := 1159) (n := 6 * (1159)) (by omega) (by omega) ?_
                                    exact kk _ _ _ _ _ hfa hw (by omega) (lv_sub hl [1, 0, 7, 8, 9, 10, 11, 12, 13, 14, 15] rfl)
            · skip
              exact absurd c_6 (by decide)
set_option maxHeartbeats 8000000 in
set_option maxRecDepth 100000 in
theorem lx_T1 {p : Program} {l : Launch} {e : Env} {s : State} {m : MethodId} {args : Array Value} {below : List Frame} {meth : Method} {c : Code} {b L : Nat} {xs : Nat → Int32} {D : va_G} {cI cZ cL : ClassId} {ad aa : Nat → Nat} (X : LX p l s m meth c b L xs D cI cZ cL ad aa) {fa S : Mem} {H : Heap} {locs : List Loc} {ls : Array Slot} {q0 : Nat} (hq : q0 = LB 1) (hfa : FA fa 0 1) (hw : GW D cI (fun q => s.heap.size ≤ q) ad aa fa 0 1 s S H locs) (hN : s.heap.size + q0 ≤ H.size) (hl : lv_has ls 20 [(9, .int (bI true)), (10, .int (nI 1)), (0, .ref b), (1, .ref (ad 0)), (2, .ref (aa 0)), (3, .ref (aa 1)), (4, .ref (aa 2)), (5, .ref (aa 3)), (6, .ref (aa 4)), (7, .ref (aa 5)), (8, .ref (aa 6))])
    (kk : ∀ (fa S : Mem) (H : Heap) (locs : List Loc) (ls : Array Slot), FA fa 0 2 → GW D cI (fun q => s.heap.size ≤ q) ad aa fa 0 2 s S H locs → s.heap.size + LB 2 ≤ H.size → lv_has ls 20 [(9, .int (bI true)), (10, .int (nI 2)), (0, .ref b), (1, .ref (ad 0)), (2, .ref (aa 0)), (3, .ref (aa 1)), (4, .ref (aa 2)), (5, .ref (aa 3)), (6, .ref (aa 4)), (7, .ref (aa 5)), (8, .ref (aa 6))] → W p l e (rg 20 20000) s m args below meth c H locs (1318) (6 * (1318)) (MQ below QL args s 20000 (6 * 20000) (fun q => s.heap.size ≤ q)) (F0 m 90 ls [])) :
    W p l e (rg 20 20000) s m args below meth c H locs (1159) (6 * (1159)) (MQ below QL args s 20000 (6 * 20000) (fun q => s.heap.size ≤ q)) (F0 m 90 ls []) := by
  have C := X.1
  have hx := X.1.1.1
  have hb := X.1.1.2.1
  have hown := X.1.1.2.2.2.1
  unfold LB at hq kk
  have hN : s.heap.size + (1 * q0 + 0) ≤ H.size := by omega
  have hl : lv_has ls 20 [(9, .int (bI true)), (10, .int 1), (0, .ref b), (1, .ref (ad 0)), (2, .ref (aa 0)), (3, .ref (aa 1)), (4, .ref (aa 2)), (5, .ref (aa 3)), (6, .ref (aa 4)), (7, .ref (aa 5)), (8, .ref (aa 6))] := hl
  obtain ⟨⟨hm0, hm1⟩, ⟨f50, f51, f52, f54⟩, fh, ff, fr⟩ := id hfa
  refine lv_iload hx hb dL_law_90 (lv_at hl 1 rfl) ?_
  refine lv_bipush (v := 110) hx hb dL_law_92 (by decide) ?_
  refine lv_icmp_ge (tgt := 1311) hx hb dL_law_94 (by decide) (fun c_1 => ?_) (fun c_1 => ?_)
  · skip
    exact absurd c_1 (by decide)
  · skip
    refine lv_iload hx hb dL_law_97 (lv_at hl 0 rfl) ?_
    refine lv_if_eq (tgt := 1311) hx hb dL_law_99 (by decide) (fun c_2 => ?_) (fun c_2 => ?_)
    · skip
      exact absurd c_2 (by decide)
    · skip
      refine lv_aload_n hx hb dL_law_102 rfl (lv_at hl 2 rfl) ?_
      refine lv_iload hx hb dL_law_103 (lv_at hl 1 rfl) ?_
      refine g_dice (n := 1) X hw (by omega) hl.1 (Nat.le_of_ble_eq_true rfl) ⟨by omega, by omega⟩ dL_law_105 ?_
      refine lv_istore (lv' := [(11, .int 3), (9, .int (bI true)), (10, .int 1), (0, .ref b), (1, .ref (ad 0)), (2, .ref (aa 0)), (3, .ref (aa 1)), (4, .ref (aa 2)), (5, .ref (aa 3)), (6, .ref (aa 4)), (7, .ref (aa 5)), (8, .ref (aa 6))]) hx hb dL_law_108 hl (by decide) rfl (fun ls hl => ?_)
      refine lv_iload hx hb dL_law_110 (lv_at hl 0 rfl) ?_
      refine lv_bipush (v := 32) hx hb dL_law_112 (by decide) ?_
      refine lv_idiv hx hb dL_law_114 (by decide) ?_
      refine q_top (y := 0) (by decide) ?_
      refine lv_istore (lv' := [(12, .int 0), (11, .int 3), (9, .int (bI true)), (10, .int 1), (0, .ref b), (1, .ref (ad 0)), (2, .ref (aa 0)), (3, .ref (aa 1)), (4, .ref (aa 2)), (5, .ref (aa 3)), (6, .ref (aa 4)), (7, .ref (aa 5)), (8, .ref (aa 6))]) hx hb dL_law_115 hl (by decide) rfl (fun ls hl => ?_)
      refine lv_iload hx hb dL_law_117 (lv_at hl 1 rfl) ?_
      refine lv_bipush (v := 32) hx hb dL_law_119 (by decide) ?_
      refine lv_irem hx hb dL_law_121 (by decide) ?_
      refine q_top (y := 3) (by decide) ?_
      refine lv_istore (lv' := [(13, .int 3), (12, .int 0), (11, .int 3), (9, .int (bI true)), (10, .int 1), (0, .ref b), (1, .ref (ad 0)), (2, .ref (aa 0)), (3, .ref (aa 1)), (4, .ref (aa 2)), (5, .ref (aa 3)), (6, .ref (aa 4)), (7, .ref (aa 5)), (8, .ref (aa 6))]) hx hb dL_law_122 hl (by decide) rfl (fun ls hl => ?_)
      refine lv_aload hx hb dL_law_124 (lv_at hl 12 rfl) ?_
      refine lv_iconst (v := 1) hx hb dL_law_126 (by decide) ?_
      refine g_ld (n := 5) (i := 1) C hw 5 rfl (by omega) (Nat.le_of_ble_eq_true rfl) dL_law_127 ?_
      refine q_top (y := 1) (f51) ?_
      refine lv_if_ne (tgt := 135) hx hb dL_law_128 (by decide) (fun c_3 => ?_) (fun c_3 => ?_)
      · skip
        refine lv_iload hx hb dL_law_135 (lv_at hl 1 rfl) ?_
        refine lv_aload hx hb dL_law_137 (lv_at hl 12 rfl) ?_
        refine lv_iconst (v := 1) hx hb dL_law_139 (by decide) ?_
        refine g_ld (n := 5) (i := 1) C hw 5 rfl (by omega) (Nat.le_of_ble_eq_true rfl) dL_law_140 ?_
        refine q_top (y := 1) (f51) ?_
        refine lv_irem hx hb dL_law_141 (by decide) ?_
        refine q_top (y := 0) (by decide) ?_
        refine lv_istore (lv' := [(14, .int 0), (13, .int 3), (12, .int 0), (11, .int 3), (9, .int (bI true)), (10, .int 1), (0, .ref b), (1, .ref (ad 0)), (2, .ref (aa 0)), (3, .ref (aa 1)), (4, .ref (aa 2)), (5, .ref (aa 3)), (6, .ref (aa 4)), (7, .ref (aa 5)), (8, .ref (aa 6))]) hx hb dL_law_142 hl (by decide) rfl (fun ls hl => ?_)
        refine lv_aload hx hb dL_law_144 (lv_at hl 13 rfl) ?_
        refine lv_iconst (v := 0) hx hb dL_law_146 (by decide) ?_
        refine g_ld (n := 5) (i := 0) C hw 5 rfl (by omega) (Nat.le_of_ble_eq_true rfl) dL_law_147 ?_
        refine q_top (y := 0) (f50) ?_
        refine lv_if_ne (tgt := 155) hx hb dL_law_148 (by decide) (fun c_4 => ?_) (fun c_4 => ?_)
        · skip
          exact absurd c_4 (by decide)
        · skip
          refine lv_iconst (v := 0) hx hb dL_law_151 (by decide) ?_
          refine lv_goto (tgt := 164) hx hb dL_law_152 (by decide) ?_
          refine lv_istore (lv' := [(15, .int 0), (14, .int 0), (13, .int 3), (12, .int 0), (11, .int 3), (9, .int (bI true)), (10, .int 1), (0, .ref b), (1, .ref (ad 0)), (2, .ref (aa 0)), (3, .ref (aa 1)), (4, .ref (aa 2)), (5, .ref (aa 3)), (6, .ref (aa 4)), (7, .ref (aa 5)), (8, .ref (aa 6))]) hx hb dL_law_164 hl (by decide) rfl (fun ls hl => ?_)
          refine lv_aload hx hb dL_law_166 (lv_at hl 14 rfl) ?_
          refine lv_iconst (v := 4) hx hb dL_law_168 (by decide) ?_
          refine g_ld (n := 5) (i := 4) C hw 5 rfl (by omega) (Nat.le_of_ble_eq_true rfl) dL_law_169 ?_
          refine q_top (y := 0) (f54) ?_
          refine lv_if_ne (tgt := 230) hx hb dL_law_170 (by decide) (fun c_5 => ?_) (fun c_5 => ?_)
          · skip
            exact absurd c_5 (by decide)
          · skip
            refine lv_aload hx hb dL_law_173 (lv_at hl 14 rfl) ?_
            refine lv_iconst (v := 1) hx hb dL_law_175 (by decide) ?_
            refine g_ld (n := 5) (i := 1) C hw 5 rfl (by omega) (Nat.le_of_ble_eq_true rfl) dL_law_176 ?_
            refine q_top (y := 1) (f51) ?_
            refine lv_iconst (v := 2) hx hb dL_law_177 (by decide) ?_
            refine lv_icmp_lt (tgt := 194) hx hb dL_law_178 (by decide) (fun c_6 => ?_) (fun c_6 => ?_)
            · skip
              refine lv_aload hx hb dL_law_194 (lv_at hl 14 rfl) ?_
              refine lv_iconst (v := 1) hx hb dL_law_196 (by decide) ?_
              refine lv_dup2_11 hx hb dL_law_197 rfl rfl ?_
              refine g_ld (n := 5) (i := 1) C hw 5 rfl (by omega) (Nat.le_of_ble_eq_true rfl) dL_law_198 ?_
              refine q_top (y := 1) (f51) ?_
              refine lv_iconst (v := 1) hx hb dL_law_199 (by decide) ?_
              refine lv_iadd hx hb dL_law_200 ?_
              refine q_top (y := 2) (by decide) ?_
              refine g_st (x := 2) (i := 1) (n := 5) X hw 5 rfl (by omega) (Nat.le_of_ble_eq_true rfl) rfl dL_law_201 (fun H locs hle hw => ?_)
              have hN : s.heap.size + (1 * q0 + 0) ≤ H.size := by omega
              have hfa := hfa.team (by omega)
              obtain ⟨⟨hm0, hm1⟩, ⟨f50, f51, f52, f54⟩, fh, ff, fr⟩ := id hfa
              refine lv_aload_n hx hb dL_law_202 rfl (lv_at hl 8 rfl) ?_
              refine lv_iconst (v := 3) hx hb dL_law_203 (by decide) ?_
              refine lv_iconst (v := 0) hx hb dL_law_204 (by decide) ?_
              refine lv_iconst (v := 0) hx hb dL_law_205 (by decide) ?_
              refine lv_iconst (v := 0) hx hb dL_law_206 (by decide) ?_
              refine lv_iconst (v := 0) hx hb dL_law_207 (by decide) ?_
              have hv_208 : (oAddT S).2.1 = nI 1 := by rw [nn_addT hw.2.2.2 (by decide)]
              refine g_hlW (rest := []) C hw (h_act_3 C.1.2.2.2.2 C.2.2.1 C.2.2.2.1 hw.2.2.2 0 0 0 0 (js_addT hw.2.2.2 (by decide)) (by rw [nn_addT hw.2.2.2 (by decide)])) ck_L_act v_332 hl.1 rfl ⟨Nat.le_of_ble_eq_true rfl, Nat.le_of_ble_eq_true rfl⟩ (Nat.le_of_ble_eq_true rfl) dL_law_208 ⟨by omega, by omega⟩ (fun v S H locs hpo hle hw => ?_)
              have hpo : v = _ := hpo
              subst hpo
              have hN : s.heap.size + (1 * q0 + 0) ≤ H.size := by omega
              refine W.widen (k := 1160) (n := 6 * (1160)) (by omega) (by omega) ?_
              refine q_top (y := 1) (hv_208) ?_
              refine lv_aload hx hb dL_law_211 (lv_at hl 14 rfl) ?_
              refine lv_iconst (v := 1) hx hb dL_law_213 (by decide) ?_
              refine g_ld (n := 5) (i := 1) C hw 5 rfl (by omega) (Nat.le_of_ble_eq_true rfl) dL_law_214 ?_
              refine q_top (y := 2) (f51) ?_
              refine lv_iconst (v := 1) hx hb dL_law_215 (by decide) ?_
              refine lv_isub hx hb dL_law_216 ?_
              refine q_top (y := 1) (by decide) ?_
              refine lv_icmp_ne (tgt := 224) hx hb dL_law_217 (by decide) (fun c_7 => ?_) (fun c_7 => ?_)
              · skip
                exact absurd c_7 (by decide)
              · skip
                refine lv_iconst (v := 1) hx hb dL_law_220 (by decide) ?_
                refine lv_goto (tgt := 225) hx hb dL_law_221 (by decide) ?_
                refine lv_istore (lv' := [(9, .int 1), (15, .int 0), (14, .int 0), (13, .int 3), (12, .int 0), (11, .int 3), (10, .int 1), (0, .ref b), (1, .ref (ad 0)), (2, .ref (aa 0)), (3, .ref (aa 1)), (4, .ref (aa 2)), (5, .ref (aa 3)), (6, .ref (aa 4)), (7, .ref (aa 5)), (8, .ref (aa 6))]) hx hb dL_law_225 hl (by decide) rfl (fun ls hl => ?_)
                refine lv_goto (tgt := 1166) hx hb dL_law_227 (by decide) ?_
                refine lv_iload hx hb dL_law_1166 (lv_at hl 0 rfl) ?_
                refine lv_if_eq (tgt := 1302) hx hb dL_law_1168 (by decide) (fun c_8 => ?_) (fun c_8 => ?_)
                · skip
                  exact absurd c_8 (by decide)
                · skip
                  refine lv_iload hx hb dL_law_1171 (lv_at hl 6 rfl) ?_
                  refine lv_iconst (v := 3) hx hb dL_law_1173 (by decide) ?_
                  refine lv_irem hx hb dL_law_1174 (by decide) ?_
                  refine q_top (y := 1) (by decide) ?_
                  refine lv_if_gt (tgt := 1192) hx hb dL_law_1175 (by decide) (fun c_9 => ?_) (fun c_9 => ?_)
                  · skip
                    refine lv_aload hx hb dL_law_1192 (lv_at hl 14 rfl) ?_
                    refine lv_iconst (v := 1) hx hb dL_law_1194 (by decide) ?_
                    refine g_ld (n := 5) (i := 1) C hw 5 rfl (by omega) (Nat.le_of_ble_eq_true rfl) dL_law_1195 ?_
                    refine q_top (y := 2) (f51) ?_
                    refine lv_if_eq (tgt := 1251) hx hb dL_law_1196 (by decide) (fun c_10 => ?_) (fun c_10 => ?_)
                    · skip
                      exact absurd c_10 (by decide)
                    · skip
                      refine lv_aload_n hx hb dL_law_1199 rfl (lv_at hl 8 rfl) ?_
                      refine lv_aload_n hx hb dL_law_1200 rfl (lv_at hl 9 rfl) ?_
                      refine lv_aload_n hx hb dL_law_1201 rfl (lv_at hl 10 rfl) ?_
                      refine lv_aload hx hb dL_law_1202 (lv_at hl 15 rfl) ?_
                      refine lv_aload hx hb dL_law_1204 (lv_at hl 14 rfl) ?_
                      refine lv_iload hx hb dL_law_1206 (lv_at hl 4 rfl) ?_
                      refine lv_iconst (v := 3) hx hb dL_law_1208 (by decide) ?_
                      refine lv_idiv hx hb dL_law_1209 (by decide) ?_
                      refine q_top (y := 0) (by decide) ?_
                      refine lv_aload hx hb dL_law_1210 (lv_at hl 14 rfl) ?_
                      refine lv_iconst (v := 1) hx hb dL_law_1212 (by decide) ?_
                      refine g_ld (n := 5) (i := 1) C hw 5 rfl (by omega) (Nat.le_of_ble_eq_true rfl) dL_law_1213 ?_
                      refine q_top (y := 2) (f51) ?_
                      refine lv_irem hx hb dL_law_1214 (by decide) ?_
                      refine q_top (y := 0) (by decide) ?_
                      refine lv_iload hx hb dL_law_1215 (lv_at hl 4 rfl) ?_
                      refine lv_bipush (v := 15) hx hb dL_law_1217 (by decide) ?_
                      refine lv_idiv hx hb dL_law_1219 (by decide) ?_
                      refine q_top (y := 0) (by decide) ?_
                      refine lv_aload hx hb dL_law_1220 (lv_at hl 14 rfl) ?_
                      refine lv_iconst (v := 1) hx hb dL_law_1222 (by decide) ?_
                      refine g_ld (n := 5) (i := 1) C hw 5 rfl (by omega) (Nat.le_of_ble_eq_true rfl) dL_law_1223 ?_
                      refine q_top (y := 2) (f51) ?_
                      refine lv_irem hx hb dL_law_1224 (by decide) ?_
                      refine q_top (y := 0) (by decide) ?_
                      refine g_hl (rest := []) C hw (t_areLinks C.1.2.2.2.2 C.2.2.1 C.2.2.2.1 hfa hw.2.2.2 0 (by omega) 0 (by omega)) ck_L_areLinks v_668 hl.1 rfl ⟨Nat.le_of_ble_eq_true rfl, Nat.le_of_ble_eq_true rfl⟩ (Nat.le_of_ble_eq_true rfl) dL_law_1225 ⟨by omega, by omega⟩ (fun v S H locs hpo hle hw => ?_)
                      obtain ⟨z11, rfl⟩ := hpo
                      have hN : s.heap.size + (1 * q0 + 0) ≤ H.size := by omega
                      refine W.widen (k := 1160) (n := 6 * (1160)) (by omega) (by omega) ?_
                      refine lv_if_eq (tgt := 1302) hx hb dL_law_1228 (by decide) (fun c_12 => ?_) (fun c_12 => ?_)
                      · skip
                        have c_12 : z11 = false := b_f c_12
                        subst c_12
                        refine lv_iconst (v := 0) hx hb dL_law_1302 (by decide) ?_
                        refine lv_istore (lv' := [(9, .int 0), (15, .int 0), (14, .int 0), (13, .int 3), (12, .int 0), (11, .int 3), (10, .int 1), (0, .ref b), (1, .ref (ad 0)), (2, .ref (aa 0)), (3, .ref (aa 1)), (4, .ref (aa 2)), (5, .ref (aa 3)), (6, .ref (aa 4)), (7, .ref (aa 5)), (8, .ref (aa 6))]) hx hb dL_law_1303 hl (by decide) rfl (fun ls hl => ?_)
                        refine lv_iinc (v := 2) (lv' := [(10, .int 2), (9, .int 0), (15, .int 0), (14, .int 0), (13, .int 3), (12, .int 0), (11, .int 3), (0, .ref b), (1, .ref (ad 0)), (2, .ref (aa 0)), (3, .ref (aa 1)), (4, .ref (aa 2)), (5, .ref (aa 3)), (6, .ref (aa 4)), (7, .ref (aa 5)), (8, .ref (aa 6))]) hx hb dL_law_1305 hl (k := 6) rfl (by decide) (by decide) rfl (fun ls hl => ?_)
                        refine lv_goto (tgt := 90) hx hb dL_law_1308 (by decide) ?_
                        exact lx_end0 (n := 2) X hw (by omega) ⟨by omega, by omega⟩ (lv_sub hl [1, 0] rfl)
                      · skip
                        have c_12 : z11 = true := b_t c_12
                        subst c_12
                        refine lv_aload_n hx hb dL_law_1231 rfl (lv_at hl 8 rfl) ?_
                        refine lv_aload_n hx hb dL_law_1232 rfl (lv_at hl 9 rfl) ?_
                        refine lv_aload hx hb dL_law_1233 (lv_at hl 14 rfl) ?_
                        refine lv_iload hx hb dL_law_1235 (lv_at hl 4 rfl) ?_
                        refine lv_bipush (v := 7) hx hb dL_law_1237 (by decide) ?_
                        refine lv_idiv hx hb dL_law_1239 (by decide) ?_
                        refine q_top (y := 0) (by decide) ?_
                        refine lv_aload hx hb dL_law_1240 (lv_at hl 14 rfl) ?_
                        refine lv_iconst (v := 1) hx hb dL_law_1242 (by decide) ?_
                        refine g_ld (n := 5) (i := 1) C hw 5 rfl (by omega) (Nat.le_of_ble_eq_true rfl) dL_law_1243 ?_
                        refine q_top (y := 2) (f51) ?_
                        refine lv_irem hx hb dL_law_1244 (by decide) ?_
                        refine q_top (y := 0) (by decide) ?_
                        refine g_hl (rest := []) C hw (t_areVoid C.1.2.2.2.2 C.2.2.1 C.2.2.2.1 hfa hw.2.2.2 0 (by omega)) ck_L_areVoid v_677 hl.1 rfl ⟨Nat.le_of_ble_eq_true rfl, Nat.le_of_ble_eq_true rfl⟩ (Nat.le_of_ble_eq_true rfl) dL_law_1245 ⟨by omega, by omega⟩ (fun v S H locs hpo hle hw => ?_)
                        obtain ⟨z13, rfl⟩ := hpo
                        have hN : s.heap.size + (1 * q0 + 0) ≤ H.size := by omega
                        refine W.widen (k := 1160) (n := 6 * (1160)) (by omega) (by omega) ?_
                        refine lv_if_eq (tgt := 1302) hx hb dL_law_1248 (by decide) (fun c_14 => ?_) (fun c_14 => ?_)
                        · skip
                          have c_14 : z13 = false := b_f c_14
                          subst c_14
                          refine lv_iconst (v := 0) hx hb dL_law_1302 (by decide) ?_
                          refine lv_istore (lv' := [(9, .int 0), (15, .int 0), (14, .int 0), (13, .int 3), (12, .int 0), (11, .int 3), (10, .int 1), (0, .ref b), (1, .ref (ad 0)), (2, .ref (aa 0)), (3, .ref (aa 1)), (4, .ref (aa 2)), (5, .ref (aa 3)), (6, .ref (aa 4)), (7, .ref (aa 5)), (8, .ref (aa 6))]) hx hb dL_law_1303 hl (by decide) rfl (fun ls hl => ?_)
                          refine lv_iinc (v := 2) (lv' := [(10, .int 2), (9, .int 0), (15, .int 0), (14, .int 0), (13, .int 3), (12, .int 0), (11, .int 3), (0, .ref b), (1, .ref (ad 0)), (2, .ref (aa 0)), (3, .ref (aa 1)), (4, .ref (aa 2)), (5, .ref (aa 3)), (6, .ref (aa 4)), (7, .ref (aa 5)), (8, .ref (aa 6))]) hx hb dL_law_1305 hl (k := 6) rfl (by decide) (by decide) rfl (fun ls hl => ?_)
                          refine lv_goto (tgt := 90) hx hb dL_law_1308 (by decide) ?_
                          exact lx_end0 (n := 2) X hw (by omega) ⟨by omega, by omega⟩ (lv_sub hl [1, 0] rfl)
                        · skip
                          have c_14 : z13 = true := b_t c_14
                          subst c_14
                          refine lv_iload hx hb dL_law_1251 (lv_at hl 6 rfl) ?_
                          refine lv_iconst (v := 3) hx hb dL_law_1253 (by decide) ?_
                          refine lv_irem hx hb dL_law_1254 (by decide) ?_
                          refine q_top (y := 1) (by decide) ?_
                          refine lv_if_gt (tgt := 1272) hx hb dL_law_1255 (by decide) (fun c_15 => ?_) (fun c_15 => ?_)
                          · skip
                            refine lv_iload hx hb dL_law_1272 (lv_at hl 6 rfl) ?_
                            refine lv_bipush (v := 22) hx hb dL_law_1274 (by decide) ?_
                            refine lv_irem hx hb dL_law_1276 (by decide) ?_
                            refine q_top (y := 1) (by decide) ?_
                            refine lv_if_gt (tgt := 1298) hx hb dL_law_1277 (by decide) (fun c_16 => ?_) (fun c_16 => ?_)
                            · skip
                              refine lv_iconst (v := 1) hx hb dL_law_1298 (by decide) ?_
                              refine lv_goto (tgt := 1303) hx hb dL_law_1299 (by decide) ?_
                              refine lv_istore (lv' := [(9, .int 1), (15, .int 0), (14, .int 0), (13, .int 3), (12, .int 0), (11, .int 3), (10, .int 1), (0, .ref b), (1, .ref (ad 0)), (2, .ref (aa 0)), (3, .ref (aa 1)), (4, .ref (aa 2)), (5, .ref (aa 3)), (6, .ref (aa 4)), (7, .ref (aa 5)), (8, .ref (aa 6))]) hx hb dL_law_1303 hl (by decide) rfl (fun ls hl => ?_)
                              refine lv_iinc (v := 2) (lv' := [(10, .int 2), (9, .int 1), (15, .int 0), (14, .int 0), (13, .int 3), (12, .int 0), (11, .int 3), (0, .ref b), (1, .ref (ad 0)), (2, .ref (aa 0)), (3, .ref (aa 1)), (4, .ref (aa 2)), (5, .ref (aa 3)), (6, .ref (aa 4)), (7, .ref (aa 5)), (8, .ref (aa 6))]) hx hb dL_law_1305 hl (k := 6) rfl (by decide) (by decide) rfl (fun ls hl => ?_)
                              refine lv_goto (tgt := 90) hx hb dL_law_1308 (by decide) ?_
                              refine W.widen (k := 1318) (n := 6 * (1318)) (by omega) (by omega) ?_
                              exact kk _ _ _ _ _ hfa hw (by omega) (lv_sub hl [1, 0, 7, 8, 9, 10, 11, 12, 13, 14, 15] rfl)
                            · skip
                              exact absurd c_16 (by decide)
                          · skip
                            exact absurd c_15 (by decide)
                  · skip
                    exact absurd c_9 (by decide)
            · skip
              exact absurd c_6 (by decide)
      · skip
        exact absurd c_3 (by decide)
set_option maxHeartbeats 8000000 in
set_option maxRecDepth 100000 in
theorem lx_R2 {p : Program} {l : Launch} {e : Env} {s : State} {m : MethodId} {args : Array Value} {below : List Frame} {meth : Method} {c : Code} {b L : Nat} {xs : Nat → Int32} {D : va_G} {cI cZ cL : ClassId} {ad aa : Nat → Nat} (X : LX p l s m meth c b L xs D cI cZ cL ad aa) {fa S : Mem} {H : Heap} {locs : List Loc} {ls : Array Slot} {q0 : Nat} (hq : q0 = LB 2) (hfa : FA fa 0 2) (hw : GW D cI (fun q => s.heap.size ≤ q) ad aa fa 0 2 s S H locs) (hN : s.heap.size + q0 ≤ H.size) (hl : lv_has ls 20 [(9, .int (bI true)), (10, .int (nI 2)), (0, .ref b), (1, .ref (ad 0)), (2, .ref (aa 0)), (3, .ref (aa 1)), (4, .ref (aa 2)), (5, .ref (aa 3)), (6, .ref (aa 4)), (7, .ref (aa 5)), (8, .ref (aa 6))])
    (kk : ∀ (fa S : Mem) (H : Heap) (locs : List Loc) (ls : Array Slot), FA fa 1 2 → GW D cI (fun q => s.heap.size ≤ q) ad aa fa 1 2 s S H locs → s.heap.size + LB 3 ≤ H.size → lv_has ls 20 [(9, .int (bI true)), (10, .int (nI 3)), (0, .ref b), (1, .ref (ad 0)), (2, .ref (aa 0)), (3, .ref (aa 1)), (4, .ref (aa 2)), (5, .ref (aa 3)), (6, .ref (aa 4)), (7, .ref (aa 5)), (8, .ref (aa 6))] → W p l e (rg 20 20000) s m args below meth c H locs (1477) (6 * (1477)) (MQ below QL args s 20000 (6 * 20000) (fun q => s.heap.size ≤ q)) (F0 m 90 ls [])) :
    W p l e (rg 20 20000) s m args below meth c H locs (1318) (6 * (1318)) (MQ below QL args s 20000 (6 * 20000) (fun q => s.heap.size ≤ q)) (F0 m 90 ls []) := by
  have C := X.1
  have hx := X.1.1.1
  have hb := X.1.1.2.1
  have hown := X.1.1.2.2.2.1
  unfold LB at hq kk
  have hN : s.heap.size + (1 * q0 + 0) ≤ H.size := by omega
  have hl : lv_has ls 20 [(9, .int (bI true)), (10, .int 2), (0, .ref b), (1, .ref (ad 0)), (2, .ref (aa 0)), (3, .ref (aa 1)), (4, .ref (aa 2)), (5, .ref (aa 3)), (6, .ref (aa 4)), (7, .ref (aa 5)), (8, .ref (aa 6))] := hl
  obtain ⟨⟨hm0, hm1⟩, ⟨f50, f51, f52, f54⟩, fh, ff, fr⟩ := id hfa
  refine lv_iload hx hb dL_law_90 (lv_at hl 1 rfl) ?_
  refine lv_bipush (v := 110) hx hb dL_law_92 (by decide) ?_
  refine lv_icmp_ge (tgt := 1311) hx hb dL_law_94 (by decide) (fun c_1 => ?_) (fun c_1 => ?_)
  · skip
    exact absurd c_1 (by decide)
  · skip
    refine lv_iload hx hb dL_law_97 (lv_at hl 0 rfl) ?_
    refine lv_if_eq (tgt := 1311) hx hb dL_law_99 (by decide) (fun c_2 => ?_) (fun c_2 => ?_)
    · skip
      exact absurd c_2 (by decide)
    · skip
      refine lv_aload_n hx hb dL_law_102 rfl (lv_at hl 2 rfl) ?_
      refine lv_iload hx hb dL_law_103 (lv_at hl 1 rfl) ?_
      refine g_dice (n := 2) X hw (by omega) hl.1 (Nat.le_of_ble_eq_true rfl) ⟨by omega, by omega⟩ dL_law_105 ?_
      refine lv_istore (lv' := [(11, .int 3), (9, .int (bI true)), (10, .int 2), (0, .ref b), (1, .ref (ad 0)), (2, .ref (aa 0)), (3, .ref (aa 1)), (4, .ref (aa 2)), (5, .ref (aa 3)), (6, .ref (aa 4)), (7, .ref (aa 5)), (8, .ref (aa 6))]) hx hb dL_law_108 hl (by decide) rfl (fun ls hl => ?_)
      refine lv_iload hx hb dL_law_110 (lv_at hl 0 rfl) ?_
      refine lv_bipush (v := 32) hx hb dL_law_112 (by decide) ?_
      refine lv_idiv hx hb dL_law_114 (by decide) ?_
      refine q_top (y := 0) (by decide) ?_
      refine lv_istore (lv' := [(12, .int 0), (11, .int 3), (9, .int (bI true)), (10, .int 2), (0, .ref b), (1, .ref (ad 0)), (2, .ref (aa 0)), (3, .ref (aa 1)), (4, .ref (aa 2)), (5, .ref (aa 3)), (6, .ref (aa 4)), (7, .ref (aa 5)), (8, .ref (aa 6))]) hx hb dL_law_115 hl (by decide) rfl (fun ls hl => ?_)
      refine lv_iload hx hb dL_law_117 (lv_at hl 1 rfl) ?_
      refine lv_bipush (v := 32) hx hb dL_law_119 (by decide) ?_
      refine lv_irem hx hb dL_law_121 (by decide) ?_
      refine q_top (y := 3) (by decide) ?_
      refine lv_istore (lv' := [(13, .int 3), (12, .int 0), (11, .int 3), (9, .int (bI true)), (10, .int 2), (0, .ref b), (1, .ref (ad 0)), (2, .ref (aa 0)), (3, .ref (aa 1)), (4, .ref (aa 2)), (5, .ref (aa 3)), (6, .ref (aa 4)), (7, .ref (aa 5)), (8, .ref (aa 6))]) hx hb dL_law_122 hl (by decide) rfl (fun ls hl => ?_)
      refine lv_aload hx hb dL_law_124 (lv_at hl 12 rfl) ?_
      refine lv_iconst (v := 1) hx hb dL_law_126 (by decide) ?_
      refine g_ld (n := 5) (i := 1) C hw 5 rfl (by omega) (Nat.le_of_ble_eq_true rfl) dL_law_127 ?_
      refine q_top (y := 2) (f51) ?_
      refine lv_if_ne (tgt := 135) hx hb dL_law_128 (by decide) (fun c_3 => ?_) (fun c_3 => ?_)
      · skip
        refine lv_iload hx hb dL_law_135 (lv_at hl 1 rfl) ?_
        refine lv_aload hx hb dL_law_137 (lv_at hl 12 rfl) ?_
        refine lv_iconst (v := 1) hx hb dL_law_139 (by decide) ?_
        refine g_ld (n := 5) (i := 1) C hw 5 rfl (by omega) (Nat.le_of_ble_eq_true rfl) dL_law_140 ?_
        refine q_top (y := 2) (f51) ?_
        refine lv_irem hx hb dL_law_141 (by decide) ?_
        refine q_top (y := 0) (by decide) ?_
        refine lv_istore (lv' := [(14, .int 0), (13, .int 3), (12, .int 0), (11, .int 3), (9, .int (bI true)), (10, .int 2), (0, .ref b), (1, .ref (ad 0)), (2, .ref (aa 0)), (3, .ref (aa 1)), (4, .ref (aa 2)), (5, .ref (aa 3)), (6, .ref (aa 4)), (7, .ref (aa 5)), (8, .ref (aa 6))]) hx hb dL_law_142 hl (by decide) rfl (fun ls hl => ?_)
        refine lv_aload hx hb dL_law_144 (lv_at hl 13 rfl) ?_
        refine lv_iconst (v := 0) hx hb dL_law_146 (by decide) ?_
        refine g_ld (n := 5) (i := 0) C hw 5 rfl (by omega) (Nat.le_of_ble_eq_true rfl) dL_law_147 ?_
        refine q_top (y := 0) (f50) ?_
        refine lv_if_ne (tgt := 155) hx hb dL_law_148 (by decide) (fun c_4 => ?_) (fun c_4 => ?_)
        · skip
          exact absurd c_4 (by decide)
        · skip
          refine lv_iconst (v := 0) hx hb dL_law_151 (by decide) ?_
          refine lv_goto (tgt := 164) hx hb dL_law_152 (by decide) ?_
          refine lv_istore (lv' := [(15, .int 0), (14, .int 0), (13, .int 3), (12, .int 0), (11, .int 3), (9, .int (bI true)), (10, .int 2), (0, .ref b), (1, .ref (ad 0)), (2, .ref (aa 0)), (3, .ref (aa 1)), (4, .ref (aa 2)), (5, .ref (aa 3)), (6, .ref (aa 4)), (7, .ref (aa 5)), (8, .ref (aa 6))]) hx hb dL_law_164 hl (by decide) rfl (fun ls hl => ?_)
          refine lv_aload hx hb dL_law_166 (lv_at hl 14 rfl) ?_
          refine lv_iconst (v := 4) hx hb dL_law_168 (by decide) ?_
          refine g_ld (n := 5) (i := 4) C hw 5 rfl (by omega) (Nat.le_of_ble_eq_true rfl) dL_law_169 ?_
          refine q_top (y := 0) (f54) ?_
          refine lv_if_ne (tgt := 230) hx hb dL_law_170 (by decide) (fun c_5 => ?_) (fun c_5 => ?_)
          · skip
            exact absurd c_5 (by decide)
          · skip
            refine lv_aload hx hb dL_law_173 (lv_at hl 14 rfl) ?_
            refine lv_iconst (v := 1) hx hb dL_law_175 (by decide) ?_
            refine g_ld (n := 5) (i := 1) C hw 5 rfl (by omega) (Nat.le_of_ble_eq_true rfl) dL_law_176 ?_
            refine q_top (y := 2) (f51) ?_
            refine lv_iconst (v := 2) hx hb dL_law_177 (by decide) ?_
            refine lv_icmp_lt (tgt := 194) hx hb dL_law_178 (by decide) (fun c_6 => ?_) (fun c_6 => ?_)
            · skip
              exact absurd c_6 (by decide)
            · skip
              refine lv_iload hx hb dL_law_181 (lv_at hl 2 rfl) ?_
              refine lv_if_ne (tgt := 230) hx hb dL_law_183 (by decide) (fun c_7 => ?_) (fun c_7 => ?_)
              · skip
                refine lv_aload hx hb dL_law_230 (lv_at hl 14 rfl) ?_
                refine lv_iconst (v := 4) hx hb dL_law_232 (by decide) ?_
                refine g_ld (n := 5) (i := 4) C hw 5 rfl (by omega) (Nat.le_of_ble_eq_true rfl) dL_law_233 ?_
                refine q_top (y := 0) (f54) ?_
                refine lv_if_ne (tgt := 392) hx hb dL_law_234 (by decide) (fun c_8 => ?_) (fun c_8 => ?_)
                · skip
                  exact absurd c_8 (by decide)
                · skip
                  refine lv_aload hx hb dL_law_237 (lv_at hl 14 rfl) ?_
                  refine lv_iconst (v := 0) hx hb dL_law_239 (by decide) ?_
                  refine g_ld (n := 5) (i := 0) C hw 5 rfl (by omega) (Nat.le_of_ble_eq_true rfl) dL_law_240 ?_
                  refine q_top (y := 0) (f50) ?_
                  refine lv_iconst (v := 3) hx hb dL_law_241 (by decide) ?_
                  refine lv_icmp_lt (tgt := 260) hx hb dL_law_242 (by decide) (fun c_9 => ?_) (fun c_9 => ?_)
                  · skip
                    refine lv_bipush (v := 6) hx hb dL_law_260 (by decide) ?_
                    refine lv_aload hx hb dL_law_262 (lv_at hl 14 rfl) ?_
                    refine lv_iconst (v := 0) hx hb dL_law_264 (by decide) ?_
                    refine g_ld (n := 5) (i := 0) C hw 5 rfl (by omega) (Nat.le_of_ble_eq_true rfl) dL_law_265 ?_
                    refine q_top (y := 0) (f50) ?_
                    refine lv_imul hx hb dL_law_266 ?_
                    refine q_top (y := 0) (by decide) ?_
                    refine lv_istore (lv' := [(16, .int 0), (15, .int 0), (14, .int 0), (13, .int 3), (12, .int 0), (11, .int 3), (9, .int (bI true)), (10, .int 2), (0, .ref b), (1, .ref (ad 0)), (2, .ref (aa 0)), (3, .ref (aa 1)), (4, .ref (aa 2)), (5, .ref (aa 3)), (6, .ref (aa 4)), (7, .ref (aa 5)), (8, .ref (aa 6))]) hx hb dL_law_267 hl (by decide) rfl (fun ls hl => ?_)
                    refine lv_aload_n hx hb dL_law_269 rfl (lv_at hl 10 rfl) ?_
                    refine lv_iload hx hb dL_law_270 (lv_at hl 0 rfl) ?_
                    refine lv_iconst (v := 1) hx hb dL_law_272 (by decide) ?_
                    refine lv_iload hx hb dL_law_273 (lv_at hl 4 rfl) ?_
                    refine lv_bipush (v := 50) hx hb dL_law_275 (by decide) ?_
                    refine lv_irem hx hb dL_law_277 (by decide) ?_
                    refine q_top (y := 0) (by decide) ?_
                    refine lv_iadd hx hb dL_law_278 ?_
                    refine q_top (y := 1) (by decide) ?_
                    refine g_st (x := 1) (i := 0) (n := 48) X hw 0 rfl (by omega) (Nat.le_of_ble_eq_true rfl) rfl dL_law_279 (fun H locs hle hw => ?_)
                    have hN : s.heap.size + (1 * q0 + 0) ≤ H.size := by omega
                    have hfa := hfa.word (i := 0) (x := 1) (by decide)
                    obtain ⟨⟨hm0, hm1⟩, ⟨f50, f51, f52, f54⟩, fh, ff, fr⟩ := id hfa
                    refine lv_aload_n hx hb dL_law_280 rfl (lv_at hl 10 rfl) ?_
                    refine lv_iload hx hb dL_law_281 (lv_at hl 0 rfl) ?_
                    refine lv_iconst (v := 1) hx hb dL_law_283 (by decide) ?_
                    refine lv_iadd hx hb dL_law_284 ?_
                    refine q_top (y := 1) (by decide) ?_
                    refine lv_iload hx hb dL_law_285 (lv_at hl 4 rfl) ?_
                    refine lv_bipush (v := 50) hx hb dL_law_287 (by decide) ?_
                    refine lv_idiv hx hb dL_law_289 (by decide) ?_
                    refine q_top (y := 0) (by decide) ?_
                    refine lv_bipush (v := 8) hx hb dL_law_290 (by decide) ?_
                    refine lv_irem hx hb dL_law_292 (by decide) ?_
                    refine q_top (y := 0) (by decide) ?_
                    refine g_st (x := 0) (i := 1) (n := 48) X hw 0 rfl (by omega) (Nat.le_of_ble_eq_true rfl) rfl dL_law_293 (fun H locs hle hw => ?_)
                    have hN : s.heap.size + (1 * q0 + 0) ≤ H.size := by omega
                    have hfa := hfa.word (i := 1) (x := 0) (by decide)
                    obtain ⟨⟨hm0, hm1⟩, ⟨f50, f51, f52, f54⟩, fh, ff, fr⟩ := id hfa
                    refine lv_aload_n hx hb dL_law_294 rfl (lv_at hl 10 rfl) ?_
                    refine lv_iload hx hb dL_law_295 (lv_at hl 0 rfl) ?_
                    refine lv_iconst (v := 2) hx hb dL_law_297 (by decide) ?_
                    refine lv_iadd hx hb dL_law_298 ?_
                    refine q_top (y := 2) (by decide) ?_
                    refine lv_iload hx hb dL_law_299 (lv_at hl 4 rfl) ?_
                    refine lv_sipush (v := 400) hx hb dL_law_301 (by decide) ?_
                    refine lv_idiv hx hb dL_law_304 (by decide) ?_
                    refine q_top (y := 0) (by decide) ?_
                    refine lv_iload hx hb dL_law_305 (lv_at hl 4 rfl) ?_
                    refine lv_iconst (v := 3) hx hb dL_law_307 (by decide) ?_
                    refine lv_irem hx hb dL_law_308 (by decide) ?_
                    refine q_top (y := 0) (by decide) ?_
                    refine lv_if_ne (tgt := 317) hx hb dL_law_309 (by decide) (fun c_10 => ?_) (fun c_10 => ?_)
                    · skip
                      exact absurd c_10 (by decide)
                    · skip
                      refine lv_bipush (v := 101) hx hb dL_law_312 (by decide) ?_
                      refine lv_goto (tgt := 319) hx hb dL_law_314 (by decide) ?_
                      refine lv_irem hx hb dL_law_319 (by decide) ?_
                      refine q_top (y := 0) (by decide) ?_
                      refine g_st (x := 0) (i := 2) (n := 48) X hw 0 rfl (by omega) (Nat.le_of_ble_eq_true rfl) rfl dL_law_320 (fun H locs hle hw => ?_)
                      have hN : s.heap.size + (1 * q0 + 0) ≤ H.size := by omega
                      have hfa := hfa.word (i := 2) (x := 0) (by decide)
                      obtain ⟨⟨hm0, hm1⟩, ⟨f50, f51, f52, f54⟩, fh, ff, fr⟩ := id hfa
                      refine lv_aload_n hx hb dL_law_321 rfl (lv_at hl 10 rfl) ?_
                      refine lv_iload hx hb dL_law_322 (lv_at hl 0 rfl) ?_
                      refine lv_iconst (v := 3) hx hb dL_law_324 (by decide) ?_
                      refine lv_iadd hx hb dL_law_325 ?_
                      refine q_top (y := 3) (by decide) ?_
                      refine lv_iconst (v := 1) hx hb dL_law_326 (by decide) ?_
                      refine lv_iload hx hb dL_law_327 (lv_at hl 4 rfl) ?_
                      refine lv_sipush (v := 4000) hx hb dL_law_329 (by decide) ?_
                      refine lv_idiv hx hb dL_law_332 (by decide) ?_
                      refine q_top (y := 0) (by decide) ?_
                      refine lv_bipush (v := 40) hx hb dL_law_333 (by decide) ?_
                      refine lv_irem hx hb dL_law_335 (by decide) ?_
                      refine q_top (y := 0) (by decide) ?_
                      refine lv_iadd hx hb dL_law_336 ?_
                      refine q_top (y := 1) (by decide) ?_
                      refine g_st (x := 1) (i := 3) (n := 48) X hw 0 rfl (by omega) (Nat.le_of_ble_eq_true rfl) rfl dL_law_337 (fun H locs hle hw => ?_)
                      have hN : s.heap.size + (1 * q0 + 0) ≤ H.size := by omega
                      have hfa := hfa.word (i := 3) (x := 1) (by decide)
                      obtain ⟨⟨hm0, hm1⟩, ⟨f50, f51, f52, f54⟩, fh, ff, fr⟩ := id hfa
                      refine lv_aload hx hb dL_law_338 (lv_at hl 15 rfl) ?_
                      refine lv_iconst (v := 0) hx hb dL_law_340 (by decide) ?_
                      refine lv_dup2_11 hx hb dL_law_341 rfl rfl ?_
                      refine g_ld (n := 5) (i := 0) C hw 5 rfl (by omega) (Nat.le_of_ble_eq_true rfl) dL_law_342 ?_
                      refine q_top (y := 0) (f50) ?_
                      refine lv_iconst (v := 1) hx hb dL_law_343 (by decide) ?_
                      refine lv_iadd hx hb dL_law_344 ?_
                      refine q_top (y := 1) (by decide) ?_
                      refine g_st (x := 1) (i := 0) (n := 5) X hw 5 rfl (by omega) (Nat.le_of_ble_eq_true rfl) rfl dL_law_345 (fun H locs hle hw => ?_)
                      have hN : s.heap.size + (1 * q0 + 0) ≤ H.size := by omega
                      have hfa := hfa.rid (by omega)
                      obtain ⟨⟨hm0, hm1⟩, ⟨f50, f51, f52, f54⟩, fh, ff, fr⟩ := id hfa
                      refine lv_aload_n hx hb dL_law_346 rfl (lv_at hl 9 rfl) ?_
                      refine lv_iconst (v := 1) hx hb dL_law_347 (by decide) ?_
                      refine lv_aload_n hx hb dL_law_348 rfl (lv_at hl 10 rfl) ?_
                      refine lv_iload hx hb dL_law_349 (lv_at hl 0 rfl) ?_
                      refine g_ld (n := 48) (i := 0) C hw 0 rfl (by omega) (Nat.le_of_ble_eq_true rfl) dL_law_351 ?_
                      refine q_top (y := 1) (rfl) ?_
                      refine lv_aload_n hx hb dL_law_352 rfl (lv_at hl 10 rfl) ?_
                      refine lv_iload hx hb dL_law_353 (lv_at hl 0 rfl) ?_
                      refine lv_iconst (v := 1) hx hb dL_law_355 (by decide) ?_
                      refine lv_iadd hx hb dL_law_356 ?_
                      refine q_top (y := 1) (by decide) ?_
                      refine g_ld (n := 48) (i := 1) C hw 0 rfl (by omega) (Nat.le_of_ble_eq_true rfl) dL_law_357 ?_
                      refine q_top (y := 0) (rfl) ?_
                      refine lv_aload_n hx hb dL_law_358 rfl (lv_at hl 10 rfl) ?_
                      refine lv_iload hx hb dL_law_359 (lv_at hl 0 rfl) ?_
                      refine lv_iconst (v := 2) hx hb dL_law_361 (by decide) ?_
                      refine lv_iadd hx hb dL_law_362 ?_
                      refine q_top (y := 2) (by decide) ?_
                      refine g_ld (n := 48) (i := 2) C hw 0 rfl (by omega) (Nat.le_of_ble_eq_true rfl) dL_law_363 ?_
                      refine q_top (y := 0) (rfl) ?_
                      refine lv_aload_n hx hb dL_law_364 rfl (lv_at hl 10 rfl) ?_
                      refine lv_iload hx hb dL_law_365 (lv_at hl 0 rfl) ?_
                      refine lv_iconst (v := 3) hx hb dL_law_367 (by decide) ?_
                      refine lv_iadd hx hb dL_law_368 ?_
                      refine q_top (y := 3) (by decide) ?_
                      refine g_ld (n := 48) (i := 3) C hw 0 rfl (by omega) (Nat.le_of_ble_eq_true rfl) dL_law_369 ?_
                      refine q_top (y := 1) (rfl) ?_
                      have hv_370 : (oAddR S 1 0 0 1).2.1 = nI 0 := by rw [nn_addR hw.2.2.2 (by decide)]
                      refine g_hlW (rest := []) C hw (h_act_1 C.1.2.2.2.2 C.2.2.1 C.2.2.2.1 hw.2.2.2 1 0 0 1 (js_addR hw.2.2.2 (by decide)) (by rw [nn_addR hw.2.2.2 (by decide)])) ck_L_act v_332 hl.1 rfl ⟨Nat.le_of_ble_eq_true rfl, Nat.le_of_ble_eq_true rfl⟩ (Nat.le_of_ble_eq_true rfl) dL_law_370 ⟨by omega, by omega⟩ (fun v S H locs hpo hle hw => ?_)
                      have hpo : v = _ := hpo
                      subst hpo
                      have hN : s.heap.size + (1 * q0 + 0) ≤ H.size := by omega
                      refine W.widen (k := 1319) (n := 6 * (1319)) (by omega) (by omega) ?_
                      refine q_top (y := 0) (hv_370) ?_
                      refine lv_aload hx hb dL_law_373 (lv_at hl 15 rfl) ?_
                      refine lv_iconst (v := 0) hx hb dL_law_375 (by decide) ?_
                      refine g_ld (n := 5) (i := 0) C hw 5 rfl (by omega) (Nat.le_of_ble_eq_true rfl) dL_law_376 ?_
                      refine q_top (y := 1) (f50) ?_
                      refine lv_iconst (v := 1) hx hb dL_law_377 (by decide) ?_
                      refine lv_isub hx hb dL_law_378 ?_
                      refine q_top (y := 0) (by decide) ?_
                      refine lv_icmp_ne (tgt := 386) hx hb dL_law_379 (by decide) (fun c_11 => ?_) (fun c_11 => ?_)
                      · skip
                        exact absurd c_11 (by decide)
                      · skip
                        refine lv_iconst (v := 1) hx hb dL_law_382 (by decide) ?_
                        refine lv_goto (tgt := 387) hx hb dL_law_383 (by decide) ?_
                        refine lv_istore (lv' := [(9, .int 1), (16, .int 0), (15, .int 0), (14, .int 0), (13, .int 3), (12, .int 0), (11, .int 3), (10, .int 2), (0, .ref b), (1, .ref (ad 0)), (2, .ref (aa 0)), (3, .ref (aa 1)), (4, .ref (aa 2)), (5, .ref (aa 3)), (6, .ref (aa 4)), (7, .ref (aa 5)), (8, .ref (aa 6))]) hx hb dL_law_387 hl (by decide) rfl (fun ls hl => ?_)
                        refine lv_goto (tgt := 1166) hx hb dL_law_389 (by decide) ?_
                        refine lv_iload hx hb dL_law_1166 (lv_at hl 0 rfl) ?_
                        refine lv_if_eq (tgt := 1302) hx hb dL_law_1168 (by decide) (fun c_12 => ?_) (fun c_12 => ?_)
                        · skip
                          exact absurd c_12 (by decide)
                        · skip
                          refine lv_iload hx hb dL_law_1171 (lv_at hl 7 rfl) ?_
                          refine lv_iconst (v := 3) hx hb dL_law_1173 (by decide) ?_
                          refine lv_irem hx hb dL_law_1174 (by decide) ?_
                          refine q_top (y := 2) (by decide) ?_
                          refine lv_if_gt (tgt := 1192) hx hb dL_law_1175 (by decide) (fun c_13 => ?_) (fun c_13 => ?_)
                          · skip
                            refine lv_aload hx hb dL_law_1192 (lv_at hl 15 rfl) ?_
                            refine lv_iconst (v := 1) hx hb dL_law_1194 (by decide) ?_
                            refine g_ld (n := 5) (i := 1) C hw 5 rfl (by omega) (Nat.le_of_ble_eq_true rfl) dL_law_1195 ?_
                            refine q_top (y := 2) (f51) ?_
                            refine lv_if_eq (tgt := 1251) hx hb dL_law_1196 (by decide) (fun c_14 => ?_) (fun c_14 => ?_)
                            · skip
                              exact absurd c_14 (by decide)
                            · skip
                              refine lv_aload_n hx hb dL_law_1199 rfl (lv_at hl 9 rfl) ?_
                              refine lv_aload_n hx hb dL_law_1200 rfl (lv_at hl 10 rfl) ?_
                              refine lv_aload_n hx hb dL_law_1201 rfl (lv_at hl 11 rfl) ?_
                              refine lv_aload hx hb dL_law_1202 (lv_at hl 16 rfl) ?_
                              refine lv_aload hx hb dL_law_1204 (lv_at hl 15 rfl) ?_
                              refine lv_iload hx hb dL_law_1206 (lv_at hl 5 rfl) ?_
                              refine lv_iconst (v := 3) hx hb dL_law_1208 (by decide) ?_
                              refine lv_idiv hx hb dL_law_1209 (by decide) ?_
                              refine q_top (y := 0) (by decide) ?_
                              refine lv_aload hx hb dL_law_1210 (lv_at hl 15 rfl) ?_
                              refine lv_iconst (v := 1) hx hb dL_law_1212 (by decide) ?_
                              refine g_ld (n := 5) (i := 1) C hw 5 rfl (by omega) (Nat.le_of_ble_eq_true rfl) dL_law_1213 ?_
                              refine q_top (y := 2) (f51) ?_
                              refine lv_irem hx hb dL_law_1214 (by decide) ?_
                              refine q_top (y := 0) (by decide) ?_
                              refine lv_iload hx hb dL_law_1215 (lv_at hl 5 rfl) ?_
                              refine lv_bipush (v := 15) hx hb dL_law_1217 (by decide) ?_
                              refine lv_idiv hx hb dL_law_1219 (by decide) ?_
                              refine q_top (y := 0) (by decide) ?_
                              refine lv_aload hx hb dL_law_1220 (lv_at hl 15 rfl) ?_
                              refine lv_iconst (v := 1) hx hb dL_law_1222 (by decide) ?_
                              refine g_ld (n := 5) (i := 1) C hw 5 rfl (by omega) (Nat.le_of_ble_eq_true rfl) dL_law_1223 ?_
                              refine q_top (y := 2) (f51) ?_
                              refine lv_irem hx hb dL_law_1224 (by decide) ?_
                              refine q_top (y := 0) (by decide) ?_
                              refine g_hl (rest := []) C hw (t_areLinks C.1.2.2.2.2 C.2.2.1 C.2.2.2.1 hfa hw.2.2.2 0 (by omega) 0 (by omega)) ck_L_areLinks v_668 hl.1 rfl ⟨Nat.le_of_ble_eq_true rfl, Nat.le_of_ble_eq_true rfl⟩ (Nat.le_of_ble_eq_true rfl) dL_law_1225 ⟨by omega, by omega⟩ (fun v S H locs hpo hle hw => ?_)
                              obtain ⟨z15, rfl⟩ := hpo
                              have hN : s.heap.size + (1 * q0 + 0) ≤ H.size := by omega
                              refine W.widen (k := 1319) (n := 6 * (1319)) (by omega) (by omega) ?_
                              refine lv_if_eq (tgt := 1302) hx hb dL_law_1228 (by decide) (fun c_16 => ?_) (fun c_16 => ?_)
                              · skip
                                have c_16 : z15 = false := b_f c_16
                                subst c_16
                                refine lv_iconst (v := 0) hx hb dL_law_1302 (by decide) ?_
                                refine lv_istore (lv' := [(9, .int 0), (16, .int 0), (15, .int 0), (14, .int 0), (13, .int 3), (12, .int 0), (11, .int 3), (10, .int 2), (0, .ref b), (1, .ref (ad 0)), (2, .ref (aa 0)), (3, .ref (aa 1)), (4, .ref (aa 2)), (5, .ref (aa 3)), (6, .ref (aa 4)), (7, .ref (aa 5)), (8, .ref (aa 6))]) hx hb dL_law_1303 hl (by decide) rfl (fun ls hl => ?_)
                                refine lv_iinc (v := 3) (lv' := [(10, .int 3), (9, .int 0), (16, .int 0), (15, .int 0), (14, .int 0), (13, .int 3), (12, .int 0), (11, .int 3), (0, .ref b), (1, .ref (ad 0)), (2, .ref (aa 0)), (3, .ref (aa 1)), (4, .ref (aa 2)), (5, .ref (aa 3)), (6, .ref (aa 4)), (7, .ref (aa 5)), (8, .ref (aa 6))]) hx hb dL_law_1305 hl (k := 7) rfl (by decide) (by decide) rfl (fun ls hl => ?_)
                                refine lv_goto (tgt := 90) hx hb dL_law_1308 (by decide) ?_
                                exact lx_end0 (n := 3) X hw (by omega) ⟨by omega, by omega⟩ (lv_sub hl [1, 0] rfl)
                              · skip
                                have c_16 : z15 = true := b_t c_16
                                subst c_16
                                refine lv_aload_n hx hb dL_law_1231 rfl (lv_at hl 9 rfl) ?_
                                refine lv_aload_n hx hb dL_law_1232 rfl (lv_at hl 10 rfl) ?_
                                refine lv_aload hx hb dL_law_1233 (lv_at hl 15 rfl) ?_
                                refine lv_iload hx hb dL_law_1235 (lv_at hl 5 rfl) ?_
                                refine lv_bipush (v := 7) hx hb dL_law_1237 (by decide) ?_
                                refine lv_idiv hx hb dL_law_1239 (by decide) ?_
                                refine q_top (y := 0) (by decide) ?_
                                refine lv_aload hx hb dL_law_1240 (lv_at hl 15 rfl) ?_
                                refine lv_iconst (v := 1) hx hb dL_law_1242 (by decide) ?_
                                refine g_ld (n := 5) (i := 1) C hw 5 rfl (by omega) (Nat.le_of_ble_eq_true rfl) dL_law_1243 ?_
                                refine q_top (y := 2) (f51) ?_
                                refine lv_irem hx hb dL_law_1244 (by decide) ?_
                                refine q_top (y := 0) (by decide) ?_
                                refine g_hl (rest := []) C hw (t_areVoid C.1.2.2.2.2 C.2.2.1 C.2.2.2.1 hfa hw.2.2.2 0 (by omega)) ck_L_areVoid v_677 hl.1 rfl ⟨Nat.le_of_ble_eq_true rfl, Nat.le_of_ble_eq_true rfl⟩ (Nat.le_of_ble_eq_true rfl) dL_law_1245 ⟨by omega, by omega⟩ (fun v S H locs hpo hle hw => ?_)
                                obtain ⟨z17, rfl⟩ := hpo
                                have hN : s.heap.size + (1 * q0 + 0) ≤ H.size := by omega
                                refine W.widen (k := 1319) (n := 6 * (1319)) (by omega) (by omega) ?_
                                refine lv_if_eq (tgt := 1302) hx hb dL_law_1248 (by decide) (fun c_18 => ?_) (fun c_18 => ?_)
                                · skip
                                  have c_18 : z17 = false := b_f c_18
                                  subst c_18
                                  refine lv_iconst (v := 0) hx hb dL_law_1302 (by decide) ?_
                                  refine lv_istore (lv' := [(9, .int 0), (16, .int 0), (15, .int 0), (14, .int 0), (13, .int 3), (12, .int 0), (11, .int 3), (10, .int 2), (0, .ref b), (1, .ref (ad 0)), (2, .ref (aa 0)), (3, .ref (aa 1)), (4, .ref (aa 2)), (5, .ref (aa 3)), (6, .ref (aa 4)), (7, .ref (aa 5)), (8, .ref (aa 6))]) hx hb dL_law_1303 hl (by decide) rfl (fun ls hl => ?_)
                                  refine lv_iinc (v := 3) (lv' := [(10, .int 3), (9, .int 0), (16, .int 0), (15, .int 0), (14, .int 0), (13, .int 3), (12, .int 0), (11, .int 3), (0, .ref b), (1, .ref (ad 0)), (2, .ref (aa 0)), (3, .ref (aa 1)), (4, .ref (aa 2)), (5, .ref (aa 3)), (6, .ref (aa 4)), (7, .ref (aa 5)), (8, .ref (aa 6))]) hx hb dL_law_1305 hl (k := 7) rfl (by decide) (by decide) rfl (fun ls hl => ?_)
                                  refine lv_goto (tgt := 90) hx hb dL_law_1308 (by decide) ?_
                                  exact lx_end0 (n := 3) X hw (by omega) ⟨by omega, by omega⟩ (lv_sub hl [1, 0] rfl)
                                · skip
                                  have c_18 : z17 = true := b_t c_18
                                  subst c_18
                                  refine lv_iload hx hb dL_law_1251 (lv_at hl 7 rfl) ?_
                                  refine lv_iconst (v := 3) hx hb dL_law_1253 (by decide) ?_
                                  refine lv_irem hx hb dL_law_1254 (by decide) ?_
                                  refine q_top (y := 2) (by decide) ?_
                                  refine lv_if_gt (tgt := 1272) hx hb dL_law_1255 (by decide) (fun c_19 => ?_) (fun c_19 => ?_)
                                  · skip
                                    refine lv_iload hx hb dL_law_1272 (lv_at hl 7 rfl) ?_
                                    refine lv_bipush (v := 22) hx hb dL_law_1274 (by decide) ?_
                                    refine lv_irem hx hb dL_law_1276 (by decide) ?_
                                    refine q_top (y := 2) (by decide) ?_
                                    refine lv_if_gt (tgt := 1298) hx hb dL_law_1277 (by decide) (fun c_20 => ?_) (fun c_20 => ?_)
                                    · skip
                                      refine lv_iconst (v := 1) hx hb dL_law_1298 (by decide) ?_
                                      refine lv_goto (tgt := 1303) hx hb dL_law_1299 (by decide) ?_
                                      refine lv_istore (lv' := [(9, .int 1), (16, .int 0), (15, .int 0), (14, .int 0), (13, .int 3), (12, .int 0), (11, .int 3), (10, .int 2), (0, .ref b), (1, .ref (ad 0)), (2, .ref (aa 0)), (3, .ref (aa 1)), (4, .ref (aa 2)), (5, .ref (aa 3)), (6, .ref (aa 4)), (7, .ref (aa 5)), (8, .ref (aa 6))]) hx hb dL_law_1303 hl (by decide) rfl (fun ls hl => ?_)
                                      refine lv_iinc (v := 3) (lv' := [(10, .int 3), (9, .int 1), (16, .int 0), (15, .int 0), (14, .int 0), (13, .int 3), (12, .int 0), (11, .int 3), (0, .ref b), (1, .ref (ad 0)), (2, .ref (aa 0)), (3, .ref (aa 1)), (4, .ref (aa 2)), (5, .ref (aa 3)), (6, .ref (aa 4)), (7, .ref (aa 5)), (8, .ref (aa 6))]) hx hb dL_law_1305 hl (k := 7) rfl (by decide) (by decide) rfl (fun ls hl => ?_)
                                      refine lv_goto (tgt := 90) hx hb dL_law_1308 (by decide) ?_
                                      refine W.widen (k := 1477) (n := 6 * (1477)) (by omega) (by omega) ?_
                                      exact kk _ _ _ _ _ hfa hw (by omega) (lv_sub hl [1, 0, 8, 9, 10, 11, 12, 13, 14, 15, 16] rfl)
                                    · skip
                                      exact absurd c_20 (by decide)
                                  · skip
                                    exact absurd c_19 (by decide)
                          · skip
                            exact absurd c_13 (by decide)
                  · skip
                    exact absurd c_9 (by decide)
              · skip
                exact absurd c_7 (by decide)
      · skip
        exact absurd c_3 (by decide)
set_option maxHeartbeats 8000000 in
set_option maxRecDepth 100000 in
theorem lx_R3 {p : Program} {l : Launch} {e : Env} {s : State} {m : MethodId} {args : Array Value} {below : List Frame} {meth : Method} {c : Code} {b L : Nat} {xs : Nat → Int32} {D : va_G} {cI cZ cL : ClassId} {ad aa : Nat → Nat} (X : LX p l s m meth c b L xs D cI cZ cL ad aa) {fa S : Mem} {H : Heap} {locs : List Loc} {ls : Array Slot} {q0 : Nat} (hq : q0 = LB 3) (hfa : FA fa 1 2) (hw : GW D cI (fun q => s.heap.size ≤ q) ad aa fa 1 2 s S H locs) (hN : s.heap.size + q0 ≤ H.size) (hl : lv_has ls 20 [(9, .int (bI true)), (10, .int (nI 3)), (0, .ref b), (1, .ref (ad 0)), (2, .ref (aa 0)), (3, .ref (aa 1)), (4, .ref (aa 2)), (5, .ref (aa 3)), (6, .ref (aa 4)), (7, .ref (aa 5)), (8, .ref (aa 6))])
    (kk : ∀ (fa S : Mem) (H : Heap) (locs : List Loc) (ls : Array Slot), FA fa 2 2 → GW D cI (fun q => s.heap.size ≤ q) ad aa fa 2 2 s S H locs → s.heap.size + LB 4 ≤ H.size → lv_has ls 20 [(9, .int (bI true)), (10, .int (nI 4)), (0, .ref b), (1, .ref (ad 0)), (2, .ref (aa 0)), (3, .ref (aa 1)), (4, .ref (aa 2)), (5, .ref (aa 3)), (6, .ref (aa 4)), (7, .ref (aa 5)), (8, .ref (aa 6))] → W p l e (rg 20 20000) s m args below meth c H locs (1636) (6 * (1636)) (MQ below QL args s 20000 (6 * 20000) (fun q => s.heap.size ≤ q)) (F0 m 90 ls [])) :
    W p l e (rg 20 20000) s m args below meth c H locs (1477) (6 * (1477)) (MQ below QL args s 20000 (6 * 20000) (fun q => s.heap.size ≤ q)) (F0 m 90 ls []) := by
  have C := X.1
  have hx := X.1.1.1
  have hb := X.1.1.2.1
  have hown := X.1.1.2.2.2.1
  unfold LB at hq kk
  have hN : s.heap.size + (1 * q0 + 0) ≤ H.size := by omega
  have hl : lv_has ls 20 [(9, .int (bI true)), (10, .int 3), (0, .ref b), (1, .ref (ad 0)), (2, .ref (aa 0)), (3, .ref (aa 1)), (4, .ref (aa 2)), (5, .ref (aa 3)), (6, .ref (aa 4)), (7, .ref (aa 5)), (8, .ref (aa 6))] := hl
  obtain ⟨⟨hm0, hm1⟩, ⟨f50, f51, f52, f54⟩, fh, ff, fr⟩ := id hfa
  refine lv_iload hx hb dL_law_90 (lv_at hl 1 rfl) ?_
  refine lv_bipush (v := 110) hx hb dL_law_92 (by decide) ?_
  refine lv_icmp_ge (tgt := 1311) hx hb dL_law_94 (by decide) (fun c_1 => ?_) (fun c_1 => ?_)
  · skip
    exact absurd c_1 (by decide)
  · skip
    refine lv_iload hx hb dL_law_97 (lv_at hl 0 rfl) ?_
    refine lv_if_eq (tgt := 1311) hx hb dL_law_99 (by decide) (fun c_2 => ?_) (fun c_2 => ?_)
    · skip
      exact absurd c_2 (by decide)
    · skip
      refine lv_aload_n hx hb dL_law_102 rfl (lv_at hl 2 rfl) ?_
      refine lv_iload hx hb dL_law_103 (lv_at hl 1 rfl) ?_
      refine g_dice (n := 3) X hw (by omega) hl.1 (Nat.le_of_ble_eq_true rfl) ⟨by omega, by omega⟩ dL_law_105 ?_
      refine lv_istore (lv' := [(11, .int 3), (9, .int (bI true)), (10, .int 3), (0, .ref b), (1, .ref (ad 0)), (2, .ref (aa 0)), (3, .ref (aa 1)), (4, .ref (aa 2)), (5, .ref (aa 3)), (6, .ref (aa 4)), (7, .ref (aa 5)), (8, .ref (aa 6))]) hx hb dL_law_108 hl (by decide) rfl (fun ls hl => ?_)
      refine lv_iload hx hb dL_law_110 (lv_at hl 0 rfl) ?_
      refine lv_bipush (v := 32) hx hb dL_law_112 (by decide) ?_
      refine lv_idiv hx hb dL_law_114 (by decide) ?_
      refine q_top (y := 0) (by decide) ?_
      refine lv_istore (lv' := [(12, .int 0), (11, .int 3), (9, .int (bI true)), (10, .int 3), (0, .ref b), (1, .ref (ad 0)), (2, .ref (aa 0)), (3, .ref (aa 1)), (4, .ref (aa 2)), (5, .ref (aa 3)), (6, .ref (aa 4)), (7, .ref (aa 5)), (8, .ref (aa 6))]) hx hb dL_law_115 hl (by decide) rfl (fun ls hl => ?_)
      refine lv_iload hx hb dL_law_117 (lv_at hl 1 rfl) ?_
      refine lv_bipush (v := 32) hx hb dL_law_119 (by decide) ?_
      refine lv_irem hx hb dL_law_121 (by decide) ?_
      refine q_top (y := 3) (by decide) ?_
      refine lv_istore (lv' := [(13, .int 3), (12, .int 0), (11, .int 3), (9, .int (bI true)), (10, .int 3), (0, .ref b), (1, .ref (ad 0)), (2, .ref (aa 0)), (3, .ref (aa 1)), (4, .ref (aa 2)), (5, .ref (aa 3)), (6, .ref (aa 4)), (7, .ref (aa 5)), (8, .ref (aa 6))]) hx hb dL_law_122 hl (by decide) rfl (fun ls hl => ?_)
      refine lv_aload hx hb dL_law_124 (lv_at hl 12 rfl) ?_
      refine lv_iconst (v := 1) hx hb dL_law_126 (by decide) ?_
      refine g_ld (n := 5) (i := 1) C hw 5 rfl (by omega) (Nat.le_of_ble_eq_true rfl) dL_law_127 ?_
      refine q_top (y := 2) (f51) ?_
      refine lv_if_ne (tgt := 135) hx hb dL_law_128 (by decide) (fun c_3 => ?_) (fun c_3 => ?_)
      · skip
        refine lv_iload hx hb dL_law_135 (lv_at hl 1 rfl) ?_
        refine lv_aload hx hb dL_law_137 (lv_at hl 12 rfl) ?_
        refine lv_iconst (v := 1) hx hb dL_law_139 (by decide) ?_
        refine g_ld (n := 5) (i := 1) C hw 5 rfl (by omega) (Nat.le_of_ble_eq_true rfl) dL_law_140 ?_
        refine q_top (y := 2) (f51) ?_
        refine lv_irem hx hb dL_law_141 (by decide) ?_
        refine q_top (y := 0) (by decide) ?_
        refine lv_istore (lv' := [(14, .int 0), (13, .int 3), (12, .int 0), (11, .int 3), (9, .int (bI true)), (10, .int 3), (0, .ref b), (1, .ref (ad 0)), (2, .ref (aa 0)), (3, .ref (aa 1)), (4, .ref (aa 2)), (5, .ref (aa 3)), (6, .ref (aa 4)), (7, .ref (aa 5)), (8, .ref (aa 6))]) hx hb dL_law_142 hl (by decide) rfl (fun ls hl => ?_)
        refine lv_aload hx hb dL_law_144 (lv_at hl 13 rfl) ?_
        refine lv_iconst (v := 0) hx hb dL_law_146 (by decide) ?_
        refine g_ld (n := 5) (i := 0) C hw 5 rfl (by omega) (Nat.le_of_ble_eq_true rfl) dL_law_147 ?_
        refine q_top (y := 1) (f50) ?_
        refine lv_if_ne (tgt := 155) hx hb dL_law_148 (by decide) (fun c_4 => ?_) (fun c_4 => ?_)
        · skip
          refine lv_iload hx hb dL_law_155 (lv_at hl 2 rfl) ?_
          refine lv_iconst (v := 5) hx hb dL_law_157 (by decide) ?_
          refine lv_idiv hx hb dL_law_158 (by decide) ?_
          refine q_top (y := 0) (by decide) ?_
          refine lv_aload hx hb dL_law_159 (lv_at hl 13 rfl) ?_
          refine lv_iconst (v := 0) hx hb dL_law_161 (by decide) ?_
          refine g_ld (n := 5) (i := 0) C hw 5 rfl (by omega) (Nat.le_of_ble_eq_true rfl) dL_law_162 ?_
          refine q_top (y := 1) (f50) ?_
          refine lv_irem hx hb dL_law_163 (by decide) ?_
          refine q_top (y := 0) (by decide) ?_
          refine lv_istore (lv' := [(15, .int 0), (14, .int 0), (13, .int 3), (12, .int 0), (11, .int 3), (9, .int (bI true)), (10, .int 3), (0, .ref b), (1, .ref (ad 0)), (2, .ref (aa 0)), (3, .ref (aa 1)), (4, .ref (aa 2)), (5, .ref (aa 3)), (6, .ref (aa 4)), (7, .ref (aa 5)), (8, .ref (aa 6))]) hx hb dL_law_164 hl (by decide) rfl (fun ls hl => ?_)
          refine lv_aload hx hb dL_law_166 (lv_at hl 14 rfl) ?_
          refine lv_iconst (v := 4) hx hb dL_law_168 (by decide) ?_
          refine g_ld (n := 5) (i := 4) C hw 5 rfl (by omega) (Nat.le_of_ble_eq_true rfl) dL_law_169 ?_
          refine q_top (y := 0) (f54) ?_
          refine lv_if_ne (tgt := 230) hx hb dL_law_170 (by decide) (fun c_5 => ?_) (fun c_5 => ?_)
          · skip
            exact absurd c_5 (by decide)
          · skip
            refine lv_aload hx hb dL_law_173 (lv_at hl 14 rfl) ?_
            refine lv_iconst (v := 1) hx hb dL_law_175 (by decide) ?_
            refine g_ld (n := 5) (i := 1) C hw 5 rfl (by omega) (Nat.le_of_ble_eq_true rfl) dL_law_176 ?_
            refine q_top (y := 2) (f51) ?_
            refine lv_iconst (v := 2) hx hb dL_law_177 (by decide) ?_
            refine lv_icmp_lt (tgt := 194) hx hb dL_law_178 (by decide) (fun c_6 => ?_) (fun c_6 => ?_)
            · skip
              exact absurd c_6 (by decide)
            · skip
              refine lv_iload hx hb dL_law_181 (lv_at hl 2 rfl) ?_
              refine lv_if_ne (tgt := 230) hx hb dL_law_183 (by decide) (fun c_7 => ?_) (fun c_7 => ?_)
              · skip
                refine lv_aload hx hb dL_law_230 (lv_at hl 14 rfl) ?_
                refine lv_iconst (v := 4) hx hb dL_law_232 (by decide) ?_
                refine g_ld (n := 5) (i := 4) C hw 5 rfl (by omega) (Nat.le_of_ble_eq_true rfl) dL_law_233 ?_
                refine q_top (y := 0) (f54) ?_
                refine lv_if_ne (tgt := 392) hx hb dL_law_234 (by decide) (fun c_8 => ?_) (fun c_8 => ?_)
                · skip
                  exact absurd c_8 (by decide)
                · skip
                  refine lv_aload hx hb dL_law_237 (lv_at hl 14 rfl) ?_
                  refine lv_iconst (v := 0) hx hb dL_law_239 (by decide) ?_
                  refine g_ld (n := 5) (i := 0) C hw 5 rfl (by omega) (Nat.le_of_ble_eq_true rfl) dL_law_240 ?_
                  refine q_top (y := 1) (f50) ?_
                  refine lv_iconst (v := 3) hx hb dL_law_241 (by decide) ?_
                  refine lv_icmp_lt (tgt := 260) hx hb dL_law_242 (by decide) (fun c_9 => ?_) (fun c_9 => ?_)
                  · skip
                    refine lv_bipush (v := 6) hx hb dL_law_260 (by decide) ?_
                    refine lv_aload hx hb dL_law_262 (lv_at hl 14 rfl) ?_
                    refine lv_iconst (v := 0) hx hb dL_law_264 (by decide) ?_
                    refine g_ld (n := 5) (i := 0) C hw 5 rfl (by omega) (Nat.le_of_ble_eq_true rfl) dL_law_265 ?_
                    refine q_top (y := 1) (f50) ?_
                    refine lv_imul hx hb dL_law_266 ?_
                    refine q_top (y := 6) (by decide) ?_
                    refine lv_istore (lv' := [(16, .int 6), (15, .int 0), (14, .int 0), (13, .int 3), (12, .int 0), (11, .int 3), (9, .int (bI true)), (10, .int 3), (0, .ref b), (1, .ref (ad 0)), (2, .ref (aa 0)), (3, .ref (aa 1)), (4, .ref (aa 2)), (5, .ref (aa 3)), (6, .ref (aa 4)), (7, .ref (aa 5)), (8, .ref (aa 6))]) hx hb dL_law_267 hl (by decide) rfl (fun ls hl => ?_)
                    refine lv_aload_n hx hb dL_law_269 rfl (lv_at hl 10 rfl) ?_
                    refine lv_iload hx hb dL_law_270 (lv_at hl 0 rfl) ?_
                    refine lv_iconst (v := 1) hx hb dL_law_272 (by decide) ?_
                    refine lv_iload hx hb dL_law_273 (lv_at hl 4 rfl) ?_
                    refine lv_bipush (v := 50) hx hb dL_law_275 (by decide) ?_
                    refine lv_irem hx hb dL_law_277 (by decide) ?_
                    refine q_top (y := 0) (by decide) ?_
                    refine lv_iadd hx hb dL_law_278 ?_
                    refine q_top (y := 1) (by decide) ?_
                    refine g_st (x := 1) (i := 6) (n := 48) X hw 0 rfl (by omega) (Nat.le_of_ble_eq_true rfl) rfl dL_law_279 (fun H locs hle hw => ?_)
                    have hN : s.heap.size + (1 * q0 + 0) ≤ H.size := by omega
                    have hfa := hfa.word (i := 6) (x := 1) (by decide)
                    obtain ⟨⟨hm0, hm1⟩, ⟨f50, f51, f52, f54⟩, fh, ff, fr⟩ := id hfa
                    refine lv_aload_n hx hb dL_law_280 rfl (lv_at hl 10 rfl) ?_
                    refine lv_iload hx hb dL_law_281 (lv_at hl 0 rfl) ?_
                    refine lv_iconst (v := 1) hx hb dL_law_283 (by decide) ?_
                    refine lv_iadd hx hb dL_law_284 ?_
                    refine q_top (y := 7) (by decide) ?_
                    refine lv_iload hx hb dL_law_285 (lv_at hl 4 rfl) ?_
                    refine lv_bipush (v := 50) hx hb dL_law_287 (by decide) ?_
                    refine lv_idiv hx hb dL_law_289 (by decide) ?_
                    refine q_top (y := 0) (by decide) ?_
                    refine lv_bipush (v := 8) hx hb dL_law_290 (by decide) ?_
                    refine lv_irem hx hb dL_law_292 (by decide) ?_
                    refine q_top (y := 0) (by decide) ?_
                    refine g_st (x := 0) (i := 7) (n := 48) X hw 0 rfl (by omega) (Nat.le_of_ble_eq_true rfl) rfl dL_law_293 (fun H locs hle hw => ?_)
                    have hN : s.heap.size + (1 * q0 + 0) ≤ H.size := by omega
                    have hfa := hfa.word (i := 7) (x := 0) (by decide)
                    obtain ⟨⟨hm0, hm1⟩, ⟨f50, f51, f52, f54⟩, fh, ff, fr⟩ := id hfa
                    refine lv_aload_n hx hb dL_law_294 rfl (lv_at hl 10 rfl) ?_
                    refine lv_iload hx hb dL_law_295 (lv_at hl 0 rfl) ?_
                    refine lv_iconst (v := 2) hx hb dL_law_297 (by decide) ?_
                    refine lv_iadd hx hb dL_law_298 ?_
                    refine q_top (y := 8) (by decide) ?_
                    refine lv_iload hx hb dL_law_299 (lv_at hl 4 rfl) ?_
                    refine lv_sipush (v := 400) hx hb dL_law_301 (by decide) ?_
                    refine lv_idiv hx hb dL_law_304 (by decide) ?_
                    refine q_top (y := 0) (by decide) ?_
                    refine lv_iload hx hb dL_law_305 (lv_at hl 4 rfl) ?_
                    refine lv_iconst (v := 3) hx hb dL_law_307 (by decide) ?_
                    refine lv_irem hx hb dL_law_308 (by decide) ?_
                    refine q_top (y := 0) (by decide) ?_
                    refine lv_if_ne (tgt := 317) hx hb dL_law_309 (by decide) (fun c_10 => ?_) (fun c_10 => ?_)
                    · skip
                      exact absurd c_10 (by decide)
                    · skip
                      refine lv_bipush (v := 101) hx hb dL_law_312 (by decide) ?_
                      refine lv_goto (tgt := 319) hx hb dL_law_314 (by decide) ?_
                      refine lv_irem hx hb dL_law_319 (by decide) ?_
                      refine q_top (y := 0) (by decide) ?_
                      refine g_st (x := 0) (i := 8) (n := 48) X hw 0 rfl (by omega) (Nat.le_of_ble_eq_true rfl) rfl dL_law_320 (fun H locs hle hw => ?_)
                      have hN : s.heap.size + (1 * q0 + 0) ≤ H.size := by omega
                      have hfa := hfa.word (i := 8) (x := 0) (by decide)
                      obtain ⟨⟨hm0, hm1⟩, ⟨f50, f51, f52, f54⟩, fh, ff, fr⟩ := id hfa
                      refine lv_aload_n hx hb dL_law_321 rfl (lv_at hl 10 rfl) ?_
                      refine lv_iload hx hb dL_law_322 (lv_at hl 0 rfl) ?_
                      refine lv_iconst (v := 3) hx hb dL_law_324 (by decide) ?_
                      refine lv_iadd hx hb dL_law_325 ?_
                      refine q_top (y := 9) (by decide) ?_
                      refine lv_iconst (v := 1) hx hb dL_law_326 (by decide) ?_
                      refine lv_iload hx hb dL_law_327 (lv_at hl 4 rfl) ?_
                      refine lv_sipush (v := 4000) hx hb dL_law_329 (by decide) ?_
                      refine lv_idiv hx hb dL_law_332 (by decide) ?_
                      refine q_top (y := 0) (by decide) ?_
                      refine lv_bipush (v := 40) hx hb dL_law_333 (by decide) ?_
                      refine lv_irem hx hb dL_law_335 (by decide) ?_
                      refine q_top (y := 0) (by decide) ?_
                      refine lv_iadd hx hb dL_law_336 ?_
                      refine q_top (y := 1) (by decide) ?_
                      refine g_st (x := 1) (i := 9) (n := 48) X hw 0 rfl (by omega) (Nat.le_of_ble_eq_true rfl) rfl dL_law_337 (fun H locs hle hw => ?_)
                      have hN : s.heap.size + (1 * q0 + 0) ≤ H.size := by omega
                      have hfa := hfa.word (i := 9) (x := 1) (by decide)
                      obtain ⟨⟨hm0, hm1⟩, ⟨f50, f51, f52, f54⟩, fh, ff, fr⟩ := id hfa
                      refine lv_aload hx hb dL_law_338 (lv_at hl 15 rfl) ?_
                      refine lv_iconst (v := 0) hx hb dL_law_340 (by decide) ?_
                      refine lv_dup2_11 hx hb dL_law_341 rfl rfl ?_
                      refine g_ld (n := 5) (i := 0) C hw 5 rfl (by omega) (Nat.le_of_ble_eq_true rfl) dL_law_342 ?_
                      refine q_top (y := 1) (f50) ?_
                      refine lv_iconst (v := 1) hx hb dL_law_343 (by decide) ?_
                      refine lv_iadd hx hb dL_law_344 ?_
                      refine q_top (y := 2) (by decide) ?_
                      refine g_st (x := 2) (i := 0) (n := 5) X hw 5 rfl (by omega) (Nat.le_of_ble_eq_true rfl) rfl dL_law_345 (fun H locs hle hw => ?_)
                      have hN : s.heap.size + (1 * q0 + 0) ≤ H.size := by omega
                      have hfa := hfa.rid (by omega)
                      obtain ⟨⟨hm0, hm1⟩, ⟨f50, f51, f52, f54⟩, fh, ff, fr⟩ := id hfa
                      refine lv_aload_n hx hb dL_law_346 rfl (lv_at hl 9 rfl) ?_
                      refine lv_iconst (v := 1) hx hb dL_law_347 (by decide) ?_
                      refine lv_aload_n hx hb dL_law_348 rfl (lv_at hl 10 rfl) ?_
                      refine lv_iload hx hb dL_law_349 (lv_at hl 0 rfl) ?_
                      refine g_ld (n := 48) (i := 6) C hw 0 rfl (by omega) (Nat.le_of_ble_eq_true rfl) dL_law_351 ?_
                      refine q_top (y := 1) (rfl) ?_
                      refine lv_aload_n hx hb dL_law_352 rfl (lv_at hl 10 rfl) ?_
                      refine lv_iload hx hb dL_law_353 (lv_at hl 0 rfl) ?_
                      refine lv_iconst (v := 1) hx hb dL_law_355 (by decide) ?_
                      refine lv_iadd hx hb dL_law_356 ?_
                      refine q_top (y := 7) (by decide) ?_
                      refine g_ld (n := 48) (i := 7) C hw 0 rfl (by omega) (Nat.le_of_ble_eq_true rfl) dL_law_357 ?_
                      refine q_top (y := 0) (rfl) ?_
                      refine lv_aload_n hx hb dL_law_358 rfl (lv_at hl 10 rfl) ?_
                      refine lv_iload hx hb dL_law_359 (lv_at hl 0 rfl) ?_
                      refine lv_iconst (v := 2) hx hb dL_law_361 (by decide) ?_
                      refine lv_iadd hx hb dL_law_362 ?_
                      refine q_top (y := 8) (by decide) ?_
                      refine g_ld (n := 48) (i := 8) C hw 0 rfl (by omega) (Nat.le_of_ble_eq_true rfl) dL_law_363 ?_
                      refine q_top (y := 0) (rfl) ?_
                      refine lv_aload_n hx hb dL_law_364 rfl (lv_at hl 10 rfl) ?_
                      refine lv_iload hx hb dL_law_365 (lv_at hl 0 rfl) ?_
                      refine lv_iconst (v := 3) hx hb dL_law_367 (by decide) ?_
                      refine lv_iadd hx hb dL_law_368 ?_
                      refine q_top (y := 9) (by decide) ?_
                      refine g_ld (n := 48) (i := 9) C hw 0 rfl (by omega) (Nat.le_of_ble_eq_true rfl) dL_law_369 ?_
                      refine q_top (y := 1) (rfl) ?_
                      have hv_370 : (oAddR S 1 0 0 1).2.1 = nI 1 := by rw [nn_addR hw.2.2.2 (by decide)]
                      refine g_hlW (rest := []) C hw (h_act_1 C.1.2.2.2.2 C.2.2.1 C.2.2.2.1 hw.2.2.2 1 0 0 1 (js_addR hw.2.2.2 (by decide)) (by rw [nn_addR hw.2.2.2 (by decide)])) ck_L_act v_332 hl.1 rfl ⟨Nat.le_of_ble_eq_true rfl, Nat.le_of_ble_eq_true rfl⟩ (Nat.le_of_ble_eq_true rfl) dL_law_370 ⟨by omega, by omega⟩ (fun v S H locs hpo hle hw => ?_)
                      have hpo : v = _ := hpo
                      subst hpo
                      have hN : s.heap.size + (1 * q0 + 0) ≤ H.size := by omega
                      refine W.widen (k := 1478) (n := 6 * (1478)) (by omega) (by omega) ?_
                      refine q_top (y := 1) (hv_370) ?_
                      refine lv_aload hx hb dL_law_373 (lv_at hl 15 rfl) ?_
                      refine lv_iconst (v := 0) hx hb dL_law_375 (by decide) ?_
                      refine g_ld (n := 5) (i := 0) C hw 5 rfl (by omega) (Nat.le_of_ble_eq_true rfl) dL_law_376 ?_
                      refine q_top (y := 2) (f50) ?_
                      refine lv_iconst (v := 1) hx hb dL_law_377 (by decide) ?_
                      refine lv_isub hx hb dL_law_378 ?_
                      refine q_top (y := 1) (by decide) ?_
                      refine lv_icmp_ne (tgt := 386) hx hb dL_law_379 (by decide) (fun c_11 => ?_) (fun c_11 => ?_)
                      · skip
                        exact absurd c_11 (by decide)
                      · skip
                        refine lv_iconst (v := 1) hx hb dL_law_382 (by decide) ?_
                        refine lv_goto (tgt := 387) hx hb dL_law_383 (by decide) ?_
                        refine lv_istore (lv' := [(9, .int 1), (16, .int 6), (15, .int 0), (14, .int 0), (13, .int 3), (12, .int 0), (11, .int 3), (10, .int 3), (0, .ref b), (1, .ref (ad 0)), (2, .ref (aa 0)), (3, .ref (aa 1)), (4, .ref (aa 2)), (5, .ref (aa 3)), (6, .ref (aa 4)), (7, .ref (aa 5)), (8, .ref (aa 6))]) hx hb dL_law_387 hl (by decide) rfl (fun ls hl => ?_)
                        refine lv_goto (tgt := 1166) hx hb dL_law_389 (by decide) ?_
                        refine lv_iload hx hb dL_law_1166 (lv_at hl 0 rfl) ?_
                        refine lv_if_eq (tgt := 1302) hx hb dL_law_1168 (by decide) (fun c_12 => ?_) (fun c_12 => ?_)
                        · skip
                          exact absurd c_12 (by decide)
                        · skip
                          refine lv_iload hx hb dL_law_1171 (lv_at hl 7 rfl) ?_
                          refine lv_iconst (v := 3) hx hb dL_law_1173 (by decide) ?_
                          refine lv_irem hx hb dL_law_1174 (by decide) ?_
                          refine q_top (y := 0) (by decide) ?_
                          refine lv_if_gt (tgt := 1192) hx hb dL_law_1175 (by decide) (fun c_13 => ?_) (fun c_13 => ?_)
                          · skip
                            exact absurd c_13 (by decide)
                          · skip
                            refine lv_aload_n hx hb dL_law_1178 rfl (lv_at hl 9 rfl) ?_
                            refine lv_aload_n hx hb dL_law_1179 rfl (lv_at hl 10 rfl) ?_
                            refine lv_aload hx hb dL_law_1180 (lv_at hl 12 rfl) ?_
                            refine lv_aload hx hb dL_law_1182 (lv_at hl 13 rfl) ?_
                            refine lv_aload hx hb dL_law_1184 (lv_at hl 15 rfl) ?_
                            refine g_hl (rest := []) C hw (t_areOpened C.1.2.2.2.2 C.2.2.1 C.2.2.2.1 hfa hw.2.2.2) ck_L_areOpened v_665 hl.1 rfl ⟨Nat.le_of_ble_eq_true rfl, Nat.le_of_ble_eq_true rfl⟩ (Nat.le_of_ble_eq_true rfl) dL_law_1186 ⟨by omega, by omega⟩ (fun v S H locs hpo hle hw => ?_)
                            obtain ⟨z14, rfl⟩ := hpo
                            have hN : s.heap.size + (1 * q0 + 0) ≤ H.size := by omega
                            refine W.widen (k := 1484) (n := 6 * (1484)) (by omega) (by omega) ?_
                            refine lv_if_eq (tgt := 1302) hx hb dL_law_1189 (by decide) (fun c_15 => ?_) (fun c_15 => ?_)
                            · skip
                              have c_15 : z14 = false := b_f c_15
                              subst c_15
                              refine lv_iconst (v := 0) hx hb dL_law_1302 (by decide) ?_
                              refine lv_istore (lv' := [(9, .int 0), (16, .int 6), (15, .int 0), (14, .int 0), (13, .int 3), (12, .int 0), (11, .int 3), (10, .int 3), (0, .ref b), (1, .ref (ad 0)), (2, .ref (aa 0)), (3, .ref (aa 1)), (4, .ref (aa 2)), (5, .ref (aa 3)), (6, .ref (aa 4)), (7, .ref (aa 5)), (8, .ref (aa 6))]) hx hb dL_law_1303 hl (by decide) rfl (fun ls hl => ?_)
                              refine lv_iinc (v := 4) (lv' := [(10, .int 4), (9, .int 0), (16, .int 6), (15, .int 0), (14, .int 0), (13, .int 3), (12, .int 0), (11, .int 3), (0, .ref b), (1, .ref (ad 0)), (2, .ref (aa 0)), (3, .ref (aa 1)), (4, .ref (aa 2)), (5, .ref (aa 3)), (6, .ref (aa 4)), (7, .ref (aa 5)), (8, .ref (aa 6))]) hx hb dL_law_1305 hl (k := 7) rfl (by decide) (by decide) rfl (fun ls hl => ?_)
                              refine lv_goto (tgt := 90) hx hb dL_law_1308 (by decide) ?_
                              exact lx_end0 (n := 4) X hw (by omega) ⟨by omega, by omega⟩ (lv_sub hl [1, 0] rfl)
                            · skip
                              have c_15 : z14 = true := b_t c_15
                              subst c_15
                              refine lv_aload hx hb dL_law_1192 (lv_at hl 15 rfl) ?_
                              refine lv_iconst (v := 1) hx hb dL_law_1194 (by decide) ?_
                              refine g_ld (n := 5) (i := 1) C hw 5 rfl (by omega) (Nat.le_of_ble_eq_true rfl) dL_law_1195 ?_
                              refine q_top (y := 2) (f51) ?_
                              refine lv_if_eq (tgt := 1251) hx hb dL_law_1196 (by decide) (fun c_16 => ?_) (fun c_16 => ?_)
                              · skip
                                exact absurd c_16 (by decide)
                              · skip
                                refine lv_aload_n hx hb dL_law_1199 rfl (lv_at hl 9 rfl) ?_
                                refine lv_aload_n hx hb dL_law_1200 rfl (lv_at hl 10 rfl) ?_
                                refine lv_aload_n hx hb dL_law_1201 rfl (lv_at hl 11 rfl) ?_
                                refine lv_aload hx hb dL_law_1202 (lv_at hl 16 rfl) ?_
                                refine lv_aload hx hb dL_law_1204 (lv_at hl 15 rfl) ?_
                                refine lv_iload hx hb dL_law_1206 (lv_at hl 5 rfl) ?_
                                refine lv_iconst (v := 3) hx hb dL_law_1208 (by decide) ?_
                                refine lv_idiv hx hb dL_law_1209 (by decide) ?_
                                refine q_top (y := 0) (by decide) ?_
                                refine lv_aload hx hb dL_law_1210 (lv_at hl 15 rfl) ?_
                                refine lv_iconst (v := 1) hx hb dL_law_1212 (by decide) ?_
                                refine g_ld (n := 5) (i := 1) C hw 5 rfl (by omega) (Nat.le_of_ble_eq_true rfl) dL_law_1213 ?_
                                refine q_top (y := 2) (f51) ?_
                                refine lv_irem hx hb dL_law_1214 (by decide) ?_
                                refine q_top (y := 0) (by decide) ?_
                                refine lv_iload hx hb dL_law_1215 (lv_at hl 5 rfl) ?_
                                refine lv_bipush (v := 15) hx hb dL_law_1217 (by decide) ?_
                                refine lv_idiv hx hb dL_law_1219 (by decide) ?_
                                refine q_top (y := 0) (by decide) ?_
                                refine lv_aload hx hb dL_law_1220 (lv_at hl 15 rfl) ?_
                                refine lv_iconst (v := 1) hx hb dL_law_1222 (by decide) ?_
                                refine g_ld (n := 5) (i := 1) C hw 5 rfl (by omega) (Nat.le_of_ble_eq_true rfl) dL_law_1223 ?_
                                refine q_top (y := 2) (f51) ?_
                                refine lv_irem hx hb dL_law_1224 (by decide) ?_
                                refine q_top (y := 0) (by decide) ?_
                                refine g_hl (rest := []) C hw (t_areLinks C.1.2.2.2.2 C.2.2.1 C.2.2.2.1 hfa hw.2.2.2 0 (by omega) 0 (by omega)) ck_L_areLinks v_668 hl.1 rfl ⟨Nat.le_of_ble_eq_true rfl, Nat.le_of_ble_eq_true rfl⟩ (Nat.le_of_ble_eq_true rfl) dL_law_1225 ⟨by omega, by omega⟩ (fun v S H locs hpo hle hw => ?_)
                                obtain ⟨z17, rfl⟩ := hpo
                                have hN : s.heap.size + (1 * q0 + 0) ≤ H.size := by omega
                                refine W.widen (k := 1484) (n := 6 * (1484)) (by omega) (by omega) ?_
                                refine lv_if_eq (tgt := 1302) hx hb dL_law_1228 (by decide) (fun c_18 => ?_) (fun c_18 => ?_)
                                · skip
                                  have c_18 : z17 = false := b_f c_18
                                  subst c_18
                                  refine lv_iconst (v := 0) hx hb dL_law_1302 (by decide) ?_
                                  refine lv_istore (lv' := [(9, .int 0), (16, .int 6), (15, .int 0), (14, .int 0), (13, .int 3), (12, .int 0), (11, .int 3), (10, .int 3), (0, .ref b), (1, .ref (ad 0)), (2, .ref (aa 0)), (3, .ref (aa 1)), (4, .ref (aa 2)), (5, .ref (aa 3)), (6, .ref (aa 4)), (7, .ref (aa 5)), (8, .ref (aa 6))]) hx hb dL_law_1303 hl (by decide) rfl (fun ls hl => ?_)
                                  refine lv_iinc (v := 4) (lv' := [(10, .int 4), (9, .int 0), (16, .int 6), (15, .int 0), (14, .int 0), (13, .int 3), (12, .int 0), (11, .int 3), (0, .ref b), (1, .ref (ad 0)), (2, .ref (aa 0)), (3, .ref (aa 1)), (4, .ref (aa 2)), (5, .ref (aa 3)), (6, .ref (aa 4)), (7, .ref (aa 5)), (8, .ref (aa 6))]) hx hb dL_law_1305 hl (k := 7) rfl (by decide) (by decide) rfl (fun ls hl => ?_)
                                  refine lv_goto (tgt := 90) hx hb dL_law_1308 (by decide) ?_
                                  exact lx_end0 (n := 4) X hw (by omega) ⟨by omega, by omega⟩ (lv_sub hl [1, 0] rfl)
                                · skip
                                  have c_18 : z17 = true := b_t c_18
                                  subst c_18
                                  refine lv_aload_n hx hb dL_law_1231 rfl (lv_at hl 9 rfl) ?_
                                  refine lv_aload_n hx hb dL_law_1232 rfl (lv_at hl 10 rfl) ?_
                                  refine lv_aload hx hb dL_law_1233 (lv_at hl 15 rfl) ?_
                                  refine lv_iload hx hb dL_law_1235 (lv_at hl 5 rfl) ?_
                                  refine lv_bipush (v := 7) hx hb dL_law_1237 (by decide) ?_
                                  refine lv_idiv hx hb dL_law_1239 (by decide) ?_
                                  refine q_top (y := 0) (by decide) ?_
                                  refine lv_aload hx hb dL_law_1240 (lv_at hl 15 rfl) ?_
                                  refine lv_iconst (v := 1) hx hb dL_law_1242 (by decide) ?_
                                  refine g_ld (n := 5) (i := 1) C hw 5 rfl (by omega) (Nat.le_of_ble_eq_true rfl) dL_law_1243 ?_
                                  refine q_top (y := 2) (f51) ?_
                                  refine lv_irem hx hb dL_law_1244 (by decide) ?_
                                  refine q_top (y := 0) (by decide) ?_
                                  refine g_hl (rest := []) C hw (t_areVoid C.1.2.2.2.2 C.2.2.1 C.2.2.2.1 hfa hw.2.2.2 0 (by omega)) ck_L_areVoid v_677 hl.1 rfl ⟨Nat.le_of_ble_eq_true rfl, Nat.le_of_ble_eq_true rfl⟩ (Nat.le_of_ble_eq_true rfl) dL_law_1245 ⟨by omega, by omega⟩ (fun v S H locs hpo hle hw => ?_)
                                  obtain ⟨z19, rfl⟩ := hpo
                                  have hN : s.heap.size + (1 * q0 + 0) ≤ H.size := by omega
                                  refine W.widen (k := 1484) (n := 6 * (1484)) (by omega) (by omega) ?_
                                  refine lv_if_eq (tgt := 1302) hx hb dL_law_1248 (by decide) (fun c_20 => ?_) (fun c_20 => ?_)
                                  · skip
                                    have c_20 : z19 = false := b_f c_20
                                    subst c_20
                                    refine lv_iconst (v := 0) hx hb dL_law_1302 (by decide) ?_
                                    refine lv_istore (lv' := [(9, .int 0), (16, .int 6), (15, .int 0), (14, .int 0), (13, .int 3), (12, .int 0), (11, .int 3), (10, .int 3), (0, .ref b), (1, .ref (ad 0)), (2, .ref (aa 0)), (3, .ref (aa 1)), (4, .ref (aa 2)), (5, .ref (aa 3)), (6, .ref (aa 4)), (7, .ref (aa 5)), (8, .ref (aa 6))]) hx hb dL_law_1303 hl (by decide) rfl (fun ls hl => ?_)
                                    refine lv_iinc (v := 4) (lv' := [(10, .int 4), (9, .int 0), (16, .int 6), (15, .int 0), (14, .int 0), (13, .int 3), (12, .int 0), (11, .int 3), (0, .ref b), (1, .ref (ad 0)), (2, .ref (aa 0)), (3, .ref (aa 1)), (4, .ref (aa 2)), (5, .ref (aa 3)), (6, .ref (aa 4)), (7, .ref (aa 5)), (8, .ref (aa 6))]) hx hb dL_law_1305 hl (k := 7) rfl (by decide) (by decide) rfl (fun ls hl => ?_)
                                    refine lv_goto (tgt := 90) hx hb dL_law_1308 (by decide) ?_
                                    exact lx_end0 (n := 4) X hw (by omega) ⟨by omega, by omega⟩ (lv_sub hl [1, 0] rfl)
                                  · skip
                                    have c_20 : z19 = true := b_t c_20
                                    subst c_20
                                    refine lv_iload hx hb dL_law_1251 (lv_at hl 7 rfl) ?_
                                    refine lv_iconst (v := 3) hx hb dL_law_1253 (by decide) ?_
                                    refine lv_irem hx hb dL_law_1254 (by decide) ?_
                                    refine q_top (y := 0) (by decide) ?_
                                    refine lv_if_gt (tgt := 1272) hx hb dL_law_1255 (by decide) (fun c_21 => ?_) (fun c_21 => ?_)
                                    · skip
                                      exact absurd c_21 (by decide)
                                    · skip
                                      refine lv_aload_n hx hb dL_law_1258 rfl (lv_at hl 9 rfl) ?_
                                      refine lv_aload_n hx hb dL_law_1259 rfl (lv_at hl 10 rfl) ?_
                                      refine lv_aload hx hb dL_law_1260 (lv_at hl 12 rfl) ?_
                                      refine lv_aload hx hb dL_law_1262 (lv_at hl 14 rfl) ?_
                                      refine lv_aload hx hb dL_law_1264 (lv_at hl 15 rfl) ?_
                                      refine g_hl (rest := []) C hw (t_areScores C.1.2.2.2.2 C.2.2.1 C.2.2.2.1 hfa hw.2.2.2) ck_L_areScores v_680 hl.1 rfl ⟨Nat.le_of_ble_eq_true rfl, Nat.le_of_ble_eq_true rfl⟩ (Nat.le_of_ble_eq_true rfl) dL_law_1266 ⟨by omega, by omega⟩ (fun v S H locs hpo hle hw => ?_)
                                      obtain ⟨z22, rfl⟩ := hpo
                                      have hN : s.heap.size + (1 * q0 + 0) ≤ H.size := by omega
                                      refine W.widen (k := 1486) (n := 6 * (1486)) (by omega) (by omega) ?_
                                      refine lv_if_eq (tgt := 1302) hx hb dL_law_1269 (by decide) (fun c_23 => ?_) (fun c_23 => ?_)
                                      · skip
                                        have c_23 : z22 = false := b_f c_23
                                        subst c_23
                                        refine lv_iconst (v := 0) hx hb dL_law_1302 (by decide) ?_
                                        refine lv_istore (lv' := [(9, .int 0), (16, .int 6), (15, .int 0), (14, .int 0), (13, .int 3), (12, .int 0), (11, .int 3), (10, .int 3), (0, .ref b), (1, .ref (ad 0)), (2, .ref (aa 0)), (3, .ref (aa 1)), (4, .ref (aa 2)), (5, .ref (aa 3)), (6, .ref (aa 4)), (7, .ref (aa 5)), (8, .ref (aa 6))]) hx hb dL_law_1303 hl (by decide) rfl (fun ls hl => ?_)
                                        refine lv_iinc (v := 4) (lv' := [(10, .int 4), (9, .int 0), (16, .int 6), (15, .int 0), (14, .int 0), (13, .int 3), (12, .int 0), (11, .int 3), (0, .ref b), (1, .ref (ad 0)), (2, .ref (aa 0)), (3, .ref (aa 1)), (4, .ref (aa 2)), (5, .ref (aa 3)), (6, .ref (aa 4)), (7, .ref (aa 5)), (8, .ref (aa 6))]) hx hb dL_law_1305 hl (k := 7) rfl (by decide) (by decide) rfl (fun ls hl => ?_)
                                        refine lv_goto (tgt := 90) hx hb dL_law_1308 (by decide) ?_
                                        exact lx_end0 (n := 4) X hw (by omega) ⟨by omega, by omega⟩ (lv_sub hl [1, 0] rfl)
                                      · skip
                                        have c_23 : z22 = true := b_t c_23
                                        subst c_23
                                        refine lv_iload hx hb dL_law_1272 (lv_at hl 7 rfl) ?_
                                        refine lv_bipush (v := 22) hx hb dL_law_1274 (by decide) ?_
                                        refine lv_irem hx hb dL_law_1276 (by decide) ?_
                                        refine q_top (y := 3) (by decide) ?_
                                        refine lv_if_gt (tgt := 1298) hx hb dL_law_1277 (by decide) (fun c_24 => ?_) (fun c_24 => ?_)
                                        · skip
                                          refine lv_iconst (v := 1) hx hb dL_law_1298 (by decide) ?_
                                          refine lv_goto (tgt := 1303) hx hb dL_law_1299 (by decide) ?_
                                          refine lv_istore (lv' := [(9, .int 1), (16, .int 6), (15, .int 0), (14, .int 0), (13, .int 3), (12, .int 0), (11, .int 3), (10, .int 3), (0, .ref b), (1, .ref (ad 0)), (2, .ref (aa 0)), (3, .ref (aa 1)), (4, .ref (aa 2)), (5, .ref (aa 3)), (6, .ref (aa 4)), (7, .ref (aa 5)), (8, .ref (aa 6))]) hx hb dL_law_1303 hl (by decide) rfl (fun ls hl => ?_)
                                          refine lv_iinc (v := 4) (lv' := [(10, .int 4), (9, .int 1), (16, .int 6), (15, .int 0), (14, .int 0), (13, .int 3), (12, .int 0), (11, .int 3), (0, .ref b), (1, .ref (ad 0)), (2, .ref (aa 0)), (3, .ref (aa 1)), (4, .ref (aa 2)), (5, .ref (aa 3)), (6, .ref (aa 4)), (7, .ref (aa 5)), (8, .ref (aa 6))]) hx hb dL_law_1305 hl (k := 7) rfl (by decide) (by decide) rfl (fun ls hl => ?_)
                                          refine lv_goto (tgt := 90) hx hb dL_law_1308 (by decide) ?_
                                          refine W.widen (k := 1636) (n := 6 * (1636)) (by omega) (by omega) ?_
                                          exact kk _ _ _ _ _ hfa hw (by omega) (lv_sub hl [1, 0, 8, 9, 10, 11, 12, 13, 14, 15, 16] rfl)
                                        · skip
                                          exact absurd c_24 (by decide)
                  · skip
                    exact absurd c_9 (by decide)
              · skip
                exact absurd c_7 (by decide)
        · skip
          exact absurd c_4 (by decide)
      · skip
        exact absurd c_3 (by decide)
set_option maxHeartbeats 8000000 in
set_option maxRecDepth 100000 in
theorem lx_R4 {p : Program} {l : Launch} {e : Env} {s : State} {m : MethodId} {args : Array Value} {below : List Frame} {meth : Method} {c : Code} {b L : Nat} {xs : Nat → Int32} {D : va_G} {cI cZ cL : ClassId} {ad aa : Nat → Nat} (X : LX p l s m meth c b L xs D cI cZ cL ad aa) {fa S : Mem} {H : Heap} {locs : List Loc} {ls : Array Slot} {q0 : Nat} (hq : q0 = LB 4) (hfa : FA fa 2 2) (hw : GW D cI (fun q => s.heap.size ≤ q) ad aa fa 2 2 s S H locs) (hN : s.heap.size + q0 ≤ H.size) (hl : lv_has ls 20 [(9, .int (bI true)), (10, .int (nI 4)), (0, .ref b), (1, .ref (ad 0)), (2, .ref (aa 0)), (3, .ref (aa 1)), (4, .ref (aa 2)), (5, .ref (aa 3)), (6, .ref (aa 4)), (7, .ref (aa 5)), (8, .ref (aa 6))])
    (kk : ∀ (fa S : Mem) (H : Heap) (locs : List Loc) (ls : Array Slot), FA fa 3 2 → GW D cI (fun q => s.heap.size ≤ q) ad aa fa 3 2 s S H locs → s.heap.size + LB 5 ≤ H.size → lv_has ls 20 [(9, .int (bI true)), (10, .int (nI 5)), (0, .ref b), (1, .ref (ad 0)), (2, .ref (aa 0)), (3, .ref (aa 1)), (4, .ref (aa 2)), (5, .ref (aa 3)), (6, .ref (aa 4)), (7, .ref (aa 5)), (8, .ref (aa 6))] → W p l e (rg 20 20000) s m args below meth c H locs (1795) (6 * (1795)) (MQ below QL args s 20000 (6 * 20000) (fun q => s.heap.size ≤ q)) (F0 m 90 ls [])) :
    W p l e (rg 20 20000) s m args below meth c H locs (1636) (6 * (1636)) (MQ below QL args s 20000 (6 * 20000) (fun q => s.heap.size ≤ q)) (F0 m 90 ls []) := by
  have C := X.1
  have hx := X.1.1.1
  have hb := X.1.1.2.1
  have hown := X.1.1.2.2.2.1
  unfold LB at hq kk
  have hN : s.heap.size + (1 * q0 + 0) ≤ H.size := by omega
  have hl : lv_has ls 20 [(9, .int (bI true)), (10, .int 4), (0, .ref b), (1, .ref (ad 0)), (2, .ref (aa 0)), (3, .ref (aa 1)), (4, .ref (aa 2)), (5, .ref (aa 3)), (6, .ref (aa 4)), (7, .ref (aa 5)), (8, .ref (aa 6))] := hl
  obtain ⟨⟨hm0, hm1⟩, ⟨f50, f51, f52, f54⟩, fh, ff, fr⟩ := id hfa
  refine lv_iload hx hb dL_law_90 (lv_at hl 1 rfl) ?_
  refine lv_bipush (v := 110) hx hb dL_law_92 (by decide) ?_
  refine lv_icmp_ge (tgt := 1311) hx hb dL_law_94 (by decide) (fun c_1 => ?_) (fun c_1 => ?_)
  · skip
    exact absurd c_1 (by decide)
  · skip
    refine lv_iload hx hb dL_law_97 (lv_at hl 0 rfl) ?_
    refine lv_if_eq (tgt := 1311) hx hb dL_law_99 (by decide) (fun c_2 => ?_) (fun c_2 => ?_)
    · skip
      exact absurd c_2 (by decide)
    · skip
      refine lv_aload_n hx hb dL_law_102 rfl (lv_at hl 2 rfl) ?_
      refine lv_iload hx hb dL_law_103 (lv_at hl 1 rfl) ?_
      refine g_dice (n := 4) X hw (by omega) hl.1 (Nat.le_of_ble_eq_true rfl) ⟨by omega, by omega⟩ dL_law_105 ?_
      refine lv_istore (lv' := [(11, .int 3), (9, .int (bI true)), (10, .int 4), (0, .ref b), (1, .ref (ad 0)), (2, .ref (aa 0)), (3, .ref (aa 1)), (4, .ref (aa 2)), (5, .ref (aa 3)), (6, .ref (aa 4)), (7, .ref (aa 5)), (8, .ref (aa 6))]) hx hb dL_law_108 hl (by decide) rfl (fun ls hl => ?_)
      refine lv_iload hx hb dL_law_110 (lv_at hl 0 rfl) ?_
      refine lv_bipush (v := 32) hx hb dL_law_112 (by decide) ?_
      refine lv_idiv hx hb dL_law_114 (by decide) ?_
      refine q_top (y := 0) (by decide) ?_
      refine lv_istore (lv' := [(12, .int 0), (11, .int 3), (9, .int (bI true)), (10, .int 4), (0, .ref b), (1, .ref (ad 0)), (2, .ref (aa 0)), (3, .ref (aa 1)), (4, .ref (aa 2)), (5, .ref (aa 3)), (6, .ref (aa 4)), (7, .ref (aa 5)), (8, .ref (aa 6))]) hx hb dL_law_115 hl (by decide) rfl (fun ls hl => ?_)
      refine lv_iload hx hb dL_law_117 (lv_at hl 1 rfl) ?_
      refine lv_bipush (v := 32) hx hb dL_law_119 (by decide) ?_
      refine lv_irem hx hb dL_law_121 (by decide) ?_
      refine q_top (y := 3) (by decide) ?_
      refine lv_istore (lv' := [(13, .int 3), (12, .int 0), (11, .int 3), (9, .int (bI true)), (10, .int 4), (0, .ref b), (1, .ref (ad 0)), (2, .ref (aa 0)), (3, .ref (aa 1)), (4, .ref (aa 2)), (5, .ref (aa 3)), (6, .ref (aa 4)), (7, .ref (aa 5)), (8, .ref (aa 6))]) hx hb dL_law_122 hl (by decide) rfl (fun ls hl => ?_)
      refine lv_aload hx hb dL_law_124 (lv_at hl 12 rfl) ?_
      refine lv_iconst (v := 1) hx hb dL_law_126 (by decide) ?_
      refine g_ld (n := 5) (i := 1) C hw 5 rfl (by omega) (Nat.le_of_ble_eq_true rfl) dL_law_127 ?_
      refine q_top (y := 2) (f51) ?_
      refine lv_if_ne (tgt := 135) hx hb dL_law_128 (by decide) (fun c_3 => ?_) (fun c_3 => ?_)
      · skip
        refine lv_iload hx hb dL_law_135 (lv_at hl 1 rfl) ?_
        refine lv_aload hx hb dL_law_137 (lv_at hl 12 rfl) ?_
        refine lv_iconst (v := 1) hx hb dL_law_139 (by decide) ?_
        refine g_ld (n := 5) (i := 1) C hw 5 rfl (by omega) (Nat.le_of_ble_eq_true rfl) dL_law_140 ?_
        refine q_top (y := 2) (f51) ?_
        refine lv_irem hx hb dL_law_141 (by decide) ?_
        refine q_top (y := 0) (by decide) ?_
        refine lv_istore (lv' := [(14, .int 0), (13, .int 3), (12, .int 0), (11, .int 3), (9, .int (bI true)), (10, .int 4), (0, .ref b), (1, .ref (ad 0)), (2, .ref (aa 0)), (3, .ref (aa 1)), (4, .ref (aa 2)), (5, .ref (aa 3)), (6, .ref (aa 4)), (7, .ref (aa 5)), (8, .ref (aa 6))]) hx hb dL_law_142 hl (by decide) rfl (fun ls hl => ?_)
        refine lv_aload hx hb dL_law_144 (lv_at hl 13 rfl) ?_
        refine lv_iconst (v := 0) hx hb dL_law_146 (by decide) ?_
        refine g_ld (n := 5) (i := 0) C hw 5 rfl (by omega) (Nat.le_of_ble_eq_true rfl) dL_law_147 ?_
        refine q_top (y := 2) (f50) ?_
        refine lv_if_ne (tgt := 155) hx hb dL_law_148 (by decide) (fun c_4 => ?_) (fun c_4 => ?_)
        · skip
          refine lv_iload hx hb dL_law_155 (lv_at hl 2 rfl) ?_
          refine lv_iconst (v := 5) hx hb dL_law_157 (by decide) ?_
          refine lv_idiv hx hb dL_law_158 (by decide) ?_
          refine q_top (y := 0) (by decide) ?_
          refine lv_aload hx hb dL_law_159 (lv_at hl 13 rfl) ?_
          refine lv_iconst (v := 0) hx hb dL_law_161 (by decide) ?_
          refine g_ld (n := 5) (i := 0) C hw 5 rfl (by omega) (Nat.le_of_ble_eq_true rfl) dL_law_162 ?_
          refine q_top (y := 2) (f50) ?_
          refine lv_irem hx hb dL_law_163 (by decide) ?_
          refine q_top (y := 0) (by decide) ?_
          refine lv_istore (lv' := [(15, .int 0), (14, .int 0), (13, .int 3), (12, .int 0), (11, .int 3), (9, .int (bI true)), (10, .int 4), (0, .ref b), (1, .ref (ad 0)), (2, .ref (aa 0)), (3, .ref (aa 1)), (4, .ref (aa 2)), (5, .ref (aa 3)), (6, .ref (aa 4)), (7, .ref (aa 5)), (8, .ref (aa 6))]) hx hb dL_law_164 hl (by decide) rfl (fun ls hl => ?_)
          refine lv_aload hx hb dL_law_166 (lv_at hl 14 rfl) ?_
          refine lv_iconst (v := 4) hx hb dL_law_168 (by decide) ?_
          refine g_ld (n := 5) (i := 4) C hw 5 rfl (by omega) (Nat.le_of_ble_eq_true rfl) dL_law_169 ?_
          refine q_top (y := 0) (f54) ?_
          refine lv_if_ne (tgt := 230) hx hb dL_law_170 (by decide) (fun c_5 => ?_) (fun c_5 => ?_)
          · skip
            exact absurd c_5 (by decide)
          · skip
            refine lv_aload hx hb dL_law_173 (lv_at hl 14 rfl) ?_
            refine lv_iconst (v := 1) hx hb dL_law_175 (by decide) ?_
            refine g_ld (n := 5) (i := 1) C hw 5 rfl (by omega) (Nat.le_of_ble_eq_true rfl) dL_law_176 ?_
            refine q_top (y := 2) (f51) ?_
            refine lv_iconst (v := 2) hx hb dL_law_177 (by decide) ?_
            refine lv_icmp_lt (tgt := 194) hx hb dL_law_178 (by decide) (fun c_6 => ?_) (fun c_6 => ?_)
            · skip
              exact absurd c_6 (by decide)
            · skip
              refine lv_iload hx hb dL_law_181 (lv_at hl 2 rfl) ?_
              refine lv_if_ne (tgt := 230) hx hb dL_law_183 (by decide) (fun c_7 => ?_) (fun c_7 => ?_)
              · skip
                refine lv_aload hx hb dL_law_230 (lv_at hl 14 rfl) ?_
                refine lv_iconst (v := 4) hx hb dL_law_232 (by decide) ?_
                refine g_ld (n := 5) (i := 4) C hw 5 rfl (by omega) (Nat.le_of_ble_eq_true rfl) dL_law_233 ?_
                refine q_top (y := 0) (f54) ?_
                refine lv_if_ne (tgt := 392) hx hb dL_law_234 (by decide) (fun c_8 => ?_) (fun c_8 => ?_)
                · skip
                  exact absurd c_8 (by decide)
                · skip
                  refine lv_aload hx hb dL_law_237 (lv_at hl 14 rfl) ?_
                  refine lv_iconst (v := 0) hx hb dL_law_239 (by decide) ?_
                  refine g_ld (n := 5) (i := 0) C hw 5 rfl (by omega) (Nat.le_of_ble_eq_true rfl) dL_law_240 ?_
                  refine q_top (y := 2) (f50) ?_
                  refine lv_iconst (v := 3) hx hb dL_law_241 (by decide) ?_
                  refine lv_icmp_lt (tgt := 260) hx hb dL_law_242 (by decide) (fun c_9 => ?_) (fun c_9 => ?_)
                  · skip
                    refine lv_bipush (v := 6) hx hb dL_law_260 (by decide) ?_
                    refine lv_aload hx hb dL_law_262 (lv_at hl 14 rfl) ?_
                    refine lv_iconst (v := 0) hx hb dL_law_264 (by decide) ?_
                    refine g_ld (n := 5) (i := 0) C hw 5 rfl (by omega) (Nat.le_of_ble_eq_true rfl) dL_law_265 ?_
                    refine q_top (y := 2) (f50) ?_
                    refine lv_imul hx hb dL_law_266 ?_
                    refine q_top (y := 12) (by decide) ?_
                    refine lv_istore (lv' := [(16, .int 12), (15, .int 0), (14, .int 0), (13, .int 3), (12, .int 0), (11, .int 3), (9, .int (bI true)), (10, .int 4), (0, .ref b), (1, .ref (ad 0)), (2, .ref (aa 0)), (3, .ref (aa 1)), (4, .ref (aa 2)), (5, .ref (aa 3)), (6, .ref (aa 4)), (7, .ref (aa 5)), (8, .ref (aa 6))]) hx hb dL_law_267 hl (by decide) rfl (fun ls hl => ?_)
                    refine lv_aload_n hx hb dL_law_269 rfl (lv_at hl 10 rfl) ?_
                    refine lv_iload hx hb dL_law_270 (lv_at hl 0 rfl) ?_
                    refine lv_iconst (v := 1) hx hb dL_law_272 (by decide) ?_
                    refine lv_iload hx hb dL_law_273 (lv_at hl 4 rfl) ?_
                    refine lv_bipush (v := 50) hx hb dL_law_275 (by decide) ?_
                    refine lv_irem hx hb dL_law_277 (by decide) ?_
                    refine q_top (y := 0) (by decide) ?_
                    refine lv_iadd hx hb dL_law_278 ?_
                    refine q_top (y := 1) (by decide) ?_
                    refine g_st (x := 1) (i := 12) (n := 48) X hw 0 rfl (by omega) (Nat.le_of_ble_eq_true rfl) rfl dL_law_279 (fun H locs hle hw => ?_)
                    have hN : s.heap.size + (1 * q0 + 0) ≤ H.size := by omega
                    have hfa := hfa.word (i := 12) (x := 1) (by decide)
                    obtain ⟨⟨hm0, hm1⟩, ⟨f50, f51, f52, f54⟩, fh, ff, fr⟩ := id hfa
                    refine lv_aload_n hx hb dL_law_280 rfl (lv_at hl 10 rfl) ?_
                    refine lv_iload hx hb dL_law_281 (lv_at hl 0 rfl) ?_
                    refine lv_iconst (v := 1) hx hb dL_law_283 (by decide) ?_
                    refine lv_iadd hx hb dL_law_284 ?_
                    refine q_top (y := 13) (by decide) ?_
                    refine lv_iload hx hb dL_law_285 (lv_at hl 4 rfl) ?_
                    refine lv_bipush (v := 50) hx hb dL_law_287 (by decide) ?_
                    refine lv_idiv hx hb dL_law_289 (by decide) ?_
                    refine q_top (y := 0) (by decide) ?_
                    refine lv_bipush (v := 8) hx hb dL_law_290 (by decide) ?_
                    refine lv_irem hx hb dL_law_292 (by decide) ?_
                    refine q_top (y := 0) (by decide) ?_
                    refine g_st (x := 0) (i := 13) (n := 48) X hw 0 rfl (by omega) (Nat.le_of_ble_eq_true rfl) rfl dL_law_293 (fun H locs hle hw => ?_)
                    have hN : s.heap.size + (1 * q0 + 0) ≤ H.size := by omega
                    have hfa := hfa.word (i := 13) (x := 0) (by decide)
                    obtain ⟨⟨hm0, hm1⟩, ⟨f50, f51, f52, f54⟩, fh, ff, fr⟩ := id hfa
                    refine lv_aload_n hx hb dL_law_294 rfl (lv_at hl 10 rfl) ?_
                    refine lv_iload hx hb dL_law_295 (lv_at hl 0 rfl) ?_
                    refine lv_iconst (v := 2) hx hb dL_law_297 (by decide) ?_
                    refine lv_iadd hx hb dL_law_298 ?_
                    refine q_top (y := 14) (by decide) ?_
                    refine lv_iload hx hb dL_law_299 (lv_at hl 4 rfl) ?_
                    refine lv_sipush (v := 400) hx hb dL_law_301 (by decide) ?_
                    refine lv_idiv hx hb dL_law_304 (by decide) ?_
                    refine q_top (y := 0) (by decide) ?_
                    refine lv_iload hx hb dL_law_305 (lv_at hl 4 rfl) ?_
                    refine lv_iconst (v := 3) hx hb dL_law_307 (by decide) ?_
                    refine lv_irem hx hb dL_law_308 (by decide) ?_
                    refine q_top (y := 0) (by decide) ?_
                    refine lv_if_ne (tgt := 317) hx hb dL_law_309 (by decide) (fun c_10 => ?_) (fun c_10 => ?_)
                    · skip
                      exact absurd c_10 (by decide)
                    · skip
                      refine lv_bipush (v := 101) hx hb dL_law_312 (by decide) ?_
                      refine lv_goto (tgt := 319) hx hb dL_law_314 (by decide) ?_
                      refine lv_irem hx hb dL_law_319 (by decide) ?_
                      refine q_top (y := 0) (by decide) ?_
                      refine g_st (x := 0) (i := 14) (n := 48) X hw 0 rfl (by omega) (Nat.le_of_ble_eq_true rfl) rfl dL_law_320 (fun H locs hle hw => ?_)
                      have hN : s.heap.size + (1 * q0 + 0) ≤ H.size := by omega
                      have hfa := hfa.word (i := 14) (x := 0) (by decide)
                      obtain ⟨⟨hm0, hm1⟩, ⟨f50, f51, f52, f54⟩, fh, ff, fr⟩ := id hfa
                      refine lv_aload_n hx hb dL_law_321 rfl (lv_at hl 10 rfl) ?_
                      refine lv_iload hx hb dL_law_322 (lv_at hl 0 rfl) ?_
                      refine lv_iconst (v := 3) hx hb dL_law_324 (by decide) ?_
                      refine lv_iadd hx hb dL_law_325 ?_
                      refine q_top (y := 15) (by decide) ?_
                      refine lv_iconst (v := 1) hx hb dL_law_326 (by decide) ?_
                      refine lv_iload hx hb dL_law_327 (lv_at hl 4 rfl) ?_
                      refine lv_sipush (v := 4000) hx hb dL_law_329 (by decide) ?_
                      refine lv_idiv hx hb dL_law_332 (by decide) ?_
                      refine q_top (y := 0) (by decide) ?_
                      refine lv_bipush (v := 40) hx hb dL_law_333 (by decide) ?_
                      refine lv_irem hx hb dL_law_335 (by decide) ?_
                      refine q_top (y := 0) (by decide) ?_
                      refine lv_iadd hx hb dL_law_336 ?_
                      refine q_top (y := 1) (by decide) ?_
                      refine g_st (x := 1) (i := 15) (n := 48) X hw 0 rfl (by omega) (Nat.le_of_ble_eq_true rfl) rfl dL_law_337 (fun H locs hle hw => ?_)
                      have hN : s.heap.size + (1 * q0 + 0) ≤ H.size := by omega
                      have hfa := hfa.word (i := 15) (x := 1) (by decide)
                      obtain ⟨⟨hm0, hm1⟩, ⟨f50, f51, f52, f54⟩, fh, ff, fr⟩ := id hfa
                      refine lv_aload hx hb dL_law_338 (lv_at hl 15 rfl) ?_
                      refine lv_iconst (v := 0) hx hb dL_law_340 (by decide) ?_
                      refine lv_dup2_11 hx hb dL_law_341 rfl rfl ?_
                      refine g_ld (n := 5) (i := 0) C hw 5 rfl (by omega) (Nat.le_of_ble_eq_true rfl) dL_law_342 ?_
                      refine q_top (y := 2) (f50) ?_
                      refine lv_iconst (v := 1) hx hb dL_law_343 (by decide) ?_
                      refine lv_iadd hx hb dL_law_344 ?_
                      refine q_top (y := 3) (by decide) ?_
                      refine g_st (x := 3) (i := 0) (n := 5) X hw 5 rfl (by omega) (Nat.le_of_ble_eq_true rfl) rfl dL_law_345 (fun H locs hle hw => ?_)
                      have hN : s.heap.size + (1 * q0 + 0) ≤ H.size := by omega
                      have hfa := hfa.rid (by omega)
                      obtain ⟨⟨hm0, hm1⟩, ⟨f50, f51, f52, f54⟩, fh, ff, fr⟩ := id hfa
                      refine lv_aload_n hx hb dL_law_346 rfl (lv_at hl 9 rfl) ?_
                      refine lv_iconst (v := 1) hx hb dL_law_347 (by decide) ?_
                      refine lv_aload_n hx hb dL_law_348 rfl (lv_at hl 10 rfl) ?_
                      refine lv_iload hx hb dL_law_349 (lv_at hl 0 rfl) ?_
                      refine g_ld (n := 48) (i := 12) C hw 0 rfl (by omega) (Nat.le_of_ble_eq_true rfl) dL_law_351 ?_
                      refine q_top (y := 1) (rfl) ?_
                      refine lv_aload_n hx hb dL_law_352 rfl (lv_at hl 10 rfl) ?_
                      refine lv_iload hx hb dL_law_353 (lv_at hl 0 rfl) ?_
                      refine lv_iconst (v := 1) hx hb dL_law_355 (by decide) ?_
                      refine lv_iadd hx hb dL_law_356 ?_
                      refine q_top (y := 13) (by decide) ?_
                      refine g_ld (n := 48) (i := 13) C hw 0 rfl (by omega) (Nat.le_of_ble_eq_true rfl) dL_law_357 ?_
                      refine q_top (y := 0) (rfl) ?_
                      refine lv_aload_n hx hb dL_law_358 rfl (lv_at hl 10 rfl) ?_
                      refine lv_iload hx hb dL_law_359 (lv_at hl 0 rfl) ?_
                      refine lv_iconst (v := 2) hx hb dL_law_361 (by decide) ?_
                      refine lv_iadd hx hb dL_law_362 ?_
                      refine q_top (y := 14) (by decide) ?_
                      refine g_ld (n := 48) (i := 14) C hw 0 rfl (by omega) (Nat.le_of_ble_eq_true rfl) dL_law_363 ?_
                      refine q_top (y := 0) (rfl) ?_
                      refine lv_aload_n hx hb dL_law_364 rfl (lv_at hl 10 rfl) ?_
                      refine lv_iload hx hb dL_law_365 (lv_at hl 0 rfl) ?_
                      refine lv_iconst (v := 3) hx hb dL_law_367 (by decide) ?_
                      refine lv_iadd hx hb dL_law_368 ?_
                      refine q_top (y := 15) (by decide) ?_
                      refine g_ld (n := 48) (i := 15) C hw 0 rfl (by omega) (Nat.le_of_ble_eq_true rfl) dL_law_369 ?_
                      refine q_top (y := 1) (rfl) ?_
                      have hv_370 : (oAddR S 1 0 0 1).2.1 = nI 2 := by rw [nn_addR hw.2.2.2 (by decide)]
                      refine g_hlW (rest := []) C hw (h_act_1 C.1.2.2.2.2 C.2.2.1 C.2.2.2.1 hw.2.2.2 1 0 0 1 (js_addR hw.2.2.2 (by decide)) (by rw [nn_addR hw.2.2.2 (by decide)])) ck_L_act v_332 hl.1 rfl ⟨Nat.le_of_ble_eq_true rfl, Nat.le_of_ble_eq_true rfl⟩ (Nat.le_of_ble_eq_true rfl) dL_law_370 ⟨by omega, by omega⟩ (fun v S H locs hpo hle hw => ?_)
                      have hpo : v = _ := hpo
                      subst hpo
                      have hN : s.heap.size + (1 * q0 + 0) ≤ H.size := by omega
                      refine W.widen (k := 1637) (n := 6 * (1637)) (by omega) (by omega) ?_
                      refine q_top (y := 2) (hv_370) ?_
                      refine lv_aload hx hb dL_law_373 (lv_at hl 15 rfl) ?_
                      refine lv_iconst (v := 0) hx hb dL_law_375 (by decide) ?_
                      refine g_ld (n := 5) (i := 0) C hw 5 rfl (by omega) (Nat.le_of_ble_eq_true rfl) dL_law_376 ?_
                      refine q_top (y := 3) (f50) ?_
                      refine lv_iconst (v := 1) hx hb dL_law_377 (by decide) ?_
                      refine lv_isub hx hb dL_law_378 ?_
                      refine q_top (y := 2) (by decide) ?_
                      refine lv_icmp_ne (tgt := 386) hx hb dL_law_379 (by decide) (fun c_11 => ?_) (fun c_11 => ?_)
                      · skip
                        exact absurd c_11 (by decide)
                      · skip
                        refine lv_iconst (v := 1) hx hb dL_law_382 (by decide) ?_
                        refine lv_goto (tgt := 387) hx hb dL_law_383 (by decide) ?_
                        refine lv_istore (lv' := [(9, .int 1), (16, .int 12), (15, .int 0), (14, .int 0), (13, .int 3), (12, .int 0), (11, .int 3), (10, .int 4), (0, .ref b), (1, .ref (ad 0)), (2, .ref (aa 0)), (3, .ref (aa 1)), (4, .ref (aa 2)), (5, .ref (aa 3)), (6, .ref (aa 4)), (7, .ref (aa 5)), (8, .ref (aa 6))]) hx hb dL_law_387 hl (by decide) rfl (fun ls hl => ?_)
                        refine lv_goto (tgt := 1166) hx hb dL_law_389 (by decide) ?_
                        refine lv_iload hx hb dL_law_1166 (lv_at hl 0 rfl) ?_
                        refine lv_if_eq (tgt := 1302) hx hb dL_law_1168 (by decide) (fun c_12 => ?_) (fun c_12 => ?_)
                        · skip
                          exact absurd c_12 (by decide)
                        · skip
                          refine lv_iload hx hb dL_law_1171 (lv_at hl 7 rfl) ?_
                          refine lv_iconst (v := 3) hx hb dL_law_1173 (by decide) ?_
                          refine lv_irem hx hb dL_law_1174 (by decide) ?_
                          refine q_top (y := 1) (by decide) ?_
                          refine lv_if_gt (tgt := 1192) hx hb dL_law_1175 (by decide) (fun c_13 => ?_) (fun c_13 => ?_)
                          · skip
                            refine lv_aload hx hb dL_law_1192 (lv_at hl 15 rfl) ?_
                            refine lv_iconst (v := 1) hx hb dL_law_1194 (by decide) ?_
                            refine g_ld (n := 5) (i := 1) C hw 5 rfl (by omega) (Nat.le_of_ble_eq_true rfl) dL_law_1195 ?_
                            refine q_top (y := 2) (f51) ?_
                            refine lv_if_eq (tgt := 1251) hx hb dL_law_1196 (by decide) (fun c_14 => ?_) (fun c_14 => ?_)
                            · skip
                              exact absurd c_14 (by decide)
                            · skip
                              refine lv_aload_n hx hb dL_law_1199 rfl (lv_at hl 9 rfl) ?_
                              refine lv_aload_n hx hb dL_law_1200 rfl (lv_at hl 10 rfl) ?_
                              refine lv_aload_n hx hb dL_law_1201 rfl (lv_at hl 11 rfl) ?_
                              refine lv_aload hx hb dL_law_1202 (lv_at hl 16 rfl) ?_
                              refine lv_aload hx hb dL_law_1204 (lv_at hl 15 rfl) ?_
                              refine lv_iload hx hb dL_law_1206 (lv_at hl 5 rfl) ?_
                              refine lv_iconst (v := 3) hx hb dL_law_1208 (by decide) ?_
                              refine lv_idiv hx hb dL_law_1209 (by decide) ?_
                              refine q_top (y := 0) (by decide) ?_
                              refine lv_aload hx hb dL_law_1210 (lv_at hl 15 rfl) ?_
                              refine lv_iconst (v := 1) hx hb dL_law_1212 (by decide) ?_
                              refine g_ld (n := 5) (i := 1) C hw 5 rfl (by omega) (Nat.le_of_ble_eq_true rfl) dL_law_1213 ?_
                              refine q_top (y := 2) (f51) ?_
                              refine lv_irem hx hb dL_law_1214 (by decide) ?_
                              refine q_top (y := 0) (by decide) ?_
                              refine lv_iload hx hb dL_law_1215 (lv_at hl 5 rfl) ?_
                              refine lv_bipush (v := 15) hx hb dL_law_1217 (by decide) ?_
                              refine lv_idiv hx hb dL_law_1219 (by decide) ?_
                              refine q_top (y := 0) (by decide) ?_
                              refine lv_aload hx hb dL_law_1220 (lv_at hl 15 rfl) ?_
                              refine lv_iconst (v := 1) hx hb dL_law_1222 (by decide) ?_
                              refine g_ld (n := 5) (i := 1) C hw 5 rfl (by omega) (Nat.le_of_ble_eq_true rfl) dL_law_1223 ?_
                              refine q_top (y := 2) (f51) ?_
                              refine lv_irem hx hb dL_law_1224 (by decide) ?_
                              refine q_top (y := 0) (by decide) ?_
                              refine g_hl (rest := []) C hw (t_areLinks C.1.2.2.2.2 C.2.2.1 C.2.2.2.1 hfa hw.2.2.2 0 (by omega) 0 (by omega)) ck_L_areLinks v_668 hl.1 rfl ⟨Nat.le_of_ble_eq_true rfl, Nat.le_of_ble_eq_true rfl⟩ (Nat.le_of_ble_eq_true rfl) dL_law_1225 ⟨by omega, by omega⟩ (fun v S H locs hpo hle hw => ?_)
                              obtain ⟨z15, rfl⟩ := hpo
                              have hN : s.heap.size + (1 * q0 + 0) ≤ H.size := by omega
                              refine W.widen (k := 1637) (n := 6 * (1637)) (by omega) (by omega) ?_
                              refine lv_if_eq (tgt := 1302) hx hb dL_law_1228 (by decide) (fun c_16 => ?_) (fun c_16 => ?_)
                              · skip
                                have c_16 : z15 = false := b_f c_16
                                subst c_16
                                refine lv_iconst (v := 0) hx hb dL_law_1302 (by decide) ?_
                                refine lv_istore (lv' := [(9, .int 0), (16, .int 12), (15, .int 0), (14, .int 0), (13, .int 3), (12, .int 0), (11, .int 3), (10, .int 4), (0, .ref b), (1, .ref (ad 0)), (2, .ref (aa 0)), (3, .ref (aa 1)), (4, .ref (aa 2)), (5, .ref (aa 3)), (6, .ref (aa 4)), (7, .ref (aa 5)), (8, .ref (aa 6))]) hx hb dL_law_1303 hl (by decide) rfl (fun ls hl => ?_)
                                refine lv_iinc (v := 5) (lv' := [(10, .int 5), (9, .int 0), (16, .int 12), (15, .int 0), (14, .int 0), (13, .int 3), (12, .int 0), (11, .int 3), (0, .ref b), (1, .ref (ad 0)), (2, .ref (aa 0)), (3, .ref (aa 1)), (4, .ref (aa 2)), (5, .ref (aa 3)), (6, .ref (aa 4)), (7, .ref (aa 5)), (8, .ref (aa 6))]) hx hb dL_law_1305 hl (k := 7) rfl (by decide) (by decide) rfl (fun ls hl => ?_)
                                refine lv_goto (tgt := 90) hx hb dL_law_1308 (by decide) ?_
                                exact lx_end0 (n := 5) X hw (by omega) ⟨by omega, by omega⟩ (lv_sub hl [1, 0] rfl)
                              · skip
                                have c_16 : z15 = true := b_t c_16
                                subst c_16
                                refine lv_aload_n hx hb dL_law_1231 rfl (lv_at hl 9 rfl) ?_
                                refine lv_aload_n hx hb dL_law_1232 rfl (lv_at hl 10 rfl) ?_
                                refine lv_aload hx hb dL_law_1233 (lv_at hl 15 rfl) ?_
                                refine lv_iload hx hb dL_law_1235 (lv_at hl 5 rfl) ?_
                                refine lv_bipush (v := 7) hx hb dL_law_1237 (by decide) ?_
                                refine lv_idiv hx hb dL_law_1239 (by decide) ?_
                                refine q_top (y := 0) (by decide) ?_
                                refine lv_aload hx hb dL_law_1240 (lv_at hl 15 rfl) ?_
                                refine lv_iconst (v := 1) hx hb dL_law_1242 (by decide) ?_
                                refine g_ld (n := 5) (i := 1) C hw 5 rfl (by omega) (Nat.le_of_ble_eq_true rfl) dL_law_1243 ?_
                                refine q_top (y := 2) (f51) ?_
                                refine lv_irem hx hb dL_law_1244 (by decide) ?_
                                refine q_top (y := 0) (by decide) ?_
                                refine g_hl (rest := []) C hw (t_areVoid C.1.2.2.2.2 C.2.2.1 C.2.2.2.1 hfa hw.2.2.2 0 (by omega)) ck_L_areVoid v_677 hl.1 rfl ⟨Nat.le_of_ble_eq_true rfl, Nat.le_of_ble_eq_true rfl⟩ (Nat.le_of_ble_eq_true rfl) dL_law_1245 ⟨by omega, by omega⟩ (fun v S H locs hpo hle hw => ?_)
                                obtain ⟨z17, rfl⟩ := hpo
                                have hN : s.heap.size + (1 * q0 + 0) ≤ H.size := by omega
                                refine W.widen (k := 1637) (n := 6 * (1637)) (by omega) (by omega) ?_
                                refine lv_if_eq (tgt := 1302) hx hb dL_law_1248 (by decide) (fun c_18 => ?_) (fun c_18 => ?_)
                                · skip
                                  have c_18 : z17 = false := b_f c_18
                                  subst c_18
                                  refine lv_iconst (v := 0) hx hb dL_law_1302 (by decide) ?_
                                  refine lv_istore (lv' := [(9, .int 0), (16, .int 12), (15, .int 0), (14, .int 0), (13, .int 3), (12, .int 0), (11, .int 3), (10, .int 4), (0, .ref b), (1, .ref (ad 0)), (2, .ref (aa 0)), (3, .ref (aa 1)), (4, .ref (aa 2)), (5, .ref (aa 3)), (6, .ref (aa 4)), (7, .ref (aa 5)), (8, .ref (aa 6))]) hx hb dL_law_1303 hl (by decide) rfl (fun ls hl => ?_)
                                  refine lv_iinc (v := 5) (lv' := [(10, .int 5), (9, .int 0), (16, .int 12), (15, .int 0), (14, .int 0), (13, .int 3), (12, .int 0), (11, .int 3), (0, .ref b), (1, .ref (ad 0)), (2, .ref (aa 0)), (3, .ref (aa 1)), (4, .ref (aa 2)), (5, .ref (aa 3)), (6, .ref (aa 4)), (7, .ref (aa 5)), (8, .ref (aa 6))]) hx hb dL_law_1305 hl (k := 7) rfl (by decide) (by decide) rfl (fun ls hl => ?_)
                                  refine lv_goto (tgt := 90) hx hb dL_law_1308 (by decide) ?_
                                  exact lx_end0 (n := 5) X hw (by omega) ⟨by omega, by omega⟩ (lv_sub hl [1, 0] rfl)
                                · skip
                                  have c_18 : z17 = true := b_t c_18
                                  subst c_18
                                  refine lv_iload hx hb dL_law_1251 (lv_at hl 7 rfl) ?_
                                  refine lv_iconst (v := 3) hx hb dL_law_1253 (by decide) ?_
                                  refine lv_irem hx hb dL_law_1254 (by decide) ?_
                                  refine q_top (y := 1) (by decide) ?_
                                  refine lv_if_gt (tgt := 1272) hx hb dL_law_1255 (by decide) (fun c_19 => ?_) (fun c_19 => ?_)
                                  · skip
                                    refine lv_iload hx hb dL_law_1272 (lv_at hl 7 rfl) ?_
                                    refine lv_bipush (v := 22) hx hb dL_law_1274 (by decide) ?_
                                    refine lv_irem hx hb dL_law_1276 (by decide) ?_
                                    refine q_top (y := 4) (by decide) ?_
                                    refine lv_if_gt (tgt := 1298) hx hb dL_law_1277 (by decide) (fun c_20 => ?_) (fun c_20 => ?_)
                                    · skip
                                      refine lv_iconst (v := 1) hx hb dL_law_1298 (by decide) ?_
                                      refine lv_goto (tgt := 1303) hx hb dL_law_1299 (by decide) ?_
                                      refine lv_istore (lv' := [(9, .int 1), (16, .int 12), (15, .int 0), (14, .int 0), (13, .int 3), (12, .int 0), (11, .int 3), (10, .int 4), (0, .ref b), (1, .ref (ad 0)), (2, .ref (aa 0)), (3, .ref (aa 1)), (4, .ref (aa 2)), (5, .ref (aa 3)), (6, .ref (aa 4)), (7, .ref (aa 5)), (8, .ref (aa 6))]) hx hb dL_law_1303 hl (by decide) rfl (fun ls hl => ?_)
                                      refine lv_iinc (v := 5) (lv' := [(10, .int 5), (9, .int 1), (16, .int 12), (15, .int 0), (14, .int 0), (13, .int 3), (12, .int 0), (11, .int 3), (0, .ref b), (1, .ref (ad 0)), (2, .ref (aa 0)), (3, .ref (aa 1)), (4, .ref (aa 2)), (5, .ref (aa 3)), (6, .ref (aa 4)), (7, .ref (aa 5)), (8, .ref (aa 6))]) hx hb dL_law_1305 hl (k := 7) rfl (by decide) (by decide) rfl (fun ls hl => ?_)
                                      refine lv_goto (tgt := 90) hx hb dL_law_1308 (by decide) ?_
                                      refine W.widen (k := 1795) (n := 6 * (1795)) (by omega) (by omega) ?_
                                      exact kk _ _ _ _ _ hfa hw (by omega) (lv_sub hl [1, 0, 8, 9, 10, 11, 12, 13, 14, 15, 16] rfl)
                                    · skip
                                      exact absurd c_20 (by decide)
                                  · skip
                                    exact absurd c_19 (by decide)
                          · skip
                            exact absurd c_13 (by decide)
                  · skip
                    exact absurd c_9 (by decide)
              · skip
                exact absurd c_7 (by decide)
        · skip
          exact absurd c_4 (by decide)
      · skip
        exact absurd c_3 (by decide)
set_option maxHeartbeats 8000000 in
set_option maxRecDepth 100000 in
theorem lx_G {p : Program} {l : Launch} {e : Env} {s : State} {m : MethodId} {args : Array Value} {below : List Frame} {meth : Method} {c : Code} {b L : Nat} {xs : Nat → Int32} {D : va_G} {cI cZ cL : ClassId} {ad aa : Nat → Nat} (X : LX p l s m meth c b L xs D cI cZ cL ad aa) {fa S : Mem} {H : Heap} {locs : List Loc} {ls : Array Slot} {n : Nat} (hn5 : 5 ≤ n) (hn : n < 110) {q0 : Nat} (hq : q0 = LB n) (hfa : FA fa 3 2) (hw : GW D cI (fun q => s.heap.size ≤ q) ad aa fa 3 2 s S H locs) (hN : s.heap.size + q0 ≤ H.size) (hl : lv_has ls 20 [(9, .int (bI true)), (10, .int (nI n)), (0, .ref b), (1, .ref (ad 0)), (2, .ref (aa 0)), (3, .ref (aa 1)), (4, .ref (aa 2)), (5, .ref (aa 3)), (6, .ref (aa 4)), (7, .ref (aa 5)), (8, .ref (aa 6))])
    (kk : ∀ (fa S : Mem) (H : Heap) (locs : List Loc) (ls : Array Slot), FA fa 3 2 → GW D cI (fun q => s.heap.size ≤ q) ad aa fa 3 2 s S H locs → s.heap.size + LB (n + 1) ≤ H.size → lv_has ls 20 [(9, .int (bI true)), (10, .int (nI (n + 1))), (0, .ref b), (1, .ref (ad 0)), (2, .ref (aa 0)), (3, .ref (aa 1)), (4, .ref (aa 2)), (5, .ref (aa 3)), (6, .ref (aa 4)), (7, .ref (aa 5)), (8, .ref (aa 6))] → W p l e (rg 20 20000) s m args below meth c H locs (159 * n + 1159) (6 * (159 * n + 1159)) (MQ below QL args s 20000 (6 * 20000) (fun q => s.heap.size ≤ q)) (F0 m 90 ls [])) :
    W p l e (rg 20 20000) s m args below meth c H locs (159 * n + 1000) (6 * (159 * n + 1000)) (MQ below QL args s 20000 (6 * 20000) (fun q => s.heap.size ≤ q)) (F0 m 90 ls []) := by
  have C := X.1
  have hx := X.1.1.1
  have hb := X.1.1.2.1
  have hown := X.1.1.2.2.2.1
  unfold LB at hq kk
  have hN : s.heap.size + (1 * q0 + 0) ≤ H.size := by omega
  have hl : lv_has ls 20 [(9, .int (bI true)), (10, .int (nI n)), (0, .ref b), (1, .ref (ad 0)), (2, .ref (aa 0)), (3, .ref (aa 1)), (4, .ref (aa 2)), (5, .ref (aa 3)), (6, .ref (aa 4)), (7, .ref (aa 5)), (8, .ref (aa 6))] := hl
  obtain ⟨⟨hm0, hm1⟩, ⟨f50, f51, f52, f54⟩, fh, ff, fr⟩ := id hfa
  refine lv_iload hx hb dL_law_90 (lv_at hl 1 rfl) ?_
  refine lv_bipush (v := 110) hx hb dL_law_92 (by decide) ?_
  refine lv_icmp_ge (tgt := 1311) hx hb dL_law_94 (by decide) (fun c_1 => ?_) (fun c_1 => ?_)
  · skip
    have c_1 : 110 ≤ n := n_le (a := 110) (b := n) (by omega) (by omega) c_1
    omega
  · skip
    have c_1 : n < 110 := n_nle (a := 110) (b := n) (by omega) (by omega) c_1
    refine lv_iload hx hb dL_law_97 (lv_at hl 0 rfl) ?_
    refine lv_if_eq (tgt := 1311) hx hb dL_law_99 (by decide) (fun c_2 => ?_) (fun c_2 => ?_)
    · skip
      exact absurd c_2 (by decide)
    · skip
      refine lv_aload_n hx hb dL_law_102 rfl (lv_at hl 2 rfl) ?_
      refine lv_iload hx hb dL_law_103 (lv_at hl 1 rfl) ?_
      refine g_dice (n := n) X hw (by omega) hl.1 (Nat.le_of_ble_eq_true rfl) ⟨by omega, by omega⟩ dL_law_105 ?_
      refine lv_istore (lv' := [(11, .int 3), (9, .int (bI true)), (10, .int (nI n)), (0, .ref b), (1, .ref (ad 0)), (2, .ref (aa 0)), (3, .ref (aa 1)), (4, .ref (aa 2)), (5, .ref (aa 3)), (6, .ref (aa 4)), (7, .ref (aa 5)), (8, .ref (aa 6))]) hx hb dL_law_108 hl (by decide) rfl (fun ls hl => ?_)
      refine lv_iload hx hb dL_law_110 (lv_at hl 0 rfl) ?_
      refine lv_bipush (v := 32) hx hb dL_law_112 (by decide) ?_
      refine lv_idiv hx hb dL_law_114 (by decide) ?_
      refine q_top (y := 0) (by decide) ?_
      refine lv_istore (lv' := [(12, .int 0), (11, .int 3), (9, .int (bI true)), (10, .int (nI n)), (0, .ref b), (1, .ref (ad 0)), (2, .ref (aa 0)), (3, .ref (aa 1)), (4, .ref (aa 2)), (5, .ref (aa 3)), (6, .ref (aa 4)), (7, .ref (aa 5)), (8, .ref (aa 6))]) hx hb dL_law_115 hl (by decide) rfl (fun ls hl => ?_)
      refine lv_iload hx hb dL_law_117 (lv_at hl 1 rfl) ?_
      refine lv_bipush (v := 32) hx hb dL_law_119 (by decide) ?_
      refine lv_irem hx hb dL_law_121 (by decide) ?_
      refine q_top (y := 3) (by decide) ?_
      refine lv_istore (lv' := [(13, .int 3), (12, .int 0), (11, .int 3), (9, .int (bI true)), (10, .int (nI n)), (0, .ref b), (1, .ref (ad 0)), (2, .ref (aa 0)), (3, .ref (aa 1)), (4, .ref (aa 2)), (5, .ref (aa 3)), (6, .ref (aa 4)), (7, .ref (aa 5)), (8, .ref (aa 6))]) hx hb dL_law_122 hl (by decide) rfl (fun ls hl => ?_)
      refine lv_aload hx hb dL_law_124 (lv_at hl 12 rfl) ?_
      refine lv_iconst (v := 1) hx hb dL_law_126 (by decide) ?_
      refine g_ld (n := 5) (i := 1) C hw 5 rfl (by omega) (Nat.le_of_ble_eq_true rfl) dL_law_127 ?_
      refine q_top (y := 2) (f51) ?_
      refine lv_if_ne (tgt := 135) hx hb dL_law_128 (by decide) (fun c_3 => ?_) (fun c_3 => ?_)
      · skip
        refine lv_iload hx hb dL_law_135 (lv_at hl 1 rfl) ?_
        refine lv_aload hx hb dL_law_137 (lv_at hl 12 rfl) ?_
        refine lv_iconst (v := 1) hx hb dL_law_139 (by decide) ?_
        refine g_ld (n := 5) (i := 1) C hw 5 rfl (by omega) (Nat.le_of_ble_eq_true rfl) dL_law_140 ?_
        refine q_top (y := 2) (f51) ?_
        refine lv_irem hx hb dL_law_141 (by decide) ?_
        refine q_top (y := 0) (by decide) ?_
        refine lv_istore (lv' := [(14, .int 0), (13, .int 3), (12, .int 0), (11, .int 3), (9, .int (bI true)), (10, .int (nI n)), (0, .ref b), (1, .ref (ad 0)), (2, .ref (aa 0)), (3, .ref (aa 1)), (4, .ref (aa 2)), (5, .ref (aa 3)), (6, .ref (aa 4)), (7, .ref (aa 5)), (8, .ref (aa 6))]) hx hb dL_law_142 hl (by decide) rfl (fun ls hl => ?_)
        refine lv_aload hx hb dL_law_144 (lv_at hl 13 rfl) ?_
        refine lv_iconst (v := 0) hx hb dL_law_146 (by decide) ?_
        refine g_ld (n := 5) (i := 0) C hw 5 rfl (by omega) (Nat.le_of_ble_eq_true rfl) dL_law_147 ?_
        refine q_top (y := 3) (f50) ?_
        refine lv_if_ne (tgt := 155) hx hb dL_law_148 (by decide) (fun c_4 => ?_) (fun c_4 => ?_)
        · skip
          refine lv_iload hx hb dL_law_155 (lv_at hl 2 rfl) ?_
          refine lv_iconst (v := 5) hx hb dL_law_157 (by decide) ?_
          refine lv_idiv hx hb dL_law_158 (by decide) ?_
          refine q_top (y := 0) (by decide) ?_
          refine lv_aload hx hb dL_law_159 (lv_at hl 13 rfl) ?_
          refine lv_iconst (v := 0) hx hb dL_law_161 (by decide) ?_
          refine g_ld (n := 5) (i := 0) C hw 5 rfl (by omega) (Nat.le_of_ble_eq_true rfl) dL_law_162 ?_
          refine q_top (y := 3) (f50) ?_
          refine lv_irem hx hb dL_law_163 (by decide) ?_
          refine q_top (y := 0) (by decide) ?_
          refine lv_istore (lv' := [(15, .int 0), (14, .int 0), (13, .int 3), (12, .int 0), (11, .int 3), (9, .int (bI true)), (10, .int (nI n)), (0, .ref b), (1, .ref (ad 0)), (2, .ref (aa 0)), (3, .ref (aa 1)), (4, .ref (aa 2)), (5, .ref (aa 3)), (6, .ref (aa 4)), (7, .ref (aa 5)), (8, .ref (aa 6))]) hx hb dL_law_164 hl (by decide) rfl (fun ls hl => ?_)
          refine lv_aload hx hb dL_law_166 (lv_at hl 14 rfl) ?_
          refine lv_iconst (v := 4) hx hb dL_law_168 (by decide) ?_
          refine g_ld (n := 5) (i := 4) C hw 5 rfl (by omega) (Nat.le_of_ble_eq_true rfl) dL_law_169 ?_
          refine q_top (y := 0) (f54) ?_
          refine lv_if_ne (tgt := 230) hx hb dL_law_170 (by decide) (fun c_5 => ?_) (fun c_5 => ?_)
          · skip
            exact absurd c_5 (by decide)
          · skip
            refine lv_aload hx hb dL_law_173 (lv_at hl 14 rfl) ?_
            refine lv_iconst (v := 1) hx hb dL_law_175 (by decide) ?_
            refine g_ld (n := 5) (i := 1) C hw 5 rfl (by omega) (Nat.le_of_ble_eq_true rfl) dL_law_176 ?_
            refine q_top (y := 2) (f51) ?_
            refine lv_iconst (v := 2) hx hb dL_law_177 (by decide) ?_
            refine lv_icmp_lt (tgt := 194) hx hb dL_law_178 (by decide) (fun c_6 => ?_) (fun c_6 => ?_)
            · skip
              exact absurd c_6 (by decide)
            · skip
              refine lv_iload hx hb dL_law_181 (lv_at hl 2 rfl) ?_
              refine lv_if_ne (tgt := 230) hx hb dL_law_183 (by decide) (fun c_7 => ?_) (fun c_7 => ?_)
              · skip
                refine lv_aload hx hb dL_law_230 (lv_at hl 14 rfl) ?_
                refine lv_iconst (v := 4) hx hb dL_law_232 (by decide) ?_
                refine g_ld (n := 5) (i := 4) C hw 5 rfl (by omega) (Nat.le_of_ble_eq_true rfl) dL_law_233 ?_
                refine q_top (y := 0) (f54) ?_
                refine lv_if_ne (tgt := 392) hx hb dL_law_234 (by decide) (fun c_8 => ?_) (fun c_8 => ?_)
                · skip
                  exact absurd c_8 (by decide)
                · skip
                  refine lv_aload hx hb dL_law_237 (lv_at hl 14 rfl) ?_
                  refine lv_iconst (v := 0) hx hb dL_law_239 (by decide) ?_
                  refine g_ld (n := 5) (i := 0) C hw 5 rfl (by omega) (Nat.le_of_ble_eq_true rfl) dL_law_240 ?_
                  refine q_top (y := 3) (f50) ?_
                  refine lv_iconst (v := 3) hx hb dL_law_241 (by decide) ?_
                  refine lv_icmp_lt (tgt := 260) hx hb dL_law_242 (by decide) (fun c_9 => ?_) (fun c_9 => ?_)
                  · skip
                    exact absurd c_9 (by decide)
                  · skip
                    refine lv_iload hx hb dL_law_245 (lv_at hl 2 rfl) ?_
                    refine lv_iconst (v := 1) hx hb dL_law_247 (by decide) ?_
                    refine lv_icmp_ne (tgt := 392) hx hb dL_law_248 (by decide) (fun c_10 => ?_) (fun c_10 => ?_)
                    · skip
                      refine lv_iload hx hb dL_law_392 (lv_at hl 2 rfl) ?_
                      refine lv_iconst (v := 4) hx hb dL_law_394 (by decide) ?_
                      refine lv_icmp_ge (tgt := 567) hx hb dL_law_395 (by decide) (fun c_11 => ?_) (fun c_11 => ?_)
                      · skip
                        exact absurd c_11 (by decide)
                      · skip
                        refine lv_iload hx hb dL_law_398 (lv_at hl 0 rfl) ?_
                        refine lv_if_ne (tgt := 407) hx hb dL_law_400 (by decide) (fun c_12 => ?_) (fun c_12 => ?_)
                        · skip
                          exact absurd c_12 (by decide)
                        · skip
                          refine lv_iconst (v := 0) hx hb dL_law_403 (by decide) ?_
                          refine lv_goto (tgt := 415) hx hb dL_law_404 (by decide) ?_
                          refine lv_istore (lv' := [(16, .int 0), (15, .int 0), (14, .int 0), (13, .int 3), (12, .int 0), (11, .int 3), (9, .int (bI true)), (10, .int (nI n)), (0, .ref b), (1, .ref (ad 0)), (2, .ref (aa 0)), (3, .ref (aa 1)), (4, .ref (aa 2)), (5, .ref (aa 3)), (6, .ref (aa 4)), (7, .ref (aa 5)), (8, .ref (aa 6))]) hx hb dL_law_415 hl (by decide) rfl (fun ls hl => ?_)
                          refine lv_aload hx hb dL_law_417 (lv_at hl 15 rfl) ?_
                          refine lv_iconst (v := 4) hx hb dL_law_419 (by decide) ?_
                          refine g_ld (n := 5) (i := 4) C hw 5 rfl (by omega) (Nat.le_of_ble_eq_true rfl) dL_law_420 ?_
                          refine q_top (y := 0) (f54) ?_
                          refine lv_iconst (v := 1) hx hb dL_law_421 (by decide) ?_
                          refine lv_icmp_eq (tgt := 455) hx hb dL_law_422 (by decide) (fun c_13 => ?_) (fun c_13 => ?_)
                          · skip
                            exact absurd c_13 (by decide)
                          · skip
                            refine lv_aload_n hx hb dL_law_425 rfl (lv_at hl 10 rfl) ?_
                            refine lv_bipush (v := 6) hx hb dL_law_426 (by decide) ?_
                            refine lv_iload hx hb dL_law_428 (lv_at hl 1 rfl) ?_
                            refine lv_imul hx hb dL_law_430 ?_
                            refine q_top (y := 0) (by decide) ?_
                            refine lv_iconst (v := 5) hx hb dL_law_431 (by decide) ?_
                            refine lv_iadd hx hb dL_law_432 ?_
                            refine q_top (y := 5) (by decide) ?_
                            refine g_ld (n := 48) (i := 5) C hw 0 rfl (by omega) (Nat.le_of_ble_eq_true rfl) dL_law_433 ?_
                            refine q_top (y := 0) ((fr 0).2) ?_
                            refine lv_if_gt (tgt := 455) hx hb dL_law_434 (by decide) (fun c_14 => ?_) (fun c_14 => ?_)
                            · skip
                              exact absurd c_14 (by decide)
                            · skip
                              refine lv_aload_n hx hb dL_law_437 rfl (lv_at hl 10 rfl) ?_
                              refine lv_bipush (v := 6) hx hb dL_law_438 (by decide) ?_
                              refine lv_iload hx hb dL_law_440 (lv_at hl 1 rfl) ?_
                              refine lv_imul hx hb dL_law_442 ?_
                              refine q_top (y := 0) (by decide) ?_
                              refine lv_iconst (v := 4) hx hb dL_law_443 (by decide) ?_
                              refine lv_iadd hx hb dL_law_444 ?_
                              refine q_top (y := 4) (by decide) ?_
                              refine g_ld (n := 48) (i := 4) C hw 0 rfl (by omega) (Nat.le_of_ble_eq_true rfl) dL_law_445 ?_
                              refine q_top (y := 0) ((fr 0).1) ?_
                              refine lv_iload hx hb dL_law_446 (lv_at hl 0 rfl) ?_
                              refine lv_ishr hx hb dL_law_448 ?_
                              refine q_top (y := 0) (by decide) ?_
                              refine lv_iconst (v := 1) hx hb dL_law_449 (by decide) ?_
                              refine lv_iand hx hb dL_law_450 ?_
                              refine q_top (y := 0) (by decide) ?_
                              refine lv_iconst (v := 1) hx hb dL_law_451 (by decide) ?_
                              refine lv_icmp_ne (tgt := 459) hx hb dL_law_452 (by decide) (fun c_15 => ?_) (fun c_15 => ?_)
                              · skip
                                refine lv_iconst (v := 0) hx hb dL_law_459 (by decide) ?_
                                refine lv_istore (lv' := [(17, .int 0), (16, .int 0), (15, .int 0), (14, .int 0), (13, .int 3), (12, .int 0), (11, .int 3), (9, .int (bI true)), (10, .int (nI n)), (0, .ref b), (1, .ref (ad 0)), (2, .ref (aa 0)), (3, .ref (aa 1)), (4, .ref (aa 2)), (5, .ref (aa 3)), (6, .ref (aa 4)), (7, .ref (aa 5)), (8, .ref (aa 6))]) hx hb dL_law_460 hl (by decide) rfl (fun ls hl => ?_)
                                refine lv_iload hx hb dL_law_462 (lv_at hl 2 rfl) ?_
                                refine lv_if_le (tgt := 564) hx hb dL_law_464 (by decide) (fun c_16 => ?_) (fun c_16 => ?_)
                                · skip
                                  refine lv_goto (tgt := 1166) hx hb dL_law_564 (by decide) ?_
                                  refine lv_iload hx hb dL_law_1166 (lv_at hl 7 rfl) ?_
                                  refine lv_if_eq (tgt := 1302) hx hb dL_law_1168 (by decide) (fun c_17 => ?_) (fun c_17 => ?_)
                                  · skip
                                    exact absurd c_17 (by decide)
                                  · skip
                                    refine lv_iload hx hb dL_law_1171 (lv_at hl 8 rfl) ?_
                                    refine lv_iconst (v := 3) hx hb dL_law_1173 (by decide) ?_
                                    refine lv_irem hx hb dL_law_1174 (by decide) ?_
                                    refine q_top (y := nI (n % 3)) (pk_rem (a := n) (d := 3) (by omega) (by decide) (by decide)) ?_
                                    refine lv_if_gt (tgt := 1192) hx hb dL_law_1175 (by decide) (fun c_18 => ?_) (fun c_18 => ?_)
                                    · skip
                                      have c_18 : 0 < (n % 3) := n_lt (a := 0) (b := (n % 3)) (by omega) (by omega) c_18
                                      refine lv_aload hx hb dL_law_1192 (lv_at hl 16 rfl) ?_
                                      refine lv_iconst (v := 1) hx hb dL_law_1194 (by decide) ?_
                                      refine g_ld (n := 5) (i := 1) C hw 5 rfl (by omega) (Nat.le_of_ble_eq_true rfl) dL_law_1195 ?_
                                      refine q_top (y := 2) (f51) ?_
                                      refine lv_if_eq (tgt := 1251) hx hb dL_law_1196 (by decide) (fun c_19 => ?_) (fun c_19 => ?_)
                                      · skip
                                        exact absurd c_19 (by decide)
                                      · skip
                                        refine lv_aload_n hx hb dL_law_1199 rfl (lv_at hl 10 rfl) ?_
                                        refine lv_aload_n hx hb dL_law_1200 rfl (lv_at hl 11 rfl) ?_
                                        refine lv_aload_n hx hb dL_law_1201 rfl (lv_at hl 12 rfl) ?_
                                        refine lv_aload hx hb dL_law_1202 (lv_at hl 17 rfl) ?_
                                        refine lv_aload hx hb dL_law_1204 (lv_at hl 16 rfl) ?_
                                        refine lv_iload hx hb dL_law_1206 (lv_at hl 5 rfl) ?_
                                        refine lv_iconst (v := 3) hx hb dL_law_1208 (by decide) ?_
                                        refine lv_idiv hx hb dL_law_1209 (by decide) ?_
                                        refine q_top (y := 0) (by decide) ?_
                                        refine lv_aload hx hb dL_law_1210 (lv_at hl 16 rfl) ?_
                                        refine lv_iconst (v := 1) hx hb dL_law_1212 (by decide) ?_
                                        refine g_ld (n := 5) (i := 1) C hw 5 rfl (by omega) (Nat.le_of_ble_eq_true rfl) dL_law_1213 ?_
                                        refine q_top (y := 2) (f51) ?_
                                        refine lv_irem hx hb dL_law_1214 (by decide) ?_
                                        refine q_top (y := 0) (by decide) ?_
                                        refine lv_iload hx hb dL_law_1215 (lv_at hl 5 rfl) ?_
                                        refine lv_bipush (v := 15) hx hb dL_law_1217 (by decide) ?_
                                        refine lv_idiv hx hb dL_law_1219 (by decide) ?_
                                        refine q_top (y := 0) (by decide) ?_
                                        refine lv_aload hx hb dL_law_1220 (lv_at hl 16 rfl) ?_
                                        refine lv_iconst (v := 1) hx hb dL_law_1222 (by decide) ?_
                                        refine g_ld (n := 5) (i := 1) C hw 5 rfl (by omega) (Nat.le_of_ble_eq_true rfl) dL_law_1223 ?_
                                        refine q_top (y := 2) (f51) ?_
                                        refine lv_irem hx hb dL_law_1224 (by decide) ?_
                                        refine q_top (y := 0) (by decide) ?_
                                        refine g_hl (rest := []) C hw (t_areLinks C.1.2.2.2.2 C.2.2.1 C.2.2.2.1 hfa hw.2.2.2 0 (by omega) 0 (by omega)) ck_L_areLinks v_668 hl.1 rfl ⟨Nat.le_of_ble_eq_true rfl, Nat.le_of_ble_eq_true rfl⟩ (Nat.le_of_ble_eq_true rfl) dL_law_1225 ⟨by omega, by omega⟩ (fun v S H locs hpo hle hw => ?_)
                                        obtain ⟨z20, rfl⟩ := hpo
                                        have hN : s.heap.size + (1 * q0 + 0) ≤ H.size := by omega
                                        refine W.widen (k := 159 * n + 1000) (n := 6 * (159 * n + 1000)) (by omega) (by omega) ?_
                                        refine lv_if_eq (tgt := 1302) hx hb dL_law_1228 (by decide) (fun c_21 => ?_) (fun c_21 => ?_)
                                        · skip
                                          have c_21 : z20 = false := b_f c_21
                                          subst c_21
                                          refine lv_iconst (v := 0) hx hb dL_law_1302 (by decide) ?_
                                          refine lv_istore (lv' := [(9, .int 0), (17, .int 0), (16, .int 0), (15, .int 0), (14, .int 0), (13, .int 3), (12, .int 0), (11, .int 3), (10, .int (nI n)), (0, .ref b), (1, .ref (ad 0)), (2, .ref (aa 0)), (3, .ref (aa 1)), (4, .ref (aa 2)), (5, .ref (aa 3)), (6, .ref (aa 4)), (7, .ref (aa 5)), (8, .ref (aa 6))]) hx hb dL_law_1303 hl (by decide) rfl (fun ls hl => ?_)
                                          refine lv_iinc (v := nI (n + 1)) (lv' := [(10, .int (nI (n + 1))), (9, .int 0), (17, .int 0), (16, .int 0), (15, .int 0), (14, .int 0), (13, .int 3), (12, .int 0), (11, .int 3), (0, .ref b), (1, .ref (ad 0)), (2, .ref (aa 0)), (3, .ref (aa 1)), (4, .ref (aa 2)), (5, .ref (aa 3)), (6, .ref (aa 4)), (7, .ref (aa 5)), (8, .ref (aa 6))]) hx hb dL_law_1305 hl (k := 8) rfl (nI_1 n) (by decide) rfl (fun ls hl => ?_)
                                          refine lv_goto (tgt := 90) hx hb dL_law_1308 (by decide) ?_
                                          exact lx_end0 (n := (n + 1)) X hw (by omega) ⟨by omega, by omega⟩ (lv_sub hl [1, 0] rfl)
                                        · skip
                                          have c_21 : z20 = true := b_t c_21
                                          subst c_21
                                          refine lv_aload_n hx hb dL_law_1231 rfl (lv_at hl 10 rfl) ?_
                                          refine lv_aload_n hx hb dL_law_1232 rfl (lv_at hl 11 rfl) ?_
                                          refine lv_aload hx hb dL_law_1233 (lv_at hl 16 rfl) ?_
                                          refine lv_iload hx hb dL_law_1235 (lv_at hl 5 rfl) ?_
                                          refine lv_bipush (v := 7) hx hb dL_law_1237 (by decide) ?_
                                          refine lv_idiv hx hb dL_law_1239 (by decide) ?_
                                          refine q_top (y := 0) (by decide) ?_
                                          refine lv_aload hx hb dL_law_1240 (lv_at hl 16 rfl) ?_
                                          refine lv_iconst (v := 1) hx hb dL_law_1242 (by decide) ?_
                                          refine g_ld (n := 5) (i := 1) C hw 5 rfl (by omega) (Nat.le_of_ble_eq_true rfl) dL_law_1243 ?_
                                          refine q_top (y := 2) (f51) ?_
                                          refine lv_irem hx hb dL_law_1244 (by decide) ?_
                                          refine q_top (y := 0) (by decide) ?_
                                          refine g_hl (rest := []) C hw (t_areVoid C.1.2.2.2.2 C.2.2.1 C.2.2.2.1 hfa hw.2.2.2 0 (by omega)) ck_L_areVoid v_677 hl.1 rfl ⟨Nat.le_of_ble_eq_true rfl, Nat.le_of_ble_eq_true rfl⟩ (Nat.le_of_ble_eq_true rfl) dL_law_1245 ⟨by omega, by omega⟩ (fun v S H locs hpo hle hw => ?_)
                                          obtain ⟨z22, rfl⟩ := hpo
                                          have hN : s.heap.size + (1 * q0 + 0) ≤ H.size := by omega
                                          refine W.widen (k := 159 * n + 1000) (n := 6 * (159 * n + 1000)) (by omega) (by omega) ?_
                                          refine lv_if_eq (tgt := 1302) hx hb dL_law_1248 (by decide) (fun c_23 => ?_) (fun c_23 => ?_)
                                          · skip
                                            have c_23 : z22 = false := b_f c_23
                                            subst c_23
                                            refine lv_iconst (v := 0) hx hb dL_law_1302 (by decide) ?_
                                            refine lv_istore (lv' := [(9, .int 0), (17, .int 0), (16, .int 0), (15, .int 0), (14, .int 0), (13, .int 3), (12, .int 0), (11, .int 3), (10, .int (nI n)), (0, .ref b), (1, .ref (ad 0)), (2, .ref (aa 0)), (3, .ref (aa 1)), (4, .ref (aa 2)), (5, .ref (aa 3)), (6, .ref (aa 4)), (7, .ref (aa 5)), (8, .ref (aa 6))]) hx hb dL_law_1303 hl (by decide) rfl (fun ls hl => ?_)
                                            refine lv_iinc (v := nI (n + 1)) (lv' := [(10, .int (nI (n + 1))), (9, .int 0), (17, .int 0), (16, .int 0), (15, .int 0), (14, .int 0), (13, .int 3), (12, .int 0), (11, .int 3), (0, .ref b), (1, .ref (ad 0)), (2, .ref (aa 0)), (3, .ref (aa 1)), (4, .ref (aa 2)), (5, .ref (aa 3)), (6, .ref (aa 4)), (7, .ref (aa 5)), (8, .ref (aa 6))]) hx hb dL_law_1305 hl (k := 8) rfl (nI_1 n) (by decide) rfl (fun ls hl => ?_)
                                            refine lv_goto (tgt := 90) hx hb dL_law_1308 (by decide) ?_
                                            exact lx_end0 (n := (n + 1)) X hw (by omega) ⟨by omega, by omega⟩ (lv_sub hl [1, 0] rfl)
                                          · skip
                                            have c_23 : z22 = true := b_t c_23
                                            subst c_23
                                            refine lv_iload hx hb dL_law_1251 (lv_at hl 8 rfl) ?_
                                            refine lv_iconst (v := 3) hx hb dL_law_1253 (by decide) ?_
                                            refine lv_irem hx hb dL_law_1254 (by decide) ?_
                                            refine q_top (y := nI (n % 3)) (pk_rem (a := n) (d := 3) (by omega) (by decide) (by decide)) ?_
                                            refine lv_if_gt (tgt := 1272) hx hb dL_law_1255 (by decide) (fun c_24 => ?_) (fun c_24 => ?_)
                                            · skip
                                              have c_24 : 0 < (n % 3) := n_lt (a := 0) (b := (n % 3)) (by omega) (by omega) c_24
                                              refine lv_iload hx hb dL_law_1272 (lv_at hl 8 rfl) ?_
                                              refine lv_bipush (v := 22) hx hb dL_law_1274 (by decide) ?_
                                              refine lv_irem hx hb dL_law_1276 (by decide) ?_
                                              refine q_top (y := nI (n % 22)) (pk_rem (a := n) (d := 22) (by omega) (by decide) (by decide)) ?_
                                              refine lv_if_gt (tgt := 1298) hx hb dL_law_1277 (by decide) (fun c_25 => ?_) (fun c_25 => ?_)
                                              · skip
                                                have c_25 : 0 < (n % 22) := n_lt (a := 0) (b := (n % 22)) (by omega) (by omega) c_25
                                                refine lv_iconst (v := 1) hx hb dL_law_1298 (by decide) ?_
                                                refine lv_goto (tgt := 1303) hx hb dL_law_1299 (by decide) ?_
                                                refine lv_istore (lv' := [(9, .int 1), (17, .int 0), (16, .int 0), (15, .int 0), (14, .int 0), (13, .int 3), (12, .int 0), (11, .int 3), (10, .int (nI n)), (0, .ref b), (1, .ref (ad 0)), (2, .ref (aa 0)), (3, .ref (aa 1)), (4, .ref (aa 2)), (5, .ref (aa 3)), (6, .ref (aa 4)), (7, .ref (aa 5)), (8, .ref (aa 6))]) hx hb dL_law_1303 hl (by decide) rfl (fun ls hl => ?_)
                                                refine lv_iinc (v := nI (n + 1)) (lv' := [(10, .int (nI (n + 1))), (9, .int 1), (17, .int 0), (16, .int 0), (15, .int 0), (14, .int 0), (13, .int 3), (12, .int 0), (11, .int 3), (0, .ref b), (1, .ref (ad 0)), (2, .ref (aa 0)), (3, .ref (aa 1)), (4, .ref (aa 2)), (5, .ref (aa 3)), (6, .ref (aa 4)), (7, .ref (aa 5)), (8, .ref (aa 6))]) hx hb dL_law_1305 hl (k := 8) rfl (nI_1 n) (by decide) rfl (fun ls hl => ?_)
                                                refine lv_goto (tgt := 90) hx hb dL_law_1308 (by decide) ?_
                                                refine W.widen (k := 159 * n + 1159) (n := 6 * (159 * n + 1159)) (by omega) (by omega) ?_
                                                exact kk _ _ _ _ _ hfa hw (by have h22 := lb_step n; omega) (lv_sub hl [1, 0, 9, 10, 11, 12, 13, 14, 15, 16, 17] rfl)
                                              · skip
                                                have c_25 : (n % 22) ≤ 0 := n_nlt (a := 0) (b := (n % 22)) (by omega) (by omega) c_25
                                                refine lv_aload_n hx hb dL_law_1280 rfl (lv_at hl 10 rfl) ?_
                                                refine lv_aload_n hx hb dL_law_1281 rfl (lv_at hl 11 rfl) ?_
                                                refine lv_aload hx hb dL_law_1282 (lv_at hl 13 rfl) ?_
                                                refine lv_aload hx hb dL_law_1284 (lv_at hl 14 rfl) ?_
                                                refine lv_aload hx hb dL_law_1286 (lv_at hl 16 rfl) ?_
                                                refine lv_iload hx hb dL_law_1288 (lv_at hl 6 rfl) ?_
                                                refine lv_iconst (v := 3) hx hb dL_law_1290 (by decide) ?_
                                                refine lv_idiv hx hb dL_law_1291 (by decide) ?_
                                                refine q_top (y := 1) (by decide) ?_
                                                refine g_hl (rest := []) C hw (t_isRefused1 C.1.2.2.2.2 C.2.2.1 C.2.2.2.1 hfa hw.2.2.2) ck_L_isRefused v_690 hl.1 rfl ⟨Nat.le_of_ble_eq_true rfl, Nat.le_of_ble_eq_true rfl⟩ (Nat.le_of_ble_eq_true rfl) dL_law_1292 ⟨by omega, by omega⟩ (fun v S H locs hpo hle hw => ?_)
                                                obtain ⟨⟨z26, rfl⟩, hgr⟩ := hpo
                                                have hN : s.heap.size + (1 * q0 + 19) ≤ H.size := by omega
                                                refine W.widen (k := 159 * n + 1150) (n := 6 * (159 * n + 1150)) (by omega) (by omega) ?_
                                                refine lv_if_eq (tgt := 1302) hx hb dL_law_1295 (by decide) (fun c_27 => ?_) (fun c_27 => ?_)
                                                · skip
                                                  have c_27 : z26 = false := b_f c_27
                                                  subst c_27
                                                  refine lv_iconst (v := 0) hx hb dL_law_1302 (by decide) ?_
                                                  refine lv_istore (lv' := [(9, .int 0), (17, .int 0), (16, .int 0), (15, .int 0), (14, .int 0), (13, .int 3), (12, .int 0), (11, .int 3), (10, .int (nI n)), (0, .ref b), (1, .ref (ad 0)), (2, .ref (aa 0)), (3, .ref (aa 1)), (4, .ref (aa 2)), (5, .ref (aa 3)), (6, .ref (aa 4)), (7, .ref (aa 5)), (8, .ref (aa 6))]) hx hb dL_law_1303 hl (by decide) rfl (fun ls hl => ?_)
                                                  refine lv_iinc (v := nI (n + 1)) (lv' := [(10, .int (nI (n + 1))), (9, .int 0), (17, .int 0), (16, .int 0), (15, .int 0), (14, .int 0), (13, .int 3), (12, .int 0), (11, .int 3), (0, .ref b), (1, .ref (ad 0)), (2, .ref (aa 0)), (3, .ref (aa 1)), (4, .ref (aa 2)), (5, .ref (aa 3)), (6, .ref (aa 4)), (7, .ref (aa 5)), (8, .ref (aa 6))]) hx hb dL_law_1305 hl (k := 8) rfl (nI_1 n) (by decide) rfl (fun ls hl => ?_)
                                                  refine lv_goto (tgt := 90) hx hb dL_law_1308 (by decide) ?_
                                                  exact lx_end0 (n := (n + 1)) X hw (by omega) ⟨by omega, by omega⟩ (lv_sub hl [1, 0] rfl)
                                                · skip
                                                  have c_27 : z26 = true := b_t c_27
                                                  subst c_27
                                                  refine lv_iconst (v := 1) hx hb dL_law_1298 (by decide) ?_
                                                  refine lv_goto (tgt := 1303) hx hb dL_law_1299 (by decide) ?_
                                                  refine lv_istore (lv' := [(9, .int 1), (17, .int 0), (16, .int 0), (15, .int 0), (14, .int 0), (13, .int 3), (12, .int 0), (11, .int 3), (10, .int (nI n)), (0, .ref b), (1, .ref (ad 0)), (2, .ref (aa 0)), (3, .ref (aa 1)), (4, .ref (aa 2)), (5, .ref (aa 3)), (6, .ref (aa 4)), (7, .ref (aa 5)), (8, .ref (aa 6))]) hx hb dL_law_1303 hl (by decide) rfl (fun ls hl => ?_)
                                                  refine lv_iinc (v := nI (n + 1)) (lv' := [(10, .int (nI (n + 1))), (9, .int 1), (17, .int 0), (16, .int 0), (15, .int 0), (14, .int 0), (13, .int 3), (12, .int 0), (11, .int 3), (0, .ref b), (1, .ref (ad 0)), (2, .ref (aa 0)), (3, .ref (aa 1)), (4, .ref (aa 2)), (5, .ref (aa 3)), (6, .ref (aa 4)), (7, .ref (aa 5)), (8, .ref (aa 6))]) hx hb dL_law_1305 hl (k := 8) rfl (nI_1 n) (by decide) rfl (fun ls hl => ?_)
                                                  refine lv_goto (tgt := 90) hx hb dL_law_1308 (by decide) ?_
                                                  refine W.widen (k := 159 * n + 1159) (n := 6 * (159 * n + 1159)) (by omega) (by omega) ?_
                                                  exact kk _ _ _ _ _ hfa hw (by have h22 := lb_step n; omega) (lv_sub hl [1, 0, 9, 10, 11, 12, 13, 14, 15, 16, 17] rfl)
                                            · skip
                                              have c_24 : (n % 3) ≤ 0 := n_nlt (a := 0) (b := (n % 3)) (by omega) (by omega) c_24
                                              refine lv_aload_n hx hb dL_law_1258 rfl (lv_at hl 10 rfl) ?_
                                              refine lv_aload_n hx hb dL_law_1259 rfl (lv_at hl 11 rfl) ?_
                                              refine lv_aload hx hb dL_law_1260 (lv_at hl 13 rfl) ?_
                                              refine lv_aload hx hb dL_law_1262 (lv_at hl 15 rfl) ?_
                                              refine lv_aload hx hb dL_law_1264 (lv_at hl 16 rfl) ?_
                                              refine g_hl (rest := []) C hw (t_areScores C.1.2.2.2.2 C.2.2.1 C.2.2.2.1 hfa hw.2.2.2) ck_L_areScores v_680 hl.1 rfl ⟨Nat.le_of_ble_eq_true rfl, Nat.le_of_ble_eq_true rfl⟩ (Nat.le_of_ble_eq_true rfl) dL_law_1266 ⟨by omega, by omega⟩ (fun v S H locs hpo hle hw => ?_)
                                              obtain ⟨z28, rfl⟩ := hpo
                                              have hN : s.heap.size + (1 * q0 + 0) ≤ H.size := by omega
                                              refine W.widen (k := 159 * n + 1002) (n := 6 * (159 * n + 1002)) (by omega) (by omega) ?_
                                              refine lv_if_eq (tgt := 1302) hx hb dL_law_1269 (by decide) (fun c_29 => ?_) (fun c_29 => ?_)
                                              · skip
                                                have c_29 : z28 = false := b_f c_29
                                                subst c_29
                                                refine lv_iconst (v := 0) hx hb dL_law_1302 (by decide) ?_
                                                refine lv_istore (lv' := [(9, .int 0), (17, .int 0), (16, .int 0), (15, .int 0), (14, .int 0), (13, .int 3), (12, .int 0), (11, .int 3), (10, .int (nI n)), (0, .ref b), (1, .ref (ad 0)), (2, .ref (aa 0)), (3, .ref (aa 1)), (4, .ref (aa 2)), (5, .ref (aa 3)), (6, .ref (aa 4)), (7, .ref (aa 5)), (8, .ref (aa 6))]) hx hb dL_law_1303 hl (by decide) rfl (fun ls hl => ?_)
                                                refine lv_iinc (v := nI (n + 1)) (lv' := [(10, .int (nI (n + 1))), (9, .int 0), (17, .int 0), (16, .int 0), (15, .int 0), (14, .int 0), (13, .int 3), (12, .int 0), (11, .int 3), (0, .ref b), (1, .ref (ad 0)), (2, .ref (aa 0)), (3, .ref (aa 1)), (4, .ref (aa 2)), (5, .ref (aa 3)), (6, .ref (aa 4)), (7, .ref (aa 5)), (8, .ref (aa 6))]) hx hb dL_law_1305 hl (k := 8) rfl (nI_1 n) (by decide) rfl (fun ls hl => ?_)
                                                refine lv_goto (tgt := 90) hx hb dL_law_1308 (by decide) ?_
                                                exact lx_end0 (n := (n + 1)) X hw (by omega) ⟨by omega, by omega⟩ (lv_sub hl [1, 0] rfl)
                                              · skip
                                                have c_29 : z28 = true := b_t c_29
                                                subst c_29
                                                refine lv_iload hx hb dL_law_1272 (lv_at hl 8 rfl) ?_
                                                refine lv_bipush (v := 22) hx hb dL_law_1274 (by decide) ?_
                                                refine lv_irem hx hb dL_law_1276 (by decide) ?_
                                                refine q_top (y := nI (n % 22)) (pk_rem (a := n) (d := 22) (by omega) (by decide) (by decide)) ?_
                                                refine lv_if_gt (tgt := 1298) hx hb dL_law_1277 (by decide) (fun c_30 => ?_) (fun c_30 => ?_)
                                                · skip
                                                  have c_30 : 0 < (n % 22) := n_lt (a := 0) (b := (n % 22)) (by omega) (by omega) c_30
                                                  refine lv_iconst (v := 1) hx hb dL_law_1298 (by decide) ?_
                                                  refine lv_goto (tgt := 1303) hx hb dL_law_1299 (by decide) ?_
                                                  refine lv_istore (lv' := [(9, .int 1), (17, .int 0), (16, .int 0), (15, .int 0), (14, .int 0), (13, .int 3), (12, .int 0), (11, .int 3), (10, .int (nI n)), (0, .ref b), (1, .ref (ad 0)), (2, .ref (aa 0)), (3, .ref (aa 1)), (4, .ref (aa 2)), (5, .ref (aa 3)), (6, .ref (aa 4)), (7, .ref (aa 5)), (8, .ref (aa 6))]) hx hb dL_law_1303 hl (by decide) rfl (fun ls hl => ?_)
                                                  refine lv_iinc (v := nI (n + 1)) (lv' := [(10, .int (nI (n + 1))), (9, .int 1), (17, .int 0), (16, .int 0), (15, .int 0), (14, .int 0), (13, .int 3), (12, .int 0), (11, .int 3), (0, .ref b), (1, .ref (ad 0)), (2, .ref (aa 0)), (3, .ref (aa 1)), (4, .ref (aa 2)), (5, .ref (aa 3)), (6, .ref (aa 4)), (7, .ref (aa 5)), (8, .ref (aa 6))]) hx hb dL_law_1305 hl (k := 8) rfl (nI_1 n) (by decide) rfl (fun ls hl => ?_)
                                                  refine lv_goto (tgt := 90) hx hb dL_law_1308 (by decide) ?_
                                                  refine W.widen (k := 159 * n + 1159) (n := 6 * (159 * n + 1159)) (by omega) (by omega) ?_
                                                  exact kk _ _ _ _ _ hfa hw (by have h22 := lb_step n; omega) (lv_sub hl [1, 0, 9, 10, 11, 12, 13, 14, 15, 16, 17] rfl)
                                                · skip
                                                  have c_30 : (n % 22) ≤ 0 := n_nlt (a := 0) (b := (n % 22)) (by omega) (by omega) c_30
                                                  refine lv_aload_n hx hb dL_law_1280 rfl (lv_at hl 10 rfl) ?_
                                                  refine lv_aload_n hx hb dL_law_1281 rfl (lv_at hl 11 rfl) ?_
                                                  refine lv_aload hx hb dL_law_1282 (lv_at hl 13 rfl) ?_
                                                  refine lv_aload hx hb dL_law_1284 (lv_at hl 14 rfl) ?_
                                                  refine lv_aload hx hb dL_law_1286 (lv_at hl 16 rfl) ?_
                                                  refine lv_iload hx hb dL_law_1288 (lv_at hl 6 rfl) ?_
                                                  refine lv_iconst (v := 3) hx hb dL_law_1290 (by decide) ?_
                                                  refine lv_idiv hx hb dL_law_1291 (by decide) ?_
                                                  refine q_top (y := 1) (by decide) ?_
                                                  refine g_hl (rest := []) C hw (t_isRefused1 C.1.2.2.2.2 C.2.2.1 C.2.2.2.1 hfa hw.2.2.2) ck_L_isRefused v_690 hl.1 rfl ⟨Nat.le_of_ble_eq_true rfl, Nat.le_of_ble_eq_true rfl⟩ (Nat.le_of_ble_eq_true rfl) dL_law_1292 ⟨by omega, by omega⟩ (fun v S H locs hpo hle hw => ?_)
                                                  obtain ⟨⟨z31, rfl⟩, hgr⟩ := hpo
                                                  have hN : s.heap.size + (1 * q0 + 19) ≤ H.size := by omega
                                                  refine W.widen (k := 159 * n + 1152) (n := 6 * (159 * n + 1152)) (by omega) (by omega) ?_
                                                  refine lv_if_eq (tgt := 1302) hx hb dL_law_1295 (by decide) (fun c_32 => ?_) (fun c_32 => ?_)
                                                  · skip
                                                    have c_32 : z31 = false := b_f c_32
                                                    subst c_32
                                                    refine lv_iconst (v := 0) hx hb dL_law_1302 (by decide) ?_
                                                    refine lv_istore (lv' := [(9, .int 0), (17, .int 0), (16, .int 0), (15, .int 0), (14, .int 0), (13, .int 3), (12, .int 0), (11, .int 3), (10, .int (nI n)), (0, .ref b), (1, .ref (ad 0)), (2, .ref (aa 0)), (3, .ref (aa 1)), (4, .ref (aa 2)), (5, .ref (aa 3)), (6, .ref (aa 4)), (7, .ref (aa 5)), (8, .ref (aa 6))]) hx hb dL_law_1303 hl (by decide) rfl (fun ls hl => ?_)
                                                    refine lv_iinc (v := nI (n + 1)) (lv' := [(10, .int (nI (n + 1))), (9, .int 0), (17, .int 0), (16, .int 0), (15, .int 0), (14, .int 0), (13, .int 3), (12, .int 0), (11, .int 3), (0, .ref b), (1, .ref (ad 0)), (2, .ref (aa 0)), (3, .ref (aa 1)), (4, .ref (aa 2)), (5, .ref (aa 3)), (6, .ref (aa 4)), (7, .ref (aa 5)), (8, .ref (aa 6))]) hx hb dL_law_1305 hl (k := 8) rfl (nI_1 n) (by decide) rfl (fun ls hl => ?_)
                                                    refine lv_goto (tgt := 90) hx hb dL_law_1308 (by decide) ?_
                                                    exact lx_end0 (n := (n + 1)) X hw (by omega) ⟨by omega, by omega⟩ (lv_sub hl [1, 0] rfl)
                                                  · skip
                                                    have c_32 : z31 = true := b_t c_32
                                                    subst c_32
                                                    refine lv_iconst (v := 1) hx hb dL_law_1298 (by decide) ?_
                                                    refine lv_goto (tgt := 1303) hx hb dL_law_1299 (by decide) ?_
                                                    refine lv_istore (lv' := [(9, .int 1), (17, .int 0), (16, .int 0), (15, .int 0), (14, .int 0), (13, .int 3), (12, .int 0), (11, .int 3), (10, .int (nI n)), (0, .ref b), (1, .ref (ad 0)), (2, .ref (aa 0)), (3, .ref (aa 1)), (4, .ref (aa 2)), (5, .ref (aa 3)), (6, .ref (aa 4)), (7, .ref (aa 5)), (8, .ref (aa 6))]) hx hb dL_law_1303 hl (by decide) rfl (fun ls hl => ?_)
                                                    refine lv_iinc (v := nI (n + 1)) (lv' := [(10, .int (nI (n + 1))), (9, .int 1), (17, .int 0), (16, .int 0), (15, .int 0), (14, .int 0), (13, .int 3), (12, .int 0), (11, .int 3), (0, .ref b), (1, .ref (ad 0)), (2, .ref (aa 0)), (3, .ref (aa 1)), (4, .ref (aa 2)), (5, .ref (aa 3)), (6, .ref (aa 4)), (7, .ref (aa 5)), (8, .ref (aa 6))]) hx hb dL_law_1305 hl (k := 8) rfl (nI_1 n) (by decide) rfl (fun ls hl => ?_)
                                                    refine lv_goto (tgt := 90) hx hb dL_law_1308 (by decide) ?_
                                                    refine W.widen (k := 159 * n + 1159) (n := 6 * (159 * n + 1159)) (by omega) (by omega) ?_
                                                    exact kk _ _ _ _ _ hfa hw (by have h22 := lb_step n; omega) (lv_sub hl [1, 0, 9, 10, 11, 12, 13, 14, 15, 16, 17] rfl)
                                    · skip
                                      have c_18 : (n % 3) ≤ 0 := n_nlt (a := 0) (b := (n % 3)) (by omega) (by omega) c_18
                                      refine lv_aload_n hx hb dL_law_1178 rfl (lv_at hl 10 rfl) ?_
                                      refine lv_aload_n hx hb dL_law_1179 rfl (lv_at hl 11 rfl) ?_
                                      refine lv_aload hx hb dL_law_1180 (lv_at hl 13 rfl) ?_
                                      refine lv_aload hx hb dL_law_1182 (lv_at hl 14 rfl) ?_
                                      refine lv_aload hx hb dL_law_1184 (lv_at hl 16 rfl) ?_
                                      refine g_hl (rest := []) C hw (t_areOpened C.1.2.2.2.2 C.2.2.1 C.2.2.2.1 hfa hw.2.2.2) ck_L_areOpened v_665 hl.1 rfl ⟨Nat.le_of_ble_eq_true rfl, Nat.le_of_ble_eq_true rfl⟩ (Nat.le_of_ble_eq_true rfl) dL_law_1186 ⟨by omega, by omega⟩ (fun v S H locs hpo hle hw => ?_)
                                      obtain ⟨z33, rfl⟩ := hpo
                                      have hN : s.heap.size + (1 * q0 + 0) ≤ H.size := by omega
                                      refine W.widen (k := 159 * n + 1006) (n := 6 * (159 * n + 1006)) (by omega) (by omega) ?_
                                      refine lv_if_eq (tgt := 1302) hx hb dL_law_1189 (by decide) (fun c_34 => ?_) (fun c_34 => ?_)
                                      · skip
                                        have c_34 : z33 = false := b_f c_34
                                        subst c_34
                                        refine lv_iconst (v := 0) hx hb dL_law_1302 (by decide) ?_
                                        refine lv_istore (lv' := [(9, .int 0), (17, .int 0), (16, .int 0), (15, .int 0), (14, .int 0), (13, .int 3), (12, .int 0), (11, .int 3), (10, .int (nI n)), (0, .ref b), (1, .ref (ad 0)), (2, .ref (aa 0)), (3, .ref (aa 1)), (4, .ref (aa 2)), (5, .ref (aa 3)), (6, .ref (aa 4)), (7, .ref (aa 5)), (8, .ref (aa 6))]) hx hb dL_law_1303 hl (by decide) rfl (fun ls hl => ?_)
                                        refine lv_iinc (v := nI (n + 1)) (lv' := [(10, .int (nI (n + 1))), (9, .int 0), (17, .int 0), (16, .int 0), (15, .int 0), (14, .int 0), (13, .int 3), (12, .int 0), (11, .int 3), (0, .ref b), (1, .ref (ad 0)), (2, .ref (aa 0)), (3, .ref (aa 1)), (4, .ref (aa 2)), (5, .ref (aa 3)), (6, .ref (aa 4)), (7, .ref (aa 5)), (8, .ref (aa 6))]) hx hb dL_law_1305 hl (k := 8) rfl (nI_1 n) (by decide) rfl (fun ls hl => ?_)
                                        refine lv_goto (tgt := 90) hx hb dL_law_1308 (by decide) ?_
                                        exact lx_end0 (n := (n + 1)) X hw (by omega) ⟨by omega, by omega⟩ (lv_sub hl [1, 0] rfl)
                                      · skip
                                        have c_34 : z33 = true := b_t c_34
                                        subst c_34
                                        refine lv_aload hx hb dL_law_1192 (lv_at hl 16 rfl) ?_
                                        refine lv_iconst (v := 1) hx hb dL_law_1194 (by decide) ?_
                                        refine g_ld (n := 5) (i := 1) C hw 5 rfl (by omega) (Nat.le_of_ble_eq_true rfl) dL_law_1195 ?_
                                        refine q_top (y := 2) (f51) ?_
                                        refine lv_if_eq (tgt := 1251) hx hb dL_law_1196 (by decide) (fun c_35 => ?_) (fun c_35 => ?_)
                                        · skip
                                          exact absurd c_35 (by decide)
                                        · skip
                                          refine lv_aload_n hx hb dL_law_1199 rfl (lv_at hl 10 rfl) ?_
                                          refine lv_aload_n hx hb dL_law_1200 rfl (lv_at hl 11 rfl) ?_
                                          refine lv_aload_n hx hb dL_law_1201 rfl (lv_at hl 12 rfl) ?_
                                          refine lv_aload hx hb dL_law_1202 (lv_at hl 17 rfl) ?_
                                          refine lv_aload hx hb dL_law_1204 (lv_at hl 16 rfl) ?_
                                          refine lv_iload hx hb dL_law_1206 (lv_at hl 5 rfl) ?_
                                          refine lv_iconst (v := 3) hx hb dL_law_1208 (by decide) ?_
                                          refine lv_idiv hx hb dL_law_1209 (by decide) ?_
                                          refine q_top (y := 0) (by decide) ?_
                                          refine lv_aload hx hb dL_law_1210 (lv_at hl 16 rfl) ?_
                                          refine lv_iconst (v := 1) hx hb dL_law_1212 (by decide) ?_
                                          refine g_ld (n := 5) (i := 1) C hw 5 rfl (by omega) (Nat.le_of_ble_eq_true rfl) dL_law_1213 ?_
                                          refine q_top (y := 2) (f51) ?_
                                          refine lv_irem hx hb dL_law_1214 (by decide) ?_
                                          refine q_top (y := 0) (by decide) ?_
                                          refine lv_iload hx hb dL_law_1215 (lv_at hl 5 rfl) ?_
                                          refine lv_bipush (v := 15) hx hb dL_law_1217 (by decide) ?_
                                          refine lv_idiv hx hb dL_law_1219 (by decide) ?_
                                          refine q_top (y := 0) (by decide) ?_
                                          refine lv_aload hx hb dL_law_1220 (lv_at hl 16 rfl) ?_
                                          refine lv_iconst (v := 1) hx hb dL_law_1222 (by decide) ?_
                                          refine g_ld (n := 5) (i := 1) C hw 5 rfl (by omega) (Nat.le_of_ble_eq_true rfl) dL_law_1223 ?_
                                          refine q_top (y := 2) (f51) ?_
                                          refine lv_irem hx hb dL_law_1224 (by decide) ?_
                                          refine q_top (y := 0) (by decide) ?_
                                          refine g_hl (rest := []) C hw (t_areLinks C.1.2.2.2.2 C.2.2.1 C.2.2.2.1 hfa hw.2.2.2 0 (by omega) 0 (by omega)) ck_L_areLinks v_668 hl.1 rfl ⟨Nat.le_of_ble_eq_true rfl, Nat.le_of_ble_eq_true rfl⟩ (Nat.le_of_ble_eq_true rfl) dL_law_1225 ⟨by omega, by omega⟩ (fun v S H locs hpo hle hw => ?_)
                                          obtain ⟨z36, rfl⟩ := hpo
                                          have hN : s.heap.size + (1 * q0 + 0) ≤ H.size := by omega
                                          refine W.widen (k := 159 * n + 1006) (n := 6 * (159 * n + 1006)) (by omega) (by omega) ?_
                                          refine lv_if_eq (tgt := 1302) hx hb dL_law_1228 (by decide) (fun c_37 => ?_) (fun c_37 => ?_)
                                          · skip
                                            have c_37 : z36 = false := b_f c_37
                                            subst c_37
                                            refine lv_iconst (v := 0) hx hb dL_law_1302 (by decide) ?_
                                            refine lv_istore (lv' := [(9, .int 0), (17, .int 0), (16, .int 0), (15, .int 0), (14, .int 0), (13, .int 3), (12, .int 0), (11, .int 3), (10, .int (nI n)), (0, .ref b), (1, .ref (ad 0)), (2, .ref (aa 0)), (3, .ref (aa 1)), (4, .ref (aa 2)), (5, .ref (aa 3)), (6, .ref (aa 4)), (7, .ref (aa 5)), (8, .ref (aa 6))]) hx hb dL_law_1303 hl (by decide) rfl (fun ls hl => ?_)
                                            refine lv_iinc (v := nI (n + 1)) (lv' := [(10, .int (nI (n + 1))), (9, .int 0), (17, .int 0), (16, .int 0), (15, .int 0), (14, .int 0), (13, .int 3), (12, .int 0), (11, .int 3), (0, .ref b), (1, .ref (ad 0)), (2, .ref (aa 0)), (3, .ref (aa 1)), (4, .ref (aa 2)), (5, .ref (aa 3)), (6, .ref (aa 4)), (7, .ref (aa 5)), (8, .ref (aa 6))]) hx hb dL_law_1305 hl (k := 8) rfl (nI_1 n) (by decide) rfl (fun ls hl => ?_)
                                            refine lv_goto (tgt := 90) hx hb dL_law_1308 (by decide) ?_
                                            exact lx_end0 (n := (n + 1)) X hw (by omega) ⟨by omega, by omega⟩ (lv_sub hl [1, 0] rfl)
                                          · skip
                                            have c_37 : z36 = true := b_t c_37
                                            subst c_37
                                            refine lv_aload_n hx hb dL_law_1231 rfl (lv_at hl 10 rfl) ?_
                                            refine lv_aload_n hx hb dL_law_1232 rfl (lv_at hl 11 rfl) ?_
                                            refine lv_aload hx hb dL_law_1233 (lv_at hl 16 rfl) ?_
                                            refine lv_iload hx hb dL_law_1235 (lv_at hl 5 rfl) ?_
                                            refine lv_bipush (v := 7) hx hb dL_law_1237 (by decide) ?_
                                            refine lv_idiv hx hb dL_law_1239 (by decide) ?_
                                            refine q_top (y := 0) (by decide) ?_
                                            refine lv_aload hx hb dL_law_1240 (lv_at hl 16 rfl) ?_
                                            refine lv_iconst (v := 1) hx hb dL_law_1242 (by decide) ?_
                                            refine g_ld (n := 5) (i := 1) C hw 5 rfl (by omega) (Nat.le_of_ble_eq_true rfl) dL_law_1243 ?_
                                            refine q_top (y := 2) (f51) ?_
                                            refine lv_irem hx hb dL_law_1244 (by decide) ?_
                                            refine q_top (y := 0) (by decide) ?_
                                            refine g_hl (rest := []) C hw (t_areVoid C.1.2.2.2.2 C.2.2.1 C.2.2.2.1 hfa hw.2.2.2 0 (by omega)) ck_L_areVoid v_677 hl.1 rfl ⟨Nat.le_of_ble_eq_true rfl, Nat.le_of_ble_eq_true rfl⟩ (Nat.le_of_ble_eq_true rfl) dL_law_1245 ⟨by omega, by omega⟩ (fun v S H locs hpo hle hw => ?_)
                                            obtain ⟨z38, rfl⟩ := hpo
                                            have hN : s.heap.size + (1 * q0 + 0) ≤ H.size := by omega
                                            refine W.widen (k := 159 * n + 1006) (n := 6 * (159 * n + 1006)) (by omega) (by omega) ?_
                                            refine lv_if_eq (tgt := 1302) hx hb dL_law_1248 (by decide) (fun c_39 => ?_) (fun c_39 => ?_)
                                            · skip
                                              have c_39 : z38 = false := b_f c_39
                                              subst c_39
                                              refine lv_iconst (v := 0) hx hb dL_law_1302 (by decide) ?_
                                              refine lv_istore (lv' := [(9, .int 0), (17, .int 0), (16, .int 0), (15, .int 0), (14, .int 0), (13, .int 3), (12, .int 0), (11, .int 3), (10, .int (nI n)), (0, .ref b), (1, .ref (ad 0)), (2, .ref (aa 0)), (3, .ref (aa 1)), (4, .ref (aa 2)), (5, .ref (aa 3)), (6, .ref (aa 4)), (7, .ref (aa 5)), (8, .ref (aa 6))]) hx hb dL_law_1303 hl (by decide) rfl (fun ls hl => ?_)
                                              refine lv_iinc (v := nI (n + 1)) (lv' := [(10, .int (nI (n + 1))), (9, .int 0), (17, .int 0), (16, .int 0), (15, .int 0), (14, .int 0), (13, .int 3), (12, .int 0), (11, .int 3), (0, .ref b), (1, .ref (ad 0)), (2, .ref (aa 0)), (3, .ref (aa 1)), (4, .ref (aa 2)), (5, .ref (aa 3)), (6, .ref (aa 4)), (7, .ref (aa 5)), (8, .ref (aa 6))]) hx hb dL_law_1305 hl (k := 8) rfl (nI_1 n) (by decide) rfl (fun ls hl => ?_)
                                              refine lv_goto (tgt := 90) hx hb dL_law_1308 (by decide) ?_
                                              exact lx_end0 (n := (n + 1)) X hw (by omega) ⟨by omega, by omega⟩ (lv_sub hl [1, 0] rfl)
                                            · skip
                                              have c_39 : z38 = true := b_t c_39
                                              subst c_39
                                              refine lv_iload hx hb dL_law_1251 (lv_at hl 8 rfl) ?_
                                              refine lv_iconst (v := 3) hx hb dL_law_1253 (by decide) ?_
                                              refine lv_irem hx hb dL_law_1254 (by decide) ?_
                                              refine q_top (y := nI (n % 3)) (pk_rem (a := n) (d := 3) (by omega) (by decide) (by decide)) ?_
                                              refine lv_if_gt (tgt := 1272) hx hb dL_law_1255 (by decide) (fun c_40 => ?_) (fun c_40 => ?_)
                                              · skip
                                                have c_40 : 0 < (n % 3) := n_lt (a := 0) (b := (n % 3)) (by omega) (by omega) c_40
                                                refine lv_iload hx hb dL_law_1272 (lv_at hl 8 rfl) ?_
                                                refine lv_bipush (v := 22) hx hb dL_law_1274 (by decide) ?_
                                                refine lv_irem hx hb dL_law_1276 (by decide) ?_
                                                refine q_top (y := nI (n % 22)) (pk_rem (a := n) (d := 22) (by omega) (by decide) (by decide)) ?_
                                                refine lv_if_gt (tgt := 1298) hx hb dL_law_1277 (by decide) (fun c_41 => ?_) (fun c_41 => ?_)
                                                · skip
                                                  have c_41 : 0 < (n % 22) := n_lt (a := 0) (b := (n % 22)) (by omega) (by omega) c_41
                                                  refine lv_iconst (v := 1) hx hb dL_law_1298 (by decide) ?_
                                                  refine lv_goto (tgt := 1303) hx hb dL_law_1299 (by decide) ?_
                                                  refine lv_istore (lv' := [(9, .int 1), (17, .int 0), (16, .int 0), (15, .int 0), (14, .int 0), (13, .int 3), (12, .int 0), (11, .int 3), (10, .int (nI n)), (0, .ref b), (1, .ref (ad 0)), (2, .ref (aa 0)), (3, .ref (aa 1)), (4, .ref (aa 2)), (5, .ref (aa 3)), (6, .ref (aa 4)), (7, .ref (aa 5)), (8, .ref (aa 6))]) hx hb dL_law_1303 hl (by decide) rfl (fun ls hl => ?_)
                                                  refine lv_iinc (v := nI (n + 1)) (lv' := [(10, .int (nI (n + 1))), (9, .int 1), (17, .int 0), (16, .int 0), (15, .int 0), (14, .int 0), (13, .int 3), (12, .int 0), (11, .int 3), (0, .ref b), (1, .ref (ad 0)), (2, .ref (aa 0)), (3, .ref (aa 1)), (4, .ref (aa 2)), (5, .ref (aa 3)), (6, .ref (aa 4)), (7, .ref (aa 5)), (8, .ref (aa 6))]) hx hb dL_law_1305 hl (k := 8) rfl (nI_1 n) (by decide) rfl (fun ls hl => ?_)
                                                  refine lv_goto (tgt := 90) hx hb dL_law_1308 (by decide) ?_
                                                  refine W.widen (k := 159 * n + 1159) (n := 6 * (159 * n + 1159)) (by omega) (by omega) ?_
                                                  exact kk _ _ _ _ _ hfa hw (by have h22 := lb_step n; omega) (lv_sub hl [1, 0, 9, 10, 11, 12, 13, 14, 15, 16, 17] rfl)
                                                · skip
                                                  have c_41 : (n % 22) ≤ 0 := n_nlt (a := 0) (b := (n % 22)) (by omega) (by omega) c_41
                                                  refine lv_aload_n hx hb dL_law_1280 rfl (lv_at hl 10 rfl) ?_
                                                  refine lv_aload_n hx hb dL_law_1281 rfl (lv_at hl 11 rfl) ?_
                                                  refine lv_aload hx hb dL_law_1282 (lv_at hl 13 rfl) ?_
                                                  refine lv_aload hx hb dL_law_1284 (lv_at hl 14 rfl) ?_
                                                  refine lv_aload hx hb dL_law_1286 (lv_at hl 16 rfl) ?_
                                                  refine lv_iload hx hb dL_law_1288 (lv_at hl 6 rfl) ?_
                                                  refine lv_iconst (v := 3) hx hb dL_law_1290 (by decide) ?_
                                                  refine lv_idiv hx hb dL_law_1291 (by decide) ?_
                                                  refine q_top (y := 1) (by decide) ?_
                                                  refine g_hl (rest := []) C hw (t_isRefused1 C.1.2.2.2.2 C.2.2.1 C.2.2.2.1 hfa hw.2.2.2) ck_L_isRefused v_690 hl.1 rfl ⟨Nat.le_of_ble_eq_true rfl, Nat.le_of_ble_eq_true rfl⟩ (Nat.le_of_ble_eq_true rfl) dL_law_1292 ⟨by omega, by omega⟩ (fun v S H locs hpo hle hw => ?_)
                                                  obtain ⟨⟨z42, rfl⟩, hgr⟩ := hpo
                                                  have hN : s.heap.size + (1 * q0 + 19) ≤ H.size := by omega
                                                  refine W.widen (k := 159 * n + 1156) (n := 6 * (159 * n + 1156)) (by omega) (by omega) ?_
                                                  refine lv_if_eq (tgt := 1302) hx hb dL_law_1295 (by decide) (fun c_43 => ?_) (fun c_43 => ?_)
                                                  · skip
                                                    have c_43 : z42 = false := b_f c_43
                                                    subst c_43
                                                    refine lv_iconst (v := 0) hx hb dL_law_1302 (by decide) ?_
                                                    refine lv_istore (lv' := [(9, .int 0), (17, .int 0), (16, .int 0), (15, .int 0), (14, .int 0), (13, .int 3), (12, .int 0), (11, .int 3), (10, .int (nI n)), (0, .ref b), (1, .ref (ad 0)), (2, .ref (aa 0)), (3, .ref (aa 1)), (4, .ref (aa 2)), (5, .ref (aa 3)), (6, .ref (aa 4)), (7, .ref (aa 5)), (8, .ref (aa 6))]) hx hb dL_law_1303 hl (by decide) rfl (fun ls hl => ?_)
                                                    refine lv_iinc (v := nI (n + 1)) (lv' := [(10, .int (nI (n + 1))), (9, .int 0), (17, .int 0), (16, .int 0), (15, .int 0), (14, .int 0), (13, .int 3), (12, .int 0), (11, .int 3), (0, .ref b), (1, .ref (ad 0)), (2, .ref (aa 0)), (3, .ref (aa 1)), (4, .ref (aa 2)), (5, .ref (aa 3)), (6, .ref (aa 4)), (7, .ref (aa 5)), (8, .ref (aa 6))]) hx hb dL_law_1305 hl (k := 8) rfl (nI_1 n) (by decide) rfl (fun ls hl => ?_)
                                                    refine lv_goto (tgt := 90) hx hb dL_law_1308 (by decide) ?_
                                                    exact lx_end0 (n := (n + 1)) X hw (by omega) ⟨by omega, by omega⟩ (lv_sub hl [1, 0] rfl)
                                                  · skip
                                                    have c_43 : z42 = true := b_t c_43
                                                    subst c_43
                                                    refine lv_iconst (v := 1) hx hb dL_law_1298 (by decide) ?_
                                                    refine lv_goto (tgt := 1303) hx hb dL_law_1299 (by decide) ?_
                                                    refine lv_istore (lv' := [(9, .int 1), (17, .int 0), (16, .int 0), (15, .int 0), (14, .int 0), (13, .int 3), (12, .int 0), (11, .int 3), (10, .int (nI n)), (0, .ref b), (1, .ref (ad 0)), (2, .ref (aa 0)), (3, .ref (aa 1)), (4, .ref (aa 2)), (5, .ref (aa 3)), (6, .ref (aa 4)), (7, .ref (aa 5)), (8, .ref (aa 6))]) hx hb dL_law_1303 hl (by decide) rfl (fun ls hl => ?_)
                                                    refine lv_iinc (v := nI (n + 1)) (lv' := [(10, .int (nI (n + 1))), (9, .int 1), (17, .int 0), (16, .int 0), (15, .int 0), (14, .int 0), (13, .int 3), (12, .int 0), (11, .int 3), (0, .ref b), (1, .ref (ad 0)), (2, .ref (aa 0)), (3, .ref (aa 1)), (4, .ref (aa 2)), (5, .ref (aa 3)), (6, .ref (aa 4)), (7, .ref (aa 5)), (8, .ref (aa 6))]) hx hb dL_law_1305 hl (k := 8) rfl (nI_1 n) (by decide) rfl (fun ls hl => ?_)
                                                    refine lv_goto (tgt := 90) hx hb dL_law_1308 (by decide) ?_
                                                    refine W.widen (k := 159 * n + 1159) (n := 6 * (159 * n + 1159)) (by omega) (by omega) ?_
                                                    exact kk _ _ _ _ _ hfa hw (by have h22 := lb_step n; omega) (lv_sub hl [1, 0, 9, 10, 11, 12, 13, 14, 15, 16, 17] rfl)
                                              · skip
                                                have c_40 : (n % 3) ≤ 0 := n_nlt (a := 0) (b := (n % 3)) (by omega) (by omega) c_40
                                                refine lv_aload_n hx hb dL_law_1258 rfl (lv_at hl 10 rfl) ?_
                                                refine lv_aload_n hx hb dL_law_1259 rfl (lv_at hl 11 rfl) ?_
                                                refine lv_aload hx hb dL_law_1260 (lv_at hl 13 rfl) ?_
                                                refine lv_aload hx hb dL_law_1262 (lv_at hl 15 rfl) ?_
                                                refine lv_aload hx hb dL_law_1264 (lv_at hl 16 rfl) ?_
                                                refine g_hl (rest := []) C hw (t_areScores C.1.2.2.2.2 C.2.2.1 C.2.2.2.1 hfa hw.2.2.2) ck_L_areScores v_680 hl.1 rfl ⟨Nat.le_of_ble_eq_true rfl, Nat.le_of_ble_eq_true rfl⟩ (Nat.le_of_ble_eq_true rfl) dL_law_1266 ⟨by omega, by omega⟩ (fun v S H locs hpo hle hw => ?_)
                                                obtain ⟨z44, rfl⟩ := hpo
                                                have hN : s.heap.size + (1 * q0 + 0) ≤ H.size := by omega
                                                refine W.widen (k := 159 * n + 1008) (n := 6 * (159 * n + 1008)) (by omega) (by omega) ?_
                                                refine lv_if_eq (tgt := 1302) hx hb dL_law_1269 (by decide) (fun c_45 => ?_) (fun c_45 => ?_)
                                                · skip
                                                  have c_45 : z44 = false := b_f c_45
                                                  subst c_45
                                                  refine lv_iconst (v := 0) hx hb dL_law_1302 (by decide) ?_
                                                  refine lv_istore (lv' := [(9, .int 0), (17, .int 0), (16, .int 0), (15, .int 0), (14, .int 0), (13, .int 3), (12, .int 0), (11, .int 3), (10, .int (nI n)), (0, .ref b), (1, .ref (ad 0)), (2, .ref (aa 0)), (3, .ref (aa 1)), (4, .ref (aa 2)), (5, .ref (aa 3)), (6, .ref (aa 4)), (7, .ref (aa 5)), (8, .ref (aa 6))]) hx hb dL_law_1303 hl (by decide) rfl (fun ls hl => ?_)
                                                  refine lv_iinc (v := nI (n + 1)) (lv' := [(10, .int (nI (n + 1))), (9, .int 0), (17, .int 0), (16, .int 0), (15, .int 0), (14, .int 0), (13, .int 3), (12, .int 0), (11, .int 3), (0, .ref b), (1, .ref (ad 0)), (2, .ref (aa 0)), (3, .ref (aa 1)), (4, .ref (aa 2)), (5, .ref (aa 3)), (6, .ref (aa 4)), (7, .ref (aa 5)), (8, .ref (aa 6))]) hx hb dL_law_1305 hl (k := 8) rfl (nI_1 n) (by decide) rfl (fun ls hl => ?_)
                                                  refine lv_goto (tgt := 90) hx hb dL_law_1308 (by decide) ?_
                                                  exact lx_end0 (n := (n + 1)) X hw (by omega) ⟨by omega, by omega⟩ (lv_sub hl [1, 0] rfl)
                                                · skip
                                                  have c_45 : z44 = true := b_t c_45
                                                  subst c_45
                                                  refine lv_iload hx hb dL_law_1272 (lv_at hl 8 rfl) ?_
                                                  refine lv_bipush (v := 22) hx hb dL_law_1274 (by decide) ?_
                                                  refine lv_irem hx hb dL_law_1276 (by decide) ?_
                                                  refine q_top (y := nI (n % 22)) (pk_rem (a := n) (d := 22) (by omega) (by decide) (by decide)) ?_
                                                  refine lv_if_gt (tgt := 1298) hx hb dL_law_1277 (by decide) (fun c_46 => ?_) (fun c_46 => ?_)
                                                  · skip
                                                    have c_46 : 0 < (n % 22) := n_lt (a := 0) (b := (n % 22)) (by omega) (by omega) c_46
                                                    refine lv_iconst (v := 1) hx hb dL_law_1298 (by decide) ?_
                                                    refine lv_goto (tgt := 1303) hx hb dL_law_1299 (by decide) ?_
                                                    refine lv_istore (lv' := [(9, .int 1), (17, .int 0), (16, .int 0), (15, .int 0), (14, .int 0), (13, .int 3), (12, .int 0), (11, .int 3), (10, .int (nI n)), (0, .ref b), (1, .ref (ad 0)), (2, .ref (aa 0)), (3, .ref (aa 1)), (4, .ref (aa 2)), (5, .ref (aa 3)), (6, .ref (aa 4)), (7, .ref (aa 5)), (8, .ref (aa 6))]) hx hb dL_law_1303 hl (by decide) rfl (fun ls hl => ?_)
                                                    refine lv_iinc (v := nI (n + 1)) (lv' := [(10, .int (nI (n + 1))), (9, .int 1), (17, .int 0), (16, .int 0), (15, .int 0), (14, .int 0), (13, .int 3), (12, .int 0), (11, .int 3), (0, .ref b), (1, .ref (ad 0)), (2, .ref (aa 0)), (3, .ref (aa 1)), (4, .ref (aa 2)), (5, .ref (aa 3)), (6, .ref (aa 4)), (7, .ref (aa 5)), (8, .ref (aa 6))]) hx hb dL_law_1305 hl (k := 8) rfl (nI_1 n) (by decide) rfl (fun ls hl => ?_)
                                                    refine lv_goto (tgt := 90) hx hb dL_law_1308 (by decide) ?_
                                                    refine W.widen (k := 159 * n + 1159) (n := 6 * (159 * n + 1159)) (by omega) (by omega) ?_
                                                    exact kk _ _ _ _ _ hfa hw (by have h22 := lb_step n; omega) (lv_sub hl [1, 0, 9, 10, 11, 12, 13, 14, 15, 16, 17] rfl)
                                                  · skip
                                                    have c_46 : (n % 22) ≤ 0 := n_nlt (a := 0) (b := (n % 22)) (by omega) (by omega) c_46
                                                    refine lv_aload_n hx hb dL_law_1280 rfl (lv_at hl 10 rfl) ?_
                                                    refine lv_aload_n hx hb dL_law_1281 rfl (lv_at hl 11 rfl) ?_
                                                    refine lv_aload hx hb dL_law_1282 (lv_at hl 13 rfl) ?_
                                                    refine lv_aload hx hb dL_law_1284 (lv_at hl 14 rfl) ?_
                                                    refine lv_aload hx hb dL_law_1286 (lv_at hl 16 rfl) ?_
                                                    refine lv_iload hx hb dL_law_1288 (lv_at hl 6 rfl) ?_
                                                    refine lv_iconst (v := 3) hx hb dL_law_1290 (by decide) ?_
                                                    refine lv_idiv hx hb dL_law_1291 (by decide) ?_
                                                    refine q_top (y := 1) (by decide) ?_
                                                    refine g_hl (rest := []) C hw (t_isRefused1 C.1.2.2.2.2 C.2.2.1 C.2.2.2.1 hfa hw.2.2.2) ck_L_isRefused v_690 hl.1 rfl ⟨Nat.le_of_ble_eq_true rfl, Nat.le_of_ble_eq_true rfl⟩ (Nat.le_of_ble_eq_true rfl) dL_law_1292 ⟨by omega, by omega⟩ (fun v S H locs hpo hle hw => ?_)
                                                    obtain ⟨⟨z47, rfl⟩, hgr⟩ := hpo
                                                    have hN : s.heap.size + (1 * q0 + 19) ≤ H.size := by omega
                                                    refine W.widen (k := 159 * n + 1158) (n := 6 * (159 * n + 1158)) (by omega) (by omega) ?_
                                                    refine lv_if_eq (tgt := 1302) hx hb dL_law_1295 (by decide) (fun c_48 => ?_) (fun c_48 => ?_)
                                                    · skip
                                                      have c_48 : z47 = false := b_f c_48
                                                      subst c_48
                                                      refine lv_iconst (v := 0) hx hb dL_law_1302 (by decide) ?_
                                                      refine lv_istore (lv' := [(9, .int 0), (17, .int 0), (16, .int 0), (15, .int 0), (14, .int 0), (13, .int 3), (12, .int 0), (11, .int 3), (10, .int (nI n)), (0, .ref b), (1, .ref (ad 0)), (2, .ref (aa 0)), (3, .ref (aa 1)), (4, .ref (aa 2)), (5, .ref (aa 3)), (6, .ref (aa 4)), (7, .ref (aa 5)), (8, .ref (aa 6))]) hx hb dL_law_1303 hl (by decide) rfl (fun ls hl => ?_)
                                                      refine lv_iinc (v := nI (n + 1)) (lv' := [(10, .int (nI (n + 1))), (9, .int 0), (17, .int 0), (16, .int 0), (15, .int 0), (14, .int 0), (13, .int 3), (12, .int 0), (11, .int 3), (0, .ref b), (1, .ref (ad 0)), (2, .ref (aa 0)), (3, .ref (aa 1)), (4, .ref (aa 2)), (5, .ref (aa 3)), (6, .ref (aa 4)), (7, .ref (aa 5)), (8, .ref (aa 6))]) hx hb dL_law_1305 hl (k := 8) rfl (nI_1 n) (by decide) rfl (fun ls hl => ?_)
                                                      refine lv_goto (tgt := 90) hx hb dL_law_1308 (by decide) ?_
                                                      exact lx_end0 (n := (n + 1)) X hw (by omega) ⟨by omega, by omega⟩ (lv_sub hl [1, 0] rfl)
                                                    · skip
                                                      have c_48 : z47 = true := b_t c_48
                                                      subst c_48
                                                      refine lv_iconst (v := 1) hx hb dL_law_1298 (by decide) ?_
                                                      refine lv_goto (tgt := 1303) hx hb dL_law_1299 (by decide) ?_
                                                      refine lv_istore (lv' := [(9, .int 1), (17, .int 0), (16, .int 0), (15, .int 0), (14, .int 0), (13, .int 3), (12, .int 0), (11, .int 3), (10, .int (nI n)), (0, .ref b), (1, .ref (ad 0)), (2, .ref (aa 0)), (3, .ref (aa 1)), (4, .ref (aa 2)), (5, .ref (aa 3)), (6, .ref (aa 4)), (7, .ref (aa 5)), (8, .ref (aa 6))]) hx hb dL_law_1303 hl (by decide) rfl (fun ls hl => ?_)
                                                      refine lv_iinc (v := nI (n + 1)) (lv' := [(10, .int (nI (n + 1))), (9, .int 1), (17, .int 0), (16, .int 0), (15, .int 0), (14, .int 0), (13, .int 3), (12, .int 0), (11, .int 3), (0, .ref b), (1, .ref (ad 0)), (2, .ref (aa 0)), (3, .ref (aa 1)), (4, .ref (aa 2)), (5, .ref (aa 3)), (6, .ref (aa 4)), (7, .ref (aa 5)), (8, .ref (aa 6))]) hx hb dL_law_1305 hl (k := 8) rfl (nI_1 n) (by decide) rfl (fun ls hl => ?_)
                                                      refine lv_goto (tgt := 90) hx hb dL_law_1308 (by decide) ?_
                                                      refine W.widen (k := 159 * n + 1159) (n := 6 * (159 * n + 1159)) (by omega) (by omega) ?_
                                                      exact kk _ _ _ _ _ hfa hw (by have h22 := lb_step n; omega) (lv_sub hl [1, 0, 9, 10, 11, 12, 13, 14, 15, 16, 17] rfl)
                                · skip
                                  exact absurd c_16 (by decide)
                              · skip
                                exact absurd c_15 (by decide)
                    · skip
                      exact absurd c_10 (by decide)
              · skip
                exact absurd c_7 (by decide)
        · skip
          exact absurd c_4 (by decide)
      · skip
        exact absurd c_3 (by decide)
