theorem dJ6_bitCount_0f7a4_0 : decode cJ6_bitCount_0f7a4 0 = .ok (.iload_n 0, 1) := by decide +kernel
theorem dJ6_bitCount_0f7a4_1 : decode cJ6_bitCount_0f7a4 1 = .ok (.iload_n 0, 1) := by decide +kernel
theorem dJ6_bitCount_0f7a4_2 : decode cJ6_bitCount_0f7a4 2 = .ok (.iconst 1, 1) := by decide +kernel
theorem dJ6_bitCount_0f7a4_3 : decode cJ6_bitCount_0f7a4 3 = .ok (.iushr, 1) := by decide +kernel
theorem dJ6_bitCount_0f7a4_4 : decode cJ6_bitCount_0f7a4 4 = .ok (.ldc_w 265, 3) := by decide +kernel
theorem dJ6_bitCount_0f7a4_7 : decode cJ6_bitCount_0f7a4 7 = .ok (.iand, 1) := by decide +kernel
theorem dJ6_bitCount_0f7a4_8 : decode cJ6_bitCount_0f7a4 8 = .ok (.isub, 1) := by decide +kernel
theorem dJ6_bitCount_0f7a4_9 : decode cJ6_bitCount_0f7a4 9 = .ok (.istore_n 0, 1) := by decide +kernel
theorem dJ6_bitCount_0f7a4_10 : decode cJ6_bitCount_0f7a4 10 = .ok (.iload_n 0, 1) := by decide +kernel
theorem dJ6_bitCount_0f7a4_11 : decode cJ6_bitCount_0f7a4 11 = .ok (.ldc_w 266, 3) := by decide +kernel
theorem dJ6_bitCount_0f7a4_14 : decode cJ6_bitCount_0f7a4 14 = .ok (.iand, 1) := by decide +kernel
theorem dJ6_bitCount_0f7a4_15 : decode cJ6_bitCount_0f7a4 15 = .ok (.iload_n 0, 1) := by decide +kernel
theorem dJ6_bitCount_0f7a4_16 : decode cJ6_bitCount_0f7a4 16 = .ok (.iconst 2, 1) := by decide +kernel
theorem dJ6_bitCount_0f7a4_17 : decode cJ6_bitCount_0f7a4 17 = .ok (.iushr, 1) := by decide +kernel
theorem dJ6_bitCount_0f7a4_18 : decode cJ6_bitCount_0f7a4 18 = .ok (.ldc_w 266, 3) := by decide +kernel
theorem dJ6_bitCount_0f7a4_21 : decode cJ6_bitCount_0f7a4 21 = .ok (.iand, 1) := by decide +kernel
theorem dJ6_bitCount_0f7a4_22 : decode cJ6_bitCount_0f7a4 22 = .ok (.iadd, 1) := by decide +kernel
theorem dJ6_bitCount_0f7a4_23 : decode cJ6_bitCount_0f7a4 23 = .ok (.istore_n 0, 1) := by decide +kernel
theorem dJ6_bitCount_0f7a4_24 : decode cJ6_bitCount_0f7a4 24 = .ok (.iload_n 0, 1) := by decide +kernel
theorem dJ6_bitCount_0f7a4_25 : decode cJ6_bitCount_0f7a4 25 = .ok (.iload_n 0, 1) := by decide +kernel
theorem dJ6_bitCount_0f7a4_26 : decode cJ6_bitCount_0f7a4 26 = .ok (.iconst 4, 1) := by decide +kernel
theorem dJ6_bitCount_0f7a4_27 : decode cJ6_bitCount_0f7a4 27 = .ok (.iushr, 1) := by decide +kernel
theorem dJ6_bitCount_0f7a4_28 : decode cJ6_bitCount_0f7a4 28 = .ok (.iadd, 1) := by decide +kernel
theorem dJ6_bitCount_0f7a4_29 : decode cJ6_bitCount_0f7a4 29 = .ok (.ldc_w 267, 3) := by decide +kernel
theorem dJ6_bitCount_0f7a4_32 : decode cJ6_bitCount_0f7a4 32 = .ok (.iand, 1) := by decide +kernel
theorem dJ6_bitCount_0f7a4_33 : decode cJ6_bitCount_0f7a4 33 = .ok (.istore_n 0, 1) := by decide +kernel
theorem dJ6_bitCount_0f7a4_34 : decode cJ6_bitCount_0f7a4 34 = .ok (.iload_n 0, 1) := by decide +kernel
theorem dJ6_bitCount_0f7a4_35 : decode cJ6_bitCount_0f7a4 35 = .ok (.iload_n 0, 1) := by decide +kernel
theorem dJ6_bitCount_0f7a4_36 : decode cJ6_bitCount_0f7a4 36 = .ok (.bipush 8, 2) := by decide +kernel
theorem dJ6_bitCount_0f7a4_38 : decode cJ6_bitCount_0f7a4 38 = .ok (.iushr, 1) := by decide +kernel
theorem dJ6_bitCount_0f7a4_39 : decode cJ6_bitCount_0f7a4 39 = .ok (.iadd, 1) := by decide +kernel
theorem dJ6_bitCount_0f7a4_40 : decode cJ6_bitCount_0f7a4 40 = .ok (.istore_n 0, 1) := by decide +kernel
theorem dJ6_bitCount_0f7a4_41 : decode cJ6_bitCount_0f7a4 41 = .ok (.iload_n 0, 1) := by decide +kernel
theorem dJ6_bitCount_0f7a4_42 : decode cJ6_bitCount_0f7a4 42 = .ok (.iload_n 0, 1) := by decide +kernel
theorem dJ6_bitCount_0f7a4_43 : decode cJ6_bitCount_0f7a4 43 = .ok (.bipush 16, 2) := by decide +kernel
theorem dJ6_bitCount_0f7a4_45 : decode cJ6_bitCount_0f7a4 45 = .ok (.iushr, 1) := by decide +kernel
theorem dJ6_bitCount_0f7a4_46 : decode cJ6_bitCount_0f7a4 46 = .ok (.iadd, 1) := by decide +kernel
theorem dJ6_bitCount_0f7a4_47 : decode cJ6_bitCount_0f7a4 47 = .ok (.istore_n 0, 1) := by decide +kernel
theorem dJ6_bitCount_0f7a4_48 : decode cJ6_bitCount_0f7a4 48 = .ok (.iload_n 0, 1) := by decide +kernel
theorem dJ6_bitCount_0f7a4_49 : decode cJ6_bitCount_0f7a4 49 = .ok (.bipush 63, 2) := by decide +kernel
theorem dJ6_bitCount_0f7a4_51 : decode cJ6_bitCount_0f7a4 51 = .ok (.iand, 1) := by decide +kernel
theorem dJ6_bitCount_0f7a4_52 : decode cJ6_bitCount_0f7a4 52 = .ok (.ireturn, 1) := by decide +kernel
set_option maxHeartbeats 4000000 in
set_option maxRecDepth 100000 in
theorem c_J6_bitCount_0f7a4 (l : Launch) (D : va_G) (cI cZ cL : ClassId) (ws : va_W) (x : Int32) : RD l D cI cZ cL yJ6_bitCount_0f7a4 cJ6_bitCount_0f7a4 1 (some .int) 0 [.int x] ws (some (.int (p_bc x))) := by
  refine RD.of (by decide) (Nat.le_of_ble_eq_true rfl) ?_
  intro p e s m args below meth c ls hx hb hr hml hown hlk hE hP hl
  have hl : lv_has ls 1 [(0, .int x)] := hl
  refine lv_iload_n hx hb dJ6_bitCount_0f7a4_0 rfl (lv_at hl 0 rfl) ?_
  refine lv_iload_n hx hb dJ6_bitCount_0f7a4_1 rfl (lv_at hl 0 rfl) ?_
  refine lv_iconst (v := 1) hx hb dJ6_bitCount_0f7a4_2 (by decide) ?_
  refine lv_iushr (v := ush x 1) hx hb dJ6_bitCount_0f7a4_3 rfl ?_
  refine lv_ldcw (v := 1431655765) hx hb hown (hE.1 _ w_462 args) dJ6_bitCount_0f7a4_4 ?_
  refine lv_iand hx hb dJ6_bitCount_0f7a4_7 ?_
  refine lv_isub hx hb dJ6_bitCount_0f7a4_8 ?_
  refine lv_istore_n (lv' := [(0, .int (x - ((ush x 1) &&& 1431655765)))]) hx hb dJ6_bitCount_0f7a4_9 rfl hl (by decide) rfl (fun ls hl => ?_)
  refine lv_iload_n hx hb dJ6_bitCount_0f7a4_10 rfl (lv_at hl 0 rfl) ?_
  refine lv_ldcw (v := 858993459) hx hb hown (hE.1 _ w_463 args) dJ6_bitCount_0f7a4_11 ?_
  refine lv_iand hx hb dJ6_bitCount_0f7a4_14 ?_
  refine lv_iload_n hx hb dJ6_bitCount_0f7a4_15 rfl (lv_at hl 0 rfl) ?_
  refine lv_iconst (v := 2) hx hb dJ6_bitCount_0f7a4_16 (by decide) ?_
  refine lv_iushr (v := ush (x - ((ush x 1) &&& 1431655765)) 2) hx hb dJ6_bitCount_0f7a4_17 rfl ?_
  refine lv_ldcw (v := 858993459) hx hb hown (hE.1 _ w_463 args) dJ6_bitCount_0f7a4_18 ?_
  refine lv_iand hx hb dJ6_bitCount_0f7a4_21 ?_
  refine lv_iadd hx hb dJ6_bitCount_0f7a4_22 ?_
  refine lv_istore_n (lv' := [(0, .int (((x - ((ush x 1) &&& 1431655765)) &&& 858993459) + ((ush (x - ((ush x 1) &&& 1431655765)) 2) &&& 858993459)))]) hx hb dJ6_bitCount_0f7a4_23 rfl hl (by decide) rfl (fun ls hl => ?_)
  refine lv_iload_n hx hb dJ6_bitCount_0f7a4_24 rfl (lv_at hl 0 rfl) ?_
  refine lv_iload_n hx hb dJ6_bitCount_0f7a4_25 rfl (lv_at hl 0 rfl) ?_
  refine lv_iconst (v := 4) hx hb dJ6_bitCount_0f7a4_26 (by decide) ?_
  refine lv_iushr (v := ush (((x - ((ush x 1) &&& 1431655765)) &&& 858993459) + ((ush (x - ((ush x 1) &&& 1431655765)) 2) &&& 858993459)) 4) hx hb dJ6_bitCount_0f7a4_27 rfl ?_
  refine lv_iadd hx hb dJ6_bitCount_0f7a4_28 ?_
  refine lv_ldcw (v := 252645135) hx hb hown (hE.1 _ w_464 args) dJ6_bitCount_0f7a4_29 ?_
  refine lv_iand hx hb dJ6_bitCount_0f7a4_32 ?_
  refine lv_istore_n (lv' := [(0, .int (((((x - ((ush x 1) &&& 1431655765)) &&& 858993459) + ((ush (x - ((ush x 1) &&& 1431655765)) 2) &&& 858993459)) + (ush (((x - ((ush x 1) &&& 1431655765)) &&& 858993459) + ((ush (x - ((ush x 1) &&& 1431655765)) 2) &&& 858993459)) 4)) &&& 252645135))]) hx hb dJ6_bitCount_0f7a4_33 rfl hl (by decide) rfl (fun ls hl => ?_)
  refine lv_iload_n hx hb dJ6_bitCount_0f7a4_34 rfl (lv_at hl 0 rfl) ?_
  refine lv_iload_n hx hb dJ6_bitCount_0f7a4_35 rfl (lv_at hl 0 rfl) ?_
  refine lv_bipush (v := 8) hx hb dJ6_bitCount_0f7a4_36 (by decide) ?_
  refine lv_iushr (v := ush (((((x - ((ush x 1) &&& 1431655765)) &&& 858993459) + ((ush (x - ((ush x 1) &&& 1431655765)) 2) &&& 858993459)) + (ush (((x - ((ush x 1) &&& 1431655765)) &&& 858993459) + ((ush (x - ((ush x 1) &&& 1431655765)) 2) &&& 858993459)) 4)) &&& 252645135) 8) hx hb dJ6_bitCount_0f7a4_38 rfl ?_
  refine lv_iadd hx hb dJ6_bitCount_0f7a4_39 ?_
  refine lv_istore_n (lv' := [(0, .int ((((((x - ((ush x 1) &&& 1431655765)) &&& 858993459) + ((ush (x - ((ush x 1) &&& 1431655765)) 2) &&& 858993459)) + (ush (((x - ((ush x 1) &&& 1431655765)) &&& 858993459) + ((ush (x - ((ush x 1) &&& 1431655765)) 2) &&& 858993459)) 4)) &&& 252645135) + (ush (((((x - ((ush x 1) &&& 1431655765)) &&& 858993459) + ((ush (x - ((ush x 1) &&& 1431655765)) 2) &&& 858993459)) + (ush (((x - ((ush x 1) &&& 1431655765)) &&& 858993459) + ((ush (x - ((ush x 1) &&& 1431655765)) 2) &&& 858993459)) 4)) &&& 252645135) 8)))]) hx hb dJ6_bitCount_0f7a4_40 rfl hl (by decide) rfl (fun ls hl => ?_)
  refine lv_iload_n hx hb dJ6_bitCount_0f7a4_41 rfl (lv_at hl 0 rfl) ?_
  refine lv_iload_n hx hb dJ6_bitCount_0f7a4_42 rfl (lv_at hl 0 rfl) ?_
  refine lv_bipush (v := 16) hx hb dJ6_bitCount_0f7a4_43 (by decide) ?_
  refine lv_iushr (v := ush ((((((x - ((ush x 1) &&& 1431655765)) &&& 858993459) + ((ush (x - ((ush x 1) &&& 1431655765)) 2) &&& 858993459)) + (ush (((x - ((ush x 1) &&& 1431655765)) &&& 858993459) + ((ush (x - ((ush x 1) &&& 1431655765)) 2) &&& 858993459)) 4)) &&& 252645135) + (ush (((((x - ((ush x 1) &&& 1431655765)) &&& 858993459) + ((ush (x - ((ush x 1) &&& 1431655765)) 2) &&& 858993459)) + (ush (((x - ((ush x 1) &&& 1431655765)) &&& 858993459) + ((ush (x - ((ush x 1) &&& 1431655765)) 2) &&& 858993459)) 4)) &&& 252645135) 8)) 16) hx hb dJ6_bitCount_0f7a4_45 rfl ?_
  refine lv_iadd hx hb dJ6_bitCount_0f7a4_46 ?_
  refine lv_istore_n (lv' := [(0, .int (((((((x - ((ush x 1) &&& 1431655765)) &&& 858993459) + ((ush (x - ((ush x 1) &&& 1431655765)) 2) &&& 858993459)) + (ush (((x - ((ush x 1) &&& 1431655765)) &&& 858993459) + ((ush (x - ((ush x 1) &&& 1431655765)) 2) &&& 858993459)) 4)) &&& 252645135) + (ush (((((x - ((ush x 1) &&& 1431655765)) &&& 858993459) + ((ush (x - ((ush x 1) &&& 1431655765)) 2) &&& 858993459)) + (ush (((x - ((ush x 1) &&& 1431655765)) &&& 858993459) + ((ush (x - ((ush x 1) &&& 1431655765)) 2) &&& 858993459)) 4)) &&& 252645135) 8)) + (ush ((((((x - ((ush x 1) &&& 1431655765)) &&& 858993459) + ((ush (x - ((ush x 1) &&& 1431655765)) 2) &&& 858993459)) + (ush (((x - ((ush x 1) &&& 1431655765)) &&& 858993459) + ((ush (x - ((ush x 1) &&& 1431655765)) 2) &&& 858993459)) 4)) &&& 252645135) + (ush (((((x - ((ush x 1) &&& 1431655765)) &&& 858993459) + ((ush (x - ((ush x 1) &&& 1431655765)) 2) &&& 858993459)) + (ush (((x - ((ush x 1) &&& 1431655765)) &&& 858993459) + ((ush (x - ((ush x 1) &&& 1431655765)) 2) &&& 858993459)) 4)) &&& 252645135) 8)) 16)))]) hx hb dJ6_bitCount_0f7a4_47 rfl hl (by decide) rfl (fun ls hl => ?_)
  refine lv_iload_n hx hb dJ6_bitCount_0f7a4_48 rfl (lv_at hl 0 rfl) ?_
  refine lv_bipush (v := 63) hx hb dJ6_bitCount_0f7a4_49 (by decide) ?_
  refine lv_iand hx hb dJ6_bitCount_0f7a4_51 ?_
  refine q_top (y := p_bc x) (by rfl) ?_
  exact e_ret hx hb hr hlk rfl dJ6_bitCount_0f7a4_52

theorem dX5_pass_0 : decode cX5_pass 0 = .ok (.iload_n 1, 1) := by decide +kernel
theorem dX5_pass_1 : decode cX5_pass 1 = .ok (.iconst 1, 1) := by decide +kernel
theorem dX5_pass_2 : decode cX5_pass 2 = .ok (.sipush 500, 3) := by decide +kernel
theorem dX5_pass_5 : decode cX5_pass 5 = .ok (.invokestatic 57, 3) := by decide +kernel
theorem dX5_pass_8 : decode cX5_pass 8 = .ok (.iload_n 1, 1) := by decide +kernel
theorem dX5_pass_9 : decode cX5_pass 9 = .ok (.sipush 20000, 3) := by decide +kernel
theorem dX5_pass_12 : decode cX5_pass 12 = .ok (.aload_n 0, 1) := by decide +kernel
theorem dX5_pass_13 : decode cX5_pass 13 = .ok (.getfield 61, 3) := by decide +kernel
theorem dX5_pass_16 : decode cX5_pass 16 = .ok (.isub, 1) := by decide +kernel
theorem dX5_pass_17 : decode cX5_pass 17 = .ok (.if_icmp .le 13, 3) := by decide +kernel
theorem dX5_pass_20 : decode cX5_pass 20 = .ok (.new 65, 3) := by decide +kernel
theorem dX5_pass_30 : decode cX5_pass 30 = .ok (.aload_n 0, 1) := by decide +kernel
theorem dX5_pass_31 : decode cX5_pass 31 = .ok (.dup, 1) := by decide +kernel
theorem dX5_pass_32 : decode cX5_pass 32 = .ok (.getfield 61, 3) := by decide +kernel
theorem dX5_pass_35 : decode cX5_pass 35 = .ok (.iload_n 1, 1) := by decide +kernel
theorem dX5_pass_36 : decode cX5_pass 36 = .ok (.iadd, 1) := by decide +kernel
theorem dX5_pass_37 : decode cX5_pass 37 = .ok (.putfield 61, 3) := by decide +kernel
theorem dX5_pass_40 : decode cX5_pass 40 = .ok (.aload_n 0, 1) := by decide +kernel
theorem dX5_pass_41 : decode cX5_pass 41 = .ok (.getfield 61, 3) := by decide +kernel
theorem dX5_pass_44 : decode cX5_pass 44 = .ok (.ireturn, 1) := by decide +kernel
set_option maxHeartbeats 4000000 in
set_option maxRecDepth 100000 in
theorem c_X5_pass (l : Launch) (D : va_G) (cI cZ cL : ClassId) (ad : Nat → Nat) (S : Mem) (A : Nat → Prop) (hD : va_D A (wC ad cI S)) (x1 : Int32) (hI : I0 S) (hth : (oPass S x1).1 = none) : WR l D cI cZ cL yX5_pass cX5_pass 2 (some .int) 7 [.ref (ad 0), .int x1] A (wC ad cI S) (wC ad cI ((oPass S x1).2.2)) (some (.int ((oPass S x1).2.1))) := by
  refine WR.of (by decide) (Nat.le_of_ble_eq_true rfl) ?_
  intro p e s m args below meth c ls hx hb hr hml hown hlk hE hP hS hl
  have hl : lv_has ls 2 [(0, .ref (ad 0)), (1, .int x1)] := hl
  have hT8 := hI.T8
  have hR16 := hI.R16
  have hN200 := hI.N200
  refine lv_iload_n hx hb dX5_pass_0 rfl (lv_at hl 1 rfl) ?_
  refine lv_iconst (v := 1) hx hb dX5_pass_1 (by decide) ?_
  refine lv_sipush (v := 500) hx hb dX5_pass_2 (by decide) ?_
  by_cases c_1 : okr x1 1 500 = true
  · skip
    refine q_rdv (q_runS (rest := []) hx hb hml hown hE (c_X5_requireRange l D cI cZ cL _ x1 1 500 c_1) ck_X5_requireRange w_328 hP hl.1 rfl ⟨Nat.le_of_ble_eq_true rfl, Nat.le_of_ble_eq_true rfl⟩ (Nat.le_of_ble_eq_true rfl) dX5_pass_5 ⟨Nat.le_of_ble_eq_true rfl, Nat.le_of_ble_eq_true rfl⟩) ?_
    refine lv_iload_n hx hb dX5_pass_8 rfl (lv_at hl 1 rfl) ?_
    refine lv_sipush (v := 20000) hx hb dX5_pass_9 (by decide) ?_
    refine lv_aload_n hx hb dX5_pass_12 rfl (lv_at hl 0 rfl) ?_
    refine q_get (v := .int (S 0 10)) hx hb hown hE inT_X5 hP 0 rfl rfl 10 (by decide) w_222 rfl dX5_pass_13 ?_
    refine lv_isub hx hb dX5_pass_16 ?_
    refine lv_icmp_le (tgt := 30) hx hb dX5_pass_17 (by decide) (fun c_2 => ?_) (fun c_2 => ?_)
    · skip
      refine lv_aload_n hx hb dX5_pass_30 rfl (lv_at hl 0 rfl) ?_
      refine lv_dup hx hb dX5_pass_31 rfl ?_
      refine q_get (v := .int (S 0 10)) hx hb hown hE inT_X5 hP 0 rfl rfl 10 (by decide) w_222 rfl dX5_pass_32 ?_
      refine lv_iload_n hx hb dX5_pass_35 rfl (lv_at hl 1 rfl) ?_
      refine lv_iadd hx hb dX5_pass_36 ?_
      refine q_put (ty0 := tyX5) (ws' := (wC ad cI (st S 0 10 ((S 0 10) + x1)))) (v := .int ((S 0 10) + x1)) hx hb hown hE inT_X5 tyX5_ok nmX5 hP (wC_D hD) hS 0 rfl rfl 10 (by decide) w_222 rfl rfl rfl (Nat.le_of_ble_eq_true rfl) rfl dX5_pass_37 (fun H locs hP hS => ?_)
      refine lv_aload_n hx hb dX5_pass_40 rfl (lv_at hl 0 rfl) ?_
      refine q_get (v := .int ((S 0 10) + x1)) hx hb hown hE inT_X5 hP 0 rfl rfl 10 (by decide) w_222 rfl dX5_pass_41 ?_
      rw [show oPass S x1 = (none, (S 0 10) + x1, st S 0 10 ((S 0 10) + x1)) from by first | (simp only [oPass, c_1, c_2, ↓reduceIte]; done) | (simp only [oPass, c_1, c_2, ↓reduceIte]; rfl) | (simp [oPass, c_1, c_2]; done) | (simp [oPass, c_1, c_2]; rfl)]
      exact e_wret hx hb hr hlk rfl hP hS dX5_pass_44
    · skip
      simp [oPass, xI, xA, xS, xN, c_1, c_2] at hth
  · skip
    simp [oPass, xI, xA, xS, xN, c_1] at hth


set_option maxHeartbeats 4000000 in
set_option maxRecDepth 100000 in
theorem c_X5_pass_T0 (l : Launch) (hfl : l.flags = flags0) (D : va_G) (cI cZ cL : ClassId) (ad : Nat → Nat) (S : Mem) (x1 : Int32) (hI : I0 S) (hth : (oPass S x1).1 = some "java/lang/IllegalArgumentException") : TH l D cI cZ cL yX5_pass cX5_pass 2 (some .int) 7 [.ref (ad 0), .int x1] (wC ad cI S) "java/lang/IllegalArgumentException" := by
  refine TH.of (by decide) (Nat.le_of_ble_eq_true rfl) ?_
  intro p e s m args below meth c ls hx hb hr hml hown hlk hxt hE hT hZ hP hl
  have hl : lv_has ls 2 [(0, .ref (ad 0)), (1, .int x1)] := hl
  have hT8 := hI.T8
  have hR16 := hI.R16
  have hN200 := hI.N200
  refine lv_iload_n hx hb dX5_pass_0 rfl (lv_at hl 1 rfl) ?_
  refine lv_iconst (v := 1) hx hb dX5_pass_1 (by decide) ?_
  refine lv_sipush (v := 500) hx hb dX5_pass_2 (by decide) ?_
  by_cases c_1 : okr x1 1 500 = true
  · skip
    refine q_rdv (q_runS (rest := []) hx hb hml hown hE (c_X5_requireRange l D cI cZ cL _ x1 1 500 c_1) ck_X5_requireRange w_328 hP hl.1 rfl ⟨Nat.le_of_ble_eq_true rfl, Nat.le_of_ble_eq_true rfl⟩ (Nat.le_of_ble_eq_true rfl) dX5_pass_5 ⟨Nat.le_of_ble_eq_true rfl, Nat.le_of_ble_eq_true rfl⟩) ?_
    refine lv_iload_n hx hb dX5_pass_8 rfl (lv_at hl 1 rfl) ?_
    refine lv_sipush (v := 20000) hx hb dX5_pass_9 (by decide) ?_
    refine lv_aload_n hx hb dX5_pass_12 rfl (lv_at hl 0 rfl) ?_
    refine q_get (v := .int (S 0 10)) hx hb hown hE inT_X5 hP 0 rfl rfl 10 (by decide) w_222 rfl dX5_pass_13 ?_
    refine lv_isub hx hb dX5_pass_16 ?_
    refine lv_icmp_le (tgt := 30) hx hb dX5_pass_17 (by decide) (fun c_2 => ?_) (fun c_2 => ?_)
    · skip
      refine lv_aload_n hx hb dX5_pass_30 rfl (lv_at hl 0 rfl) ?_
      refine lv_dup hx hb dX5_pass_31 rfl ?_
      refine q_get (v := .int (S 0 10)) hx hb hown hE inT_X5 hP 0 rfl rfl 10 (by decide) w_222 rfl dX5_pass_32 ?_
      refine lv_iload_n hx hb dX5_pass_35 rfl (lv_at hl 1 rfl) ?_
      refine lv_iadd hx hb dX5_pass_36 ?_
      simp [oPass, xI, xA, xS, xN, c_1, c_2] at hth
    · skip
      simp [oPass, xI, xA, xS, xN, c_1, c_2] at hth
  · skip
    have c_1 := eq_false_of_ne_true c_1
    exact q_th (q_thS (n' := 3) (k' := 6) (y := yX5_requireRange) (rest := []) hx hb hml hown hE hT hZ (c_X5_requireRange_T l hfl D cI cZ cL _ x1 1 500 c_1) ck_X5_requireRange w_328 hP hl.1 rfl ⟨Nat.le_of_ble_eq_true rfl, Nat.le_of_ble_eq_true rfl⟩ (Nat.le_of_ble_eq_true rfl) dX5_pass_5 ⟨Nat.le_of_ble_eq_true rfl, Nat.le_of_ble_eq_true rfl⟩) hlk hxt (Nat.le_refl _) (Nat.le_refl _) (fun t h1 h2 => ⟨rfl, h2⟩)

theorem dX5_pass_23 : decode cX5_pass 23 = .ok (.dup, 1) := by decide +kernel
theorem dX5_pass_24 : decode cX5_pass 24 = .ok (.ldc 67, 2) := by decide +kernel
theorem dX5_pass_26 : decode cX5_pass 26 = .ok (.invokespecial 69, 3) := by decide +kernel
theorem dX5_pass_29 : decode cX5_pass 29 = .ok (.athrow, 1) := by decide +kernel
set_option maxHeartbeats 4000000 in
set_option maxRecDepth 100000 in
theorem c_X5_pass_T1 (l : Launch) (hfl : l.flags = flags0) (D : va_G) (cI cZ cL : ClassId) (ad : Nat → Nat) (S : Mem) (x1 : Int32) (hI : I0 S) (hth : (oPass S x1).1 = some "java/lang/IllegalStateException") : TH l D cI cZ cL yX5_pass cX5_pass 2 (some .int) 7 [.ref (ad 0), .int x1] (wC ad cI S) "java/lang/IllegalStateException" := by
  refine TH.of (by decide) (Nat.le_of_ble_eq_true rfl) ?_
  intro p e s m args below meth c ls hx hb hr hml hown hlk hxt hE hT hZ hP hl
  have hl : lv_has ls 2 [(0, .ref (ad 0)), (1, .int x1)] := hl
  have hT8 := hI.T8
  have hR16 := hI.R16
  have hN200 := hI.N200
  refine lv_iload_n hx hb dX5_pass_0 rfl (lv_at hl 1 rfl) ?_
  refine lv_iconst (v := 1) hx hb dX5_pass_1 (by decide) ?_
  refine lv_sipush (v := 500) hx hb dX5_pass_2 (by decide) ?_
  by_cases c_1 : okr x1 1 500 = true
  · skip
    refine q_rdv (q_runS (rest := []) hx hb hml hown hE (c_X5_requireRange l D cI cZ cL _ x1 1 500 c_1) ck_X5_requireRange w_328 hP hl.1 rfl ⟨Nat.le_of_ble_eq_true rfl, Nat.le_of_ble_eq_true rfl⟩ (Nat.le_of_ble_eq_true rfl) dX5_pass_5 ⟨Nat.le_of_ble_eq_true rfl, Nat.le_of_ble_eq_true rfl⟩) ?_
    refine lv_iload_n hx hb dX5_pass_8 rfl (lv_at hl 1 rfl) ?_
    refine lv_sipush (v := 20000) hx hb dX5_pass_9 (by decide) ?_
    refine lv_aload_n hx hb dX5_pass_12 rfl (lv_at hl 0 rfl) ?_
    refine q_get (v := .int (S 0 10)) hx hb hown hE inT_X5 hP 0 rfl rfl 10 (by decide) w_222 rfl dX5_pass_13 ?_
    refine lv_isub hx hb dX5_pass_16 ?_
    refine lv_icmp_le (tgt := 30) hx hb dX5_pass_17 (by decide) (fun c_2 => ?_) (fun c_2 => ?_)
    · skip
      refine lv_aload_n hx hb dX5_pass_30 rfl (lv_at hl 0 rfl) ?_
      refine lv_dup hx hb dX5_pass_31 rfl ?_
      refine q_get (v := .int (S 0 10)) hx hb hown hE inT_X5 hP 0 rfl rfl 10 (by decide) w_222 rfl dX5_pass_32 ?_
      refine lv_iload_n hx hb dX5_pass_35 rfl (lv_at hl 1 rfl) ?_
      refine lv_iadd hx hb dX5_pass_36 ?_
      simp [oPass, xI, xA, xS, xN, c_1, c_2] at hth
    · skip
      obtain ⟨sa, hsa⟩ := hT "PuzzleRegistry" 67 "the minute would be too late" (List.mem_of_getElem? (i := 370) (by decide +kernel))
      exact vx_throwS (rest := []) (A := q_no) (names := tw_names) hx hb (q_flags hfl) hown rfl tw_names_ok (hE.1 _ w_400 args) (hE.1 _ w_72 args) hsa (fun w h => hE.1 w (tw_X5_65_69 w h) args) tw_X5_65_69_g hZ.1 hZ.2 va_S.rf (hl.1.trans hml.symm) dX5_pass_20 dX5_pass_23 dX5_pass_24 dX5_pass_26 dX5_pass_29 (fun x hx => (hxt x hx).elim) (Nat.le_of_ble_eq_true rfl) (Nat.le_of_ble_eq_true rfl) (Nat.le_of_ble_eq_true rfl) (Nat.le_of_ble_eq_true rfl) hlk (fun t h1 h2 h3 => ⟨rfl, h2, fun q h4 _ => h3 q h4⟩) (fun _ h => nomatch h) (Nat.le_refl _) (Nat.le_refl _)
  · skip
    simp [oPass, xI, xA, xS, xN, c_1] at hth

theorem dX5_now_0 : decode cX5_now 0 = .ok (.aload_n 0, 1) := by decide +kernel
theorem dX5_now_1 : decode cX5_now 1 = .ok (.getfield 61, 3) := by decide +kernel
theorem dX5_now_4 : decode cX5_now 4 = .ok (.ireturn, 1) := by decide +kernel
set_option maxHeartbeats 4000000 in
set_option maxRecDepth 100000 in
theorem c_X5_now (l : Launch) (D : va_G) (cI cZ cL : ClassId) (ad : Nat → Nat) (S : Mem) (hI : I0 S) : RD l D cI cZ cL yX5_now cX5_now 1 (some .int) 7 [.ref (ad 0)] (wC ad cI S) (some (.int ((oNow S).2.1))) := by
  refine RD.of (by decide) (Nat.le_of_ble_eq_true rfl) ?_
  intro p e s m args below meth c ls hx hb hr hml hown hlk hE hP hl
  have hl : lv_has ls 1 [(0, .ref (ad 0))] := hl
  have hT8 := hI.T8
  have hR16 := hI.R16
  have hN200 := hI.N200
  refine lv_aload_n hx hb dX5_now_0 rfl (lv_at hl 0 rfl) ?_
  refine q_get (v := .int (S 0 10)) hx hb hown hE inT_X5 hP 0 rfl rfl 10 (by decide) w_222 rfl dX5_now_1 ?_
  rw [show oNow S = (none, S 0 10, S) from by first | (simp only [oNow, ↓reduceIte]; done) | (simp only [oNow, ↓reduceIte]; rfl) | (simp [oNow]; done) | (simp [oNow]; rfl)]
  exact e_ret hx hb hr hlk rfl dX5_now_4

theorem dX5_addRiddle_0 : decode cX5_addRiddle 0 = .ok (.iload_n 1, 1) := by decide +kernel
theorem dX5_addRiddle_1 : decode cX5_addRiddle 1 = .ok (.iconst 1, 1) := by decide +kernel
theorem dX5_addRiddle_2 : decode cX5_addRiddle 2 = .ok (.bipush 50, 2) := by decide +kernel
theorem dX5_addRiddle_4 : decode cX5_addRiddle 4 = .ok (.invokestatic 57, 3) := by decide +kernel
theorem dX5_addRiddle_7 : decode cX5_addRiddle 7 = .ok (.iload_n 2, 1) := by decide +kernel
theorem dX5_addRiddle_8 : decode cX5_addRiddle 8 = .ok (.iconst 0, 1) := by decide +kernel
theorem dX5_addRiddle_9 : decode cX5_addRiddle 9 = .ok (.sipush 9999, 3) := by decide +kernel
theorem dX5_addRiddle_12 : decode cX5_addRiddle 12 = .ok (.invokestatic 57, 3) := by decide +kernel
theorem dX5_addRiddle_15 : decode cX5_addRiddle 15 = .ok (.iload_n 3, 1) := by decide +kernel
theorem dX5_addRiddle_16 : decode cX5_addRiddle 16 = .ok (.iconst 0, 1) := by decide +kernel
theorem dX5_addRiddle_17 : decode cX5_addRiddle 17 = .ok (.bipush 100, 2) := by decide +kernel
theorem dX5_addRiddle_19 : decode cX5_addRiddle 19 = .ok (.invokestatic 57, 3) := by decide +kernel
theorem dX5_addRiddle_22 : decode cX5_addRiddle 22 = .ok (.iload 4, 2) := by decide +kernel
theorem dX5_addRiddle_24 : decode cX5_addRiddle 24 = .ok (.iconst 1, 1) := by decide +kernel
theorem dX5_addRiddle_25 : decode cX5_addRiddle 25 = .ok (.bipush 40, 2) := by decide +kernel
theorem dX5_addRiddle_27 : decode cX5_addRiddle 27 = .ok (.invokestatic 57, 3) := by decide +kernel
theorem dX5_addRiddle_30 : decode cX5_addRiddle 30 = .ok (.aload_n 0, 1) := by decide +kernel
theorem dX5_addRiddle_31 : decode cX5_addRiddle 31 = .ok (.getfield 72, 3) := by decide +kernel
theorem dX5_addRiddle_34 : decode cX5_addRiddle 34 = .ok (.ifCond .ne 15, 3) := by decide +kernel
theorem dX5_addRiddle_37 : decode cX5_addRiddle 37 = .ok (.aload_n 0, 1) := by decide +kernel
theorem dX5_addRiddle_38 : decode cX5_addRiddle 38 = .ok (.getfield 10, 3) := by decide +kernel
theorem dX5_addRiddle_41 : decode cX5_addRiddle 41 = .ok (.getfield 76, 3) := by decide +kernel
theorem dX5_addRiddle_44 : decode cX5_addRiddle 44 = .ok (.bipush 16, 2) := by decide +kernel
theorem dX5_addRiddle_46 : decode cX5_addRiddle 46 = .ok (.if_icmp .lt 13, 3) := by decide +kernel
theorem dX5_addRiddle_49 : decode cX5_addRiddle 49 = .ok (.new 65, 3) := by decide +kernel
theorem dX5_addRiddle_59 : decode cX5_addRiddle 59 = .ok (.aload_n 0, 1) := by decide +kernel
theorem dX5_addRiddle_60 : decode cX5_addRiddle 60 = .ok (.getfield 10, 3) := by decide +kernel
theorem dX5_addRiddle_63 : decode cX5_addRiddle 63 = .ok (.iload_n 1, 1) := by decide +kernel
theorem dX5_addRiddle_64 : decode cX5_addRiddle 64 = .ok (.iload_n 2, 1) := by decide +kernel
theorem dX5_addRiddle_65 : decode cX5_addRiddle 65 = .ok (.iload_n 3, 1) := by decide +kernel
theorem dX5_addRiddle_66 : decode cX5_addRiddle 66 = .ok (.iload 4, 2) := by decide +kernel
theorem dX5_addRiddle_68 : decode cX5_addRiddle 68 = .ok (.invokevirtual 81, 3) := by decide +kernel
theorem dX5_addRiddle_71 : decode cX5_addRiddle 71 = .ok (.ireturn, 1) := by decide +kernel
set_option maxHeartbeats 4000000 in
set_option maxRecDepth 100000 in
theorem c_X5_addRiddle (l : Launch) (D : va_G) (cI cZ cL : ClassId) (ad : Nat → Nat) (S : Mem) (A : Nat → Prop) (hD : va_D A (wC ad cI S)) (x1 : Int32) (x2 : Int32) (x3 : Int32) (x4 : Int32) (hI : I0 S) (hth : (oAddR S x1 x2 x3 x4).1 = none) : WR l D cI cZ cL yX5_addRiddle cX5_addRiddle 5 (some .int) 7 [.ref (ad 0), .int x1, .int x2, .int x3, .int x4] A (wC ad cI S) (wC ad cI ((oAddR S x1 x2 x3 x4).2.2)) (some (.int ((oAddR S x1 x2 x3 x4).2.1))) := by
  refine WR.of (by decide) (Nat.le_of_ble_eq_true rfl) ?_
  intro p e s m args below meth c ls hx hb hr hml hown hlk hE hP hS hl
  have hl : lv_has ls 5 [(0, .ref (ad 0)), (1, .int x1), (2, .int x2), (3, .int x3), (4, .int x4)] := hl
  have hT8 := hI.T8
  have hR16 := hI.R16
  have hN200 := hI.N200
  refine lv_iload_n hx hb dX5_addRiddle_0 rfl (lv_at hl 1 rfl) ?_
  refine lv_iconst (v := 1) hx hb dX5_addRiddle_1 (by decide) ?_
  refine lv_bipush (v := 50) hx hb dX5_addRiddle_2 (by decide) ?_
  by_cases c_1 : okr x1 1 50 = true
  · skip
    refine q_rdv (q_runS (rest := []) hx hb hml hown hE (c_X5_requireRange l D cI cZ cL _ x1 1 50 c_1) ck_X5_requireRange w_328 hP hl.1 rfl ⟨Nat.le_of_ble_eq_true rfl, Nat.le_of_ble_eq_true rfl⟩ (Nat.le_of_ble_eq_true rfl) dX5_addRiddle_4 ⟨Nat.le_of_ble_eq_true rfl, Nat.le_of_ble_eq_true rfl⟩) ?_
    refine lv_iload_n hx hb dX5_addRiddle_7 rfl (lv_at hl 2 rfl) ?_
    refine lv_iconst (v := 0) hx hb dX5_addRiddle_8 (by decide) ?_
    refine lv_sipush (v := 9999) hx hb dX5_addRiddle_9 (by decide) ?_
    by_cases c_2 : okr x2 0 9999 = true
    · skip
      refine q_rdv (q_runS (rest := []) hx hb hml hown hE (c_X5_requireRange l D cI cZ cL _ x2 0 9999 c_2) ck_X5_requireRange w_328 hP hl.1 rfl ⟨Nat.le_of_ble_eq_true rfl, Nat.le_of_ble_eq_true rfl⟩ (Nat.le_of_ble_eq_true rfl) dX5_addRiddle_12 ⟨Nat.le_of_ble_eq_true rfl, Nat.le_of_ble_eq_true rfl⟩) ?_
      refine lv_iload_n hx hb dX5_addRiddle_15 rfl (lv_at hl 3 rfl) ?_
      refine lv_iconst (v := 0) hx hb dX5_addRiddle_16 (by decide) ?_
      refine lv_bipush (v := 100) hx hb dX5_addRiddle_17 (by decide) ?_
      by_cases c_3 : okr x3 0 100 = true
      · skip
        refine q_rdv (q_runS (rest := []) hx hb hml hown hE (c_X5_requireRange l D cI cZ cL _ x3 0 100 c_3) ck_X5_requireRange w_328 hP hl.1 rfl ⟨Nat.le_of_ble_eq_true rfl, Nat.le_of_ble_eq_true rfl⟩ (Nat.le_of_ble_eq_true rfl) dX5_addRiddle_19 ⟨Nat.le_of_ble_eq_true rfl, Nat.le_of_ble_eq_true rfl⟩) ?_
        refine lv_iload hx hb dX5_addRiddle_22 (lv_at hl 4 rfl) ?_
        refine lv_iconst (v := 1) hx hb dX5_addRiddle_24 (by decide) ?_
        refine lv_bipush (v := 40) hx hb dX5_addRiddle_25 (by decide) ?_
        by_cases c_4 : okr x4 1 40 = true
        · skip
          refine q_rdv (q_runS (rest := []) hx hb hml hown hE (c_X5_requireRange l D cI cZ cL _ x4 1 40 c_4) ck_X5_requireRange w_328 hP hl.1 rfl ⟨Nat.le_of_ble_eq_true rfl, Nat.le_of_ble_eq_true rfl⟩ (Nat.le_of_ble_eq_true rfl) dX5_addRiddle_27 ⟨Nat.le_of_ble_eq_true rfl, Nat.le_of_ble_eq_true rfl⟩) ?_
          refine lv_aload_n hx hb dX5_addRiddle_30 rfl (lv_at hl 0 rfl) ?_
          refine q_get (v := .int (S 0 11)) hx hb hown hE inT_X5 hP 0 rfl rfl 11 (by decide) w_223 rfl dX5_addRiddle_31 ?_
          refine lv_if_ne (tgt := 49) hx hb dX5_addRiddle_34 (by decide) (fun c_5 => ?_) (fun c_5 => ?_)
          · skip
            simp [oAddR, xI, xA, xS, xN, c_1, c_2, c_3, c_4, c_5] at hth
          · skip
            have e_5 := eq_true c_5
            refine lv_aload_n hx hb dX5_addRiddle_37 rfl (lv_at hl 0 rfl) ?_
            refine q_get (v := .ref (ad 1)) hx hb hown hE inT_X5 hP 0 rfl rfl 0 (by decide) w_212 rfl dX5_addRiddle_38 ?_
            refine q_getN (v := .int (S 1 6)) hx hb hown hE inT_X3 hP 1 rfl rfl 6 (by decide) w_104 rfl dX5_addRiddle_41 ?_
            refine q_top (y := nI (cR S)) (I0.R hI) ?_
            refine lv_bipush (v := 16) hx hb dX5_addRiddle_44 (by decide) ?_
            refine lv_icmp_lt (tgt := 59) hx hb dX5_addRiddle_46 (by decide) (fun c_6 => ?_) (fun c_6 => ?_)
            · skip
              have c_6 : (cR S) < 16 := n_lt (a := cR S) (b := 16) (by omega) (by omega) c_6
              refine lv_aload_n hx hb dX5_addRiddle_59 rfl (lv_at hl 0 rfl) ?_
              refine q_get (v := .ref (ad 1)) hx hb hown hE inT_X5 hP 0 rfl rfl 0 (by decide) w_212 rfl dX5_addRiddle_60 ?_
              refine lv_iload_n hx hb dX5_addRiddle_63 rfl (lv_at hl 1 rfl) ?_
              refine lv_iload_n hx hb dX5_addRiddle_64 rfl (lv_at hl 2 rfl) ?_
              refine lv_iload_n hx hb dX5_addRiddle_65 rfl (lv_at hl 3 rfl) ?_
              refine lv_iload hx hb dX5_addRiddle_66 (lv_at hl 4 rfl) ?_
              refine q_w0 (q_runVN (rest := []) hx hb hml hown hE (c_X3_append l D cI cZ cL ad S A (wC_D hD) x1 x2 x3 x4 hI (by omega)) ck_X3_append w_424 hP 1 rfl rfl hl.1 rfl ⟨Nat.le_of_ble_eq_true rfl, Nat.le_of_ble_eq_true rfl⟩ (Nat.le_of_ble_eq_true rfl) dX5_addRiddle_68 ⟨Nat.le_of_ble_eq_true rfl, Nat.le_of_ble_eq_true rfl⟩) hS (fun H locs hP hS => ?_)
              rw [show oAddR S x1 x2 x3 x4 = (none, nI (cR S), p_addR S x1 x2 x3 x4) from by first | (simp only [oAddR, c_1, c_2, c_3, c_4, e_5, c_6, ↓reduceIte]; done) | (simp only [oAddR, c_1, c_2, c_3, c_4, e_5, c_6, ↓reduceIte]; rfl) | (simp [oAddR, c_1, c_2, c_3, c_4, e_5, c_6]; done) | (simp [oAddR, c_1, c_2, c_3, c_4, e_5, c_6]; rfl)]
              exact e_wret hx hb hr hlk rfl hP hS dX5_addRiddle_71
            · skip
              have c_6 : 16 ≤ (cR S) := n_nlt (a := cR S) (b := 16) (by omega) (by omega) c_6
              have d_6 : ¬ (cR S) < 16 := Nat.not_lt.mpr c_6
              simp [oAddR, xI, xA, xS, xN, c_1, c_2, c_3, c_4, e_5, c_6, d_6] at hth
        · skip
          simp [oAddR, xI, xA, xS, xN, c_1, c_2, c_3, c_4] at hth
      · skip
        simp [oAddR, xI, xA, xS, xN, c_1, c_2, c_3] at hth
    · skip
      simp [oAddR, xI, xA, xS, xN, c_1, c_2] at hth
  · skip
    simp [oAddR, xI, xA, xS, xN, c_1] at hth


set_option maxHeartbeats 4000000 in
set_option maxRecDepth 100000 in
theorem c_X5_addRiddle_T0 (l : Launch) (hfl : l.flags = flags0) (D : va_G) (cI cZ cL : ClassId) (ad : Nat → Nat) (S : Mem) (x1 : Int32) (x2 : Int32) (x3 : Int32) (x4 : Int32) (hI : I0 S) (hth : (oAddR S x1 x2 x3 x4).1 = some "java/lang/IllegalArgumentException") : TH l D cI cZ cL yX5_addRiddle cX5_addRiddle 5 (some .int) 7 [.ref (ad 0), .int x1, .int x2, .int x3, .int x4] (wC ad cI S) "java/lang/IllegalArgumentException" := by
  refine TH.of (by decide) (Nat.le_of_ble_eq_true rfl) ?_
  intro p e s m args below meth c ls hx hb hr hml hown hlk hxt hE hT hZ hP hl
  have hl : lv_has ls 5 [(0, .ref (ad 0)), (1, .int x1), (2, .int x2), (3, .int x3), (4, .int x4)] := hl
  have hT8 := hI.T8
  have hR16 := hI.R16
  have hN200 := hI.N200
  refine lv_iload_n hx hb dX5_addRiddle_0 rfl (lv_at hl 1 rfl) ?_
  refine lv_iconst (v := 1) hx hb dX5_addRiddle_1 (by decide) ?_
  refine lv_bipush (v := 50) hx hb dX5_addRiddle_2 (by decide) ?_
  by_cases c_1 : okr x1 1 50 = true
  · skip
    refine q_rdv (q_runS (rest := []) hx hb hml hown hE (c_X5_requireRange l D cI cZ cL _ x1 1 50 c_1) ck_X5_requireRange w_328 hP hl.1 rfl ⟨Nat.le_of_ble_eq_true rfl, Nat.le_of_ble_eq_true rfl⟩ (Nat.le_of_ble_eq_true rfl) dX5_addRiddle_4 ⟨Nat.le_of_ble_eq_true rfl, Nat.le_of_ble_eq_true rfl⟩) ?_
    refine lv_iload_n hx hb dX5_addRiddle_7 rfl (lv_at hl 2 rfl) ?_
    refine lv_iconst (v := 0) hx hb dX5_addRiddle_8 (by decide) ?_
    refine lv_sipush (v := 9999) hx hb dX5_addRiddle_9 (by decide) ?_
    by_cases c_2 : okr x2 0 9999 = true
    · skip
      refine q_rdv (q_runS (rest := []) hx hb hml hown hE (c_X5_requireRange l D cI cZ cL _ x2 0 9999 c_2) ck_X5_requireRange w_328 hP hl.1 rfl ⟨Nat.le_of_ble_eq_true rfl, Nat.le_of_ble_eq_true rfl⟩ (Nat.le_of_ble_eq_true rfl) dX5_addRiddle_12 ⟨Nat.le_of_ble_eq_true rfl, Nat.le_of_ble_eq_true rfl⟩) ?_
      refine lv_iload_n hx hb dX5_addRiddle_15 rfl (lv_at hl 3 rfl) ?_
      refine lv_iconst (v := 0) hx hb dX5_addRiddle_16 (by decide) ?_
      refine lv_bipush (v := 100) hx hb dX5_addRiddle_17 (by decide) ?_
      by_cases c_3 : okr x3 0 100 = true
      · skip
        refine q_rdv (q_runS (rest := []) hx hb hml hown hE (c_X5_requireRange l D cI cZ cL _ x3 0 100 c_3) ck_X5_requireRange w_328 hP hl.1 rfl ⟨Nat.le_of_ble_eq_true rfl, Nat.le_of_ble_eq_true rfl⟩ (Nat.le_of_ble_eq_true rfl) dX5_addRiddle_19 ⟨Nat.le_of_ble_eq_true rfl, Nat.le_of_ble_eq_true rfl⟩) ?_
        refine lv_iload hx hb dX5_addRiddle_22 (lv_at hl 4 rfl) ?_
        refine lv_iconst (v := 1) hx hb dX5_addRiddle_24 (by decide) ?_
        refine lv_bipush (v := 40) hx hb dX5_addRiddle_25 (by decide) ?_
        by_cases c_4 : okr x4 1 40 = true
        · skip
          refine q_rdv (q_runS (rest := []) hx hb hml hown hE (c_X5_requireRange l D cI cZ cL _ x4 1 40 c_4) ck_X5_requireRange w_328 hP hl.1 rfl ⟨Nat.le_of_ble_eq_true rfl, Nat.le_of_ble_eq_true rfl⟩ (Nat.le_of_ble_eq_true rfl) dX5_addRiddle_27 ⟨Nat.le_of_ble_eq_true rfl, Nat.le_of_ble_eq_true rfl⟩) ?_
          refine lv_aload_n hx hb dX5_addRiddle_30 rfl (lv_at hl 0 rfl) ?_
          refine q_get (v := .int (S 0 11)) hx hb hown hE inT_X5 hP 0 rfl rfl 11 (by decide) w_223 rfl dX5_addRiddle_31 ?_
          refine lv_if_ne (tgt := 49) hx hb dX5_addRiddle_34 (by decide) (fun c_5 => ?_) (fun c_5 => ?_)
          · skip
            simp [oAddR, xI, xA, xS, xN, c_1, c_2, c_3, c_4, c_5] at hth
          · skip
            have e_5 := eq_true c_5
            refine lv_aload_n hx hb dX5_addRiddle_37 rfl (lv_at hl 0 rfl) ?_
            refine q_get (v := .ref (ad 1)) hx hb hown hE inT_X5 hP 0 rfl rfl 0 (by decide) w_212 rfl dX5_addRiddle_38 ?_
            refine q_getN (v := .int (S 1 6)) hx hb hown hE inT_X3 hP 1 rfl rfl 6 (by decide) w_104 rfl dX5_addRiddle_41 ?_
            refine q_top (y := nI (cR S)) (I0.R hI) ?_
            refine lv_bipush (v := 16) hx hb dX5_addRiddle_44 (by decide) ?_
            refine lv_icmp_lt (tgt := 59) hx hb dX5_addRiddle_46 (by decide) (fun c_6 => ?_) (fun c_6 => ?_)
            · skip
              have c_6 : (cR S) < 16 := n_lt (a := cR S) (b := 16) (by omega) (by omega) c_6
              refine lv_aload_n hx hb dX5_addRiddle_59 rfl (lv_at hl 0 rfl) ?_
              refine q_get (v := .ref (ad 1)) hx hb hown hE inT_X5 hP 0 rfl rfl 0 (by decide) w_212 rfl dX5_addRiddle_60 ?_
              refine lv_iload_n hx hb dX5_addRiddle_63 rfl (lv_at hl 1 rfl) ?_
              refine lv_iload_n hx hb dX5_addRiddle_64 rfl (lv_at hl 2 rfl) ?_
              refine lv_iload_n hx hb dX5_addRiddle_65 rfl (lv_at hl 3 rfl) ?_
              refine lv_iload hx hb dX5_addRiddle_66 (lv_at hl 4 rfl) ?_
              simp [oAddR, xI, xA, xS, xN, c_1, c_2, c_3, c_4, e_5, c_6] at hth
            · skip
              have c_6 : 16 ≤ (cR S) := n_nlt (a := cR S) (b := 16) (by omega) (by omega) c_6
              have d_6 : ¬ (cR S) < 16 := Nat.not_lt.mpr c_6
              simp [oAddR, xI, xA, xS, xN, c_1, c_2, c_3, c_4, e_5, c_6, d_6] at hth
        · skip
          have c_4 := eq_false_of_ne_true c_4
          exact q_th (q_thS (n' := 3) (k' := 6) (y := yX5_requireRange) (rest := []) hx hb hml hown hE hT hZ (c_X5_requireRange_T l hfl D cI cZ cL _ x4 1 40 c_4) ck_X5_requireRange w_328 hP hl.1 rfl ⟨Nat.le_of_ble_eq_true rfl, Nat.le_of_ble_eq_true rfl⟩ (Nat.le_of_ble_eq_true rfl) dX5_addRiddle_27 ⟨Nat.le_of_ble_eq_true rfl, Nat.le_of_ble_eq_true rfl⟩) hlk hxt (Nat.le_refl _) (Nat.le_refl _) (fun t h1 h2 => ⟨rfl, h2⟩)
      · skip
        have c_3 := eq_false_of_ne_true c_3
        exact q_th (q_thS (n' := 3) (k' := 6) (y := yX5_requireRange) (rest := []) hx hb hml hown hE hT hZ (c_X5_requireRange_T l hfl D cI cZ cL _ x3 0 100 c_3) ck_X5_requireRange w_328 hP hl.1 rfl ⟨Nat.le_of_ble_eq_true rfl, Nat.le_of_ble_eq_true rfl⟩ (Nat.le_of_ble_eq_true rfl) dX5_addRiddle_19 ⟨Nat.le_of_ble_eq_true rfl, Nat.le_of_ble_eq_true rfl⟩) hlk hxt (Nat.le_refl _) (Nat.le_refl _) (fun t h1 h2 => ⟨rfl, h2⟩)
    · skip
      have c_2 := eq_false_of_ne_true c_2
      exact q_th (q_thS (n' := 3) (k' := 6) (y := yX5_requireRange) (rest := []) hx hb hml hown hE hT hZ (c_X5_requireRange_T l hfl D cI cZ cL _ x2 0 9999 c_2) ck_X5_requireRange w_328 hP hl.1 rfl ⟨Nat.le_of_ble_eq_true rfl, Nat.le_of_ble_eq_true rfl⟩ (Nat.le_of_ble_eq_true rfl) dX5_addRiddle_12 ⟨Nat.le_of_ble_eq_true rfl, Nat.le_of_ble_eq_true rfl⟩) hlk hxt (Nat.le_refl _) (Nat.le_refl _) (fun t h1 h2 => ⟨rfl, h2⟩)
  · skip
    have c_1 := eq_false_of_ne_true c_1
    exact q_th (q_thS (n' := 3) (k' := 6) (y := yX5_requireRange) (rest := []) hx hb hml hown hE hT hZ (c_X5_requireRange_T l hfl D cI cZ cL _ x1 1 50 c_1) ck_X5_requireRange w_328 hP hl.1 rfl ⟨Nat.le_of_ble_eq_true rfl, Nat.le_of_ble_eq_true rfl⟩ (Nat.le_of_ble_eq_true rfl) dX5_addRiddle_4 ⟨Nat.le_of_ble_eq_true rfl, Nat.le_of_ble_eq_true rfl⟩) hlk hxt (Nat.le_refl _) (Nat.le_refl _) (fun t h1 h2 => ⟨rfl, h2⟩)

theorem dX5_addRiddle_52 : decode cX5_addRiddle 52 = .ok (.dup, 1) := by decide +kernel
theorem dX5_addRiddle_53 : decode cX5_addRiddle 53 = .ok (.ldc 79, 2) := by decide +kernel
theorem dX5_addRiddle_55 : decode cX5_addRiddle 55 = .ok (.invokespecial 69, 3) := by decide +kernel
theorem dX5_addRiddle_58 : decode cX5_addRiddle 58 = .ok (.athrow, 1) := by decide +kernel
set_option maxHeartbeats 4000000 in
set_option maxRecDepth 100000 in
theorem c_X5_addRiddle_T1 (l : Launch) (hfl : l.flags = flags0) (D : va_G) (cI cZ cL : ClassId) (ad : Nat → Nat) (S : Mem) (x1 : Int32) (x2 : Int32) (x3 : Int32) (x4 : Int32) (hI : I0 S) (hth : (oAddR S x1 x2 x3 x4).1 = some "java/lang/IllegalStateException") : TH l D cI cZ cL yX5_addRiddle cX5_addRiddle 5 (some .int) 7 [.ref (ad 0), .int x1, .int x2, .int x3, .int x4] (wC ad cI S) "java/lang/IllegalStateException" := by
  refine TH.of (by decide) (Nat.le_of_ble_eq_true rfl) ?_
  intro p e s m args below meth c ls hx hb hr hml hown hlk hxt hE hT hZ hP hl
  have hl : lv_has ls 5 [(0, .ref (ad 0)), (1, .int x1), (2, .int x2), (3, .int x3), (4, .int x4)] := hl
  have hT8 := hI.T8
  have hR16 := hI.R16
  have hN200 := hI.N200
  refine lv_iload_n hx hb dX5_addRiddle_0 rfl (lv_at hl 1 rfl) ?_
  refine lv_iconst (v := 1) hx hb dX5_addRiddle_1 (by decide) ?_
  refine lv_bipush (v := 50) hx hb dX5_addRiddle_2 (by decide) ?_
  by_cases c_1 : okr x1 1 50 = true
  · skip
    refine q_rdv (q_runS (rest := []) hx hb hml hown hE (c_X5_requireRange l D cI cZ cL _ x1 1 50 c_1) ck_X5_requireRange w_328 hP hl.1 rfl ⟨Nat.le_of_ble_eq_true rfl, Nat.le_of_ble_eq_true rfl⟩ (Nat.le_of_ble_eq_true rfl) dX5_addRiddle_4 ⟨Nat.le_of_ble_eq_true rfl, Nat.le_of_ble_eq_true rfl⟩) ?_
    refine lv_iload_n hx hb dX5_addRiddle_7 rfl (lv_at hl 2 rfl) ?_
    refine lv_iconst (v := 0) hx hb dX5_addRiddle_8 (by decide) ?_
    refine lv_sipush (v := 9999) hx hb dX5_addRiddle_9 (by decide) ?_
    by_cases c_2 : okr x2 0 9999 = true
    · skip
      refine q_rdv (q_runS (rest := []) hx hb hml hown hE (c_X5_requireRange l D cI cZ cL _ x2 0 9999 c_2) ck_X5_requireRange w_328 hP hl.1 rfl ⟨Nat.le_of_ble_eq_true rfl, Nat.le_of_ble_eq_true rfl⟩ (Nat.le_of_ble_eq_true rfl) dX5_addRiddle_12 ⟨Nat.le_of_ble_eq_true rfl, Nat.le_of_ble_eq_true rfl⟩) ?_
      refine lv_iload_n hx hb dX5_addRiddle_15 rfl (lv_at hl 3 rfl) ?_
      refine lv_iconst (v := 0) hx hb dX5_addRiddle_16 (by decide) ?_
      refine lv_bipush (v := 100) hx hb dX5_addRiddle_17 (by decide) ?_
      by_cases c_3 : okr x3 0 100 = true
      · skip
        refine q_rdv (q_runS (rest := []) hx hb hml hown hE (c_X5_requireRange l D cI cZ cL _ x3 0 100 c_3) ck_X5_requireRange w_328 hP hl.1 rfl ⟨Nat.le_of_ble_eq_true rfl, Nat.le_of_ble_eq_true rfl⟩ (Nat.le_of_ble_eq_true rfl) dX5_addRiddle_19 ⟨Nat.le_of_ble_eq_true rfl, Nat.le_of_ble_eq_true rfl⟩) ?_
        refine lv_iload hx hb dX5_addRiddle_22 (lv_at hl 4 rfl) ?_
        refine lv_iconst (v := 1) hx hb dX5_addRiddle_24 (by decide) ?_
        refine lv_bipush (v := 40) hx hb dX5_addRiddle_25 (by decide) ?_
        by_cases c_4 : okr x4 1 40 = true
        · skip
          refine q_rdv (q_runS (rest := []) hx hb hml hown hE (c_X5_requireRange l D cI cZ cL _ x4 1 40 c_4) ck_X5_requireRange w_328 hP hl.1 rfl ⟨Nat.le_of_ble_eq_true rfl, Nat.le_of_ble_eq_true rfl⟩ (Nat.le_of_ble_eq_true rfl) dX5_addRiddle_27 ⟨Nat.le_of_ble_eq_true rfl, Nat.le_of_ble_eq_true rfl⟩) ?_
          refine lv_aload_n hx hb dX5_addRiddle_30 rfl (lv_at hl 0 rfl) ?_
          refine q_get (v := .int (S 0 11)) hx hb hown hE inT_X5 hP 0 rfl rfl 11 (by decide) w_223 rfl dX5_addRiddle_31 ?_
          refine lv_if_ne (tgt := 49) hx hb dX5_addRiddle_34 (by decide) (fun c_5 => ?_) (fun c_5 => ?_)
          · skip
            obtain ⟨sa, hsa⟩ := hT "PuzzleRegistry" 79 "no more riddles are taken" (List.mem_of_getElem? (i := 381) (by decide +kernel))
            exact vx_throwS (rest := []) (A := q_no) (names := tw_names) hx hb (q_flags hfl) hown rfl tw_names_ok (hE.1 _ w_400 args) (hE.1 _ w_72 args) hsa (fun w h => hE.1 w (tw_X5_65_69 w h) args) tw_X5_65_69_g hZ.1 hZ.2 va_S.rf (hl.1.trans hml.symm) dX5_addRiddle_49 dX5_addRiddle_52 dX5_addRiddle_53 dX5_addRiddle_55 dX5_addRiddle_58 (fun x hx => (hxt x hx).elim) (Nat.le_of_ble_eq_true rfl) (Nat.le_of_ble_eq_true rfl) (Nat.le_of_ble_eq_true rfl) (Nat.le_of_ble_eq_true rfl) hlk (fun t h1 h2 h3 => ⟨rfl, h2, fun q h4 _ => h3 q h4⟩) (fun _ h => nomatch h) (Nat.le_refl _) (Nat.le_refl _)
          · skip
            have e_5 := eq_true c_5
            refine lv_aload_n hx hb dX5_addRiddle_37 rfl (lv_at hl 0 rfl) ?_
            refine q_get (v := .ref (ad 1)) hx hb hown hE inT_X5 hP 0 rfl rfl 0 (by decide) w_212 rfl dX5_addRiddle_38 ?_
            refine q_getN (v := .int (S 1 6)) hx hb hown hE inT_X3 hP 1 rfl rfl 6 (by decide) w_104 rfl dX5_addRiddle_41 ?_
            refine q_top (y := nI (cR S)) (I0.R hI) ?_
            refine lv_bipush (v := 16) hx hb dX5_addRiddle_44 (by decide) ?_
            refine lv_icmp_lt (tgt := 59) hx hb dX5_addRiddle_46 (by decide) (fun c_6 => ?_) (fun c_6 => ?_)
            · skip
              have c_6 : (cR S) < 16 := n_lt (a := cR S) (b := 16) (by omega) (by omega) c_6
              refine lv_aload_n hx hb dX5_addRiddle_59 rfl (lv_at hl 0 rfl) ?_
              refine q_get (v := .ref (ad 1)) hx hb hown hE inT_X5 hP 0 rfl rfl 0 (by decide) w_212 rfl dX5_addRiddle_60 ?_
              refine lv_iload_n hx hb dX5_addRiddle_63 rfl (lv_at hl 1 rfl) ?_
              refine lv_iload_n hx hb dX5_addRiddle_64 rfl (lv_at hl 2 rfl) ?_
              refine lv_iload_n hx hb dX5_addRiddle_65 rfl (lv_at hl 3 rfl) ?_
              refine lv_iload hx hb dX5_addRiddle_66 (lv_at hl 4 rfl) ?_
              simp [oAddR, xI, xA, xS, xN, c_1, c_2, c_3, c_4, e_5, c_6] at hth
            · skip
              have c_6 : 16 ≤ (cR S) := n_nlt (a := cR S) (b := 16) (by omega) (by omega) c_6
              have d_6 : ¬ (cR S) < 16 := Nat.not_lt.mpr c_6
              obtain ⟨sa, hsa⟩ := hT "PuzzleRegistry" 79 "no more riddles are taken" (List.mem_of_getElem? (i := 381) (by decide +kernel))
              exact vx_throwS (rest := []) (A := q_no) (names := tw_names) hx hb (q_flags hfl) hown rfl tw_names_ok (hE.1 _ w_400 args) (hE.1 _ w_72 args) hsa (fun w h => hE.1 w (tw_X5_65_69 w h) args) tw_X5_65_69_g hZ.1 hZ.2 va_S.rf (hl.1.trans hml.symm) dX5_addRiddle_49 dX5_addRiddle_52 dX5_addRiddle_53 dX5_addRiddle_55 dX5_addRiddle_58 (fun x hx => (hxt x hx).elim) (Nat.le_of_ble_eq_true rfl) (Nat.le_of_ble_eq_true rfl) (Nat.le_of_ble_eq_true rfl) (Nat.le_of_ble_eq_true rfl) hlk (fun t h1 h2 h3 => ⟨rfl, h2, fun q h4 _ => h3 q h4⟩) (fun _ h => nomatch h) (Nat.le_refl _) (Nat.le_refl _)
        · skip
          simp [oAddR, xI, xA, xS, xN, c_1, c_2, c_3, c_4] at hth
      · skip
        simp [oAddR, xI, xA, xS, xN, c_1, c_2, c_3] at hth
    · skip
      simp [oAddR, xI, xA, xS, xN, c_1, c_2] at hth
  · skip
    simp [oAddR, xI, xA, xS, xN, c_1] at hth

theorem dX5_need_0 : decode cX5_need 0 = .ok (.aload_n 0, 1) := by decide +kernel
theorem dX5_need_1 : decode cX5_need 1 = .ok (.iload_n 1, 1) := by decide +kernel
theorem dX5_need_2 : decode cX5_need 2 = .ok (.invokevirtual 85, 3) := by decide +kernel
theorem dX5_need_5 : decode cX5_need 5 = .ok (.aload_n 0, 1) := by decide +kernel
theorem dX5_need_6 : decode cX5_need 6 = .ok (.iload_n 2, 1) := by decide +kernel
theorem dX5_need_7 : decode cX5_need 7 = .ok (.invokevirtual 85, 3) := by decide +kernel
theorem dX5_need_10 : decode cX5_need 10 = .ok (.iload_n 2, 1) := by decide +kernel
theorem dX5_need_11 : decode cX5_need 11 = .ok (.iload_n 1, 1) := by decide +kernel
theorem dX5_need_12 : decode cX5_need 12 = .ok (.if_icmp .lt 13, 3) := by decide +kernel
theorem dX5_need_15 : decode cX5_need 15 = .ok (.new 89, 3) := by decide +kernel
theorem dX5_need_25 : decode cX5_need 25 = .ok (.aload_n 0, 1) := by decide +kernel
theorem dX5_need_26 : decode cX5_need 26 = .ok (.getfield 72, 3) := by decide +kernel
theorem dX5_need_29 : decode cX5_need 29 = .ok (.ifCond .ne 33, 3) := by decide +kernel
theorem dX5_need_32 : decode cX5_need 32 = .ok (.aload_n 0, 1) := by decide +kernel
theorem dX5_need_33 : decode cX5_need 33 = .ok (.getfield 10, 3) := by decide +kernel
theorem dX5_need_36 : decode cX5_need 36 = .ok (.getfield 94, 3) := by decide +kernel
theorem dX5_need_39 : decode cX5_need 39 = .ok (.iload_n 1, 1) := by decide +kernel
theorem dX5_need_40 : decode cX5_need 40 = .ok (.invokestatic 97, 3) := by decide +kernel
theorem dX5_need_43 : decode cX5_need 43 = .ok (.ifCond .ne 19, 3) := by decide +kernel
theorem dX5_need_46 : decode cX5_need 46 = .ok (.aload_n 0, 1) := by decide +kernel
theorem dX5_need_47 : decode cX5_need 47 = .ok (.getfield 10, 3) := by decide +kernel
theorem dX5_need_50 : decode cX5_need 50 = .ok (.getfield 101, 3) := by decide +kernel
theorem dX5_need_53 : decode cX5_need 53 = .ok (.iload_n 1, 1) := by decide +kernel
theorem dX5_need_54 : decode cX5_need 54 = .ok (.iaload, 1) := by decide +kernel
theorem dX5_need_55 : decode cX5_need 55 = .ok (.iload_n 2, 1) := by decide +kernel
theorem dX5_need_56 : decode cX5_need 56 = .ok (.invokestatic 97, 3) := by decide +kernel
theorem dX5_need_59 : decode cX5_need 59 = .ok (.ifCond .eq 13, 3) := by decide +kernel
theorem dX5_need_62 : decode cX5_need 62 = .ok (.new 65, 3) := by decide +kernel
theorem dX5_need_72 : decode cX5_need 72 = .ok (.aload_n 0, 1) := by decide +kernel
theorem dX5_need_73 : decode cX5_need 73 = .ok (.getfield 10, 3) := by decide +kernel
theorem dX5_need_76 : decode cX5_need 76 = .ok (.getfield 101, 3) := by decide +kernel
theorem dX5_need_79 : decode cX5_need 79 = .ok (.iload_n 1, 1) := by decide +kernel
theorem dX5_need_80 : decode cX5_need 80 = .ok (.dup2, 1) := by decide +kernel
theorem dX5_need_81 : decode cX5_need 81 = .ok (.iaload, 1) := by decide +kernel
theorem dX5_need_82 : decode cX5_need 82 = .ok (.iload_n 2, 1) := by decide +kernel
theorem dX5_need_83 : decode cX5_need 83 = .ok (.invokestatic 106, 3) := by decide +kernel
theorem dX5_need_86 : decode cX5_need 86 = .ok (.ior, 1) := by decide +kernel
theorem dX5_need_87 : decode cX5_need 87 = .ok (.iastore, 1) := by decide +kernel
theorem dX5_need_88 : decode cX5_need 88 = .ok (.aload_n 0, 1) := by decide +kernel
theorem dX5_need_89 : decode cX5_need 89 = .ok (.getfield 10, 3) := by decide +kernel
theorem dX5_need_92 : decode cX5_need 92 = .ok (.getfield 101, 3) := by decide +kernel
theorem dX5_need_95 : decode cX5_need 95 = .ok (.iload_n 1, 1) := by decide +kernel
theorem dX5_need_96 : decode cX5_need 96 = .ok (.iaload, 1) := by decide +kernel
theorem dX5_need_97 : decode cX5_need 97 = .ok (.invokestatic 110, 3) := by decide +kernel
theorem dX5_need_100 : decode cX5_need 100 = .ok (.ireturn, 1) := by decide +kernel
set_option maxHeartbeats 4000000 in
set_option maxRecDepth 100000 in
theorem c_X5_need (l : Launch) (D : va_G) (cI cZ cL : ClassId) (ad : Nat → Nat) (S : Mem) (A : Nat → Prop) (hD : va_D A (wC ad cI S)) (x1 : Int32) (x2 : Int32) (hI : I0 S) (hth : (oNeed S x1 x2).1 = none) : WR l D cI cZ cL yX5_need cX5_need 3 (some .int) 7 [.ref (ad 0), .int x1, .int x2] A (wC ad cI S) (wC ad cI ((oNeed S x1 x2).2.2)) (some (.int ((oNeed S x1 x2).2.1))) := by
  refine WR.of (by decide) (Nat.le_of_ble_eq_true rfl) ?_
  intro p e s m args below meth c ls hx hb hr hml hown hlk hE hP hS hl
  have hl : lv_has ls 3 [(0, .ref (ad 0)), (1, .int x1), (2, .int x2)] := hl
  have hT8 := hI.T8
  have hR16 := hI.R16
  have hN200 := hI.N200
  refine lv_aload_n hx hb dX5_need_0 rfl (lv_at hl 0 rfl) ?_
  refine lv_iload_n hx hb dX5_need_1 rfl (lv_at hl 1 rfl) ?_
  by_cases c_1 : okn x1 (cR S) = true
  · skip
    obtain ⟨u1, hu1, eu1⟩ := okn_t c_1
    subst eu1
    have iu1 : iN (nI u1) = u1 := iN_nI (by omega)
    refine q_rdv (q_runV (rest := []) hx hb hml hown hE (c_X5_requireRiddle l D cI cZ cL ad S u1 hI hu1) ck_X5_requireRiddle w_436 hP 0 rfl rfl hl.1 rfl ⟨Nat.le_of_ble_eq_true rfl, Nat.le_of_ble_eq_true rfl⟩ (Nat.le_of_ble_eq_true rfl) dX5_need_2 ⟨Nat.le_of_ble_eq_true rfl, Nat.le_of_ble_eq_true rfl⟩) ?_
    refine lv_aload_n hx hb dX5_need_5 rfl (lv_at hl 0 rfl) ?_
    refine lv_iload_n hx hb dX5_need_6 rfl (lv_at hl 2 rfl) ?_
    by_cases c_2 : okn x2 (cR S) = true
    · skip
      obtain ⟨u2, hu2, eu2⟩ := okn_t c_2
      subst eu2
      have iu2 : iN (nI u2) = u2 := iN_nI (by omega)
      refine q_rdv (q_runV (rest := []) hx hb hml hown hE (c_X5_requireRiddle l D cI cZ cL ad S u2 hI hu2) ck_X5_requireRiddle w_436 hP 0 rfl rfl hl.1 rfl ⟨Nat.le_of_ble_eq_true rfl, Nat.le_of_ble_eq_true rfl⟩ (Nat.le_of_ble_eq_true rfl) dX5_need_7 ⟨Nat.le_of_ble_eq_true rfl, Nat.le_of_ble_eq_true rfl⟩) ?_
      refine lv_iload_n hx hb dX5_need_10 rfl (lv_at hl 2 rfl) ?_
      refine lv_iload_n hx hb dX5_need_11 rfl (lv_at hl 1 rfl) ?_
      refine lv_icmp_lt (tgt := 25) hx hb dX5_need_12 (by decide) (fun c_3 => ?_) (fun c_3 => ?_)
      · skip
        have c_3 : u2 < u1 := n_lt (a := u2) (b := u1) (by omega) (by omega) c_3
        refine lv_aload_n hx hb dX5_need_25 rfl (lv_at hl 0 rfl) ?_
        refine q_get (v := .int (S 0 11)) hx hb hown hE inT_X5 hP 0 rfl rfl 11 (by decide) w_223 rfl dX5_need_26 ?_
        refine lv_if_ne (tgt := 62) hx hb dX5_need_29 (by decide) (fun c_4 => ?_) (fun c_4 => ?_)
        · skip
          simp [oNeed, hNeed, needM, xI, xA, xS, xN, c_1, iu1, c_2, iu2, c_3, c_4] at hth
        · skip
          have e_4 := eq_true c_4
          refine lv_aload_n hx hb dX5_need_32 rfl (lv_at hl 0 rfl) ?_
          refine q_get (v := .ref (ad 1)) hx hb hown hE inT_X5 hP 0 rfl rfl 0 (by decide) w_212 rfl dX5_need_33 ?_
          refine q_getN (v := .int (S 1 5)) hx hb hown hE inT_X3 hP 1 rfl rfl 5 (by decide) w_102 rfl dX5_need_36 ?_
          refine lv_iload_n hx hb dX5_need_39 rfl (lv_at hl 1 rfl) ?_
          refine q_rd (q_runS (rest := []) hx hb hml hown hE (c_X5_has l D cI cZ cL _ (S 1 5) (nI u1)) ck_X5_has w_298 hP hl.1 rfl ⟨Nat.le_of_ble_eq_true rfl, Nat.le_of_ble_eq_true rfl⟩ (Nat.le_of_ble_eq_true rfl) dX5_need_40 ⟨Nat.le_of_ble_eq_true rfl, Nat.le_of_ble_eq_true rfl⟩) ?_
          refine lv_if_ne (tgt := 62) hx hb dX5_need_43 (by decide) (fun c_5 => ?_) (fun c_5 => ?_)
          · skip
            have c_5 : hs (S 1 5) (nI u1) = true := b_t c_5
            simp [oNeed, hNeed, needM, xI, xA, xS, xN, c_1, iu1, c_2, iu2, c_3, e_4, c_5] at hth
          · skip
            have c_5 : hs (S 1 5) (nI u1) = false := b_f c_5
            refine lv_aload_n hx hb dX5_need_46 rfl (lv_at hl 0 rfl) ?_
            refine q_get (v := .ref (ad 1)) hx hb hown hE inT_X5 hP 0 rfl rfl 0 (by decide) w_212 rfl dX5_need_47 ?_
            refine q_getN (v := .ref (ad 6)) hx hb hown hE inT_X3 hP 1 rfl rfl 4 (by decide) w_101 rfl dX5_need_50 ?_
            refine lv_iload_n hx hb dX5_need_53 rfl (lv_at hl 1 rfl) ?_
            refine q_iald (f := S 6) (i := u1) hx hb hE hP 6 rfl (by omega) (Nat.le_of_ble_eq_true rfl) dX5_need_54 ?_
            refine lv_iload_n hx hb dX5_need_55 rfl (lv_at hl 2 rfl) ?_
            refine q_rd (q_runS (rest := []) hx hb hml hown hE (c_X5_has l D cI cZ cL _ (S 6 u1) (nI u2)) ck_X5_has w_298 hP hl.1 rfl ⟨Nat.le_of_ble_eq_true rfl, Nat.le_of_ble_eq_true rfl⟩ (Nat.le_of_ble_eq_true rfl) dX5_need_56 ⟨Nat.le_of_ble_eq_true rfl, Nat.le_of_ble_eq_true rfl⟩) ?_
            refine lv_if_eq (tgt := 72) hx hb dX5_need_59 (by decide) (fun c_6 => ?_) (fun c_6 => ?_)
            · skip
              have c_6 : hs (S 6 u1) (nI u2) = false := b_f c_6
              refine lv_aload_n hx hb dX5_need_72 rfl (lv_at hl 0 rfl) ?_
              refine q_get (v := .ref (ad 1)) hx hb hown hE inT_X5 hP 0 rfl rfl 0 (by decide) w_212 rfl dX5_need_73 ?_
              refine q_getN (v := .ref (ad 6)) hx hb hown hE inT_X3 hP 1 rfl rfl 4 (by decide) w_101 rfl dX5_need_76 ?_
              refine lv_iload_n hx hb dX5_need_79 rfl (lv_at hl 1 rfl) ?_
              refine lv_dup2_11 hx hb dX5_need_80 rfl rfl ?_
              refine q_iald (f := S 6) (i := u1) hx hb hE hP 6 rfl (by omega) (Nat.le_of_ble_eq_true rfl) dX5_need_81 ?_
              refine lv_iload_n hx hb dX5_need_82 rfl (lv_at hl 2 rfl) ?_
              refine q_rd (q_runS (rest := [.int (S 6 u1), .int (nI u1), .ref (ad 6)]) hx hb hml hown hE (c_X5_bit l D cI cZ cL _ (nI u2)) ck_X5_bit w_458 hP hl.1 rfl ⟨Nat.le_of_ble_eq_true rfl, Nat.le_of_ble_eq_true rfl⟩ (Nat.le_of_ble_eq_true rfl) dX5_need_83 ⟨Nat.le_of_ble_eq_true rfl, Nat.le_of_ble_eq_true rfl⟩) ?_
              refine lv_ior hx hb dX5_need_86 ?_
              refine q_iast (f := S 6) (i := u1) (x := (S 6 u1) ||| (bt (nI u2))) (ws' := (wC ad cI (st S 6 u1 ((S 6 u1) ||| (bt (nI u2)))))) hx hb hE hP (wC_D hD) hS 6 rfl (by omega) (Nat.le_of_ble_eq_true rfl) (wC_st_6) dX5_need_87 (fun H locs hP hS => ?_)
              refine lv_aload_n hx hb dX5_need_88 rfl (lv_at hl 0 rfl) ?_
              refine q_get (v := .ref (ad 1)) hx hb hown hE inT_X5 hP 0 rfl rfl 0 (by decide) w_212 rfl dX5_need_89 ?_
              refine q_getN (v := .ref (ad 6)) hx hb hown hE inT_X3 hP 1 rfl rfl 4 (by decide) w_101 rfl dX5_need_92 ?_
              refine lv_iload_n hx hb dX5_need_95 rfl (lv_at hl 1 rfl) ?_
              refine q_iald (f := (st S 6 u1 ((S 6 u1) ||| (bt (nI u2)))) 6) (i := u1) hx hb hE hP 6 rfl (by omega) (Nat.le_of_ble_eq_true rfl) dX5_need_96 ?_
              refine q_rd (q_runS (rest := []) hx hb hml hown hE (c_J6_bitCount_0f7a4 l D cI cZ cL _ ((st S 6 u1 ((S 6 u1) ||| (bt (nI u2)))) 6 u1)) ck_J6_bitCount_0f7a4 w_459 hP hl.1 rfl ⟨Nat.le_of_ble_eq_true rfl, Nat.le_of_ble_eq_true rfl⟩ (Nat.le_of_ble_eq_true rfl) dX5_need_97 ⟨Nat.le_of_ble_eq_true rfl, Nat.le_of_ble_eq_true rfl⟩) ?_
              rw [show oNeed S (nI u1) (nI u2) = (none, p_bc ((st S 6 u1 ((S 6 u1) ||| (bt (nI u2)))) 6 u1), st S 6 u1 ((S 6 u1) ||| (bt (nI u2)))) from by first | (simp only [oNeed, hNeed, needM, c_1, iu1, c_2, iu2, c_3, e_4, c_5, c_6, ↓reduceIte]; done) | (simp only [oNeed, hNeed, needM, c_1, iu1, c_2, iu2, c_3, e_4, c_5, c_6, ↓reduceIte]; rfl) | (simp [oNeed, hNeed, needM, c_1, iu1, c_2, iu2, c_3, e_4, c_5, c_6]; done) | (simp [oNeed, hNeed, needM, c_1, iu1, c_2, iu2, c_3, e_4, c_5, c_6]; rfl)]
              exact e_wret hx hb hr hlk rfl hP hS dX5_need_100
            · skip
              have c_6 : hs (S 6 u1) (nI u2) = true := b_t c_6
              simp [oNeed, hNeed, needM, xI, xA, xS, xN, c_1, iu1, c_2, iu2, c_3, e_4, c_5, c_6] at hth
      · skip
        have c_3 : u1 ≤ u2 := n_nlt (a := u2) (b := u1) (by omega) (by omega) c_3
        have d_3 : ¬ u2 < u1 := Nat.not_lt.mpr c_3
        simp [oNeed, hNeed, needM, xI, xA, xS, xN, c_1, iu1, c_2, iu2, c_3, d_3] at hth
    · skip
      simp [oNeed, hNeed, needM, xI, xA, xS, xN, c_1, iu1, c_2] at hth
  · skip
    simp [oNeed, hNeed, needM, xI, xA, xS, xN, c_1] at hth


set_option maxHeartbeats 4000000 in
set_option maxRecDepth 100000 in
theorem c_X5_need_T0 (l : Launch) (hfl : l.flags = flags0) (D : va_G) (cI cZ cL : ClassId) (ad : Nat → Nat) (S : Mem) (x1 : Int32) (x2 : Int32) (hI : I0 S) (hth : (oNeed S x1 x2).1 = some "java/lang/IndexOutOfBoundsException") : TH l D cI cZ cL yX5_need cX5_need 3 (some .int) 7 [.ref (ad 0), .int x1, .int x2] (wC ad cI S) "java/lang/IndexOutOfBoundsException" := by
  refine TH.of (by decide) (Nat.le_of_ble_eq_true rfl) ?_
  intro p e s m args below meth c ls hx hb hr hml hown hlk hxt hE hT hZ hP hl
  have hl : lv_has ls 3 [(0, .ref (ad 0)), (1, .int x1), (2, .int x2)] := hl
  have hT8 := hI.T8
  have hR16 := hI.R16
  have hN200 := hI.N200
  refine lv_aload_n hx hb dX5_need_0 rfl (lv_at hl 0 rfl) ?_
  refine lv_iload_n hx hb dX5_need_1 rfl (lv_at hl 1 rfl) ?_
  by_cases c_1 : okn x1 (cR S) = true
  · skip
    obtain ⟨u1, hu1, eu1⟩ := okn_t c_1
    subst eu1
    have iu1 : iN (nI u1) = u1 := iN_nI (by omega)
    refine q_rdv (q_runV (rest := []) hx hb hml hown hE (c_X5_requireRiddle l D cI cZ cL ad S u1 hI hu1) ck_X5_requireRiddle w_436 hP 0 rfl rfl hl.1 rfl ⟨Nat.le_of_ble_eq_true rfl, Nat.le_of_ble_eq_true rfl⟩ (Nat.le_of_ble_eq_true rfl) dX5_need_2 ⟨Nat.le_of_ble_eq_true rfl, Nat.le_of_ble_eq_true rfl⟩) ?_
    refine lv_aload_n hx hb dX5_need_5 rfl (lv_at hl 0 rfl) ?_
    refine lv_iload_n hx hb dX5_need_6 rfl (lv_at hl 2 rfl) ?_
    by_cases c_2 : okn x2 (cR S) = true
    · skip
      obtain ⟨u2, hu2, eu2⟩ := okn_t c_2
      subst eu2
      have iu2 : iN (nI u2) = u2 := iN_nI (by omega)
      refine q_rdv (q_runV (rest := []) hx hb hml hown hE (c_X5_requireRiddle l D cI cZ cL ad S u2 hI hu2) ck_X5_requireRiddle w_436 hP 0 rfl rfl hl.1 rfl ⟨Nat.le_of_ble_eq_true rfl, Nat.le_of_ble_eq_true rfl⟩ (Nat.le_of_ble_eq_true rfl) dX5_need_7 ⟨Nat.le_of_ble_eq_true rfl, Nat.le_of_ble_eq_true rfl⟩) ?_
      refine lv_iload_n hx hb dX5_need_10 rfl (lv_at hl 2 rfl) ?_
      refine lv_iload_n hx hb dX5_need_11 rfl (lv_at hl 1 rfl) ?_
      refine lv_icmp_lt (tgt := 25) hx hb dX5_need_12 (by decide) (fun c_3 => ?_) (fun c_3 => ?_)
      · skip
        have c_3 : u2 < u1 := n_lt (a := u2) (b := u1) (by omega) (by omega) c_3
        refine lv_aload_n hx hb dX5_need_25 rfl (lv_at hl 0 rfl) ?_
        refine q_get (v := .int (S 0 11)) hx hb hown hE inT_X5 hP 0 rfl rfl 11 (by decide) w_223 rfl dX5_need_26 ?_
        refine lv_if_ne (tgt := 62) hx hb dX5_need_29 (by decide) (fun c_4 => ?_) (fun c_4 => ?_)
        · skip
          simp [oNeed, hNeed, needM, xI, xA, xS, xN, c_1, iu1, c_2, iu2, c_3, c_4] at hth
        · skip
          have e_4 := eq_true c_4
          refine lv_aload_n hx hb dX5_need_32 rfl (lv_at hl 0 rfl) ?_
          refine q_get (v := .ref (ad 1)) hx hb hown hE inT_X5 hP 0 rfl rfl 0 (by decide) w_212 rfl dX5_need_33 ?_
          refine q_getN (v := .int (S 1 5)) hx hb hown hE inT_X3 hP 1 rfl rfl 5 (by decide) w_102 rfl dX5_need_36 ?_
          refine lv_iload_n hx hb dX5_need_39 rfl (lv_at hl 1 rfl) ?_
          refine q_rd (q_runS (rest := []) hx hb hml hown hE (c_X5_has l D cI cZ cL _ (S 1 5) (nI u1)) ck_X5_has w_298 hP hl.1 rfl ⟨Nat.le_of_ble_eq_true rfl, Nat.le_of_ble_eq_true rfl⟩ (Nat.le_of_ble_eq_true rfl) dX5_need_40 ⟨Nat.le_of_ble_eq_true rfl, Nat.le_of_ble_eq_true rfl⟩) ?_
          refine lv_if_ne (tgt := 62) hx hb dX5_need_43 (by decide) (fun c_5 => ?_) (fun c_5 => ?_)
          · skip
            have c_5 : hs (S 1 5) (nI u1) = true := b_t c_5
            simp [oNeed, hNeed, needM, xI, xA, xS, xN, c_1, iu1, c_2, iu2, c_3, e_4, c_5] at hth
          · skip
            have c_5 : hs (S 1 5) (nI u1) = false := b_f c_5
            refine lv_aload_n hx hb dX5_need_46 rfl (lv_at hl 0 rfl) ?_
            refine q_get (v := .ref (ad 1)) hx hb hown hE inT_X5 hP 0 rfl rfl 0 (by decide) w_212 rfl dX5_need_47 ?_
            refine q_getN (v := .ref (ad 6)) hx hb hown hE inT_X3 hP 1 rfl rfl 4 (by decide) w_101 rfl dX5_need_50 ?_
            refine lv_iload_n hx hb dX5_need_53 rfl (lv_at hl 1 rfl) ?_
            refine q_iald (f := S 6) (i := u1) hx hb hE hP 6 rfl (by omega) (Nat.le_of_ble_eq_true rfl) dX5_need_54 ?_
            refine lv_iload_n hx hb dX5_need_55 rfl (lv_at hl 2 rfl) ?_
            refine q_rd (q_runS (rest := []) hx hb hml hown hE (c_X5_has l D cI cZ cL _ (S 6 u1) (nI u2)) ck_X5_has w_298 hP hl.1 rfl ⟨Nat.le_of_ble_eq_true rfl, Nat.le_of_ble_eq_true rfl⟩ (Nat.le_of_ble_eq_true rfl) dX5_need_56 ⟨Nat.le_of_ble_eq_true rfl, Nat.le_of_ble_eq_true rfl⟩) ?_
            refine lv_if_eq (tgt := 72) hx hb dX5_need_59 (by decide) (fun c_6 => ?_) (fun c_6 => ?_)
            · skip
              have c_6 : hs (S 6 u1) (nI u2) = false := b_f c_6
              refine lv_aload_n hx hb dX5_need_72 rfl (lv_at hl 0 rfl) ?_
              refine q_get (v := .ref (ad 1)) hx hb hown hE inT_X5 hP 0 rfl rfl 0 (by decide) w_212 rfl dX5_need_73 ?_
              refine q_getN (v := .ref (ad 6)) hx hb hown hE inT_X3 hP 1 rfl rfl 4 (by decide) w_101 rfl dX5_need_76 ?_
              refine lv_iload_n hx hb dX5_need_79 rfl (lv_at hl 1 rfl) ?_
              refine lv_dup2_11 hx hb dX5_need_80 rfl rfl ?_
              refine q_iald (f := S 6) (i := u1) hx hb hE hP 6 rfl (by omega) (Nat.le_of_ble_eq_true rfl) dX5_need_81 ?_
              refine lv_iload_n hx hb dX5_need_82 rfl (lv_at hl 2 rfl) ?_
              refine q_rd (q_runS (rest := [.int (S 6 u1), .int (nI u1), .ref (ad 6)]) hx hb hml hown hE (c_X5_bit l D cI cZ cL _ (nI u2)) ck_X5_bit w_458 hP hl.1 rfl ⟨Nat.le_of_ble_eq_true rfl, Nat.le_of_ble_eq_true rfl⟩ (Nat.le_of_ble_eq_true rfl) dX5_need_83 ⟨Nat.le_of_ble_eq_true rfl, Nat.le_of_ble_eq_true rfl⟩) ?_
              refine lv_ior hx hb dX5_need_86 ?_
              simp [oNeed, hNeed, needM, xI, xA, xS, xN, c_1, iu1, c_2, iu2, c_3, e_4, c_5, c_6] at hth
            · skip
              have c_6 : hs (S 6 u1) (nI u2) = true := b_t c_6
              simp [oNeed, hNeed, needM, xI, xA, xS, xN, c_1, iu1, c_2, iu2, c_3, e_4, c_5, c_6] at hth
      · skip
        have c_3 : u1 ≤ u2 := n_nlt (a := u2) (b := u1) (by omega) (by omega) c_3
        have d_3 : ¬ u2 < u1 := Nat.not_lt.mpr c_3
        simp [oNeed, hNeed, needM, xI, xA, xS, xN, c_1, iu1, c_2, iu2, c_3, d_3] at hth
    · skip
      have c_2 := eq_false_of_ne_true c_2
      exact q_th (q_thV (n' := 2) (k' := 6) (y := yX5_requireRiddle) (rest := []) hx hb hml hown hE hT hZ (c_X5_requireRiddle_T l hfl D cI cZ cL ad S x2 hI c_2) ck_X5_requireRiddle w_436 hP 0 rfl rfl hl.1 rfl ⟨Nat.le_of_ble_eq_true rfl, Nat.le_of_ble_eq_true rfl⟩ (Nat.le_of_ble_eq_true rfl) dX5_need_7 ⟨Nat.le_of_ble_eq_true rfl, Nat.le_of_ble_eq_true rfl⟩) hlk hxt (Nat.le_refl _) (Nat.le_refl _) (fun t h1 h2 => ⟨rfl, h2⟩)
  · skip
    have c_1 := eq_false_of_ne_true c_1
    exact q_th (q_thV (n' := 2) (k' := 6) (y := yX5_requireRiddle) (rest := []) hx hb hml hown hE hT hZ (c_X5_requireRiddle_T l hfl D cI cZ cL ad S x1 hI c_1) ck_X5_requireRiddle w_436 hP 0 rfl rfl hl.1 rfl ⟨Nat.le_of_ble_eq_true rfl, Nat.le_of_ble_eq_true rfl⟩ (Nat.le_of_ble_eq_true rfl) dX5_need_2 ⟨Nat.le_of_ble_eq_true rfl, Nat.le_of_ble_eq_true rfl⟩) hlk hxt (Nat.le_refl _) (Nat.le_refl _) (fun t h1 h2 => ⟨rfl, h2⟩)

theorem dX5_need_18 : decode cX5_need 18 = .ok (.dup, 1) := by decide +kernel
theorem dX5_need_19 : decode cX5_need 19 = .ok (.ldc 91, 2) := by decide +kernel
theorem dX5_need_21 : decode cX5_need 21 = .ok (.invokespecial 93, 3) := by decide +kernel
theorem dX5_need_24 : decode cX5_need 24 = .ok (.athrow, 1) := by decide +kernel
set_option maxHeartbeats 4000000 in
set_option maxRecDepth 100000 in
theorem c_X5_need_T1 (l : Launch) (hfl : l.flags = flags0) (D : va_G) (cI cZ cL : ClassId) (ad : Nat → Nat) (S : Mem) (x1 : Int32) (x2 : Int32) (hI : I0 S) (hth : (oNeed S x1 x2).1 = some "java/lang/IllegalArgumentException") : TH l D cI cZ cL yX5_need cX5_need 3 (some .int) 7 [.ref (ad 0), .int x1, .int x2] (wC ad cI S) "java/lang/IllegalArgumentException" := by
  refine TH.of (by decide) (Nat.le_of_ble_eq_true rfl) ?_
  intro p e s m args below meth c ls hx hb hr hml hown hlk hxt hE hT hZ hP hl
  have hl : lv_has ls 3 [(0, .ref (ad 0)), (1, .int x1), (2, .int x2)] := hl
  have hT8 := hI.T8
  have hR16 := hI.R16
  have hN200 := hI.N200
  refine lv_aload_n hx hb dX5_need_0 rfl (lv_at hl 0 rfl) ?_
  refine lv_iload_n hx hb dX5_need_1 rfl (lv_at hl 1 rfl) ?_
  by_cases c_1 : okn x1 (cR S) = true
  · skip
    obtain ⟨u1, hu1, eu1⟩ := okn_t c_1
    subst eu1
    have iu1 : iN (nI u1) = u1 := iN_nI (by omega)
    refine q_rdv (q_runV (rest := []) hx hb hml hown hE (c_X5_requireRiddle l D cI cZ cL ad S u1 hI hu1) ck_X5_requireRiddle w_436 hP 0 rfl rfl hl.1 rfl ⟨Nat.le_of_ble_eq_true rfl, Nat.le_of_ble_eq_true rfl⟩ (Nat.le_of_ble_eq_true rfl) dX5_need_2 ⟨Nat.le_of_ble_eq_true rfl, Nat.le_of_ble_eq_true rfl⟩) ?_
    refine lv_aload_n hx hb dX5_need_5 rfl (lv_at hl 0 rfl) ?_
    refine lv_iload_n hx hb dX5_need_6 rfl (lv_at hl 2 rfl) ?_
    by_cases c_2 : okn x2 (cR S) = true
    · skip
      obtain ⟨u2, hu2, eu2⟩ := okn_t c_2
      subst eu2
      have iu2 : iN (nI u2) = u2 := iN_nI (by omega)
      refine q_rdv (q_runV (rest := []) hx hb hml hown hE (c_X5_requireRiddle l D cI cZ cL ad S u2 hI hu2) ck_X5_requireRiddle w_436 hP 0 rfl rfl hl.1 rfl ⟨Nat.le_of_ble_eq_true rfl, Nat.le_of_ble_eq_true rfl⟩ (Nat.le_of_ble_eq_true rfl) dX5_need_7 ⟨Nat.le_of_ble_eq_true rfl, Nat.le_of_ble_eq_true rfl⟩) ?_
      refine lv_iload_n hx hb dX5_need_10 rfl (lv_at hl 2 rfl) ?_
      refine lv_iload_n hx hb dX5_need_11 rfl (lv_at hl 1 rfl) ?_
      refine lv_icmp_lt (tgt := 25) hx hb dX5_need_12 (by decide) (fun c_3 => ?_) (fun c_3 => ?_)
      · skip
        have c_3 : u2 < u1 := n_lt (a := u2) (b := u1) (by omega) (by omega) c_3
        refine lv_aload_n hx hb dX5_need_25 rfl (lv_at hl 0 rfl) ?_
        refine q_get (v := .int (S 0 11)) hx hb hown hE inT_X5 hP 0 rfl rfl 11 (by decide) w_223 rfl dX5_need_26 ?_
        refine lv_if_ne (tgt := 62) hx hb dX5_need_29 (by decide) (fun c_4 => ?_) (fun c_4 => ?_)
        · skip
          simp [oNeed, hNeed, needM, xI, xA, xS, xN, c_1, iu1, c_2, iu2, c_3, c_4] at hth
        · skip
          have e_4 := eq_true c_4
          refine lv_aload_n hx hb dX5_need_32 rfl (lv_at hl 0 rfl) ?_
          refine q_get (v := .ref (ad 1)) hx hb hown hE inT_X5 hP 0 rfl rfl 0 (by decide) w_212 rfl dX5_need_33 ?_
          refine q_getN (v := .int (S 1 5)) hx hb hown hE inT_X3 hP 1 rfl rfl 5 (by decide) w_102 rfl dX5_need_36 ?_
          refine lv_iload_n hx hb dX5_need_39 rfl (lv_at hl 1 rfl) ?_
          refine q_rd (q_runS (rest := []) hx hb hml hown hE (c_X5_has l D cI cZ cL _ (S 1 5) (nI u1)) ck_X5_has w_298 hP hl.1 rfl ⟨Nat.le_of_ble_eq_true rfl, Nat.le_of_ble_eq_true rfl⟩ (Nat.le_of_ble_eq_true rfl) dX5_need_40 ⟨Nat.le_of_ble_eq_true rfl, Nat.le_of_ble_eq_true rfl⟩) ?_
          refine lv_if_ne (tgt := 62) hx hb dX5_need_43 (by decide) (fun c_5 => ?_) (fun c_5 => ?_)
          · skip
            have c_5 : hs (S 1 5) (nI u1) = true := b_t c_5
            simp [oNeed, hNeed, needM, xI, xA, xS, xN, c_1, iu1, c_2, iu2, c_3, e_4, c_5] at hth
          · skip
            have c_5 : hs (S 1 5) (nI u1) = false := b_f c_5
            refine lv_aload_n hx hb dX5_need_46 rfl (lv_at hl 0 rfl) ?_
            refine q_get (v := .ref (ad 1)) hx hb hown hE inT_X5 hP 0 rfl rfl 0 (by decide) w_212 rfl dX5_need_47 ?_
            refine q_getN (v := .ref (ad 6)) hx hb hown hE inT_X3 hP 1 rfl rfl 4 (by decide) w_101 rfl dX5_need_50 ?_
            refine lv_iload_n hx hb dX5_need_53 rfl (lv_at hl 1 rfl) ?_
            refine q_iald (f := S 6) (i := u1) hx hb hE hP 6 rfl (by omega) (Nat.le_of_ble_eq_true rfl) dX5_need_54 ?_
            refine lv_iload_n hx hb dX5_need_55 rfl (lv_at hl 2 rfl) ?_
            refine q_rd (q_runS (rest := []) hx hb hml hown hE (c_X5_has l D cI cZ cL _ (S 6 u1) (nI u2)) ck_X5_has w_298 hP hl.1 rfl ⟨Nat.le_of_ble_eq_true rfl, Nat.le_of_ble_eq_true rfl⟩ (Nat.le_of_ble_eq_true rfl) dX5_need_56 ⟨Nat.le_of_ble_eq_true rfl, Nat.le_of_ble_eq_true rfl⟩) ?_
            refine lv_if_eq (tgt := 72) hx hb dX5_need_59 (by decide) (fun c_6 => ?_) (fun c_6 => ?_)
            · skip
              have c_6 : hs (S 6 u1) (nI u2) = false := b_f c_6
              refine lv_aload_n hx hb dX5_need_72 rfl (lv_at hl 0 rfl) ?_
              refine q_get (v := .ref (ad 1)) hx hb hown hE inT_X5 hP 0 rfl rfl 0 (by decide) w_212 rfl dX5_need_73 ?_
              refine q_getN (v := .ref (ad 6)) hx hb hown hE inT_X3 hP 1 rfl rfl 4 (by decide) w_101 rfl dX5_need_76 ?_
              refine lv_iload_n hx hb dX5_need_79 rfl (lv_at hl 1 rfl) ?_
              refine lv_dup2_11 hx hb dX5_need_80 rfl rfl ?_
              refine q_iald (f := S 6) (i := u1) hx hb hE hP 6 rfl (by omega) (Nat.le_of_ble_eq_true rfl) dX5_need_81 ?_
              refine lv_iload_n hx hb dX5_need_82 rfl (lv_at hl 2 rfl) ?_
              refine q_rd (q_runS (rest := [.int (S 6 u1), .int (nI u1), .ref (ad 6)]) hx hb hml hown hE (c_X5_bit l D cI cZ cL _ (nI u2)) ck_X5_bit w_458 hP hl.1 rfl ⟨Nat.le_of_ble_eq_true rfl, Nat.le_of_ble_eq_true rfl⟩ (Nat.le_of_ble_eq_true rfl) dX5_need_83 ⟨Nat.le_of_ble_eq_true rfl, Nat.le_of_ble_eq_true rfl⟩) ?_
              refine lv_ior hx hb dX5_need_86 ?_
              simp [oNeed, hNeed, needM, xI, xA, xS, xN, c_1, iu1, c_2, iu2, c_3, e_4, c_5, c_6] at hth
            · skip
              have c_6 : hs (S 6 u1) (nI u2) = true := b_t c_6
              simp [oNeed, hNeed, needM, xI, xA, xS, xN, c_1, iu1, c_2, iu2, c_3, e_4, c_5, c_6] at hth
      · skip
        have c_3 : u1 ≤ u2 := n_nlt (a := u2) (b := u1) (by omega) (by omega) c_3
        have d_3 : ¬ u2 < u1 := Nat.not_lt.mpr c_3
        obtain ⟨sa, hsa⟩ := hT "PuzzleRegistry" 91 "only a riddle with a lower number can be needed" (List.mem_of_getElem? (i := 390) (by decide +kernel))
        exact vx_throwS (rest := []) (A := q_no) (names := tw_names) hx hb (q_flags hfl) hown rfl tw_names_ok (hE.1 _ w_331 args) (hE.1 _ w_71 args) hsa (fun w h => hE.1 w (tw_X5_89_93 w h) args) tw_X5_89_93_g hZ.1 hZ.2 va_S.rf (hl.1.trans hml.symm) dX5_need_15 dX5_need_18 dX5_need_19 dX5_need_21 dX5_need_24 (fun x hx => (hxt x hx).elim) (Nat.le_of_ble_eq_true rfl) (Nat.le_of_ble_eq_true rfl) (Nat.le_of_ble_eq_true rfl) (Nat.le_of_ble_eq_true rfl) hlk (fun t h1 h2 h3 => ⟨rfl, h2, fun q h4 _ => h3 q h4⟩) (fun _ h => nomatch h) (Nat.le_refl _) (Nat.le_refl _)
    · skip
      simp [oNeed, hNeed, needM, xI, xA, xS, xN, c_1, iu1, c_2] at hth
  · skip
    simp [oNeed, hNeed, needM, xI, xA, xS, xN, c_1] at hth

theorem dX5_need_65 : decode cX5_need 65 = .ok (.dup, 1) := by decide +kernel
theorem dX5_need_66 : decode cX5_need 66 = .ok (.ldc 104, 2) := by decide +kernel
theorem dX5_need_68 : decode cX5_need 68 = .ok (.invokespecial 69, 3) := by decide +kernel
theorem dX5_need_71 : decode cX5_need 71 = .ok (.athrow, 1) := by decide +kernel
set_option maxHeartbeats 4000000 in
set_option maxRecDepth 100000 in
theorem c_X5_need_T2 (l : Launch) (hfl : l.flags = flags0) (D : va_G) (cI cZ cL : ClassId) (ad : Nat → Nat) (S : Mem) (x1 : Int32) (x2 : Int32) (hI : I0 S) (hth : (oNeed S x1 x2).1 = some "java/lang/IllegalStateException") : TH l D cI cZ cL yX5_need cX5_need 3 (some .int) 7 [.ref (ad 0), .int x1, .int x2] (wC ad cI S) "java/lang/IllegalStateException" := by
  refine TH.of (by decide) (Nat.le_of_ble_eq_true rfl) ?_
  intro p e s m args below meth c ls hx hb hr hml hown hlk hxt hE hT hZ hP hl
  have hl : lv_has ls 3 [(0, .ref (ad 0)), (1, .int x1), (2, .int x2)] := hl
  have hT8 := hI.T8
  have hR16 := hI.R16
  have hN200 := hI.N200
  refine lv_aload_n hx hb dX5_need_0 rfl (lv_at hl 0 rfl) ?_
  refine lv_iload_n hx hb dX5_need_1 rfl (lv_at hl 1 rfl) ?_
  by_cases c_1 : okn x1 (cR S) = true
  · skip
    obtain ⟨u1, hu1, eu1⟩ := okn_t c_1
    subst eu1
    have iu1 : iN (nI u1) = u1 := iN_nI (by omega)
    refine q_rdv (q_runV (rest := []) hx hb hml hown hE (c_X5_requireRiddle l D cI cZ cL ad S u1 hI hu1) ck_X5_requireRiddle w_436 hP 0 rfl rfl hl.1 rfl ⟨Nat.le_of_ble_eq_true rfl, Nat.le_of_ble_eq_true rfl⟩ (Nat.le_of_ble_eq_true rfl) dX5_need_2 ⟨Nat.le_of_ble_eq_true rfl, Nat.le_of_ble_eq_true rfl⟩) ?_
    refine lv_aload_n hx hb dX5_need_5 rfl (lv_at hl 0 rfl) ?_
    refine lv_iload_n hx hb dX5_need_6 rfl (lv_at hl 2 rfl) ?_
    by_cases c_2 : okn x2 (cR S) = true
    · skip
      obtain ⟨u2, hu2, eu2⟩ := okn_t c_2
      subst eu2
      have iu2 : iN (nI u2) = u2 := iN_nI (by omega)
      refine q_rdv (q_runV (rest := []) hx hb hml hown hE (c_X5_requireRiddle l D cI cZ cL ad S u2 hI hu2) ck_X5_requireRiddle w_436 hP 0 rfl rfl hl.1 rfl ⟨Nat.le_of_ble_eq_true rfl, Nat.le_of_ble_eq_true rfl⟩ (Nat.le_of_ble_eq_true rfl) dX5_need_7 ⟨Nat.le_of_ble_eq_true rfl, Nat.le_of_ble_eq_true rfl⟩) ?_
      refine lv_iload_n hx hb dX5_need_10 rfl (lv_at hl 2 rfl) ?_
      refine lv_iload_n hx hb dX5_need_11 rfl (lv_at hl 1 rfl) ?_
      refine lv_icmp_lt (tgt := 25) hx hb dX5_need_12 (by decide) (fun c_3 => ?_) (fun c_3 => ?_)
      · skip
        have c_3 : u2 < u1 := n_lt (a := u2) (b := u1) (by omega) (by omega) c_3
        refine lv_aload_n hx hb dX5_need_25 rfl (lv_at hl 0 rfl) ?_
        refine q_get (v := .int (S 0 11)) hx hb hown hE inT_X5 hP 0 rfl rfl 11 (by decide) w_223 rfl dX5_need_26 ?_
        refine lv_if_ne (tgt := 62) hx hb dX5_need_29 (by decide) (fun c_4 => ?_) (fun c_4 => ?_)
        · skip
          obtain ⟨sa, hsa⟩ := hT "PuzzleRegistry" 104 "the riddle can't need this one any more" (List.mem_of_getElem? (i := 391) (by decide +kernel))
          exact vx_throwS (rest := []) (A := q_no) (names := tw_names) hx hb (q_flags hfl) hown rfl tw_names_ok (hE.1 _ w_400 args) (hE.1 _ w_72 args) hsa (fun w h => hE.1 w (tw_X5_65_69 w h) args) tw_X5_65_69_g hZ.1 hZ.2 va_S.rf (hl.1.trans hml.symm) dX5_need_62 dX5_need_65 dX5_need_66 dX5_need_68 dX5_need_71 (fun x hx => (hxt x hx).elim) (Nat.le_of_ble_eq_true rfl) (Nat.le_of_ble_eq_true rfl) (Nat.le_of_ble_eq_true rfl) (Nat.le_of_ble_eq_true rfl) hlk (fun t h1 h2 h3 => ⟨rfl, h2, fun q h4 _ => h3 q h4⟩) (fun _ h => nomatch h) (Nat.le_refl _) (Nat.le_refl _)
        · skip
          have e_4 := eq_true c_4
          refine lv_aload_n hx hb dX5_need_32 rfl (lv_at hl 0 rfl) ?_
          refine q_get (v := .ref (ad 1)) hx hb hown hE inT_X5 hP 0 rfl rfl 0 (by decide) w_212 rfl dX5_need_33 ?_
          refine q_getN (v := .int (S 1 5)) hx hb hown hE inT_X3 hP 1 rfl rfl 5 (by decide) w_102 rfl dX5_need_36 ?_
          refine lv_iload_n hx hb dX5_need_39 rfl (lv_at hl 1 rfl) ?_
          refine q_rd (q_runS (rest := []) hx hb hml hown hE (c_X5_has l D cI cZ cL _ (S 1 5) (nI u1)) ck_X5_has w_298 hP hl.1 rfl ⟨Nat.le_of_ble_eq_true rfl, Nat.le_of_ble_eq_true rfl⟩ (Nat.le_of_ble_eq_true rfl) dX5_need_40 ⟨Nat.le_of_ble_eq_true rfl, Nat.le_of_ble_eq_true rfl⟩) ?_
          refine lv_if_ne (tgt := 62) hx hb dX5_need_43 (by decide) (fun c_5 => ?_) (fun c_5 => ?_)
          · skip
            have c_5 : hs (S 1 5) (nI u1) = true := b_t c_5
            obtain ⟨sa, hsa⟩ := hT "PuzzleRegistry" 104 "the riddle can't need this one any more" (List.mem_of_getElem? (i := 391) (by decide +kernel))
            exact vx_throwS (rest := []) (A := q_no) (names := tw_names) hx hb (q_flags hfl) hown rfl tw_names_ok (hE.1 _ w_400 args) (hE.1 _ w_72 args) hsa (fun w h => hE.1 w (tw_X5_65_69 w h) args) tw_X5_65_69_g hZ.1 hZ.2 va_S.rf (hl.1.trans hml.symm) dX5_need_62 dX5_need_65 dX5_need_66 dX5_need_68 dX5_need_71 (fun x hx => (hxt x hx).elim) (Nat.le_of_ble_eq_true rfl) (Nat.le_of_ble_eq_true rfl) (Nat.le_of_ble_eq_true rfl) (Nat.le_of_ble_eq_true rfl) hlk (fun t h1 h2 h3 => ⟨rfl, h2, fun q h4 _ => h3 q h4⟩) (fun _ h => nomatch h) (Nat.le_refl _) (Nat.le_refl _)
          · skip
            have c_5 : hs (S 1 5) (nI u1) = false := b_f c_5
            refine lv_aload_n hx hb dX5_need_46 rfl (lv_at hl 0 rfl) ?_
            refine q_get (v := .ref (ad 1)) hx hb hown hE inT_X5 hP 0 rfl rfl 0 (by decide) w_212 rfl dX5_need_47 ?_
            refine q_getN (v := .ref (ad 6)) hx hb hown hE inT_X3 hP 1 rfl rfl 4 (by decide) w_101 rfl dX5_need_50 ?_
            refine lv_iload_n hx hb dX5_need_53 rfl (lv_at hl 1 rfl) ?_
            refine q_iald (f := S 6) (i := u1) hx hb hE hP 6 rfl (by omega) (Nat.le_of_ble_eq_true rfl) dX5_need_54 ?_
            refine lv_iload_n hx hb dX5_need_55 rfl (lv_at hl 2 rfl) ?_
            refine q_rd (q_runS (rest := []) hx hb hml hown hE (c_X5_has l D cI cZ cL _ (S 6 u1) (nI u2)) ck_X5_has w_298 hP hl.1 rfl ⟨Nat.le_of_ble_eq_true rfl, Nat.le_of_ble_eq_true rfl⟩ (Nat.le_of_ble_eq_true rfl) dX5_need_56 ⟨Nat.le_of_ble_eq_true rfl, Nat.le_of_ble_eq_true rfl⟩) ?_
            refine lv_if_eq (tgt := 72) hx hb dX5_need_59 (by decide) (fun c_6 => ?_) (fun c_6 => ?_)
            · skip
              have c_6 : hs (S 6 u1) (nI u2) = false := b_f c_6
              refine lv_aload_n hx hb dX5_need_72 rfl (lv_at hl 0 rfl) ?_
              refine q_get (v := .ref (ad 1)) hx hb hown hE inT_X5 hP 0 rfl rfl 0 (by decide) w_212 rfl dX5_need_73 ?_
              refine q_getN (v := .ref (ad 6)) hx hb hown hE inT_X3 hP 1 rfl rfl 4 (by decide) w_101 rfl dX5_need_76 ?_
              refine lv_iload_n hx hb dX5_need_79 rfl (lv_at hl 1 rfl) ?_
              refine lv_dup2_11 hx hb dX5_need_80 rfl rfl ?_
              refine q_iald (f := S 6) (i := u1) hx hb hE hP 6 rfl (by omega) (Nat.le_of_ble_eq_true rfl) dX5_need_81 ?_
              refine lv_iload_n hx hb dX5_need_82 rfl (lv_at hl 2 rfl) ?_
              refine q_rd (q_runS (rest := [.int (S 6 u1), .int (nI u1), .ref (ad 6)]) hx hb hml hown hE (c_X5_bit l D cI cZ cL _ (nI u2)) ck_X5_bit w_458 hP hl.1 rfl ⟨Nat.le_of_ble_eq_true rfl, Nat.le_of_ble_eq_true rfl⟩ (Nat.le_of_ble_eq_true rfl) dX5_need_83 ⟨Nat.le_of_ble_eq_true rfl, Nat.le_of_ble_eq_true rfl⟩) ?_
              refine lv_ior hx hb dX5_need_86 ?_
              simp [oNeed, hNeed, needM, xI, xA, xS, xN, c_1, iu1, c_2, iu2, c_3, e_4, c_5, c_6] at hth
            · skip
              have c_6 : hs (S 6 u1) (nI u2) = true := b_t c_6
              obtain ⟨sa, hsa⟩ := hT "PuzzleRegistry" 104 "the riddle can't need this one any more" (List.mem_of_getElem? (i := 391) (by decide +kernel))
              exact vx_throwS (rest := []) (A := q_no) (names := tw_names) hx hb (q_flags hfl) hown rfl tw_names_ok (hE.1 _ w_400 args) (hE.1 _ w_72 args) hsa (fun w h => hE.1 w (tw_X5_65_69 w h) args) tw_X5_65_69_g hZ.1 hZ.2 va_S.rf (hl.1.trans hml.symm) dX5_need_62 dX5_need_65 dX5_need_66 dX5_need_68 dX5_need_71 (fun x hx => (hxt x hx).elim) (Nat.le_of_ble_eq_true rfl) (Nat.le_of_ble_eq_true rfl) (Nat.le_of_ble_eq_true rfl) (Nat.le_of_ble_eq_true rfl) hlk (fun t h1 h2 h3 => ⟨rfl, h2, fun q h4 _ => h3 q h4⟩) (fun _ h => nomatch h) (Nat.le_refl _) (Nat.le_refl _)
      · skip
        have c_3 : u1 ≤ u2 := n_nlt (a := u2) (b := u1) (by omega) (by omega) c_3
        have d_3 : ¬ u2 < u1 := Nat.not_lt.mpr c_3
        simp [oNeed, hNeed, needM, xI, xA, xS, xN, c_1, iu1, c_2, iu2, c_3, d_3] at hth
    · skip
      simp [oNeed, hNeed, needM, xI, xA, xS, xN, c_1, iu1, c_2] at hth
  · skip
    simp [oNeed, hNeed, needM, xI, xA, xS, xN, c_1] at hth

theorem dX5_addTeam_0 : decode cX5_addTeam 0 = .ok (.aload_n 0, 1) := by decide +kernel
theorem dX5_addTeam_1 : decode cX5_addTeam 1 = .ok (.getfield 72, 3) := by decide +kernel
theorem dX5_addTeam_4 : decode cX5_addTeam 4 = .ok (.ifCond .ne 12, 3) := by decide +kernel
theorem dX5_addTeam_7 : decode cX5_addTeam 7 = .ok (.aload_n 0, 1) := by decide +kernel
theorem dX5_addTeam_8 : decode cX5_addTeam 8 = .ok (.getfield 115, 3) := by decide +kernel
theorem dX5_addTeam_11 : decode cX5_addTeam 11 = .ok (.bipush 8, 2) := by decide +kernel
theorem dX5_addTeam_13 : decode cX5_addTeam 13 = .ok (.if_icmp .lt 13, 3) := by decide +kernel
theorem dX5_addTeam_16 : decode cX5_addTeam 16 = .ok (.new 65, 3) := by decide +kernel
theorem dX5_addTeam_26 : decode cX5_addTeam 26 = .ok (.aload_n 0, 1) := by decide +kernel
theorem dX5_addTeam_27 : decode cX5_addTeam 27 = .ok (.dup, 1) := by decide +kernel
theorem dX5_addTeam_28 : decode cX5_addTeam 28 = .ok (.getfield 115, 3) := by decide +kernel
theorem dX5_addTeam_31 : decode cX5_addTeam 31 = .ok (.dup_x1, 1) := by decide +kernel
theorem dX5_addTeam_32 : decode cX5_addTeam 32 = .ok (.iconst 1, 1) := by decide +kernel
theorem dX5_addTeam_33 : decode cX5_addTeam 33 = .ok (.iadd, 1) := by decide +kernel
theorem dX5_addTeam_34 : decode cX5_addTeam 34 = .ok (.putfield 115, 3) := by decide +kernel
theorem dX5_addTeam_37 : decode cX5_addTeam 37 = .ok (.ireturn, 1) := by decide +kernel
set_option maxHeartbeats 4000000 in
set_option maxRecDepth 100000 in
theorem c_X5_addTeam (l : Launch) (D : va_G) (cI cZ cL : ClassId) (ad : Nat → Nat) (S : Mem) (A : Nat → Prop) (hD : va_D A (wC ad cI S)) (hI : I0 S) (hth : (oAddT S).1 = none) : WR l D cI cZ cL yX5_addTeam cX5_addTeam 1 (some .int) 7 [.ref (ad 0)] A (wC ad cI S) (wC ad cI ((oAddT S).2.2)) (some (.int ((oAddT S).2.1))) := by
  refine WR.of (by decide) (Nat.le_of_ble_eq_true rfl) ?_
  intro p e s m args below meth c ls hx hb hr hml hown hlk hE hP hS hl
  have hl : lv_has ls 1 [(0, .ref (ad 0))] := hl
  have hT8 := hI.T8
  have hR16 := hI.R16
  have hN200 := hI.N200
  refine lv_aload_n hx hb dX5_addTeam_0 rfl (lv_at hl 0 rfl) ?_
  refine q_get (v := .int (S 0 11)) hx hb hown hE inT_X5 hP 0 rfl rfl 11 (by decide) w_223 rfl dX5_addTeam_1 ?_
  refine lv_if_ne (tgt := 16) hx hb dX5_addTeam_4 (by decide) (fun c_1 => ?_) (fun c_1 => ?_)
  · skip
    simp [oAddT, xI, xA, xS, xN, c_1] at hth
  · skip
    have e_1 := eq_true c_1
    refine lv_aload_n hx hb dX5_addTeam_7 rfl (lv_at hl 0 rfl) ?_
    refine q_get (v := .int (S 0 9)) hx hb hown hE inT_X5 hP 0 rfl rfl 9 (by decide) w_221 rfl dX5_addTeam_8 ?_
    refine q_top (y := nI (cT S)) (I0.T hI) ?_
    refine lv_bipush (v := 8) hx hb dX5_addTeam_11 (by decide) ?_
    refine lv_icmp_lt (tgt := 26) hx hb dX5_addTeam_13 (by decide) (fun c_2 => ?_) (fun c_2 => ?_)
    · skip
      have c_2 : (cT S) < 8 := n_lt (a := cT S) (b := 8) (by omega) (by omega) c_2
      refine lv_aload_n hx hb dX5_addTeam_26 rfl (lv_at hl 0 rfl) ?_
      refine lv_dup hx hb dX5_addTeam_27 rfl ?_
      refine q_get (v := .int (S 0 9)) hx hb hown hE inT_X5 hP 0 rfl rfl 9 (by decide) w_221 rfl dX5_addTeam_28 ?_
      refine q_top (y := nI (cT S)) (I0.T hI) ?_
      refine lv_dup_x1 hx hb dX5_addTeam_31 rfl rfl ?_
      refine lv_iconst (v := 1) hx hb dX5_addTeam_32 (by decide) ?_
      refine lv_iadd hx hb dX5_addTeam_33 ?_
      refine q_top (y := nI ((cT S) + 1)) (nI_add (cT S) 1) ?_
      refine q_put (ty0 := tyX5) (ws' := (wC ad cI (st S 0 9 (nI ((cT S) + 1))))) (v := .int (nI ((cT S) + 1))) hx hb hown hE inT_X5 tyX5_ok nmX5 hP (wC_D hD) hS 0 rfl rfl 9 (by decide) w_221 rfl rfl rfl (Nat.le_of_ble_eq_true rfl) rfl dX5_addTeam_34 (fun H locs hP hS => ?_)
      rw [show oAddT S = (none, nI (cT S), st S 0 9 (nI ((cT S) + 1))) from by first | (simp only [oAddT, e_1, c_2, ↓reduceIte]; done) | (simp only [oAddT, e_1, c_2, ↓reduceIte]; rfl) | (simp [oAddT, e_1, c_2]; done) | (simp [oAddT, e_1, c_2]; rfl)]
      exact e_wret hx hb hr hlk rfl hP hS dX5_addTeam_37
    · skip
      have c_2 : 8 ≤ (cT S) := n_nlt (a := cT S) (b := 8) (by omega) (by omega) c_2
      have d_2 : ¬ (cT S) < 8 := Nat.not_lt.mpr c_2
      simp [oAddT, xI, xA, xS, xN, e_1, c_2, d_2] at hth

theorem dX5_addTeam_19 : decode cX5_addTeam 19 = .ok (.dup, 1) := by decide +kernel
theorem dX5_addTeam_20 : decode cX5_addTeam 20 = .ok (.ldc 118, 2) := by decide +kernel
theorem dX5_addTeam_22 : decode cX5_addTeam 22 = .ok (.invokespecial 69, 3) := by decide +kernel
theorem dX5_addTeam_25 : decode cX5_addTeam 25 = .ok (.athrow, 1) := by decide +kernel
set_option maxHeartbeats 4000000 in
set_option maxRecDepth 100000 in
theorem c_X5_addTeam_T0 (l : Launch) (hfl : l.flags = flags0) (D : va_G) (cI cZ cL : ClassId) (ad : Nat → Nat) (S : Mem) (hI : I0 S) (hth : (oAddT S).1 = some "java/lang/IllegalStateException") : TH l D cI cZ cL yX5_addTeam cX5_addTeam 1 (some .int) 7 [.ref (ad 0)] (wC ad cI S) "java/lang/IllegalStateException" := by
  refine TH.of (by decide) (Nat.le_of_ble_eq_true rfl) ?_
  intro p e s m args below meth c ls hx hb hr hml hown hlk hxt hE hT hZ hP hl
  have hl : lv_has ls 1 [(0, .ref (ad 0))] := hl
  have hT8 := hI.T8
  have hR16 := hI.R16
  have hN200 := hI.N200
  refine lv_aload_n hx hb dX5_addTeam_0 rfl (lv_at hl 0 rfl) ?_
  refine q_get (v := .int (S 0 11)) hx hb hown hE inT_X5 hP 0 rfl rfl 11 (by decide) w_223 rfl dX5_addTeam_1 ?_
  refine lv_if_ne (tgt := 16) hx hb dX5_addTeam_4 (by decide) (fun c_1 => ?_) (fun c_1 => ?_)
  · skip
    obtain ⟨sa, hsa⟩ := hT "PuzzleRegistry" 118 "no more teams are taken" (List.mem_of_getElem? (i := 405) (by decide +kernel))
    exact vx_throwS (rest := []) (A := q_no) (names := tw_names) hx hb (q_flags hfl) hown rfl tw_names_ok (hE.1 _ w_400 args) (hE.1 _ w_72 args) hsa (fun w h => hE.1 w (tw_X5_65_69 w h) args) tw_X5_65_69_g hZ.1 hZ.2 va_S.rf (hl.1.trans hml.symm) dX5_addTeam_16 dX5_addTeam_19 dX5_addTeam_20 dX5_addTeam_22 dX5_addTeam_25 (fun x hx => (hxt x hx).elim) (Nat.le_of_ble_eq_true rfl) (Nat.le_of_ble_eq_true rfl) (Nat.le_of_ble_eq_true rfl) (Nat.le_of_ble_eq_true rfl) hlk (fun t h1 h2 h3 => ⟨rfl, h2, fun q h4 _ => h3 q h4⟩) (fun _ h => nomatch h) (Nat.le_refl _) (Nat.le_refl _)
  · skip
    have e_1 := eq_true c_1
    refine lv_aload_n hx hb dX5_addTeam_7 rfl (lv_at hl 0 rfl) ?_
    refine q_get (v := .int (S 0 9)) hx hb hown hE inT_X5 hP 0 rfl rfl 9 (by decide) w_221 rfl dX5_addTeam_8 ?_
    refine q_top (y := nI (cT S)) (I0.T hI) ?_
    refine lv_bipush (v := 8) hx hb dX5_addTeam_11 (by decide) ?_
    refine lv_icmp_lt (tgt := 26) hx hb dX5_addTeam_13 (by decide) (fun c_2 => ?_) (fun c_2 => ?_)
    · skip
      have c_2 : (cT S) < 8 := n_lt (a := cT S) (b := 8) (by omega) (by omega) c_2
      refine lv_aload_n hx hb dX5_addTeam_26 rfl (lv_at hl 0 rfl) ?_
      refine lv_dup hx hb dX5_addTeam_27 rfl ?_
      refine q_get (v := .int (S 0 9)) hx hb hown hE inT_X5 hP 0 rfl rfl 9 (by decide) w_221 rfl dX5_addTeam_28 ?_
      refine q_top (y := nI (cT S)) (I0.T hI) ?_
      refine lv_dup_x1 hx hb dX5_addTeam_31 rfl rfl ?_
      refine lv_iconst (v := 1) hx hb dX5_addTeam_32 (by decide) ?_
      refine lv_iadd hx hb dX5_addTeam_33 ?_
      refine q_top (y := nI ((cT S) + 1)) (nI_add (cT S) 1) ?_
      simp [oAddT, xI, xA, xS, xN, e_1, c_2] at hth
    · skip
      have c_2 : 8 ≤ (cT S) := n_nlt (a := cT S) (b := 8) (by omega) (by omega) c_2
      have d_2 : ¬ (cT S) < 8 := Nat.not_lt.mpr c_2
      obtain ⟨sa, hsa⟩ := hT "PuzzleRegistry" 118 "no more teams are taken" (List.mem_of_getElem? (i := 405) (by decide +kernel))
      exact vx_throwS (rest := []) (A := q_no) (names := tw_names) hx hb (q_flags hfl) hown rfl tw_names_ok (hE.1 _ w_400 args) (hE.1 _ w_72 args) hsa (fun w h => hE.1 w (tw_X5_65_69 w h) args) tw_X5_65_69_g hZ.1 hZ.2 va_S.rf (hl.1.trans hml.symm) dX5_addTeam_16 dX5_addTeam_19 dX5_addTeam_20 dX5_addTeam_22 dX5_addTeam_25 (fun x hx => (hxt x hx).elim) (Nat.le_of_ble_eq_true rfl) (Nat.le_of_ble_eq_true rfl) (Nat.le_of_ble_eq_true rfl) (Nat.le_of_ble_eq_true rfl) hlk (fun t h1 h2 h3 => ⟨rfl, h2, fun q h4 _ => h3 q h4⟩) (fun _ h => nomatch h) (Nat.le_refl _) (Nat.le_refl _)

theorem dX5_end_0 : decode cX5_end 0 = .ok (.aload_n 0, 1) := by decide +kernel
theorem dX5_end_1 : decode cX5_end 1 = .ok (.getfield 72, 3) := by decide +kernel
theorem dX5_end_4 : decode cX5_end 4 = .ok (.ifCond .eq 13, 3) := by decide +kernel
theorem dX5_end_7 : decode cX5_end 7 = .ok (.new 65, 3) := by decide +kernel
theorem dX5_end_17 : decode cX5_end 17 = .ok (.aload_n 0, 1) := by decide +kernel
theorem dX5_end_18 : decode cX5_end 18 = .ok (.iconst 1, 1) := by decide +kernel
theorem dX5_end_19 : decode cX5_end 19 = .ok (.putfield 72, 3) := by decide +kernel
theorem dX5_end_22 : decode cX5_end 22 = .ok (.aload_n 0, 1) := by decide +kernel
theorem dX5_end_23 : decode cX5_end 23 = .ok (.aload_n 0, 1) := by decide +kernel
theorem dX5_end_24 : decode cX5_end 24 = .ok (.getfield 40, 3) := by decide +kernel
theorem dX5_end_27 : decode cX5_end 27 = .ok (.invokevirtual 122, 3) := by decide +kernel
theorem dX5_end_30 : decode cX5_end 30 = .ok (.invokestatic 110, 3) := by decide +kernel
theorem dX5_end_33 : decode cX5_end 33 = .ok (.ireturn, 1) := by decide +kernel
set_option maxHeartbeats 4000000 in
set_option maxRecDepth 100000 in
theorem c_X5_end (l : Launch) (D : va_G) (cI cZ cL : ClassId) (ad : Nat → Nat) (S : Mem) (A : Nat → Prop) (hD : va_D A (wC ad cI S)) (hI : I0 S) (hth : (oEnd S).1 = none) : WR l D cI cZ cL yX5_end cX5_end 1 (some .int) 7 [.ref (ad 0)] A (wC ad cI S) (wC ad cI ((oEnd S).2.2)) (some (.int ((oEnd S).2.1))) := by
  refine WR.of (by decide) (Nat.le_of_ble_eq_true rfl) ?_
  intro p e s m args below meth c ls hx hb hr hml hown hlk hE hP hS hl
  have hl : lv_has ls 1 [(0, .ref (ad 0))] := hl
  have hT8 := hI.T8
  have hR16 := hI.R16
  have hN200 := hI.N200
  refine lv_aload_n hx hb dX5_end_0 rfl (lv_at hl 0 rfl) ?_
  refine q_get (v := .int (S 0 11)) hx hb hown hE inT_X5 hP 0 rfl rfl 11 (by decide) w_223 rfl dX5_end_1 ?_
  refine lv_if_eq (tgt := 17) hx hb dX5_end_4 (by decide) (fun c_1 => ?_) (fun c_1 => ?_)
  · skip
    have e_1 := eq_true c_1
    refine lv_aload_n hx hb dX5_end_17 rfl (lv_at hl 0 rfl) ?_
    refine lv_iconst (v := 1) hx hb dX5_end_18 (by decide) ?_
    refine q_put (ty0 := tyX5) (ws' := (wC ad cI (st S 0 11 1))) (v := .int 1) hx hb hown hE inT_X5 tyX5_ok nmX5 hP (wC_D hD) hS 0 rfl rfl 11 (by decide) w_223 rfl (by decide) rfl (Nat.le_of_ble_eq_true rfl) rfl dX5_end_19 (fun H locs hP hS => ?_)
    have hI_e : I0 (st S 0 11 1) := I0_0 (by decide) hI
    refine lv_aload_n hx hb dX5_end_22 rfl (lv_at hl 0 rfl) ?_
    refine lv_aload_n hx hb dX5_end_23 rfl (lv_at hl 0 rfl) ?_
    refine q_get (v := .ref (ad 18)) hx hb hown hE inT_X5 hP 0 rfl rfl 4 (by decide) w_216 rfl dX5_end_24 ?_
    refine q_rd (q_runV (rest := []) hx hb hml hown hE (c_X5_freeSet_18 l D cI cZ cL ad (st S 0 11 1) hI_e) ck_X5_freeSet w_290 hP 0 rfl rfl hl.1 rfl ⟨Nat.le_of_ble_eq_true rfl, Nat.le_of_ble_eq_true rfl⟩ (Nat.le_of_ble_eq_true rfl) dX5_end_27 ⟨Nat.le_of_ble_eq_true rfl, Nat.le_of_ble_eq_true rfl⟩) ?_
    refine q_rd (q_runS (rest := []) hx hb hml hown hE (c_J6_bitCount_0f7a4 l D cI cZ cL _ (p_free (st S 0 11 1) 18 (cT (st S 0 11 1)))) ck_J6_bitCount_0f7a4 w_459 hP hl.1 rfl ⟨Nat.le_of_ble_eq_true rfl, Nat.le_of_ble_eq_true rfl⟩ (Nat.le_of_ble_eq_true rfl) dX5_end_30 ⟨Nat.le_of_ble_eq_true rfl, Nat.le_of_ble_eq_true rfl⟩) ?_
    rw [show oEnd S = (none, p_bc (p_free (st S 0 11 1) 18 (cT (st S 0 11 1))), st S 0 11 1) from by first | (simp only [oEnd, e_1, ↓reduceIte]; done) | (simp only [oEnd, e_1, ↓reduceIte]; rfl) | (simp [oEnd, e_1]; done) | (simp [oEnd, e_1]; rfl)]
    exact e_wret hx hb hr hlk rfl hP hS dX5_end_33
  · skip
    simp [oEnd, xI, xA, xS, xN, c_1] at hth

theorem dX5_end_10 : decode cX5_end 10 = .ok (.dup, 1) := by decide +kernel
theorem dX5_end_11 : decode cX5_end 11 = .ok (.ldc 120, 2) := by decide +kernel
theorem dX5_end_13 : decode cX5_end 13 = .ok (.invokespecial 69, 3) := by decide +kernel
theorem dX5_end_16 : decode cX5_end 16 = .ok (.athrow, 1) := by decide +kernel
set_option maxHeartbeats 4000000 in
set_option maxRecDepth 100000 in
theorem c_X5_end_T0 (l : Launch) (hfl : l.flags = flags0) (D : va_G) (cI cZ cL : ClassId) (ad : Nat → Nat) (S : Mem) (hI : I0 S) (hth : (oEnd S).1 = some "java/lang/IllegalStateException") : TH l D cI cZ cL yX5_end cX5_end 1 (some .int) 7 [.ref (ad 0)] (wC ad cI S) "java/lang/IllegalStateException" := by
  refine TH.of (by decide) (Nat.le_of_ble_eq_true rfl) ?_
  intro p e s m args below meth c ls hx hb hr hml hown hlk hxt hE hT hZ hP hl
  have hl : lv_has ls 1 [(0, .ref (ad 0))] := hl
  have hT8 := hI.T8
  have hR16 := hI.R16
  have hN200 := hI.N200
  refine lv_aload_n hx hb dX5_end_0 rfl (lv_at hl 0 rfl) ?_
  refine q_get (v := .int (S 0 11)) hx hb hown hE inT_X5 hP 0 rfl rfl 11 (by decide) w_223 rfl dX5_end_1 ?_
  refine lv_if_eq (tgt := 17) hx hb dX5_end_4 (by decide) (fun c_1 => ?_) (fun c_1 => ?_)
  · skip
    have e_1 := eq_true c_1
    refine lv_aload_n hx hb dX5_end_17 rfl (lv_at hl 0 rfl) ?_
    refine lv_iconst (v := 1) hx hb dX5_end_18 (by decide) ?_
    simp [oEnd, xI, xA, xS, xN, e_1] at hth
  · skip
    obtain ⟨sa, hsa⟩ := hT "PuzzleRegistry" 120 "it has ended" (List.mem_of_getElem? (i := 410) (by decide +kernel))
    exact vx_throwS (rest := []) (A := q_no) (names := tw_names) hx hb (q_flags hfl) hown rfl tw_names_ok (hE.1 _ w_400 args) (hE.1 _ w_72 args) hsa (fun w h => hE.1 w (tw_X5_65_69 w h) args) tw_X5_65_69_g hZ.1 hZ.2 va_S.rf (hl.1.trans hml.symm) dX5_end_7 dX5_end_10 dX5_end_11 dX5_end_13 dX5_end_16 (fun x hx => (hxt x hx).elim) (Nat.le_of_ble_eq_true rfl) (Nat.le_of_ble_eq_true rfl) (Nat.le_of_ble_eq_true rfl) (Nat.le_of_ble_eq_true rfl) hlk (fun t h1 h2 h3 => ⟨rfl, h2, fun q h4 _ => h3 q h4⟩) (fun _ h => nomatch h) (Nat.le_refl _) (Nat.le_refl _)

theorem dX5_answer_0 : decode cX5_answer 0 = .ok (.aload_n 0, 1) := by decide +kernel
theorem dX5_answer_1 : decode cX5_answer 1 = .ok (.iload_n 1, 1) := by decide +kernel
theorem dX5_answer_2 : decode cX5_answer 2 = .ok (.invokevirtual 126, 3) := by decide +kernel
theorem dX5_answer_5 : decode cX5_answer 5 = .ok (.aload_n 0, 1) := by decide +kernel
theorem dX5_answer_6 : decode cX5_answer 6 = .ok (.iload_n 2, 1) := by decide +kernel
theorem dX5_answer_7 : decode cX5_answer 7 = .ok (.invokevirtual 85, 3) := by decide +kernel
theorem dX5_answer_10 : decode cX5_answer 10 = .ok (.iload_n 3, 1) := by decide +kernel
theorem dX5_answer_11 : decode cX5_answer 11 = .ok (.iconst 0, 1) := by decide +kernel
theorem dX5_answer_12 : decode cX5_answer 12 = .ok (.sipush 9999, 3) := by decide +kernel
theorem dX5_answer_15 : decode cX5_answer 15 = .ok (.invokestatic 57, 3) := by decide +kernel
theorem dX5_answer_18 : decode cX5_answer 18 = .ok (.aload_n 0, 1) := by decide +kernel
theorem dX5_answer_19 : decode cX5_answer 19 = .ok (.iload_n 1, 1) := by decide +kernel
theorem dX5_answer_20 : decode cX5_answer 20 = .ok (.iload_n 2, 1) := by decide +kernel
theorem dX5_answer_21 : decode cX5_answer 21 = .ok (.invokevirtual 129, 3) := by decide +kernel
theorem dX5_answer_24 : decode cX5_answer 24 = .ok (.ifCond .eq 16, 3) := by decide +kernel
theorem dX5_answer_27 : decode cX5_answer 27 = .ok (.aload_n 0, 1) := by decide +kernel
theorem dX5_answer_28 : decode cX5_answer 28 = .ok (.getfield 19, 3) := by decide +kernel
theorem dX5_answer_31 : decode cX5_answer 31 = .ok (.getfield 132, 3) := by decide +kernel
theorem dX5_answer_34 : decode cX5_answer 34 = .ok (.sipush 200, 3) := by decide +kernel
theorem dX5_answer_37 : decode cX5_answer 37 = .ok (.if_icmp .lt 13, 3) := by decide +kernel
theorem dX5_answer_40 : decode cX5_answer 40 = .ok (.new 65, 3) := by decide +kernel
theorem dX5_answer_50 : decode cX5_answer 50 = .ok (.iload_n 3, 1) := by decide +kernel
theorem dX5_answer_51 : decode cX5_answer 51 = .ok (.aload_n 0, 1) := by decide +kernel
theorem dX5_answer_52 : decode cX5_answer 52 = .ok (.getfield 10, 3) := by decide +kernel
theorem dX5_answer_55 : decode cX5_answer 55 = .ok (.getfield 135, 3) := by decide +kernel
theorem dX5_answer_58 : decode cX5_answer 58 = .ok (.iload_n 2, 1) := by decide +kernel
theorem dX5_answer_59 : decode cX5_answer 59 = .ok (.iaload, 1) := by decide +kernel
theorem dX5_answer_60 : decode cX5_answer 60 = .ok (.if_icmp .ne 7, 3) := by decide +kernel
theorem dX5_answer_63 : decode cX5_answer 63 = .ok (.iconst 1, 1) := by decide +kernel
theorem dX5_answer_64 : decode cX5_answer 64 = .ok (.goto 4, 3) := by decide +kernel
theorem dX5_answer_67 : decode cX5_answer 67 = .ok (.iconst 0, 1) := by decide +kernel
theorem dX5_answer_68 : decode cX5_answer 68 = .ok (.istore 4, 2) := by decide +kernel
theorem dX5_answer_70 : decode cX5_answer 70 = .ok (.iload 4, 2) := by decide +kernel
theorem dX5_answer_72 : decode cX5_answer 72 = .ok (.ifCond .eq 20, 3) := by decide +kernel
theorem dX5_answer_75 : decode cX5_answer 75 = .ok (.aload_n 0, 1) := by decide +kernel
theorem dX5_answer_76 : decode cX5_answer 76 = .ok (.aload_n 0, 1) := by decide +kernel
theorem dX5_answer_77 : decode cX5_answer 77 = .ok (.getfield 40, 3) := by decide +kernel
theorem dX5_answer_80 : decode cX5_answer 80 = .ok (.iload_n 1, 1) := by decide +kernel
theorem dX5_answer_81 : decode cX5_answer 81 = .ok (.iload_n 2, 1) := by decide +kernel
theorem dX5_answer_82 : decode cX5_answer 82 = .ok (.aload_n 0, 1) := by decide +kernel
theorem dX5_answer_83 : decode cX5_answer 83 = .ok (.getfield 61, 3) := by decide +kernel
theorem dX5_answer_86 : decode cX5_answer 86 = .ok (.invokevirtual 138, 3) := by decide +kernel
theorem dX5_answer_89 : decode cX5_answer 89 = .ok (.goto 10, 3) := by decide +kernel
theorem dX5_answer_92 : decode cX5_answer 92 = .ok (.aload_n 0, 1) := by decide +kernel
theorem dX5_answer_93 : decode cX5_answer 93 = .ok (.iload_n 1, 1) := by decide +kernel
theorem dX5_answer_94 : decode cX5_answer 94 = .ok (.iload_n 2, 1) := by decide +kernel
theorem dX5_answer_95 : decode cX5_answer 95 = .ok (.iload_n 3, 1) := by decide +kernel
theorem dX5_answer_96 : decode cX5_answer 96 = .ok (.invokevirtual 142, 3) := by decide +kernel
theorem dX5_answer_99 : decode cX5_answer 99 = .ok (.aload_n 0, 1) := by decide +kernel
theorem dX5_answer_100 : decode cX5_answer 100 = .ok (.getfield 19, 3) := by decide +kernel
theorem dX5_answer_103 : decode cX5_answer 103 = .ok (.iload_n 1, 1) := by decide +kernel
theorem dX5_answer_104 : decode cX5_answer 104 = .ok (.iload_n 2, 1) := by decide +kernel
theorem dX5_answer_105 : decode cX5_answer 105 = .ok (.iload_n 3, 1) := by decide +kernel
theorem dX5_answer_106 : decode cX5_answer 106 = .ok (.aload_n 0, 1) := by decide +kernel
theorem dX5_answer_107 : decode cX5_answer 107 = .ok (.getfield 61, 3) := by decide +kernel
theorem dX5_answer_110 : decode cX5_answer 110 = .ok (.invokevirtual 145, 3) := by decide +kernel
theorem dX5_answer_113 : decode cX5_answer 113 = .ok (.aload_n 0, 1) := by decide +kernel
theorem dX5_answer_114 : decode cX5_answer 114 = .ok (.getfield 10, 3) := by decide +kernel
theorem dX5_answer_117 : decode cX5_answer 117 = .ok (.dup, 1) := by decide +kernel
theorem dX5_answer_118 : decode cX5_answer 118 = .ok (.getfield 94, 3) := by decide +kernel
theorem dX5_answer_121 : decode cX5_answer 121 = .ok (.iload_n 2, 1) := by decide +kernel
theorem dX5_answer_122 : decode cX5_answer 122 = .ok (.invokestatic 106, 3) := by decide +kernel
theorem dX5_answer_125 : decode cX5_answer 125 = .ok (.ior, 1) := by decide +kernel
theorem dX5_answer_126 : decode cX5_answer 126 = .ok (.putfield 94, 3) := by decide +kernel
theorem dX5_answer_129 : decode cX5_answer 129 = .ok (.iload 4, 2) := by decide +kernel
theorem dX5_answer_131 : decode cX5_answer 131 = .ok (.ireturn, 1) := by decide +kernel
set_option maxHeartbeats 4000000 in
set_option maxRecDepth 100000 in
theorem c_X5_answer (l : Launch) (D : va_G) (cI cZ cL : ClassId) (ad : Nat → Nat) (S : Mem) (A : Nat → Prop) (hD : va_D A (wC ad cI S)) (x1 : Int32) (x2 : Int32) (x3 : Int32) (hI : I0 S) (hth : (oAns S x1 x2 x3).1 = none) : WR l D cI cZ cL yX5_answer cX5_answer 5 (some .boolean) 7 [.ref (ad 0), .int x1, .int x2, .int x3] A (wC ad cI S) (wC ad cI ((oAns S x1 x2 x3).2.2)) (some (.int ((oAns S x1 x2 x3).2.1))) := by
  refine WR.of (by decide) (Nat.le_of_ble_eq_true rfl) ?_
  intro p e s m args below meth c ls hx hb hr hml hown hlk hE hP hS hl
  have hl : lv_has ls 5 [(0, .ref (ad 0)), (1, .int x1), (2, .int x2), (3, .int x3)] := hl
  have hT8 := hI.T8
  have hR16 := hI.R16
  have hN200 := hI.N200
  refine lv_aload_n hx hb dX5_answer_0 rfl (lv_at hl 0 rfl) ?_
  refine lv_iload_n hx hb dX5_answer_1 rfl (lv_at hl 1 rfl) ?_
  by_cases c_1 : okn x1 (cT S) = true
  · skip
    obtain ⟨u1, hu1, eu1⟩ := okn_t c_1
    subst eu1
    have iu1 : iN (nI u1) = u1 := iN_nI (by omega)
    refine q_rdv (q_runV (rest := []) hx hb hml hown hE (c_X5_requireTeam l D cI cZ cL ad S u1 hI hu1) ck_X5_requireTeam w_488 hP 0 rfl rfl hl.1 rfl ⟨Nat.le_of_ble_eq_true rfl, Nat.le_of_ble_eq_true rfl⟩ (Nat.le_of_ble_eq_true rfl) dX5_answer_2 ⟨Nat.le_of_ble_eq_true rfl, Nat.le_of_ble_eq_true rfl⟩) ?_
    refine lv_aload_n hx hb dX5_answer_5 rfl (lv_at hl 0 rfl) ?_
    refine lv_iload_n hx hb dX5_answer_6 rfl (lv_at hl 2 rfl) ?_
    by_cases c_2 : okn x2 (cR S) = true
    · skip
      obtain ⟨u2, hu2, eu2⟩ := okn_t c_2
      subst eu2
      have iu2 : iN (nI u2) = u2 := iN_nI (by omega)
      refine q_rdv (q_runV (rest := []) hx hb hml hown hE (c_X5_requireRiddle l D cI cZ cL ad S u2 hI hu2) ck_X5_requireRiddle w_436 hP 0 rfl rfl hl.1 rfl ⟨Nat.le_of_ble_eq_true rfl, Nat.le_of_ble_eq_true rfl⟩ (Nat.le_of_ble_eq_true rfl) dX5_answer_7 ⟨Nat.le_of_ble_eq_true rfl, Nat.le_of_ble_eq_true rfl⟩) ?_
      refine lv_iload_n hx hb dX5_answer_10 rfl (lv_at hl 3 rfl) ?_
      refine lv_iconst (v := 0) hx hb dX5_answer_11 (by decide) ?_
      refine lv_sipush (v := 9999) hx hb dX5_answer_12 (by decide) ?_
      by_cases c_3 : okr x3 0 9999 = true
      · skip
        refine q_rdv (q_runS (rest := []) hx hb hml hown hE (c_X5_requireRange l D cI cZ cL _ x3 0 9999 c_3) ck_X5_requireRange w_328 hP hl.1 rfl ⟨Nat.le_of_ble_eq_true rfl, Nat.le_of_ble_eq_true rfl⟩ (Nat.le_of_ble_eq_true rfl) dX5_answer_15 ⟨Nat.le_of_ble_eq_true rfl, Nat.le_of_ble_eq_true rfl⟩) ?_
        refine lv_aload_n hx hb dX5_answer_18 rfl (lv_at hl 0 rfl) ?_
        refine lv_iload_n hx hb dX5_answer_19 rfl (lv_at hl 1 rfl) ?_
        refine lv_iload_n hx hb dX5_answer_20 rfl (lv_at hl 2 rfl) ?_
        refine q_rd (q_runV (rest := []) hx hb hml hown hE (c_X5_isUnderWay l D cI cZ cL ad S u1 u2 (by omega) (by omega)) ck_X5_isUnderWay w_493 hP 0 rfl rfl hl.1 rfl ⟨Nat.le_of_ble_eq_true rfl, Nat.le_of_ble_eq_true rfl⟩ (Nat.le_of_ble_eq_true rfl) dX5_answer_21 ⟨Nat.le_of_ble_eq_true rfl, Nat.le_of_ble_eq_true rfl⟩) ?_
        refine lv_if_eq (tgt := 40) hx hb dX5_answer_24 (by decide) (fun c_4 => ?_) (fun c_4 => ?_)
        · skip
          have c_4 : p_under S u1 u2 = false := b_f c_4
          simp [oAns, hAns, ansN, xI, xA, xS, xN, c_1, iu1, c_2, iu2, c_3, c_4] at hth
        · skip
          have c_4 : p_under S u1 u2 = true := b_t c_4
          refine lv_aload_n hx hb dX5_answer_27 rfl (lv_at hl 0 rfl) ?_
          refine q_get (v := .ref (ad 7)) hx hb hown hE inT_X5 hP 0 rfl rfl 1 (by decide) w_213 rfl dX5_answer_28 ?_
          refine q_getN (v := .int (S 7 4)) hx hb hown hE inT_X0 hP 7 rfl rfl 4 (by decide) w_136 rfl dX5_answer_31 ?_
          refine q_top (y := nI (cN S)) (I0.N hI) ?_
          refine lv_sipush (v := 200) hx hb dX5_answer_34 (by decide) ?_
          refine lv_icmp_lt (tgt := 50) hx hb dX5_answer_37 (by decide) (fun c_5 => ?_) (fun c_5 => ?_)
          · skip
            have c_5 : (cN S) < 200 := n_lt (a := cN S) (b := 200) (by omega) (by omega) c_5
            refine lv_iload_n hx hb dX5_answer_50 rfl (lv_at hl 3 rfl) ?_
            refine lv_aload_n hx hb dX5_answer_51 rfl (lv_at hl 0 rfl) ?_
            refine q_get (v := .ref (ad 1)) hx hb hown hE inT_X5 hP 0 rfl rfl 0 (by decide) w_212 rfl dX5_answer_52 ?_
            refine q_getN (v := .ref (ad 3)) hx hb hown hE inT_X3 hP 1 rfl rfl 1 (by decide) w_95 rfl dX5_answer_55 ?_
            refine lv_iload_n hx hb dX5_answer_58 rfl (lv_at hl 2 rfl) ?_
            refine q_iald (f := S 3) (i := u2) hx hb hE hP 3 rfl (by omega) (Nat.le_of_ble_eq_true rfl) dX5_answer_59 ?_
            refine lv_icmp_ne (tgt := 67) hx hb dX5_answer_60 (by decide) (fun c_6 => ?_) (fun c_6 => ?_)
            · skip
              refine lv_iconst (v := 0) hx hb dX5_answer_67 (by decide) ?_
              refine lv_istore (lv' := [(4, .int 0), (0, .ref (ad 0)), (1, .int (nI u1)), (2, .int (nI u2)), (3, .int x3)]) hx hb dX5_answer_68 hl (by decide) rfl (fun ls hl => ?_)
              refine lv_iload hx hb dX5_answer_70 (lv_at hl 0 rfl) ?_
              refine lv_if_eq (tgt := 92) hx hb dX5_answer_72 (by decide) (fun c_7 => ?_) (fun c_7 => ?_)
              · skip
                refine lv_aload_n hx hb dX5_answer_92 rfl (lv_at hl 1 rfl) ?_
                refine lv_iload_n hx hb dX5_answer_93 rfl (lv_at hl 2 rfl) ?_
                refine lv_iload_n hx hb dX5_answer_94 rfl (lv_at hl 3 rfl) ?_
                refine lv_iload_n hx hb dX5_answer_95 rfl (lv_at hl 4 rfl) ?_
                refine q_w0v (q_runV (rest := []) hx hb hml hown hE (c_X5_noteWrong l D cI cZ cL ad S A (wC_D hD) u1 u2 x3 hI (by omega) (by omega)) ck_X5_noteWrong w_511 hP 0 rfl rfl hl.1 rfl ⟨Nat.le_of_ble_eq_true rfl, Nat.le_of_ble_eq_true rfl⟩ (Nat.le_of_ble_eq_true rfl) dX5_answer_96 ⟨Nat.le_of_ble_eq_true rfl, Nat.le_of_ble_eq_true rfl⟩) hS (fun H locs hP hS => ?_)
                have hI_c8 : I0 (p_noteW S u1 u2 x3) := I0_congr (fun c hc => fr_noteW (by omega)) hI
                refine lv_aload_n hx hb dX5_answer_99 rfl (lv_at hl 1 rfl) ?_
                refine q_get (v := .ref (ad 7)) hx hb hown hE inT_X5 hP 0 rfl rfl 1 (by decide) w_213 rfl dX5_answer_100 ?_
                refine lv_iload_n hx hb dX5_answer_103 rfl (lv_at hl 2 rfl) ?_
                refine lv_iload_n hx hb dX5_answer_104 rfl (lv_at hl 3 rfl) ?_
                refine lv_iload_n hx hb dX5_answer_105 rfl (lv_at hl 4 rfl) ?_
                refine lv_aload_n hx hb dX5_answer_106 rfl (lv_at hl 1 rfl) ?_
                refine q_get (v := .int ((p_noteW S u1 u2 x3) 0 10)) hx hb hown hE inT_X5 hP 0 rfl rfl 10 (by decide) w_222 rfl dX5_answer_107 ?_
                refine q_w0v (q_runVN (rest := []) hx hb hml hown hE (c_X0_append l D cI cZ cL ad (p_noteW S u1 u2 x3) A (wC_D hD) u1 u2 x3 ((p_noteW S u1 u2 x3) 0 10) hI_c8 (by first | (rw [cN_congr (fr_noteS (by omega))]; omega) | (rw [cN_congr (fr_noteW (by omega))]; omega))) ck_X0_append w_525 hP 7 rfl rfl hl.1 rfl ⟨Nat.le_of_ble_eq_true rfl, Nat.le_of_ble_eq_true rfl⟩ (Nat.le_of_ble_eq_true rfl) dX5_answer_110 ⟨Nat.le_of_ble_eq_true rfl, Nat.le_of_ble_eq_true rfl⟩) hS (fun H locs hP hS => ?_)
                refine lv_aload_n hx hb dX5_answer_113 rfl (lv_at hl 1 rfl) ?_
                refine q_get (v := .ref (ad 1)) hx hb hown hE inT_X5 hP 0 rfl rfl 0 (by decide) w_212 rfl dX5_answer_114 ?_
                refine lv_dup hx hb dX5_answer_117 rfl ?_
                refine q_getN (v := .int ((p_app (p_noteW S u1 u2 x3) u1 u2 x3 ((p_noteW S u1 u2 x3) 0 10)) 1 5)) hx hb hown hE inT_X3 hP 1 rfl rfl 5 (by decide) w_102 rfl dX5_answer_118 ?_
                refine lv_iload_n hx hb dX5_answer_121 rfl (lv_at hl 3 rfl) ?_
                refine q_rd (q_runS (rest := [.int ((p_app (p_noteW S u1 u2 x3) u1 u2 x3 ((p_noteW S u1 u2 x3) 0 10)) 1 5), .ref (ad 1)]) hx hb hml hown hE (c_X5_bit l D cI cZ cL _ (nI u2)) ck_X5_bit w_458 hP hl.1 rfl ⟨Nat.le_of_ble_eq_true rfl, Nat.le_of_ble_eq_true rfl⟩ (Nat.le_of_ble_eq_true rfl) dX5_answer_122 ⟨Nat.le_of_ble_eq_true rfl, Nat.le_of_ble_eq_true rfl⟩) ?_
                refine lv_ior hx hb dX5_answer_125 ?_
                refine q_putN (ty0 := tyX3) (ws' := (wC ad cI (st (p_app (p_noteW S u1 u2 x3) u1 u2 x3 ((p_noteW S u1 u2 x3) 0 10)) 1 5 (((p_app (p_noteW S u1 u2 x3) u1 u2 x3 ((p_noteW S u1 u2 x3) 0 10)) 1 5) ||| (bt (nI u2)))))) (v := .int (((p_app (p_noteW S u1 u2 x3) u1 u2 x3 ((p_noteW S u1 u2 x3) 0 10)) 1 5) ||| (bt (nI u2)))) hx hb hown hE inT_X3 tyX3_ok nmX3 hP (wC_D hD) hS 1 rfl rfl 5 (by decide) w_102 rfl rfl rfl (Nat.le_of_ble_eq_true rfl) rfl dX5_answer_126 (fun H locs hP hS => ?_)
                refine lv_iload hx hb dX5_answer_129 (lv_at hl 0 rfl) ?_
                rw [show oAns S (nI u1) (nI u2) x3 = (none, 0, st (p_app (p_noteW S u1 u2 x3) u1 u2 x3 ((p_noteW S u1 u2 x3) 0 10)) 1 5 (((p_app (p_noteW S u1 u2 x3) u1 u2 x3 ((p_noteW S u1 u2 x3) 0 10)) 1 5) ||| (bt (nI u2)))) from by first | (simp only [oAns, hAns, ansN, c_1, iu1, c_2, iu2, c_3, c_4, c_5, c_6, ↓reduceIte]; done) | (simp only [oAns, hAns, ansN, c_1, iu1, c_2, iu2, c_3, c_4, c_5, c_6, ↓reduceIte]; rfl) | (simp [oAns, hAns, ansN, c_1, iu1, c_2, iu2, c_3, c_4, c_5, c_6]; done) | (simp [oAns, hAns, ansN, c_1, iu1, c_2, iu2, c_3, c_4, c_5, c_6]; rfl)]
                exact e_wret hx hb hr hlk (show narrow FieldType.boolean (Value.int 0) = Value.int 0 from by decide) hP hS dX5_answer_131
              · skip
                exact absurd c_7 (by decide)
            · skip
              have e_6 := eq_true c_6
              refine lv_iconst (v := 1) hx hb dX5_answer_63 (by decide) ?_
              refine lv_goto (tgt := 68) hx hb dX5_answer_64 (by decide) ?_
              refine lv_istore (lv' := [(4, .int 1), (0, .ref (ad 0)), (1, .int (nI u1)), (2, .int (nI u2)), (3, .int x3)]) hx hb dX5_answer_68 hl (by decide) rfl (fun ls hl => ?_)
              refine lv_iload hx hb dX5_answer_70 (lv_at hl 0 rfl) ?_
              refine lv_if_eq (tgt := 92) hx hb dX5_answer_72 (by decide) (fun c_9 => ?_) (fun c_9 => ?_)
              · skip
                exact absurd c_9 (by decide)
              · skip
                refine lv_aload_n hx hb dX5_answer_75 rfl (lv_at hl 1 rfl) ?_
                refine lv_aload_n hx hb dX5_answer_76 rfl (lv_at hl 1 rfl) ?_
                refine q_get (v := .ref (ad 18)) hx hb hown hE inT_X5 hP 0 rfl rfl 4 (by decide) w_216 rfl dX5_answer_77 ?_
                refine lv_iload_n hx hb dX5_answer_80 rfl (lv_at hl 2 rfl) ?_
                refine lv_iload_n hx hb dX5_answer_81 rfl (lv_at hl 3 rfl) ?_
                refine lv_aload_n hx hb dX5_answer_82 rfl (lv_at hl 1 rfl) ?_
                refine q_get (v := .int (S 0 10)) hx hb hown hE inT_X5 hP 0 rfl rfl 10 (by decide) w_222 rfl dX5_answer_83 ?_
                refine q_w0v (q_runV (rest := []) hx hb hml hown hE (c_X5_noteSolved_18 l D cI cZ cL ad S A (wC_D hD) u1 u2 (S 0 10) (by omega) (by omega)) ck_X5_noteSolved w_502 hP 0 rfl rfl hl.1 rfl ⟨Nat.le_of_ble_eq_true rfl, Nat.le_of_ble_eq_true rfl⟩ (Nat.le_of_ble_eq_true rfl) dX5_answer_86 ⟨Nat.le_of_ble_eq_true rfl, Nat.le_of_ble_eq_true rfl⟩) hS (fun H locs hP hS => ?_)
                have hI_c10 : I0 (p_noteS S 18 u1 u2 (S 0 10)) := I0_congr (fun c hc => fr_noteS (by omega)) hI
                refine lv_goto (tgt := 99) hx hb dX5_answer_89 (by decide) ?_
                refine lv_aload_n hx hb dX5_answer_99 rfl (lv_at hl 1 rfl) ?_
                refine q_get (v := .ref (ad 7)) hx hb hown hE inT_X5 hP 0 rfl rfl 1 (by decide) w_213 rfl dX5_answer_100 ?_
                refine lv_iload_n hx hb dX5_answer_103 rfl (lv_at hl 2 rfl) ?_
                refine lv_iload_n hx hb dX5_answer_104 rfl (lv_at hl 3 rfl) ?_
                refine lv_iload_n hx hb dX5_answer_105 rfl (lv_at hl 4 rfl) ?_
                refine lv_aload_n hx hb dX5_answer_106 rfl (lv_at hl 1 rfl) ?_
                refine q_get (v := .int ((p_noteS S 18 u1 u2 (S 0 10)) 0 10)) hx hb hown hE inT_X5 hP 0 rfl rfl 10 (by decide) w_222 rfl dX5_answer_107 ?_
                refine q_w0v (q_runVN (rest := []) hx hb hml hown hE (c_X0_append l D cI cZ cL ad (p_noteS S 18 u1 u2 (S 0 10)) A (wC_D hD) u1 u2 x3 ((p_noteS S 18 u1 u2 (S 0 10)) 0 10) hI_c10 (by first | (rw [cN_congr (fr_noteS (by omega))]; omega) | (rw [cN_congr (fr_noteW (by omega))]; omega))) ck_X0_append w_525 hP 7 rfl rfl hl.1 rfl ⟨Nat.le_of_ble_eq_true rfl, Nat.le_of_ble_eq_true rfl⟩ (Nat.le_of_ble_eq_true rfl) dX5_answer_110 ⟨Nat.le_of_ble_eq_true rfl, Nat.le_of_ble_eq_true rfl⟩) hS (fun H locs hP hS => ?_)
                refine lv_aload_n hx hb dX5_answer_113 rfl (lv_at hl 1 rfl) ?_
                refine q_get (v := .ref (ad 1)) hx hb hown hE inT_X5 hP 0 rfl rfl 0 (by decide) w_212 rfl dX5_answer_114 ?_
                refine lv_dup hx hb dX5_answer_117 rfl ?_
                refine q_getN (v := .int ((p_app (p_noteS S 18 u1 u2 (S 0 10)) u1 u2 x3 ((p_noteS S 18 u1 u2 (S 0 10)) 0 10)) 1 5)) hx hb hown hE inT_X3 hP 1 rfl rfl 5 (by decide) w_102 rfl dX5_answer_118 ?_
                refine lv_iload_n hx hb dX5_answer_121 rfl (lv_at hl 3 rfl) ?_
                refine q_rd (q_runS (rest := [.int ((p_app (p_noteS S 18 u1 u2 (S 0 10)) u1 u2 x3 ((p_noteS S 18 u1 u2 (S 0 10)) 0 10)) 1 5), .ref (ad 1)]) hx hb hml hown hE (c_X5_bit l D cI cZ cL _ (nI u2)) ck_X5_bit w_458 hP hl.1 rfl ⟨Nat.le_of_ble_eq_true rfl, Nat.le_of_ble_eq_true rfl⟩ (Nat.le_of_ble_eq_true rfl) dX5_answer_122 ⟨Nat.le_of_ble_eq_true rfl, Nat.le_of_ble_eq_true rfl⟩) ?_
                refine lv_ior hx hb dX5_answer_125 ?_
                refine q_putN (ty0 := tyX3) (ws' := (wC ad cI (st (p_app (p_noteS S 18 u1 u2 (S 0 10)) u1 u2 x3 ((p_noteS S 18 u1 u2 (S 0 10)) 0 10)) 1 5 (((p_app (p_noteS S 18 u1 u2 (S 0 10)) u1 u2 x3 ((p_noteS S 18 u1 u2 (S 0 10)) 0 10)) 1 5) ||| (bt (nI u2)))))) (v := .int (((p_app (p_noteS S 18 u1 u2 (S 0 10)) u1 u2 x3 ((p_noteS S 18 u1 u2 (S 0 10)) 0 10)) 1 5) ||| (bt (nI u2)))) hx hb hown hE inT_X3 tyX3_ok nmX3 hP (wC_D hD) hS 1 rfl rfl 5 (by decide) w_102 rfl rfl rfl (Nat.le_of_ble_eq_true rfl) rfl dX5_answer_126 (fun H locs hP hS => ?_)
                refine lv_iload hx hb dX5_answer_129 (lv_at hl 0 rfl) ?_
                rw [show oAns S (nI u1) (nI u2) x3 = (none, 1, st (p_app (p_noteS S 18 u1 u2 (S 0 10)) u1 u2 x3 ((p_noteS S 18 u1 u2 (S 0 10)) 0 10)) 1 5 (((p_app (p_noteS S 18 u1 u2 (S 0 10)) u1 u2 x3 ((p_noteS S 18 u1 u2 (S 0 10)) 0 10)) 1 5) ||| (bt (nI u2)))) from by first | (simp only [oAns, hAns, ansN, c_1, iu1, c_2, iu2, c_3, c_4, c_5, e_6, ↓reduceIte]; done) | (simp only [oAns, hAns, ansN, c_1, iu1, c_2, iu2, c_3, c_4, c_5, e_6, ↓reduceIte]; rfl) | (simp [oAns, hAns, ansN, c_1, iu1, c_2, iu2, c_3, c_4, c_5, e_6]; done) | (simp [oAns, hAns, ansN, c_1, iu1, c_2, iu2, c_3, c_4, c_5, e_6]; rfl)]
                exact e_wret hx hb hr hlk (show narrow FieldType.boolean (Value.int 1) = Value.int 1 from by decide) hP hS dX5_answer_131
          · skip
            have c_5 : 200 ≤ (cN S) := n_nlt (a := cN S) (b := 200) (by omega) (by omega) c_5
            have d_5 : ¬ (cN S) < 200 := Nat.not_lt.mpr c_5
            simp [oAns, hAns, ansN, xI, xA, xS, xN, c_1, iu1, c_2, iu2, c_3, c_4, c_5, d_5] at hth
      · skip
        simp [oAns, hAns, ansN, xI, xA, xS, xN, c_1, iu1, c_2, iu2, c_3] at hth
    · skip
      simp [oAns, hAns, ansN, xI, xA, xS, xN, c_1, iu1, c_2] at hth
  · skip
    simp [oAns, hAns, ansN, xI, xA, xS, xN, c_1] at hth


set_option maxHeartbeats 4000000 in
set_option maxRecDepth 100000 in
theorem c_X5_answer_T0 (l : Launch) (hfl : l.flags = flags0) (D : va_G) (cI cZ cL : ClassId) (ad : Nat → Nat) (S : Mem) (x1 : Int32) (x2 : Int32) (x3 : Int32) (hI : I0 S) (hth : (oAns S x1 x2 x3).1 = some "java/lang/IndexOutOfBoundsException") : TH l D cI cZ cL yX5_answer cX5_answer 5 (some .boolean) 7 [.ref (ad 0), .int x1, .int x2, .int x3] (wC ad cI S) "java/lang/IndexOutOfBoundsException" := by
  refine TH.of (by decide) (Nat.le_of_ble_eq_true rfl) ?_
  intro p e s m args below meth c ls hx hb hr hml hown hlk hxt hE hT hZ hP hl
  have hl : lv_has ls 5 [(0, .ref (ad 0)), (1, .int x1), (2, .int x2), (3, .int x3)] := hl
  have hT8 := hI.T8
  have hR16 := hI.R16
  have hN200 := hI.N200
  refine lv_aload_n hx hb dX5_answer_0 rfl (lv_at hl 0 rfl) ?_
  refine lv_iload_n hx hb dX5_answer_1 rfl (lv_at hl 1 rfl) ?_
  by_cases c_1 : okn x1 (cT S) = true
  · skip
    obtain ⟨u1, hu1, eu1⟩ := okn_t c_1
    subst eu1
    have iu1 : iN (nI u1) = u1 := iN_nI (by omega)
    refine q_rdv (q_runV (rest := []) hx hb hml hown hE (c_X5_requireTeam l D cI cZ cL ad S u1 hI hu1) ck_X5_requireTeam w_488 hP 0 rfl rfl hl.1 rfl ⟨Nat.le_of_ble_eq_true rfl, Nat.le_of_ble_eq_true rfl⟩ (Nat.le_of_ble_eq_true rfl) dX5_answer_2 ⟨Nat.le_of_ble_eq_true rfl, Nat.le_of_ble_eq_true rfl⟩) ?_
    refine lv_aload_n hx hb dX5_answer_5 rfl (lv_at hl 0 rfl) ?_
    refine lv_iload_n hx hb dX5_answer_6 rfl (lv_at hl 2 rfl) ?_
    by_cases c_2 : okn x2 (cR S) = true
    · skip
      obtain ⟨u2, hu2, eu2⟩ := okn_t c_2
      subst eu2
      have iu2 : iN (nI u2) = u2 := iN_nI (by omega)
      refine q_rdv (q_runV (rest := []) hx hb hml hown hE (c_X5_requireRiddle l D cI cZ cL ad S u2 hI hu2) ck_X5_requireRiddle w_436 hP 0 rfl rfl hl.1 rfl ⟨Nat.le_of_ble_eq_true rfl, Nat.le_of_ble_eq_true rfl⟩ (Nat.le_of_ble_eq_true rfl) dX5_answer_7 ⟨Nat.le_of_ble_eq_true rfl, Nat.le_of_ble_eq_true rfl⟩) ?_
      refine lv_iload_n hx hb dX5_answer_10 rfl (lv_at hl 3 rfl) ?_
      refine lv_iconst (v := 0) hx hb dX5_answer_11 (by decide) ?_
      refine lv_sipush (v := 9999) hx hb dX5_answer_12 (by decide) ?_
      by_cases c_3 : okr x3 0 9999 = true
      · skip
        refine q_rdv (q_runS (rest := []) hx hb hml hown hE (c_X5_requireRange l D cI cZ cL _ x3 0 9999 c_3) ck_X5_requireRange w_328 hP hl.1 rfl ⟨Nat.le_of_ble_eq_true rfl, Nat.le_of_ble_eq_true rfl⟩ (Nat.le_of_ble_eq_true rfl) dX5_answer_15 ⟨Nat.le_of_ble_eq_true rfl, Nat.le_of_ble_eq_true rfl⟩) ?_
        refine lv_aload_n hx hb dX5_answer_18 rfl (lv_at hl 0 rfl) ?_
        refine lv_iload_n hx hb dX5_answer_19 rfl (lv_at hl 1 rfl) ?_
        refine lv_iload_n hx hb dX5_answer_20 rfl (lv_at hl 2 rfl) ?_
        refine q_rd (q_runV (rest := []) hx hb hml hown hE (c_X5_isUnderWay l D cI cZ cL ad S u1 u2 (by omega) (by omega)) ck_X5_isUnderWay w_493 hP 0 rfl rfl hl.1 rfl ⟨Nat.le_of_ble_eq_true rfl, Nat.le_of_ble_eq_true rfl⟩ (Nat.le_of_ble_eq_true rfl) dX5_answer_21 ⟨Nat.le_of_ble_eq_true rfl, Nat.le_of_ble_eq_true rfl⟩) ?_
        refine lv_if_eq (tgt := 40) hx hb dX5_answer_24 (by decide) (fun c_4 => ?_) (fun c_4 => ?_)
        · skip
          have c_4 : p_under S u1 u2 = false := b_f c_4
          simp [oAns, hAns, ansN, xI, xA, xS, xN, c_1, iu1, c_2, iu2, c_3, c_4] at hth
        · skip
          have c_4 : p_under S u1 u2 = true := b_t c_4
          refine lv_aload_n hx hb dX5_answer_27 rfl (lv_at hl 0 rfl) ?_
          refine q_get (v := .ref (ad 7)) hx hb hown hE inT_X5 hP 0 rfl rfl 1 (by decide) w_213 rfl dX5_answer_28 ?_
          refine q_getN (v := .int (S 7 4)) hx hb hown hE inT_X0 hP 7 rfl rfl 4 (by decide) w_136 rfl dX5_answer_31 ?_
          refine q_top (y := nI (cN S)) (I0.N hI) ?_
          refine lv_sipush (v := 200) hx hb dX5_answer_34 (by decide) ?_
          refine lv_icmp_lt (tgt := 50) hx hb dX5_answer_37 (by decide) (fun c_5 => ?_) (fun c_5 => ?_)
          · skip
            have c_5 : (cN S) < 200 := n_lt (a := cN S) (b := 200) (by omega) (by omega) c_5
            refine lv_iload_n hx hb dX5_answer_50 rfl (lv_at hl 3 rfl) ?_
            refine lv_aload_n hx hb dX5_answer_51 rfl (lv_at hl 0 rfl) ?_
            refine q_get (v := .ref (ad 1)) hx hb hown hE inT_X5 hP 0 rfl rfl 0 (by decide) w_212 rfl dX5_answer_52 ?_
            refine q_getN (v := .ref (ad 3)) hx hb hown hE inT_X3 hP 1 rfl rfl 1 (by decide) w_95 rfl dX5_answer_55 ?_
            refine lv_iload_n hx hb dX5_answer_58 rfl (lv_at hl 2 rfl) ?_
            refine q_iald (f := S 3) (i := u2) hx hb hE hP 3 rfl (by omega) (Nat.le_of_ble_eq_true rfl) dX5_answer_59 ?_
            refine lv_icmp_ne (tgt := 67) hx hb dX5_answer_60 (by decide) (fun c_6 => ?_) (fun c_6 => ?_)
            · skip
              refine lv_iconst (v := 0) hx hb dX5_answer_67 (by decide) ?_
              refine lv_istore (lv' := [(4, .int 0), (0, .ref (ad 0)), (1, .int (nI u1)), (2, .int (nI u2)), (3, .int x3)]) hx hb dX5_answer_68 hl (by decide) rfl (fun ls hl => ?_)
              refine lv_iload hx hb dX5_answer_70 (lv_at hl 0 rfl) ?_
              refine lv_if_eq (tgt := 92) hx hb dX5_answer_72 (by decide) (fun c_7 => ?_) (fun c_7 => ?_)
              · skip
                refine lv_aload_n hx hb dX5_answer_92 rfl (lv_at hl 1 rfl) ?_
                refine lv_iload_n hx hb dX5_answer_93 rfl (lv_at hl 2 rfl) ?_
                refine lv_iload_n hx hb dX5_answer_94 rfl (lv_at hl 3 rfl) ?_
                refine lv_iload_n hx hb dX5_answer_95 rfl (lv_at hl 4 rfl) ?_
                simp [oAns, hAns, ansN, xI, xA, xS, xN, c_1, iu1, c_2, iu2, c_3, c_4, c_5, c_6] at hth
              · skip
                exact absurd c_7 (by decide)
            · skip
              have e_6 := eq_true c_6
              refine lv_iconst (v := 1) hx hb dX5_answer_63 (by decide) ?_
              refine lv_goto (tgt := 68) hx hb dX5_answer_64 (by decide) ?_
              refine lv_istore (lv' := [(4, .int 1), (0, .ref (ad 0)), (1, .int (nI u1)), (2, .int (nI u2)), (3, .int x3)]) hx hb dX5_answer_68 hl (by decide) rfl (fun ls hl => ?_)
              refine lv_iload hx hb dX5_answer_70 (lv_at hl 0 rfl) ?_
              refine lv_if_eq (tgt := 92) hx hb dX5_answer_72 (by decide) (fun c_8 => ?_) (fun c_8 => ?_)
              · skip
                exact absurd c_8 (by decide)
              · skip
                refine lv_aload_n hx hb dX5_answer_75 rfl (lv_at hl 1 rfl) ?_
                refine lv_aload_n hx hb dX5_answer_76 rfl (lv_at hl 1 rfl) ?_
                refine q_get (v := .ref (ad 18)) hx hb hown hE inT_X5 hP 0 rfl rfl 4 (by decide) w_216 rfl dX5_answer_77 ?_
                refine lv_iload_n hx hb dX5_answer_80 rfl (lv_at hl 2 rfl) ?_
                refine lv_iload_n hx hb dX5_answer_81 rfl (lv_at hl 3 rfl) ?_
                refine lv_aload_n hx hb dX5_answer_82 rfl (lv_at hl 1 rfl) ?_
                refine q_get (v := .int (S 0 10)) hx hb hown hE inT_X5 hP 0 rfl rfl 10 (by decide) w_222 rfl dX5_answer_83 ?_
                simp [oAns, hAns, ansN, xI, xA, xS, xN, c_1, iu1, c_2, iu2, c_3, c_4, c_5, e_6] at hth
          · skip
            have c_5 : 200 ≤ (cN S) := n_nlt (a := cN S) (b := 200) (by omega) (by omega) c_5
            have d_5 : ¬ (cN S) < 200 := Nat.not_lt.mpr c_5
            simp [oAns, hAns, ansN, xI, xA, xS, xN, c_1, iu1, c_2, iu2, c_3, c_4, c_5, d_5] at hth
      · skip
        simp [oAns, hAns, ansN, xI, xA, xS, xN, c_1, iu1, c_2, iu2, c_3] at hth
    · skip
      have c_2 := eq_false_of_ne_true c_2
      exact q_th (q_thV (n' := 2) (k' := 6) (y := yX5_requireRiddle) (rest := []) hx hb hml hown hE hT hZ (c_X5_requireRiddle_T l hfl D cI cZ cL ad S x2 hI c_2) ck_X5_requireRiddle w_436 hP 0 rfl rfl hl.1 rfl ⟨Nat.le_of_ble_eq_true rfl, Nat.le_of_ble_eq_true rfl⟩ (Nat.le_of_ble_eq_true rfl) dX5_answer_7 ⟨Nat.le_of_ble_eq_true rfl, Nat.le_of_ble_eq_true rfl⟩) hlk hxt (Nat.le_refl _) (Nat.le_refl _) (fun t h1 h2 => ⟨rfl, h2⟩)
  · skip
    have c_1 := eq_false_of_ne_true c_1
    exact q_th (q_thV (n' := 2) (k' := 6) (y := yX5_requireTeam) (rest := []) hx hb hml hown hE hT hZ (c_X5_requireTeam_T l hfl D cI cZ cL ad S x1 hI c_1) ck_X5_requireTeam w_488 hP 0 rfl rfl hl.1 rfl ⟨Nat.le_of_ble_eq_true rfl, Nat.le_of_ble_eq_true rfl⟩ (Nat.le_of_ble_eq_true rfl) dX5_answer_2 ⟨Nat.le_of_ble_eq_true rfl, Nat.le_of_ble_eq_true rfl⟩) hlk hxt (Nat.le_refl _) (Nat.le_refl _) (fun t h1 h2 => ⟨rfl, h2⟩)


set_option maxHeartbeats 4000000 in
set_option maxRecDepth 100000 in
theorem c_X5_answer_T1 (l : Launch) (hfl : l.flags = flags0) (D : va_G) (cI cZ cL : ClassId) (ad : Nat → Nat) (S : Mem) (x1 : Int32) (x2 : Int32) (x3 : Int32) (hI : I0 S) (hth : (oAns S x1 x2 x3).1 = some "java/lang/IllegalArgumentException") : TH l D cI cZ cL yX5_answer cX5_answer 5 (some .boolean) 7 [.ref (ad 0), .int x1, .int x2, .int x3] (wC ad cI S) "java/lang/IllegalArgumentException" := by
  refine TH.of (by decide) (Nat.le_of_ble_eq_true rfl) ?_
  intro p e s m args below meth c ls hx hb hr hml hown hlk hxt hE hT hZ hP hl
  have hl : lv_has ls 5 [(0, .ref (ad 0)), (1, .int x1), (2, .int x2), (3, .int x3)] := hl
  have hT8 := hI.T8
  have hR16 := hI.R16
  have hN200 := hI.N200
  refine lv_aload_n hx hb dX5_answer_0 rfl (lv_at hl 0 rfl) ?_
  refine lv_iload_n hx hb dX5_answer_1 rfl (lv_at hl 1 rfl) ?_
  by_cases c_1 : okn x1 (cT S) = true
  · skip
    obtain ⟨u1, hu1, eu1⟩ := okn_t c_1
    subst eu1
    have iu1 : iN (nI u1) = u1 := iN_nI (by omega)
    refine q_rdv (q_runV (rest := []) hx hb hml hown hE (c_X5_requireTeam l D cI cZ cL ad S u1 hI hu1) ck_X5_requireTeam w_488 hP 0 rfl rfl hl.1 rfl ⟨Nat.le_of_ble_eq_true rfl, Nat.le_of_ble_eq_true rfl⟩ (Nat.le_of_ble_eq_true rfl) dX5_answer_2 ⟨Nat.le_of_ble_eq_true rfl, Nat.le_of_ble_eq_true rfl⟩) ?_
    refine lv_aload_n hx hb dX5_answer_5 rfl (lv_at hl 0 rfl) ?_
    refine lv_iload_n hx hb dX5_answer_6 rfl (lv_at hl 2 rfl) ?_
    by_cases c_2 : okn x2 (cR S) = true
    · skip
      obtain ⟨u2, hu2, eu2⟩ := okn_t c_2
      subst eu2
      have iu2 : iN (nI u2) = u2 := iN_nI (by omega)
      refine q_rdv (q_runV (rest := []) hx hb hml hown hE (c_X5_requireRiddle l D cI cZ cL ad S u2 hI hu2) ck_X5_requireRiddle w_436 hP 0 rfl rfl hl.1 rfl ⟨Nat.le_of_ble_eq_true rfl, Nat.le_of_ble_eq_true rfl⟩ (Nat.le_of_ble_eq_true rfl) dX5_answer_7 ⟨Nat.le_of_ble_eq_true rfl, Nat.le_of_ble_eq_true rfl⟩) ?_
      refine lv_iload_n hx hb dX5_answer_10 rfl (lv_at hl 3 rfl) ?_
      refine lv_iconst (v := 0) hx hb dX5_answer_11 (by decide) ?_
      refine lv_sipush (v := 9999) hx hb dX5_answer_12 (by decide) ?_
      by_cases c_3 : okr x3 0 9999 = true
      · skip
        refine q_rdv (q_runS (rest := []) hx hb hml hown hE (c_X5_requireRange l D cI cZ cL _ x3 0 9999 c_3) ck_X5_requireRange w_328 hP hl.1 rfl ⟨Nat.le_of_ble_eq_true rfl, Nat.le_of_ble_eq_true rfl⟩ (Nat.le_of_ble_eq_true rfl) dX5_answer_15 ⟨Nat.le_of_ble_eq_true rfl, Nat.le_of_ble_eq_true rfl⟩) ?_
        refine lv_aload_n hx hb dX5_answer_18 rfl (lv_at hl 0 rfl) ?_
        refine lv_iload_n hx hb dX5_answer_19 rfl (lv_at hl 1 rfl) ?_
        refine lv_iload_n hx hb dX5_answer_20 rfl (lv_at hl 2 rfl) ?_
        refine q_rd (q_runV (rest := []) hx hb hml hown hE (c_X5_isUnderWay l D cI cZ cL ad S u1 u2 (by omega) (by omega)) ck_X5_isUnderWay w_493 hP 0 rfl rfl hl.1 rfl ⟨Nat.le_of_ble_eq_true rfl, Nat.le_of_ble_eq_true rfl⟩ (Nat.le_of_ble_eq_true rfl) dX5_answer_21 ⟨Nat.le_of_ble_eq_true rfl, Nat.le_of_ble_eq_true rfl⟩) ?_
        refine lv_if_eq (tgt := 40) hx hb dX5_answer_24 (by decide) (fun c_4 => ?_) (fun c_4 => ?_)
        · skip
          have c_4 : p_under S u1 u2 = false := b_f c_4
          simp [oAns, hAns, ansN, xI, xA, xS, xN, c_1, iu1, c_2, iu2, c_3, c_4] at hth
        · skip
          have c_4 : p_under S u1 u2 = true := b_t c_4
          refine lv_aload_n hx hb dX5_answer_27 rfl (lv_at hl 0 rfl) ?_
          refine q_get (v := .ref (ad 7)) hx hb hown hE inT_X5 hP 0 rfl rfl 1 (by decide) w_213 rfl dX5_answer_28 ?_
          refine q_getN (v := .int (S 7 4)) hx hb hown hE inT_X0 hP 7 rfl rfl 4 (by decide) w_136 rfl dX5_answer_31 ?_
          refine q_top (y := nI (cN S)) (I0.N hI) ?_
          refine lv_sipush (v := 200) hx hb dX5_answer_34 (by decide) ?_
          refine lv_icmp_lt (tgt := 50) hx hb dX5_answer_37 (by decide) (fun c_5 => ?_) (fun c_5 => ?_)
          · skip
            have c_5 : (cN S) < 200 := n_lt (a := cN S) (b := 200) (by omega) (by omega) c_5
            refine lv_iload_n hx hb dX5_answer_50 rfl (lv_at hl 3 rfl) ?_
            refine lv_aload_n hx hb dX5_answer_51 rfl (lv_at hl 0 rfl) ?_
            refine q_get (v := .ref (ad 1)) hx hb hown hE inT_X5 hP 0 rfl rfl 0 (by decide) w_212 rfl dX5_answer_52 ?_
            refine q_getN (v := .ref (ad 3)) hx hb hown hE inT_X3 hP 1 rfl rfl 1 (by decide) w_95 rfl dX5_answer_55 ?_
            refine lv_iload_n hx hb dX5_answer_58 rfl (lv_at hl 2 rfl) ?_
            refine q_iald (f := S 3) (i := u2) hx hb hE hP 3 rfl (by omega) (Nat.le_of_ble_eq_true rfl) dX5_answer_59 ?_
            refine lv_icmp_ne (tgt := 67) hx hb dX5_answer_60 (by decide) (fun c_6 => ?_) (fun c_6 => ?_)
            · skip
              refine lv_iconst (v := 0) hx hb dX5_answer_67 (by decide) ?_
              refine lv_istore (lv' := [(4, .int 0), (0, .ref (ad 0)), (1, .int (nI u1)), (2, .int (nI u2)), (3, .int x3)]) hx hb dX5_answer_68 hl (by decide) rfl (fun ls hl => ?_)
              refine lv_iload hx hb dX5_answer_70 (lv_at hl 0 rfl) ?_
              refine lv_if_eq (tgt := 92) hx hb dX5_answer_72 (by decide) (fun c_7 => ?_) (fun c_7 => ?_)
              · skip
                refine lv_aload_n hx hb dX5_answer_92 rfl (lv_at hl 1 rfl) ?_
                refine lv_iload_n hx hb dX5_answer_93 rfl (lv_at hl 2 rfl) ?_
                refine lv_iload_n hx hb dX5_answer_94 rfl (lv_at hl 3 rfl) ?_
                refine lv_iload_n hx hb dX5_answer_95 rfl (lv_at hl 4 rfl) ?_
                simp [oAns, hAns, ansN, xI, xA, xS, xN, c_1, iu1, c_2, iu2, c_3, c_4, c_5, c_6] at hth
              · skip
                exact absurd c_7 (by decide)
            · skip
              have e_6 := eq_true c_6
              refine lv_iconst (v := 1) hx hb dX5_answer_63 (by decide) ?_
              refine lv_goto (tgt := 68) hx hb dX5_answer_64 (by decide) ?_
              refine lv_istore (lv' := [(4, .int 1), (0, .ref (ad 0)), (1, .int (nI u1)), (2, .int (nI u2)), (3, .int x3)]) hx hb dX5_answer_68 hl (by decide) rfl (fun ls hl => ?_)
              refine lv_iload hx hb dX5_answer_70 (lv_at hl 0 rfl) ?_
              refine lv_if_eq (tgt := 92) hx hb dX5_answer_72 (by decide) (fun c_8 => ?_) (fun c_8 => ?_)
              · skip
                exact absurd c_8 (by decide)
              · skip
                refine lv_aload_n hx hb dX5_answer_75 rfl (lv_at hl 1 rfl) ?_
                refine lv_aload_n hx hb dX5_answer_76 rfl (lv_at hl 1 rfl) ?_
                refine q_get (v := .ref (ad 18)) hx hb hown hE inT_X5 hP 0 rfl rfl 4 (by decide) w_216 rfl dX5_answer_77 ?_
                refine lv_iload_n hx hb dX5_answer_80 rfl (lv_at hl 2 rfl) ?_
                refine lv_iload_n hx hb dX5_answer_81 rfl (lv_at hl 3 rfl) ?_
                refine lv_aload_n hx hb dX5_answer_82 rfl (lv_at hl 1 rfl) ?_
                refine q_get (v := .int (S 0 10)) hx hb hown hE inT_X5 hP 0 rfl rfl 10 (by decide) w_222 rfl dX5_answer_83 ?_
                simp [oAns, hAns, ansN, xI, xA, xS, xN, c_1, iu1, c_2, iu2, c_3, c_4, c_5, e_6] at hth
          · skip
            have c_5 : 200 ≤ (cN S) := n_nlt (a := cN S) (b := 200) (by omega) (by omega) c_5
            have d_5 : ¬ (cN S) < 200 := Nat.not_lt.mpr c_5
            simp [oAns, hAns, ansN, xI, xA, xS, xN, c_1, iu1, c_2, iu2, c_3, c_4, c_5, d_5] at hth
      · skip
        have c_3 := eq_false_of_ne_true c_3
        exact q_th (q_thS (n' := 3) (k' := 6) (y := yX5_requireRange) (rest := []) hx hb hml hown hE hT hZ (c_X5_requireRange_T l hfl D cI cZ cL _ x3 0 9999 c_3) ck_X5_requireRange w_328 hP hl.1 rfl ⟨Nat.le_of_ble_eq_true rfl, Nat.le_of_ble_eq_true rfl⟩ (Nat.le_of_ble_eq_true rfl) dX5_answer_15 ⟨Nat.le_of_ble_eq_true rfl, Nat.le_of_ble_eq_true rfl⟩) hlk hxt (Nat.le_refl _) (Nat.le_refl _) (fun t h1 h2 => ⟨rfl, h2⟩)
    · skip
      simp [oAns, hAns, ansN, xI, xA, xS, xN, c_1, iu1, c_2] at hth
  · skip
    simp [oAns, hAns, ansN, xI, xA, xS, xN, c_1] at hth

theorem dX5_answer_43 : decode cX5_answer 43 = .ok (.dup, 1) := by decide +kernel
theorem dX5_answer_44 : decode cX5_answer 44 = .ok (.ldc 133, 2) := by decide +kernel
theorem dX5_answer_46 : decode cX5_answer 46 = .ok (.invokespecial 69, 3) := by decide +kernel
theorem dX5_answer_49 : decode cX5_answer 49 = .ok (.athrow, 1) := by decide +kernel
set_option maxHeartbeats 4000000 in
set_option maxRecDepth 100000 in
theorem c_X5_answer_T2 (l : Launch) (hfl : l.flags = flags0) (D : va_G) (cI cZ cL : ClassId) (ad : Nat → Nat) (S : Mem) (x1 : Int32) (x2 : Int32) (x3 : Int32) (hI : I0 S) (hth : (oAns S x1 x2 x3).1 = some "java/lang/IllegalStateException") : TH l D cI cZ cL yX5_answer cX5_answer 5 (some .boolean) 7 [.ref (ad 0), .int x1, .int x2, .int x3] (wC ad cI S) "java/lang/IllegalStateException" := by
  refine TH.of (by decide) (Nat.le_of_ble_eq_true rfl) ?_
  intro p e s m args below meth c ls hx hb hr hml hown hlk hxt hE hT hZ hP hl
  have hl : lv_has ls 5 [(0, .ref (ad 0)), (1, .int x1), (2, .int x2), (3, .int x3)] := hl
  have hT8 := hI.T8
  have hR16 := hI.R16
  have hN200 := hI.N200
  refine lv_aload_n hx hb dX5_answer_0 rfl (lv_at hl 0 rfl) ?_
  refine lv_iload_n hx hb dX5_answer_1 rfl (lv_at hl 1 rfl) ?_
  by_cases c_1 : okn x1 (cT S) = true
  · skip
    obtain ⟨u1, hu1, eu1⟩ := okn_t c_1
    subst eu1
    have iu1 : iN (nI u1) = u1 := iN_nI (by omega)
    refine q_rdv (q_runV (rest := []) hx hb hml hown hE (c_X5_requireTeam l D cI cZ cL ad S u1 hI hu1) ck_X5_requireTeam w_488 hP 0 rfl rfl hl.1 rfl ⟨Nat.le_of_ble_eq_true rfl, Nat.le_of_ble_eq_true rfl⟩ (Nat.le_of_ble_eq_true rfl) dX5_answer_2 ⟨Nat.le_of_ble_eq_true rfl, Nat.le_of_ble_eq_true rfl⟩) ?_
    refine lv_aload_n hx hb dX5_answer_5 rfl (lv_at hl 0 rfl) ?_
    refine lv_iload_n hx hb dX5_answer_6 rfl (lv_at hl 2 rfl) ?_
    by_cases c_2 : okn x2 (cR S) = true
    · skip
      obtain ⟨u2, hu2, eu2⟩ := okn_t c_2
      subst eu2
      have iu2 : iN (nI u2) = u2 := iN_nI (by omega)
      refine q_rdv (q_runV (rest := []) hx hb hml hown hE (c_X5_requireRiddle l D cI cZ cL ad S u2 hI hu2) ck_X5_requireRiddle w_436 hP 0 rfl rfl hl.1 rfl ⟨Nat.le_of_ble_eq_true rfl, Nat.le_of_ble_eq_true rfl⟩ (Nat.le_of_ble_eq_true rfl) dX5_answer_7 ⟨Nat.le_of_ble_eq_true rfl, Nat.le_of_ble_eq_true rfl⟩) ?_
      refine lv_iload_n hx hb dX5_answer_10 rfl (lv_at hl 3 rfl) ?_
      refine lv_iconst (v := 0) hx hb dX5_answer_11 (by decide) ?_
      refine lv_sipush (v := 9999) hx hb dX5_answer_12 (by decide) ?_
      by_cases c_3 : okr x3 0 9999 = true
      · skip
        refine q_rdv (q_runS (rest := []) hx hb hml hown hE (c_X5_requireRange l D cI cZ cL _ x3 0 9999 c_3) ck_X5_requireRange w_328 hP hl.1 rfl ⟨Nat.le_of_ble_eq_true rfl, Nat.le_of_ble_eq_true rfl⟩ (Nat.le_of_ble_eq_true rfl) dX5_answer_15 ⟨Nat.le_of_ble_eq_true rfl, Nat.le_of_ble_eq_true rfl⟩) ?_
        refine lv_aload_n hx hb dX5_answer_18 rfl (lv_at hl 0 rfl) ?_
        refine lv_iload_n hx hb dX5_answer_19 rfl (lv_at hl 1 rfl) ?_
        refine lv_iload_n hx hb dX5_answer_20 rfl (lv_at hl 2 rfl) ?_
        refine q_rd (q_runV (rest := []) hx hb hml hown hE (c_X5_isUnderWay l D cI cZ cL ad S u1 u2 (by omega) (by omega)) ck_X5_isUnderWay w_493 hP 0 rfl rfl hl.1 rfl ⟨Nat.le_of_ble_eq_true rfl, Nat.le_of_ble_eq_true rfl⟩ (Nat.le_of_ble_eq_true rfl) dX5_answer_21 ⟨Nat.le_of_ble_eq_true rfl, Nat.le_of_ble_eq_true rfl⟩) ?_
        refine lv_if_eq (tgt := 40) hx hb dX5_answer_24 (by decide) (fun c_4 => ?_) (fun c_4 => ?_)
        · skip
          have c_4 : p_under S u1 u2 = false := b_f c_4
          obtain ⟨sa, hsa⟩ := hT "PuzzleRegistry" 133 "no answer is taken" (List.mem_of_getElem? (i := 432) (by decide +kernel))
          exact vx_throwS (rest := []) (A := q_no) (names := tw_names) hx hb (q_flags hfl) hown rfl tw_names_ok (hE.1 _ w_400 args) (hE.1 _ w_72 args) hsa (fun w h => hE.1 w (tw_X5_65_69 w h) args) tw_X5_65_69_g hZ.1 hZ.2 va_S.rf (hl.1.trans hml.symm) dX5_answer_40 dX5_answer_43 dX5_answer_44 dX5_answer_46 dX5_answer_49 (fun x hx => (hxt x hx).elim) (Nat.le_of_ble_eq_true rfl) (Nat.le_of_ble_eq_true rfl) (Nat.le_of_ble_eq_true rfl) (Nat.le_of_ble_eq_true rfl) hlk (fun t h1 h2 h3 => ⟨rfl, h2, fun q h4 _ => h3 q h4⟩) (fun _ h => nomatch h) (Nat.le_refl _) (Nat.le_refl _)
        · skip
          have c_4 : p_under S u1 u2 = true := b_t c_4
          refine lv_aload_n hx hb dX5_answer_27 rfl (lv_at hl 0 rfl) ?_
          refine q_get (v := .ref (ad 7)) hx hb hown hE inT_X5 hP 0 rfl rfl 1 (by decide) w_213 rfl dX5_answer_28 ?_
          refine q_getN (v := .int (S 7 4)) hx hb hown hE inT_X0 hP 7 rfl rfl 4 (by decide) w_136 rfl dX5_answer_31 ?_
          refine q_top (y := nI (cN S)) (I0.N hI) ?_
          refine lv_sipush (v := 200) hx hb dX5_answer_34 (by decide) ?_
          refine lv_icmp_lt (tgt := 50) hx hb dX5_answer_37 (by decide) (fun c_5 => ?_) (fun c_5 => ?_)
          · skip
            have c_5 : (cN S) < 200 := n_lt (a := cN S) (b := 200) (by omega) (by omega) c_5
            refine lv_iload_n hx hb dX5_answer_50 rfl (lv_at hl 3 rfl) ?_
            refine lv_aload_n hx hb dX5_answer_51 rfl (lv_at hl 0 rfl) ?_
            refine q_get (v := .ref (ad 1)) hx hb hown hE inT_X5 hP 0 rfl rfl 0 (by decide) w_212 rfl dX5_answer_52 ?_
            refine q_getN (v := .ref (ad 3)) hx hb hown hE inT_X3 hP 1 rfl rfl 1 (by decide) w_95 rfl dX5_answer_55 ?_
            refine lv_iload_n hx hb dX5_answer_58 rfl (lv_at hl 2 rfl) ?_
            refine q_iald (f := S 3) (i := u2) hx hb hE hP 3 rfl (by omega) (Nat.le_of_ble_eq_true rfl) dX5_answer_59 ?_
            refine lv_icmp_ne (tgt := 67) hx hb dX5_answer_60 (by decide) (fun c_6 => ?_) (fun c_6 => ?_)
            · skip
              refine lv_iconst (v := 0) hx hb dX5_answer_67 (by decide) ?_
              refine lv_istore (lv' := [(4, .int 0), (0, .ref (ad 0)), (1, .int (nI u1)), (2, .int (nI u2)), (3, .int x3)]) hx hb dX5_answer_68 hl (by decide) rfl (fun ls hl => ?_)
              refine lv_iload hx hb dX5_answer_70 (lv_at hl 0 rfl) ?_
              refine lv_if_eq (tgt := 92) hx hb dX5_answer_72 (by decide) (fun c_7 => ?_) (fun c_7 => ?_)
              · skip
                refine lv_aload_n hx hb dX5_answer_92 rfl (lv_at hl 1 rfl) ?_
                refine lv_iload_n hx hb dX5_answer_93 rfl (lv_at hl 2 rfl) ?_
                refine lv_iload_n hx hb dX5_answer_94 rfl (lv_at hl 3 rfl) ?_
                refine lv_iload_n hx hb dX5_answer_95 rfl (lv_at hl 4 rfl) ?_
                simp [oAns, hAns, ansN, xI, xA, xS, xN, c_1, iu1, c_2, iu2, c_3, c_4, c_5, c_6] at hth
              · skip
                exact absurd c_7 (by decide)
            · skip
              have e_6 := eq_true c_6
              refine lv_iconst (v := 1) hx hb dX5_answer_63 (by decide) ?_
              refine lv_goto (tgt := 68) hx hb dX5_answer_64 (by decide) ?_
              refine lv_istore (lv' := [(4, .int 1), (0, .ref (ad 0)), (1, .int (nI u1)), (2, .int (nI u2)), (3, .int x3)]) hx hb dX5_answer_68 hl (by decide) rfl (fun ls hl => ?_)
              refine lv_iload hx hb dX5_answer_70 (lv_at hl 0 rfl) ?_
              refine lv_if_eq (tgt := 92) hx hb dX5_answer_72 (by decide) (fun c_8 => ?_) (fun c_8 => ?_)
              · skip
                exact absurd c_8 (by decide)
              · skip
                refine lv_aload_n hx hb dX5_answer_75 rfl (lv_at hl 1 rfl) ?_
                refine lv_aload_n hx hb dX5_answer_76 rfl (lv_at hl 1 rfl) ?_
                refine q_get (v := .ref (ad 18)) hx hb hown hE inT_X5 hP 0 rfl rfl 4 (by decide) w_216 rfl dX5_answer_77 ?_
                refine lv_iload_n hx hb dX5_answer_80 rfl (lv_at hl 2 rfl) ?_
                refine lv_iload_n hx hb dX5_answer_81 rfl (lv_at hl 3 rfl) ?_
                refine lv_aload_n hx hb dX5_answer_82 rfl (lv_at hl 1 rfl) ?_
                refine q_get (v := .int (S 0 10)) hx hb hown hE inT_X5 hP 0 rfl rfl 10 (by decide) w_222 rfl dX5_answer_83 ?_
                simp [oAns, hAns, ansN, xI, xA, xS, xN, c_1, iu1, c_2, iu2, c_3, c_4, c_5, e_6] at hth
          · skip
            have c_5 : 200 ≤ (cN S) := n_nlt (a := cN S) (b := 200) (by omega) (by omega) c_5
            have d_5 : ¬ (cN S) < 200 := Nat.not_lt.mpr c_5
            obtain ⟨sa, hsa⟩ := hT "PuzzleRegistry" 133 "no answer is taken" (List.mem_of_getElem? (i := 432) (by decide +kernel))
            exact vx_throwS (rest := []) (A := q_no) (names := tw_names) hx hb (q_flags hfl) hown rfl tw_names_ok (hE.1 _ w_400 args) (hE.1 _ w_72 args) hsa (fun w h => hE.1 w (tw_X5_65_69 w h) args) tw_X5_65_69_g hZ.1 hZ.2 va_S.rf (hl.1.trans hml.symm) dX5_answer_40 dX5_answer_43 dX5_answer_44 dX5_answer_46 dX5_answer_49 (fun x hx => (hxt x hx).elim) (Nat.le_of_ble_eq_true rfl) (Nat.le_of_ble_eq_true rfl) (Nat.le_of_ble_eq_true rfl) (Nat.le_of_ble_eq_true rfl) hlk (fun t h1 h2 h3 => ⟨rfl, h2, fun q h4 _ => h3 q h4⟩) (fun _ h => nomatch h) (Nat.le_refl _) (Nat.le_refl _)
      · skip
        simp [oAns, hAns, ansN, xI, xA, xS, xN, c_1, iu1, c_2, iu2, c_3] at hth
    · skip
      simp [oAns, hAns, ansN, xI, xA, xS, xN, c_1, iu1, c_2] at hth
  · skip
    simp [oAns, hAns, ansN, xI, xA, xS, xN, c_1] at hth

theorem dX5_hint_0 : decode cX5_hint 0 = .ok (.aload_n 0, 1) := by decide +kernel
theorem dX5_hint_1 : decode cX5_hint 1 = .ok (.iload_n 1, 1) := by decide +kernel
theorem dX5_hint_2 : decode cX5_hint 2 = .ok (.invokevirtual 126, 3) := by decide +kernel
theorem dX5_hint_5 : decode cX5_hint 5 = .ok (.aload_n 0, 1) := by decide +kernel
theorem dX5_hint_6 : decode cX5_hint 6 = .ok (.iload_n 2, 1) := by decide +kernel
theorem dX5_hint_7 : decode cX5_hint 7 = .ok (.invokevirtual 85, 3) := by decide +kernel
theorem dX5_hint_10 : decode cX5_hint 10 = .ok (.aload_n 0, 1) := by decide +kernel
theorem dX5_hint_11 : decode cX5_hint 11 = .ok (.iload_n 1, 1) := by decide +kernel
theorem dX5_hint_12 : decode cX5_hint 12 = .ok (.iload_n 2, 1) := by decide +kernel
theorem dX5_hint_13 : decode cX5_hint 13 = .ok (.invokevirtual 129, 3) := by decide +kernel
theorem dX5_hint_16 : decode cX5_hint 16 = .ok (.ifCond .eq 12, 3) := by decide +kernel
theorem dX5_hint_19 : decode cX5_hint 19 = .ok (.aload_n 0, 1) := by decide +kernel
theorem dX5_hint_20 : decode cX5_hint 20 = .ok (.iload_n 1, 1) := by decide +kernel
theorem dX5_hint_21 : decode cX5_hint 21 = .ok (.iload_n 2, 1) := by decide +kernel
theorem dX5_hint_22 : decode cX5_hint 22 = .ok (.invokevirtual 148, 3) := by decide +kernel
theorem dX5_hint_25 : decode cX5_hint 25 = .ok (.ifCond .ne 13, 3) := by decide +kernel
theorem dX5_hint_28 : decode cX5_hint 28 = .ok (.new 65, 3) := by decide +kernel
theorem dX5_hint_38 : decode cX5_hint 38 = .ok (.aload_n 0, 1) := by decide +kernel
theorem dX5_hint_39 : decode cX5_hint 39 = .ok (.iload_n 1, 1) := by decide +kernel
theorem dX5_hint_40 : decode cX5_hint 40 = .ok (.iload_n 2, 1) := by decide +kernel
theorem dX5_hint_41 : decode cX5_hint 41 = .ok (.invokevirtual 153, 3) := by decide +kernel
theorem dX5_hint_44 : decode cX5_hint 44 = .ok (.istore_n 3, 1) := by decide +kernel
theorem dX5_hint_45 : decode cX5_hint 45 = .ok (.aload_n 0, 1) := by decide +kernel
theorem dX5_hint_46 : decode cX5_hint 46 = .ok (.getfield 26, 3) := by decide +kernel
theorem dX5_hint_49 : decode cX5_hint 49 = .ok (.iload_n 1, 1) := by decide +kernel
theorem dX5_hint_50 : decode cX5_hint 50 = .ok (.iload_n 2, 1) := by decide +kernel
theorem dX5_hint_51 : decode cX5_hint 51 = .ok (.iload_n 3, 1) := by decide +kernel
theorem dX5_hint_52 : decode cX5_hint 52 = .ok (.invokevirtual 157, 3) := by decide +kernel
theorem dX5_hint_55 : decode cX5_hint 55 = .ok (.aload_n 0, 1) := by decide +kernel
theorem dX5_hint_56 : decode cX5_hint 56 = .ok (.getfield 40, 3) := by decide +kernel
theorem dX5_hint_59 : decode cX5_hint 59 = .ok (.iload_n 1, 1) := by decide +kernel
theorem dX5_hint_60 : decode cX5_hint 60 = .ok (.iload_n 2, 1) := by decide +kernel
theorem dX5_hint_61 : decode cX5_hint 61 = .ok (.iload_n 3, 1) := by decide +kernel
theorem dX5_hint_62 : decode cX5_hint 62 = .ok (.invokevirtual 159, 3) := by decide +kernel
theorem dX5_hint_65 : decode cX5_hint 65 = .ok (.aload_n 0, 1) := by decide +kernel
theorem dX5_hint_66 : decode cX5_hint 66 = .ok (.getfield 10, 3) := by decide +kernel
theorem dX5_hint_69 : decode cX5_hint 69 = .ok (.dup, 1) := by decide +kernel
theorem dX5_hint_70 : decode cX5_hint 70 = .ok (.getfield 94, 3) := by decide +kernel
theorem dX5_hint_73 : decode cX5_hint 73 = .ok (.iload_n 2, 1) := by decide +kernel
theorem dX5_hint_74 : decode cX5_hint 74 = .ok (.invokestatic 106, 3) := by decide +kernel
theorem dX5_hint_77 : decode cX5_hint 77 = .ok (.ior, 1) := by decide +kernel
theorem dX5_hint_78 : decode cX5_hint 78 = .ok (.putfield 94, 3) := by decide +kernel
theorem dX5_hint_81 : decode cX5_hint 81 = .ok (.iload_n 3, 1) := by decide +kernel
theorem dX5_hint_82 : decode cX5_hint 82 = .ok (.ireturn, 1) := by decide +kernel
set_option maxHeartbeats 4000000 in
set_option maxRecDepth 100000 in
theorem c_X5_hint (l : Launch) (D : va_G) (cI cZ cL : ClassId) (ad : Nat → Nat) (S : Mem) (A : Nat → Prop) (hD : va_D A (wC ad cI S)) (x1 : Int32) (x2 : Int32) (hI : I0 S) (hth : (oHint S x1 x2).1 = none) : WR l D cI cZ cL yX5_hint cX5_hint 4 (some .int) 7 [.ref (ad 0), .int x1, .int x2] A (wC ad cI S) (wC ad cI ((oHint S x1 x2).2.2)) (some (.int ((oHint S x1 x2).2.1))) := by
  refine WR.of (by decide) (Nat.le_of_ble_eq_true rfl) ?_
  intro p e s m args below meth c ls hx hb hr hml hown hlk hE hP hS hl
  have hl : lv_has ls 4 [(0, .ref (ad 0)), (1, .int x1), (2, .int x2)] := hl
  have hT8 := hI.T8
  have hR16 := hI.R16
  have hN200 := hI.N200
  refine lv_aload_n hx hb dX5_hint_0 rfl (lv_at hl 0 rfl) ?_
  refine lv_iload_n hx hb dX5_hint_1 rfl (lv_at hl 1 rfl) ?_
  by_cases c_1 : okn x1 (cT S) = true
  · skip
    obtain ⟨u1, hu1, eu1⟩ := okn_t c_1
    subst eu1
    have iu1 : iN (nI u1) = u1 := iN_nI (by omega)
    refine q_rdv (q_runV (rest := []) hx hb hml hown hE (c_X5_requireTeam l D cI cZ cL ad S u1 hI hu1) ck_X5_requireTeam w_488 hP 0 rfl rfl hl.1 rfl ⟨Nat.le_of_ble_eq_true rfl, Nat.le_of_ble_eq_true rfl⟩ (Nat.le_of_ble_eq_true rfl) dX5_hint_2 ⟨Nat.le_of_ble_eq_true rfl, Nat.le_of_ble_eq_true rfl⟩) ?_
    refine lv_aload_n hx hb dX5_hint_5 rfl (lv_at hl 0 rfl) ?_
    refine lv_iload_n hx hb dX5_hint_6 rfl (lv_at hl 2 rfl) ?_
    by_cases c_2 : okn x2 (cR S) = true
    · skip
      obtain ⟨u2, hu2, eu2⟩ := okn_t c_2
      subst eu2
      have iu2 : iN (nI u2) = u2 := iN_nI (by omega)
      refine q_rdv (q_runV (rest := []) hx hb hml hown hE (c_X5_requireRiddle l D cI cZ cL ad S u2 hI hu2) ck_X5_requireRiddle w_436 hP 0 rfl rfl hl.1 rfl ⟨Nat.le_of_ble_eq_true rfl, Nat.le_of_ble_eq_true rfl⟩ (Nat.le_of_ble_eq_true rfl) dX5_hint_7 ⟨Nat.le_of_ble_eq_true rfl, Nat.le_of_ble_eq_true rfl⟩) ?_
      refine lv_aload_n hx hb dX5_hint_10 rfl (lv_at hl 0 rfl) ?_
      refine lv_iload_n hx hb dX5_hint_11 rfl (lv_at hl 1 rfl) ?_
      refine lv_iload_n hx hb dX5_hint_12 rfl (lv_at hl 2 rfl) ?_
      refine q_rd (q_runV (rest := []) hx hb hml hown hE (c_X5_isUnderWay l D cI cZ cL ad S u1 u2 (by omega) (by omega)) ck_X5_isUnderWay w_493 hP 0 rfl rfl hl.1 rfl ⟨Nat.le_of_ble_eq_true rfl, Nat.le_of_ble_eq_true rfl⟩ (Nat.le_of_ble_eq_true rfl) dX5_hint_13 ⟨Nat.le_of_ble_eq_true rfl, Nat.le_of_ble_eq_true rfl⟩) ?_
      refine lv_if_eq (tgt := 28) hx hb dX5_hint_16 (by decide) (fun c_3 => ?_) (fun c_3 => ?_)
      · skip
        have c_3 : p_under S u1 u2 = false := b_f c_3
        simp [oHint, o2, hHint, hintM, xI, xA, xS, xN, c_1, iu1, c_2, iu2, c_3] at hth
      · skip
        have c_3 : p_under S u1 u2 = true := b_t c_3
        refine lv_aload_n hx hb dX5_hint_19 rfl (lv_at hl 0 rfl) ?_
        refine lv_iload_n hx hb dX5_hint_20 rfl (lv_at hl 1 rfl) ?_
        refine lv_iload_n hx hb dX5_hint_21 rfl (lv_at hl 2 rfl) ?_
        refine q_rd (q_runV (rest := []) hx hb hml hown hE (c_X5_hasHintsLeft l D cI cZ cL ad S u1 u2 (by omega) (by omega)) ck_X5_hasHintsLeft w_536 hP 0 rfl rfl hl.1 rfl ⟨Nat.le_of_ble_eq_true rfl, Nat.le_of_ble_eq_true rfl⟩ (Nat.le_of_ble_eq_true rfl) dX5_hint_22 ⟨Nat.le_of_ble_eq_true rfl, Nat.le_of_ble_eq_true rfl⟩) ?_
        refine lv_if_ne (tgt := 38) hx hb dX5_hint_25 (by decide) (fun c_4 => ?_) (fun c_4 => ?_)
        · skip
          have c_4 : p_left S u1 u2 = true := b_t c_4
          refine lv_aload_n hx hb dX5_hint_38 rfl (lv_at hl 0 rfl) ?_
          refine lv_iload_n hx hb dX5_hint_39 rfl (lv_at hl 1 rfl) ?_
          refine lv_iload_n hx hb dX5_hint_40 rfl (lv_at hl 2 rfl) ?_
          refine q_rd (q_runV (rest := []) hx hb hml hown hE (c_X5_nextPrice l D cI cZ cL ad S u1 u2 (by omega) (by omega)) ck_X5_nextPrice w_541 hP 0 rfl rfl hl.1 rfl ⟨Nat.le_of_ble_eq_true rfl, Nat.le_of_ble_eq_true rfl⟩ (Nat.le_of_ble_eq_true rfl) dX5_hint_41 ⟨Nat.le_of_ble_eq_true rfl, Nat.le_of_ble_eq_true rfl⟩) ?_
          refine lv_istore_n (lv' := [(3, .int (p_price S u1 u2)), (0, .ref (ad 0)), (1, .int (nI u1)), (2, .int (nI u2))]) hx hb dX5_hint_44 rfl hl (by decide) rfl (fun ls hl => ?_)
          refine lv_aload_n hx hb dX5_hint_45 rfl (lv_at hl 1 rfl) ?_
          refine q_get (v := .ref (ad 12)) hx hb hown hE inT_X5 hP 0 rfl rfl 2 (by decide) w_214 rfl dX5_hint_46 ?_
          refine lv_iload_n hx hb dX5_hint_49 rfl (lv_at hl 2 rfl) ?_
          refine lv_iload_n hx hb dX5_hint_50 rfl (lv_at hl 3 rfl) ?_
          refine lv_iload_n hx hb dX5_hint_51 rfl (lv_at hl 0 rfl) ?_
          refine q_w0v (q_runVN (rest := []) hx hb hml hown hE (c_X4_append l D cI cZ cL ad S A (wC_D hD) u1 u2 (p_price S u1 u2) hI (by omega) (by omega) (left_lt hI (by omega) c_4)) ck_X4_append w_551 hP 12 rfl rfl hl.1 rfl ⟨Nat.le_of_ble_eq_true rfl, Nat.le_of_ble_eq_true rfl⟩ (Nat.le_of_ble_eq_true rfl) dX5_hint_52 ⟨Nat.le_of_ble_eq_true rfl, Nat.le_of_ble_eq_true rfl⟩) hS (fun H locs hP hS => ?_)
          refine lv_aload_n hx hb dX5_hint_55 rfl (lv_at hl 1 rfl) ?_
          refine q_get (v := .ref (ad 18)) hx hb hown hE inT_X5 hP 0 rfl rfl 4 (by decide) w_216 rfl dX5_hint_56 ?_
          refine lv_iload_n hx hb dX5_hint_59 rfl (lv_at hl 2 rfl) ?_
          refine lv_iload_n hx hb dX5_hint_60 rfl (lv_at hl 3 rfl) ?_
          refine lv_iload_n hx hb dX5_hint_61 rfl (lv_at hl 0 rfl) ?_
          refine q_w0v (q_runVN (rest := []) hx hb hml hown hE (c_X2_pay_18 l D cI cZ cL ad (p_sold S u1 u2 (p_price S u1 u2)) A (wC_D hD) u1 u2 (p_price S u1 u2) (by omega) (by omega)) ck_X2_pay w_558 hP 18 rfl rfl hl.1 rfl ⟨Nat.le_of_ble_eq_true rfl, Nat.le_of_ble_eq_true rfl⟩ (Nat.le_of_ble_eq_true rfl) dX5_hint_62 ⟨Nat.le_of_ble_eq_true rfl, Nat.le_of_ble_eq_true rfl⟩) hS (fun H locs hP hS => ?_)
          refine lv_aload_n hx hb dX5_hint_65 rfl (lv_at hl 1 rfl) ?_
          refine q_get (v := .ref (ad 1)) hx hb hown hE inT_X5 hP 0 rfl rfl 0 (by decide) w_212 rfl dX5_hint_66 ?_
          refine lv_dup hx hb dX5_hint_69 rfl ?_
          refine q_getN (v := .int ((p_pay (p_sold S u1 u2 (p_price S u1 u2)) 18 u1 u2 (p_price S u1 u2)) 1 5)) hx hb hown hE inT_X3 hP 1 rfl rfl 5 (by decide) w_102 rfl dX5_hint_70 ?_
          refine lv_iload_n hx hb dX5_hint_73 rfl (lv_at hl 3 rfl) ?_
          refine q_rd (q_runS (rest := [.int ((p_pay (p_sold S u1 u2 (p_price S u1 u2)) 18 u1 u2 (p_price S u1 u2)) 1 5), .ref (ad 1)]) hx hb hml hown hE (c_X5_bit l D cI cZ cL _ (nI u2)) ck_X5_bit w_458 hP hl.1 rfl ⟨Nat.le_of_ble_eq_true rfl, Nat.le_of_ble_eq_true rfl⟩ (Nat.le_of_ble_eq_true rfl) dX5_hint_74 ⟨Nat.le_of_ble_eq_true rfl, Nat.le_of_ble_eq_true rfl⟩) ?_
          refine lv_ior hx hb dX5_hint_77 ?_
          refine q_putN (ty0 := tyX3) (ws' := (wC ad cI (st (p_pay (p_sold S u1 u2 (p_price S u1 u2)) 18 u1 u2 (p_price S u1 u2)) 1 5 (((p_pay (p_sold S u1 u2 (p_price S u1 u2)) 18 u1 u2 (p_price S u1 u2)) 1 5) ||| (bt (nI u2)))))) (v := .int (((p_pay (p_sold S u1 u2 (p_price S u1 u2)) 18 u1 u2 (p_price S u1 u2)) 1 5) ||| (bt (nI u2)))) hx hb hown hE inT_X3 tyX3_ok nmX3 hP (wC_D hD) hS 1 rfl rfl 5 (by decide) w_102 rfl rfl rfl (Nat.le_of_ble_eq_true rfl) rfl dX5_hint_78 (fun H locs hP hS => ?_)
          refine lv_iload_n hx hb dX5_hint_81 rfl (lv_at hl 0 rfl) ?_
          rw [show oHint S (nI u1) (nI u2) = (none, p_price S u1 u2, st (p_pay (p_sold S u1 u2 (p_price S u1 u2)) 18 u1 u2 (p_price S u1 u2)) 1 5 (((p_pay (p_sold S u1 u2 (p_price S u1 u2)) 18 u1 u2 (p_price S u1 u2)) 1 5) ||| (bt (nI u2)))) from by first | (simp only [oHint, o2, hHint, hintM, c_1, iu1, c_2, iu2, c_3, c_4, ↓reduceIte]; done) | (simp only [oHint, o2, hHint, hintM, c_1, iu1, c_2, iu2, c_3, c_4, ↓reduceIte]; rfl) | (simp [oHint, o2, hHint, hintM, c_1, iu1, c_2, iu2, c_3, c_4]; done) | (simp [oHint, o2, hHint, hintM, c_1, iu1, c_2, iu2, c_3, c_4]; rfl)]
          exact e_wret hx hb hr hlk rfl hP hS dX5_hint_82
        · skip
          have c_4 : p_left S u1 u2 = false := b_f c_4
          simp [oHint, o2, hHint, hintM, xI, xA, xS, xN, c_1, iu1, c_2, iu2, c_3, c_4] at hth
    · skip
      simp [oHint, o2, hHint, hintM, xI, xA, xS, xN, c_1, iu1, c_2] at hth
  · skip
    simp [oHint, o2, hHint, hintM, xI, xA, xS, xN, c_1] at hth
