theorem dX6_pass_0 : decode cX6_pass 0 = .ok (.aload_n 0, 1) := by decide +kernel
theorem dX6_pass_1 : decode cX6_pass 1 = .ok (.iload_n 1, 1) := by decide +kernel
theorem dX6_pass_2 : decode cX6_pass 2 = .ok (.iconst 1, 1) := by decide +kernel
theorem dX6_pass_3 : decode cX6_pass 3 = .ok (.sipush 500, 3) := by decide +kernel
theorem dX6_pass_6 : decode cX6_pass 6 = .ok (.invokestatic 66, 3) := by decide +kernel
theorem dX6_pass_9 : decode cX6_pass 9 = .ok (.ifCond .ne 7, 3) := by decide +kernel
theorem dX6_pass_12 : decode cX6_pass 12 = .ok (.iconst 1, 1) := by decide +kernel
theorem dX6_pass_13 : decode cX6_pass 13 = .ok (.goto 20, 3) := by decide +kernel
theorem dX6_pass_16 : decode cX6_pass 16 = .ok (.aload_n 0, 1) := by decide +kernel
theorem dX6_pass_17 : decode cX6_pass 17 = .ok (.getfield 73, 3) := by decide +kernel
theorem dX6_pass_20 : decode cX6_pass 20 = .ok (.iload_n 1, 1) := by decide +kernel
theorem dX6_pass_21 : decode cX6_pass 21 = .ok (.iadd, 1) := by decide +kernel
theorem dX6_pass_22 : decode cX6_pass 22 = .ok (.sipush 20000, 3) := by decide +kernel
theorem dX6_pass_25 : decode cX6_pass 25 = .ok (.if_icmp .le 7, 3) := by decide +kernel
theorem dX6_pass_28 : decode cX6_pass 28 = .ok (.iconst 2, 1) := by decide +kernel
theorem dX6_pass_29 : decode cX6_pass 29 = .ok (.goto 4, 3) := by decide +kernel
theorem dX6_pass_32 : decode cX6_pass 32 = .ok (.iconst 0, 1) := by decide +kernel
theorem dX6_pass_33 : decode cX6_pass 33 = .ok (.invokevirtual 76, 3) := by decide +kernel
theorem dX6_pass_36 : decode cX6_pass 36 = .ok (.ifCond .ne 5, 3) := by decide +kernel
theorem dX6_pass_39 : decode cX6_pass 39 = .ok (.iconst 0, 1) := by decide +kernel
theorem dX6_pass_40 : decode cX6_pass 40 = .ok (.ireturn, 1) := by decide +kernel
theorem dX6_pass_41 : decode cX6_pass 41 = .ok (.aload_n 0, 1) := by decide +kernel
theorem dX6_pass_42 : decode cX6_pass 42 = .ok (.dup, 1) := by decide +kernel
theorem dX6_pass_43 : decode cX6_pass 43 = .ok (.getfield 73, 3) := by decide +kernel
theorem dX6_pass_46 : decode cX6_pass 46 = .ok (.iload_n 1, 1) := by decide +kernel
theorem dX6_pass_47 : decode cX6_pass 47 = .ok (.iadd, 1) := by decide +kernel
theorem dX6_pass_48 : decode cX6_pass 48 = .ok (.putfield 73, 3) := by decide +kernel
theorem dX6_pass_51 : decode cX6_pass 51 = .ok (.aload_n 0, 1) := by decide +kernel
theorem dX6_pass_52 : decode cX6_pass 52 = .ok (.getfield 73, 3) := by decide +kernel
theorem dX6_pass_55 : decode cX6_pass 55 = .ok (.ireturn, 1) := by decide +kernel
set_option maxHeartbeats 4000000 in
set_option maxRecDepth 100000 in
theorem c_X6_pass (l : Launch) (D : va_G) (cI cZ cL : ClassId) (am : Nat → Nat) (M : Mem) (th : Int32) (A : Nat → Prop) (hD : va_D A (wQ am cI cZ M th)) (x1 : Int32) (hI : J0 M) : WR l D cI cZ cL yX6_pass cX6_pass 2 (some .int) 9 [.ref (am 0), .int x1] A (wQ am cI cZ M th) (wQ am cI cZ ((mPass M x1).2.2) ((mPass M x1).2.1)) (some (.int ((mPass M x1).1))) := by
  refine WR.of (by decide) (Nat.le_of_ble_eq_true rfl) ?_
  intro p e s m args below meth c ls hx hb hr hml hown hlk hE hP hS hl
  have hl : lv_has ls 2 [(0, .ref (am 0)), (1, .int x1)] := hl
  have hT8 := hI.T8
  have hR16 := hI.R16
  have hN200 := hI.N200
  refine lv_aload_n hx hb dX6_pass_0 rfl (lv_at hl 0 rfl) ?_
  refine lv_iload_n hx hb dX6_pass_1 rfl (lv_at hl 1 rfl) ?_
  refine lv_iconst (v := 1) hx hb dX6_pass_2 (by decide) ?_
  refine lv_sipush (v := 500) hx hb dX6_pass_3 (by decide) ?_
  refine q_rd (q_runS (rest := [.ref (am 0)]) hx hb hml hown hE (c_X6_isIn l D cI cZ cL _ x1 1 500) ck_X6_isIn w_834 hP hl.1 rfl ⟨Nat.le_of_ble_eq_true rfl, Nat.le_of_ble_eq_true rfl⟩ (Nat.le_of_ble_eq_true rfl) dX6_pass_6 ⟨Nat.le_of_ble_eq_true rfl, Nat.le_of_ble_eq_true rfl⟩) ?_
  refine lv_if_ne (tgt := 16) hx hb dX6_pass_9 (by decide) (fun zc_1 => ?_) (fun zc_1 => ?_)
  · skip
    have zc_1 : okr x1 1 500 = true := b_t zc_1
    refine lv_aload_n hx hb dX6_pass_16 rfl (lv_at hl 0 rfl) ?_
    refine q_get (v := .int (M 0 0)) hx hb hown hE inT_X6 hP 0 rfl rfl 0 (by decide) w_758 rfl dX6_pass_17 ?_
    refine lv_iload_n hx hb dX6_pass_20 rfl (lv_at hl 1 rfl) ?_
    refine lv_iadd hx hb dX6_pass_21 ?_
    refine lv_sipush (v := 20000) hx hb dX6_pass_22 (by decide) ?_
    refine lv_icmp_le (tgt := 32) hx hb dX6_pass_25 (by decide) (fun zc_2 => ?_) (fun zc_2 => ?_)
    · skip
      have gc_2 : ¬ 20000 < ((M 0 0) + x1) := Int32.not_lt.mpr zc_2
      refine lv_iconst (v := 0) hx hb dX6_pass_32 (by decide) ?_
      refine q_w0 (q_runV (rest := []) hx hb hml hown hE (c_X6_goes l D cI cZ cL am M th A (wQ_D hD) 0) ck_X6_goes w_837 hP 0 rfl rfl hl.1 rfl ⟨Nat.le_of_ble_eq_true rfl, Nat.le_of_ble_eq_true rfl⟩ (Nat.le_of_ble_eq_true rfl) dX6_pass_33 ⟨Nat.le_of_ble_eq_true rfl, Nat.le_of_ble_eq_true rfl⟩) hS (fun H locs hP hS => ?_)
      have hI_c3 : J0 M := hI
      refine q_top (y := 1) (by decide) ?_
      refine lv_if_ne (tgt := 41) hx hb dX6_pass_36 (by decide) (fun zc_4 => ?_) (fun zc_4 => ?_)
      · skip
        refine lv_aload_n hx hb dX6_pass_41 rfl (lv_at hl 0 rfl) ?_
        refine lv_dup hx hb dX6_pass_42 rfl ?_
        refine q_get (v := .int (M 0 0)) hx hb hown hE inT_X6 hP 0 rfl rfl 0 (by decide) w_758 rfl dX6_pass_43 ?_
        refine lv_iload_n hx hb dX6_pass_46 rfl (lv_at hl 1 rfl) ?_
        refine lv_iadd hx hb dX6_pass_47 ?_
        refine q_put (ty0 := tyX6) (ws' := (wQ am cI cZ (st M 0 0 ((M 0 0) + x1)) 0)) (v := .int ((M 0 0) + x1)) hx hb hown hE inT_X6 tyX6_ok nmX6 hP (wQ_D hD) hS 0 rfl rfl 0 (by decide) w_758 rfl rfl rfl (Nat.le_of_ble_eq_true rfl) rfl dX6_pass_48 (fun H locs hP hS => ?_)
        refine lv_aload_n hx hb dX6_pass_51 rfl (lv_at hl 0 rfl) ?_
        refine q_get (v := .int ((M 0 0) + x1)) hx hb hown hE inT_X6 hP 0 rfl rfl 0 (by decide) w_758 rfl dX6_pass_52 ?_
        rw [show mPass M x1 = ((M 0 0) + x1, 0, st M 0 0 ((M 0 0) + x1)) from by first | (simp only [mPass, zc_1, zc_2, gc_2, ↓reduceIte]; done) | (simp only [mPass, zc_1, zc_2, gc_2, ↓reduceIte]; rfl) | (simp [mPass, zc_1, zc_2, gc_2]; done) | (simp [mPass, zc_1, zc_2, gc_2]; rfl)]
        exact e_wret hx hb hr hlk rfl hP hS dX6_pass_55
      · skip
        exact absurd zc_4 (by decide)
    · skip
      have gc_2 : 20000 < ((M 0 0) + x1) := Int32.not_le.mp zc_2
      refine lv_iconst (v := 2) hx hb dX6_pass_28 (by decide) ?_
      refine lv_goto (tgt := 33) hx hb dX6_pass_29 (by decide) ?_
      refine q_w0 (q_runV (rest := []) hx hb hml hown hE (c_X6_goes l D cI cZ cL am M th A (wQ_D hD) 2) ck_X6_goes w_837 hP 0 rfl rfl hl.1 rfl ⟨Nat.le_of_ble_eq_true rfl, Nat.le_of_ble_eq_true rfl⟩ (Nat.le_of_ble_eq_true rfl) dX6_pass_33 ⟨Nat.le_of_ble_eq_true rfl, Nat.le_of_ble_eq_true rfl⟩) hS (fun H locs hP hS => ?_)
      have hI_c5 : J0 M := hI
      refine q_top (y := 0) (by decide) ?_
      refine lv_if_ne (tgt := 41) hx hb dX6_pass_36 (by decide) (fun zc_6 => ?_) (fun zc_6 => ?_)
      · skip
        exact absurd zc_6 (by decide)
      · skip
        refine lv_iconst (v := 0) hx hb dX6_pass_39 (by decide) ?_
        rw [show mPass M x1 = (0, 2, M) from by first | (simp only [mPass, zc_1, zc_2, gc_2, ↓reduceIte]; done) | (simp only [mPass, zc_1, zc_2, gc_2, ↓reduceIte]; rfl) | (simp [mPass, zc_1, zc_2, gc_2]; done) | (simp [mPass, zc_1, zc_2, gc_2]; rfl)]
        exact e_wret hx hb hr hlk rfl hP hS dX6_pass_40
  · skip
    have zc_1 : okr x1 1 500 = false := b_f zc_1
    refine lv_iconst (v := 1) hx hb dX6_pass_12 (by decide) ?_
    refine lv_goto (tgt := 33) hx hb dX6_pass_13 (by decide) ?_
    refine q_w0 (q_runV (rest := []) hx hb hml hown hE (c_X6_goes l D cI cZ cL am M th A (wQ_D hD) 1) ck_X6_goes w_837 hP 0 rfl rfl hl.1 rfl ⟨Nat.le_of_ble_eq_true rfl, Nat.le_of_ble_eq_true rfl⟩ (Nat.le_of_ble_eq_true rfl) dX6_pass_33 ⟨Nat.le_of_ble_eq_true rfl, Nat.le_of_ble_eq_true rfl⟩) hS (fun H locs hP hS => ?_)
    have hI_c7 : J0 M := hI
    refine q_top (y := 0) (by decide) ?_
    refine lv_if_ne (tgt := 41) hx hb dX6_pass_36 (by decide) (fun zc_8 => ?_) (fun zc_8 => ?_)
    · skip
      exact absurd zc_8 (by decide)
    · skip
      refine lv_iconst (v := 0) hx hb dX6_pass_39 (by decide) ?_
      rw [show mPass M x1 = (0, 1, M) from by first | (simp only [mPass, zc_1, ↓reduceIte]; done) | (simp only [mPass, zc_1, ↓reduceIte]; rfl) | (simp [mPass, zc_1]; done) | (simp [mPass, zc_1]; rfl)]
      exact e_wret hx hb hr hlk rfl hP hS dX6_pass_40

theorem dX6_now_0 : decode cX6_now 0 = .ok (.aload_n 0, 1) := by decide +kernel
theorem dX6_now_1 : decode cX6_now 1 = .ok (.iconst 0, 1) := by decide +kernel
theorem dX6_now_2 : decode cX6_now 2 = .ok (.putfield 60, 3) := by decide +kernel
theorem dX6_now_5 : decode cX6_now 5 = .ok (.aload_n 0, 1) := by decide +kernel
theorem dX6_now_6 : decode cX6_now 6 = .ok (.getfield 73, 3) := by decide +kernel
theorem dX6_now_9 : decode cX6_now 9 = .ok (.ireturn, 1) := by decide +kernel
set_option maxHeartbeats 4000000 in
set_option maxRecDepth 100000 in
theorem c_X6_now (l : Launch) (D : va_G) (cI cZ cL : ClassId) (am : Nat → Nat) (M : Mem) (th : Int32) (A : Nat → Prop) (hD : va_D A (wQ am cI cZ M th)) (hI : J0 M) : WR l D cI cZ cL yX6_now cX6_now 1 (some .int) 9 [.ref (am 0)] A (wQ am cI cZ M th) (wQ am cI cZ ((mNow M).2.2) ((mNow M).2.1)) (some (.int ((mNow M).1))) := by
  refine WR.of (by decide) (Nat.le_of_ble_eq_true rfl) ?_
  intro p e s m args below meth c ls hx hb hr hml hown hlk hE hP hS hl
  have hl : lv_has ls 1 [(0, .ref (am 0))] := hl
  have hT8 := hI.T8
  have hR16 := hI.R16
  have hN200 := hI.N200
  refine lv_aload_n hx hb dX6_now_0 rfl (lv_at hl 0 rfl) ?_
  refine lv_iconst (v := 0) hx hb dX6_now_1 (by decide) ?_
  refine q_put (ty0 := tyX6) (ws' := (wQ am cI cZ M 0)) (v := .int 0) hx hb hown hE inT_X6 tyX6_ok nmX6 hP (wQ_D hD) hS 0 rfl rfl 21 (by decide) w_779 rfl rfl rfl (Nat.le_of_ble_eq_true rfl) rfl dX6_now_2 (fun H locs hP hS => ?_)
  refine lv_aload_n hx hb dX6_now_5 rfl (lv_at hl 0 rfl) ?_
  refine q_get (v := .int (M 0 0)) hx hb hown hE inT_X6 hP 0 rfl rfl 0 (by decide) w_758 rfl dX6_now_6 ?_
  rw [show mNow M = (M 0 0, 0, M) from by first | (simp only [mNow, ↓reduceIte]; done) | (simp only [mNow, ↓reduceIte]; rfl) | (simp [mNow]; done) | (simp [mNow]; rfl)]
  exact e_wret hx hb hr hlk rfl hP hS dX6_now_9

theorem dX6_addRiddle_0 : decode cX6_addRiddle 0 = .ok (.iload_n 1, 1) := by decide +kernel
theorem dX6_addRiddle_1 : decode cX6_addRiddle 1 = .ok (.iconst 1, 1) := by decide +kernel
theorem dX6_addRiddle_2 : decode cX6_addRiddle 2 = .ok (.bipush 50, 2) := by decide +kernel
theorem dX6_addRiddle_4 : decode cX6_addRiddle 4 = .ok (.invokestatic 66, 3) := by decide +kernel
theorem dX6_addRiddle_7 : decode cX6_addRiddle 7 = .ok (.ifCond .eq 39, 3) := by decide +kernel
theorem dX6_addRiddle_10 : decode cX6_addRiddle 10 = .ok (.iload_n 2, 1) := by decide +kernel
theorem dX6_addRiddle_11 : decode cX6_addRiddle 11 = .ok (.iconst 0, 1) := by decide +kernel
theorem dX6_addRiddle_12 : decode cX6_addRiddle 12 = .ok (.sipush 9999, 3) := by decide +kernel
theorem dX6_addRiddle_15 : decode cX6_addRiddle 15 = .ok (.invokestatic 66, 3) := by decide +kernel
theorem dX6_addRiddle_18 : decode cX6_addRiddle 18 = .ok (.ifCond .eq 28, 3) := by decide +kernel
theorem dX6_addRiddle_21 : decode cX6_addRiddle 21 = .ok (.iload_n 3, 1) := by decide +kernel
theorem dX6_addRiddle_22 : decode cX6_addRiddle 22 = .ok (.iconst 0, 1) := by decide +kernel
theorem dX6_addRiddle_23 : decode cX6_addRiddle 23 = .ok (.bipush 100, 2) := by decide +kernel
theorem dX6_addRiddle_25 : decode cX6_addRiddle 25 = .ok (.invokestatic 66, 3) := by decide +kernel
theorem dX6_addRiddle_28 : decode cX6_addRiddle 28 = .ok (.ifCond .eq 18, 3) := by decide +kernel
theorem dX6_addRiddle_31 : decode cX6_addRiddle 31 = .ok (.iload 4, 2) := by decide +kernel
theorem dX6_addRiddle_33 : decode cX6_addRiddle 33 = .ok (.iconst 1, 1) := by decide +kernel
theorem dX6_addRiddle_34 : decode cX6_addRiddle 34 = .ok (.bipush 40, 2) := by decide +kernel
theorem dX6_addRiddle_36 : decode cX6_addRiddle 36 = .ok (.invokestatic 66, 3) := by decide +kernel
theorem dX6_addRiddle_39 : decode cX6_addRiddle 39 = .ok (.ifCond .eq 7, 3) := by decide +kernel
theorem dX6_addRiddle_42 : decode cX6_addRiddle 42 = .ok (.iconst 1, 1) := by decide +kernel
theorem dX6_addRiddle_43 : decode cX6_addRiddle 43 = .ok (.goto 4, 3) := by decide +kernel
theorem dX6_addRiddle_46 : decode cX6_addRiddle 46 = .ok (.iconst 0, 1) := by decide +kernel
theorem dX6_addRiddle_47 : decode cX6_addRiddle 47 = .ok (.istore 5, 2) := by decide +kernel
theorem dX6_addRiddle_49 : decode cX6_addRiddle 49 = .ok (.aload_n 0, 1) := by decide +kernel
theorem dX6_addRiddle_50 : decode cX6_addRiddle 50 = .ok (.iload 5, 2) := by decide +kernel
theorem dX6_addRiddle_52 : decode cX6_addRiddle 52 = .ok (.ifCond .ne 7, 3) := by decide +kernel
theorem dX6_addRiddle_55 : decode cX6_addRiddle 55 = .ok (.iconst 1, 1) := by decide +kernel
theorem dX6_addRiddle_56 : decode cX6_addRiddle 56 = .ok (.goto 24, 3) := by decide +kernel
theorem dX6_addRiddle_59 : decode cX6_addRiddle 59 = .ok (.aload_n 0, 1) := by decide +kernel
theorem dX6_addRiddle_60 : decode cX6_addRiddle 60 = .ok (.getfield 63, 3) := by decide +kernel
theorem dX6_addRiddle_63 : decode cX6_addRiddle 63 = .ok (.bipush 16, 2) := by decide +kernel
theorem dX6_addRiddle_65 : decode cX6_addRiddle 65 = .ok (.if_icmp .eq 10, 3) := by decide +kernel
theorem dX6_addRiddle_68 : decode cX6_addRiddle 68 = .ok (.aload_n 0, 1) := by decide +kernel
theorem dX6_addRiddle_69 : decode cX6_addRiddle 69 = .ok (.getfield 80, 3) := by decide +kernel
theorem dX6_addRiddle_72 : decode cX6_addRiddle 72 = .ok (.ifCond .eq 7, 3) := by decide +kernel
theorem dX6_addRiddle_75 : decode cX6_addRiddle 75 = .ok (.iconst 2, 1) := by decide +kernel
theorem dX6_addRiddle_76 : decode cX6_addRiddle 76 = .ok (.goto 4, 3) := by decide +kernel
theorem dX6_addRiddle_79 : decode cX6_addRiddle 79 = .ok (.iconst 0, 1) := by decide +kernel
theorem dX6_addRiddle_80 : decode cX6_addRiddle 80 = .ok (.invokevirtual 76, 3) := by decide +kernel
theorem dX6_addRiddle_83 : decode cX6_addRiddle 83 = .ok (.ifCond .ne 5, 3) := by decide +kernel
theorem dX6_addRiddle_86 : decode cX6_addRiddle 86 = .ok (.iconst 0, 1) := by decide +kernel
theorem dX6_addRiddle_87 : decode cX6_addRiddle 87 = .ok (.ireturn, 1) := by decide +kernel
theorem dX6_addRiddle_88 : decode cX6_addRiddle 88 = .ok (.aload_n 0, 1) := by decide +kernel
theorem dX6_addRiddle_89 : decode cX6_addRiddle 89 = .ok (.getfield 7, 3) := by decide +kernel
theorem dX6_addRiddle_92 : decode cX6_addRiddle 92 = .ok (.aload_n 0, 1) := by decide +kernel
theorem dX6_addRiddle_93 : decode cX6_addRiddle 93 = .ok (.getfield 63, 3) := by decide +kernel
theorem dX6_addRiddle_96 : decode cX6_addRiddle 96 = .ok (.iload_n 1, 1) := by decide +kernel
theorem dX6_addRiddle_97 : decode cX6_addRiddle 97 = .ok (.iastore, 1) := by decide +kernel
theorem dX6_addRiddle_98 : decode cX6_addRiddle 98 = .ok (.aload_n 0, 1) := by decide +kernel
theorem dX6_addRiddle_99 : decode cX6_addRiddle 99 = .ok (.getfield 13, 3) := by decide +kernel
theorem dX6_addRiddle_102 : decode cX6_addRiddle 102 = .ok (.aload_n 0, 1) := by decide +kernel
theorem dX6_addRiddle_103 : decode cX6_addRiddle 103 = .ok (.getfield 63, 3) := by decide +kernel
theorem dX6_addRiddle_106 : decode cX6_addRiddle 106 = .ok (.iload_n 2, 1) := by decide +kernel
theorem dX6_addRiddle_107 : decode cX6_addRiddle 107 = .ok (.iastore, 1) := by decide +kernel
theorem dX6_addRiddle_108 : decode cX6_addRiddle 108 = .ok (.aload_n 0, 1) := by decide +kernel
theorem dX6_addRiddle_109 : decode cX6_addRiddle 109 = .ok (.getfield 16, 3) := by decide +kernel
theorem dX6_addRiddle_112 : decode cX6_addRiddle 112 = .ok (.aload_n 0, 1) := by decide +kernel
theorem dX6_addRiddle_113 : decode cX6_addRiddle 113 = .ok (.getfield 63, 3) := by decide +kernel
theorem dX6_addRiddle_116 : decode cX6_addRiddle 116 = .ok (.iload_n 3, 1) := by decide +kernel
theorem dX6_addRiddle_117 : decode cX6_addRiddle 117 = .ok (.iastore, 1) := by decide +kernel
theorem dX6_addRiddle_118 : decode cX6_addRiddle 118 = .ok (.aload_n 0, 1) := by decide +kernel
theorem dX6_addRiddle_119 : decode cX6_addRiddle 119 = .ok (.getfield 19, 3) := by decide +kernel
theorem dX6_addRiddle_122 : decode cX6_addRiddle 122 = .ok (.aload_n 0, 1) := by decide +kernel
theorem dX6_addRiddle_123 : decode cX6_addRiddle 123 = .ok (.getfield 63, 3) := by decide +kernel
theorem dX6_addRiddle_126 : decode cX6_addRiddle 126 = .ok (.iload 4, 2) := by decide +kernel
theorem dX6_addRiddle_128 : decode cX6_addRiddle 128 = .ok (.iastore, 1) := by decide +kernel
theorem dX6_addRiddle_129 : decode cX6_addRiddle 129 = .ok (.aload_n 0, 1) := by decide +kernel
theorem dX6_addRiddle_130 : decode cX6_addRiddle 130 = .ok (.dup, 1) := by decide +kernel
theorem dX6_addRiddle_131 : decode cX6_addRiddle 131 = .ok (.getfield 63, 3) := by decide +kernel
theorem dX6_addRiddle_134 : decode cX6_addRiddle 134 = .ok (.iconst 1, 1) := by decide +kernel
theorem dX6_addRiddle_135 : decode cX6_addRiddle 135 = .ok (.iadd, 1) := by decide +kernel
theorem dX6_addRiddle_136 : decode cX6_addRiddle 136 = .ok (.putfield 63, 3) := by decide +kernel
theorem dX6_addRiddle_139 : decode cX6_addRiddle 139 = .ok (.aload_n 0, 1) := by decide +kernel
theorem dX6_addRiddle_140 : decode cX6_addRiddle 140 = .ok (.getfield 63, 3) := by decide +kernel
theorem dX6_addRiddle_143 : decode cX6_addRiddle 143 = .ok (.iconst 1, 1) := by decide +kernel
theorem dX6_addRiddle_144 : decode cX6_addRiddle 144 = .ok (.isub, 1) := by decide +kernel
theorem dX6_addRiddle_145 : decode cX6_addRiddle 145 = .ok (.ireturn, 1) := by decide +kernel
set_option maxHeartbeats 4000000 in
set_option maxRecDepth 100000 in
theorem c_X6_addRiddle (l : Launch) (D : va_G) (cI cZ cL : ClassId) (am : Nat → Nat) (M : Mem) (th : Int32) (A : Nat → Prop) (hD : va_D A (wQ am cI cZ M th)) (x1 : Int32) (x2 : Int32) (x3 : Int32) (x4 : Int32) (hI : J0 M) : WR l D cI cZ cL yX6_addRiddle cX6_addRiddle 6 (some .int) 9 [.ref (am 0), .int x1, .int x2, .int x3, .int x4] A (wQ am cI cZ M th) (wQ am cI cZ ((mAddR M x1 x2 x3 x4).2.2) ((mAddR M x1 x2 x3 x4).2.1)) (some (.int ((mAddR M x1 x2 x3 x4).1))) := by
  refine WR.of (by decide) (Nat.le_of_ble_eq_true rfl) ?_
  intro p e s m args below meth c ls hx hb hr hml hown hlk hE hP hS hl
  have hl : lv_has ls 6 [(0, .ref (am 0)), (1, .int x1), (2, .int x2), (3, .int x3), (4, .int x4)] := hl
  have hT8 := hI.T8
  have hR16 := hI.R16
  have hN200 := hI.N200
  refine lv_iload_n hx hb dX6_addRiddle_0 rfl (lv_at hl 1 rfl) ?_
  refine lv_iconst (v := 1) hx hb dX6_addRiddle_1 (by decide) ?_
  refine lv_bipush (v := 50) hx hb dX6_addRiddle_2 (by decide) ?_
  refine q_rd (q_runS (rest := []) hx hb hml hown hE (c_X6_isIn l D cI cZ cL _ x1 1 50) ck_X6_isIn w_834 hP hl.1 rfl ⟨Nat.le_of_ble_eq_true rfl, Nat.le_of_ble_eq_true rfl⟩ (Nat.le_of_ble_eq_true rfl) dX6_addRiddle_4 ⟨Nat.le_of_ble_eq_true rfl, Nat.le_of_ble_eq_true rfl⟩) ?_
  refine lv_if_eq (tgt := 46) hx hb dX6_addRiddle_7 (by decide) (fun zc_1 => ?_) (fun zc_1 => ?_)
  · skip
    have zc_1 : okr x1 1 50 = false := b_f zc_1
    refine lv_iconst (v := 0) hx hb dX6_addRiddle_46 (by decide) ?_
    refine lv_istore (lv' := [(5, .int 0), (0, .ref (am 0)), (1, .int x1), (2, .int x2), (3, .int x3), (4, .int x4)]) hx hb dX6_addRiddle_47 hl (by decide) rfl (fun ls hl => ?_)
    refine lv_aload_n hx hb dX6_addRiddle_49 rfl (lv_at hl 1 rfl) ?_
    refine lv_iload hx hb dX6_addRiddle_50 (lv_at hl 0 rfl) ?_
    refine lv_if_ne (tgt := 59) hx hb dX6_addRiddle_52 (by decide) (fun zc_2 => ?_) (fun zc_2 => ?_)
    · skip
      exact absurd zc_2 (by decide)
    · skip
      refine lv_iconst (v := 1) hx hb dX6_addRiddle_55 (by decide) ?_
      refine lv_goto (tgt := 80) hx hb dX6_addRiddle_56 (by decide) ?_
      refine q_w0 (q_runV (rest := []) hx hb hml hown hE (c_X6_goes l D cI cZ cL am M th A (wQ_D hD) 1) ck_X6_goes w_837 hP 0 rfl rfl hl.1 rfl ⟨Nat.le_of_ble_eq_true rfl, Nat.le_of_ble_eq_true rfl⟩ (Nat.le_of_ble_eq_true rfl) dX6_addRiddle_80 ⟨Nat.le_of_ble_eq_true rfl, Nat.le_of_ble_eq_true rfl⟩) hS (fun H locs hP hS => ?_)
      have hI_c3 : J0 M := hI
      refine q_top (y := 0) (by decide) ?_
      refine lv_if_ne (tgt := 88) hx hb dX6_addRiddle_83 (by decide) (fun zc_4 => ?_) (fun zc_4 => ?_)
      · skip
        exact absurd zc_4 (by decide)
      · skip
        refine lv_iconst (v := 0) hx hb dX6_addRiddle_86 (by decide) ?_
        rw [show mAddR M x1 x2 x3 x4 = (0, 1, M) from by first | (simp only [mAddR, addRM, zc_1, ↓reduceIte]; done) | (simp only [mAddR, addRM, zc_1, ↓reduceIte]; rfl) | (simp [mAddR, addRM, zc_1]; done) | (simp [mAddR, addRM, zc_1]; rfl)]
        exact e_wret hx hb hr hlk rfl hP hS dX6_addRiddle_87
  · skip
    have zc_1 : okr x1 1 50 = true := b_t zc_1
    refine lv_iload_n hx hb dX6_addRiddle_10 rfl (lv_at hl 2 rfl) ?_
    refine lv_iconst (v := 0) hx hb dX6_addRiddle_11 (by decide) ?_
    refine lv_sipush (v := 9999) hx hb dX6_addRiddle_12 (by decide) ?_
    refine q_rd (q_runS (rest := []) hx hb hml hown hE (c_X6_isIn l D cI cZ cL _ x2 0 9999) ck_X6_isIn w_834 hP hl.1 rfl ⟨Nat.le_of_ble_eq_true rfl, Nat.le_of_ble_eq_true rfl⟩ (Nat.le_of_ble_eq_true rfl) dX6_addRiddle_15 ⟨Nat.le_of_ble_eq_true rfl, Nat.le_of_ble_eq_true rfl⟩) ?_
    refine lv_if_eq (tgt := 46) hx hb dX6_addRiddle_18 (by decide) (fun zc_5 => ?_) (fun zc_5 => ?_)
    · skip
      have zc_5 : okr x2 0 9999 = false := b_f zc_5
      refine lv_iconst (v := 0) hx hb dX6_addRiddle_46 (by decide) ?_
      refine lv_istore (lv' := [(5, .int 0), (0, .ref (am 0)), (1, .int x1), (2, .int x2), (3, .int x3), (4, .int x4)]) hx hb dX6_addRiddle_47 hl (by decide) rfl (fun ls hl => ?_)
      refine lv_aload_n hx hb dX6_addRiddle_49 rfl (lv_at hl 1 rfl) ?_
      refine lv_iload hx hb dX6_addRiddle_50 (lv_at hl 0 rfl) ?_
      refine lv_if_ne (tgt := 59) hx hb dX6_addRiddle_52 (by decide) (fun zc_6 => ?_) (fun zc_6 => ?_)
      · skip
        exact absurd zc_6 (by decide)
      · skip
        refine lv_iconst (v := 1) hx hb dX6_addRiddle_55 (by decide) ?_
        refine lv_goto (tgt := 80) hx hb dX6_addRiddle_56 (by decide) ?_
        refine q_w0 (q_runV (rest := []) hx hb hml hown hE (c_X6_goes l D cI cZ cL am M th A (wQ_D hD) 1) ck_X6_goes w_837 hP 0 rfl rfl hl.1 rfl ⟨Nat.le_of_ble_eq_true rfl, Nat.le_of_ble_eq_true rfl⟩ (Nat.le_of_ble_eq_true rfl) dX6_addRiddle_80 ⟨Nat.le_of_ble_eq_true rfl, Nat.le_of_ble_eq_true rfl⟩) hS (fun H locs hP hS => ?_)
        have hI_c7 : J0 M := hI
        refine q_top (y := 0) (by decide) ?_
        refine lv_if_ne (tgt := 88) hx hb dX6_addRiddle_83 (by decide) (fun zc_8 => ?_) (fun zc_8 => ?_)
        · skip
          exact absurd zc_8 (by decide)
        · skip
          refine lv_iconst (v := 0) hx hb dX6_addRiddle_86 (by decide) ?_
          rw [show mAddR M x1 x2 x3 x4 = (0, 1, M) from by first | (simp only [mAddR, addRM, zc_1, zc_5, ↓reduceIte]; done) | (simp only [mAddR, addRM, zc_1, zc_5, ↓reduceIte]; rfl) | (simp [mAddR, addRM, zc_1, zc_5]; done) | (simp [mAddR, addRM, zc_1, zc_5]; rfl)]
          exact e_wret hx hb hr hlk rfl hP hS dX6_addRiddle_87
    · skip
      have zc_5 : okr x2 0 9999 = true := b_t zc_5
      refine lv_iload_n hx hb dX6_addRiddle_21 rfl (lv_at hl 3 rfl) ?_
      refine lv_iconst (v := 0) hx hb dX6_addRiddle_22 (by decide) ?_
      refine lv_bipush (v := 100) hx hb dX6_addRiddle_23 (by decide) ?_
      refine q_rd (q_runS (rest := []) hx hb hml hown hE (c_X6_isIn l D cI cZ cL _ x3 0 100) ck_X6_isIn w_834 hP hl.1 rfl ⟨Nat.le_of_ble_eq_true rfl, Nat.le_of_ble_eq_true rfl⟩ (Nat.le_of_ble_eq_true rfl) dX6_addRiddle_25 ⟨Nat.le_of_ble_eq_true rfl, Nat.le_of_ble_eq_true rfl⟩) ?_
      refine lv_if_eq (tgt := 46) hx hb dX6_addRiddle_28 (by decide) (fun zc_9 => ?_) (fun zc_9 => ?_)
      · skip
        have zc_9 : okr x3 0 100 = false := b_f zc_9
        refine lv_iconst (v := 0) hx hb dX6_addRiddle_46 (by decide) ?_
        refine lv_istore (lv' := [(5, .int 0), (0, .ref (am 0)), (1, .int x1), (2, .int x2), (3, .int x3), (4, .int x4)]) hx hb dX6_addRiddle_47 hl (by decide) rfl (fun ls hl => ?_)
        refine lv_aload_n hx hb dX6_addRiddle_49 rfl (lv_at hl 1 rfl) ?_
        refine lv_iload hx hb dX6_addRiddle_50 (lv_at hl 0 rfl) ?_
        refine lv_if_ne (tgt := 59) hx hb dX6_addRiddle_52 (by decide) (fun zc_10 => ?_) (fun zc_10 => ?_)
        · skip
          exact absurd zc_10 (by decide)
        · skip
          refine lv_iconst (v := 1) hx hb dX6_addRiddle_55 (by decide) ?_
          refine lv_goto (tgt := 80) hx hb dX6_addRiddle_56 (by decide) ?_
          refine q_w0 (q_runV (rest := []) hx hb hml hown hE (c_X6_goes l D cI cZ cL am M th A (wQ_D hD) 1) ck_X6_goes w_837 hP 0 rfl rfl hl.1 rfl ⟨Nat.le_of_ble_eq_true rfl, Nat.le_of_ble_eq_true rfl⟩ (Nat.le_of_ble_eq_true rfl) dX6_addRiddle_80 ⟨Nat.le_of_ble_eq_true rfl, Nat.le_of_ble_eq_true rfl⟩) hS (fun H locs hP hS => ?_)
          have hI_c11 : J0 M := hI
          refine q_top (y := 0) (by decide) ?_
          refine lv_if_ne (tgt := 88) hx hb dX6_addRiddle_83 (by decide) (fun zc_12 => ?_) (fun zc_12 => ?_)
          · skip
            exact absurd zc_12 (by decide)
          · skip
            refine lv_iconst (v := 0) hx hb dX6_addRiddle_86 (by decide) ?_
            rw [show mAddR M x1 x2 x3 x4 = (0, 1, M) from by first | (simp only [mAddR, addRM, zc_1, zc_5, zc_9, ↓reduceIte]; done) | (simp only [mAddR, addRM, zc_1, zc_5, zc_9, ↓reduceIte]; rfl) | (simp [mAddR, addRM, zc_1, zc_5, zc_9]; done) | (simp [mAddR, addRM, zc_1, zc_5, zc_9]; rfl)]
            exact e_wret hx hb hr hlk rfl hP hS dX6_addRiddle_87
      · skip
        have zc_9 : okr x3 0 100 = true := b_t zc_9
        refine lv_iload hx hb dX6_addRiddle_31 (lv_at hl 4 rfl) ?_
        refine lv_iconst (v := 1) hx hb dX6_addRiddle_33 (by decide) ?_
        refine lv_bipush (v := 40) hx hb dX6_addRiddle_34 (by decide) ?_
        refine q_rd (q_runS (rest := []) hx hb hml hown hE (c_X6_isIn l D cI cZ cL _ x4 1 40) ck_X6_isIn w_834 hP hl.1 rfl ⟨Nat.le_of_ble_eq_true rfl, Nat.le_of_ble_eq_true rfl⟩ (Nat.le_of_ble_eq_true rfl) dX6_addRiddle_36 ⟨Nat.le_of_ble_eq_true rfl, Nat.le_of_ble_eq_true rfl⟩) ?_
        refine lv_if_eq (tgt := 46) hx hb dX6_addRiddle_39 (by decide) (fun zc_13 => ?_) (fun zc_13 => ?_)
        · skip
          have zc_13 : okr x4 1 40 = false := b_f zc_13
          refine lv_iconst (v := 0) hx hb dX6_addRiddle_46 (by decide) ?_
          refine lv_istore (lv' := [(5, .int 0), (0, .ref (am 0)), (1, .int x1), (2, .int x2), (3, .int x3), (4, .int x4)]) hx hb dX6_addRiddle_47 hl (by decide) rfl (fun ls hl => ?_)
          refine lv_aload_n hx hb dX6_addRiddle_49 rfl (lv_at hl 1 rfl) ?_
          refine lv_iload hx hb dX6_addRiddle_50 (lv_at hl 0 rfl) ?_
          refine lv_if_ne (tgt := 59) hx hb dX6_addRiddle_52 (by decide) (fun zc_14 => ?_) (fun zc_14 => ?_)
          · skip
            exact absurd zc_14 (by decide)
          · skip
            refine lv_iconst (v := 1) hx hb dX6_addRiddle_55 (by decide) ?_
            refine lv_goto (tgt := 80) hx hb dX6_addRiddle_56 (by decide) ?_
            refine q_w0 (q_runV (rest := []) hx hb hml hown hE (c_X6_goes l D cI cZ cL am M th A (wQ_D hD) 1) ck_X6_goes w_837 hP 0 rfl rfl hl.1 rfl ⟨Nat.le_of_ble_eq_true rfl, Nat.le_of_ble_eq_true rfl⟩ (Nat.le_of_ble_eq_true rfl) dX6_addRiddle_80 ⟨Nat.le_of_ble_eq_true rfl, Nat.le_of_ble_eq_true rfl⟩) hS (fun H locs hP hS => ?_)
            have hI_c15 : J0 M := hI
            refine q_top (y := 0) (by decide) ?_
            refine lv_if_ne (tgt := 88) hx hb dX6_addRiddle_83 (by decide) (fun zc_16 => ?_) (fun zc_16 => ?_)
            · skip
              exact absurd zc_16 (by decide)
            · skip
              refine lv_iconst (v := 0) hx hb dX6_addRiddle_86 (by decide) ?_
              rw [show mAddR M x1 x2 x3 x4 = (0, 1, M) from by first | (simp only [mAddR, addRM, zc_1, zc_5, zc_9, zc_13, ↓reduceIte]; done) | (simp only [mAddR, addRM, zc_1, zc_5, zc_9, zc_13, ↓reduceIte]; rfl) | (simp [mAddR, addRM, zc_1, zc_5, zc_9, zc_13]; done) | (simp [mAddR, addRM, zc_1, zc_5, zc_9, zc_13]; rfl)]
              exact e_wret hx hb hr hlk rfl hP hS dX6_addRiddle_87
        · skip
          have zc_13 : okr x4 1 40 = true := b_t zc_13
          refine lv_iconst (v := 1) hx hb dX6_addRiddle_42 (by decide) ?_
          refine lv_goto (tgt := 47) hx hb dX6_addRiddle_43 (by decide) ?_
          refine lv_istore (lv' := [(5, .int 1), (0, .ref (am 0)), (1, .int x1), (2, .int x2), (3, .int x3), (4, .int x4)]) hx hb dX6_addRiddle_47 hl (by decide) rfl (fun ls hl => ?_)
          refine lv_aload_n hx hb dX6_addRiddle_49 rfl (lv_at hl 1 rfl) ?_
          refine lv_iload hx hb dX6_addRiddle_50 (lv_at hl 0 rfl) ?_
          refine lv_if_ne (tgt := 59) hx hb dX6_addRiddle_52 (by decide) (fun zc_17 => ?_) (fun zc_17 => ?_)
          · skip
            refine lv_aload_n hx hb dX6_addRiddle_59 rfl (lv_at hl 1 rfl) ?_
            refine q_get (v := .int (M 0 2)) hx hb hown hE inT_X6 hP 0 rfl rfl 2 (by decide) w_760 rfl dX6_addRiddle_60 ?_
            refine q_top (y := nI (mR M)) (J0.R hI) ?_
            refine lv_bipush (v := 16) hx hb dX6_addRiddle_63 (by decide) ?_
            refine lv_icmp_eq (tgt := 75) hx hb dX6_addRiddle_65 (by decide) (fun zc_18 => ?_) (fun zc_18 => ?_)
            · skip
              have zc_18 : (mR M) = 16 := n_eq (a := mR M) (b := 16) (by omega) (by omega) zc_18
              refine lv_iconst (v := 2) hx hb dX6_addRiddle_75 (by decide) ?_
              refine lv_goto (tgt := 80) hx hb dX6_addRiddle_76 (by decide) ?_
              refine q_w0 (q_runV (rest := []) hx hb hml hown hE (c_X6_goes l D cI cZ cL am M th A (wQ_D hD) 2) ck_X6_goes w_837 hP 0 rfl rfl hl.1 rfl ⟨Nat.le_of_ble_eq_true rfl, Nat.le_of_ble_eq_true rfl⟩ (Nat.le_of_ble_eq_true rfl) dX6_addRiddle_80 ⟨Nat.le_of_ble_eq_true rfl, Nat.le_of_ble_eq_true rfl⟩) hS (fun H locs hP hS => ?_)
              have hI_c19 : J0 M := hI
              refine q_top (y := 0) (by decide) ?_
              refine lv_if_ne (tgt := 88) hx hb dX6_addRiddle_83 (by decide) (fun zc_20 => ?_) (fun zc_20 => ?_)
              · skip
                exact absurd zc_20 (by decide)
              · skip
                refine lv_iconst (v := 0) hx hb dX6_addRiddle_86 (by decide) ?_
                rw [show mAddR M x1 x2 x3 x4 = (0, 2, M) from by first | (simp only [mAddR, addRM, zc_1, zc_5, zc_9, zc_13, zc_18, ↓reduceIte]; done) | (simp only [mAddR, addRM, zc_1, zc_5, zc_9, zc_13, zc_18, ↓reduceIte]; rfl) | (simp [mAddR, addRM, zc_1, zc_5, zc_9, zc_13, zc_18]; done) | (simp [mAddR, addRM, zc_1, zc_5, zc_9, zc_13, zc_18]; rfl)]
                exact e_wret hx hb hr hlk rfl hP hS dX6_addRiddle_87
            · skip
              have zc_18 : ¬ (mR M) = 16 := n_ne (a := mR M) (b := 16) (by omega) (by omega) zc_18
              refine lv_aload_n hx hb dX6_addRiddle_68 rfl (lv_at hl 1 rfl) ?_
              refine q_get (v := .int (M 0 1)) hx hb hown hE inT_X6 hP 0 rfl rfl 1 (by decide) w_759 rfl dX6_addRiddle_69 ?_
              refine lv_if_eq (tgt := 79) hx hb dX6_addRiddle_72 (by decide) (fun zc_21 => ?_) (fun zc_21 => ?_)
              · skip
                have ec_21 := eq_true zc_21
                refine lv_iconst (v := 0) hx hb dX6_addRiddle_79 (by decide) ?_
                refine q_w0 (q_runV (rest := []) hx hb hml hown hE (c_X6_goes l D cI cZ cL am M th A (wQ_D hD) 0) ck_X6_goes w_837 hP 0 rfl rfl hl.1 rfl ⟨Nat.le_of_ble_eq_true rfl, Nat.le_of_ble_eq_true rfl⟩ (Nat.le_of_ble_eq_true rfl) dX6_addRiddle_80 ⟨Nat.le_of_ble_eq_true rfl, Nat.le_of_ble_eq_true rfl⟩) hS (fun H locs hP hS => ?_)
                have hI_c22 : J0 M := hI
                refine q_top (y := 1) (by decide) ?_
                refine lv_if_ne (tgt := 88) hx hb dX6_addRiddle_83 (by decide) (fun zc_23 => ?_) (fun zc_23 => ?_)
                · skip
                  refine lv_aload_n hx hb dX6_addRiddle_88 rfl (lv_at hl 1 rfl) ?_
                  refine q_get (v := .ref (am 1)) hx hb hown hE inT_X6 hP 0 rfl rfl 3 (by decide) w_761 rfl dX6_addRiddle_89 ?_
                  refine lv_aload_n hx hb dX6_addRiddle_92 rfl (lv_at hl 1 rfl) ?_
                  refine q_get (v := .int (M 0 2)) hx hb hown hE inT_X6 hP 0 rfl rfl 2 (by decide) w_760 rfl dX6_addRiddle_93 ?_
                  refine q_top (y := nI (mR M)) (J0.R hI_c22) ?_
                  refine lv_iload_n hx hb dX6_addRiddle_96 rfl (lv_at hl 2 rfl) ?_
                  refine q_iast (f := M 1) (i := (mR M)) (x := x1) (ws' := (wQ am cI cZ (st M 1 (mR M) x1) 0)) hx hb hE hP (wQ_D hD) hS 1 rfl (by omega) (Nat.le_of_ble_eq_true rfl) (wQ_st_1) dX6_addRiddle_97 (fun H locs hP hS => ?_)
                  refine lv_aload_n hx hb dX6_addRiddle_98 rfl (lv_at hl 1 rfl) ?_
                  refine q_get (v := .ref (am 2)) hx hb hown hE inT_X6 hP 0 rfl rfl 4 (by decide) w_762 rfl dX6_addRiddle_99 ?_
                  refine lv_aload_n hx hb dX6_addRiddle_102 rfl (lv_at hl 1 rfl) ?_
                  refine q_get (v := .int (M 0 2)) hx hb hown hE inT_X6 hP 0 rfl rfl 2 (by decide) w_760 rfl dX6_addRiddle_103 ?_
                  refine q_top (y := nI (mR M)) (J0.R hI_c22) ?_
                  refine lv_iload_n hx hb dX6_addRiddle_106 rfl (lv_at hl 3 rfl) ?_
                  refine q_iast (f := (st M 1 (mR M) x1) 2) (i := (mR M)) (x := x2) (ws' := (wQ am cI cZ (st (st M 1 (mR M) x1) 2 (mR M) x2) 0)) hx hb hE hP (wQ_D hD) hS 2 rfl (by omega) (Nat.le_of_ble_eq_true rfl) (wQ_st_2) dX6_addRiddle_107 (fun H locs hP hS => ?_)
                  refine lv_aload_n hx hb dX6_addRiddle_108 rfl (lv_at hl 1 rfl) ?_
                  refine q_get (v := .ref (am 3)) hx hb hown hE inT_X6 hP 0 rfl rfl 5 (by decide) w_763 rfl dX6_addRiddle_109 ?_
                  refine lv_aload_n hx hb dX6_addRiddle_112 rfl (lv_at hl 1 rfl) ?_
                  refine q_get (v := .int (M 0 2)) hx hb hown hE inT_X6 hP 0 rfl rfl 2 (by decide) w_760 rfl dX6_addRiddle_113 ?_
                  refine q_top (y := nI (mR M)) (J0.R hI_c22) ?_
                  refine lv_iload_n hx hb dX6_addRiddle_116 rfl (lv_at hl 4 rfl) ?_
                  refine q_iast (f := (st (st M 1 (mR M) x1) 2 (mR M) x2) 3) (i := (mR M)) (x := x3) (ws' := (wQ am cI cZ (st (st (st M 1 (mR M) x1) 2 (mR M) x2) 3 (mR M) x3) 0)) hx hb hE hP (wQ_D hD) hS 3 rfl (by omega) (Nat.le_of_ble_eq_true rfl) (wQ_st_3) dX6_addRiddle_117 (fun H locs hP hS => ?_)
                  refine lv_aload_n hx hb dX6_addRiddle_118 rfl (lv_at hl 1 rfl) ?_
                  refine q_get (v := .ref (am 4)) hx hb hown hE inT_X6 hP 0 rfl rfl 6 (by decide) w_764 rfl dX6_addRiddle_119 ?_
                  refine lv_aload_n hx hb dX6_addRiddle_122 rfl (lv_at hl 1 rfl) ?_
                  refine q_get (v := .int (M 0 2)) hx hb hown hE inT_X6 hP 0 rfl rfl 2 (by decide) w_760 rfl dX6_addRiddle_123 ?_
                  refine q_top (y := nI (mR M)) (J0.R hI_c22) ?_
                  refine lv_iload hx hb dX6_addRiddle_126 (lv_at hl 5 rfl) ?_
                  refine q_iast (f := (st (st (st M 1 (mR M) x1) 2 (mR M) x2) 3 (mR M) x3) 4) (i := (mR M)) (x := x4) (ws' := (wQ am cI cZ (st (st (st (st M 1 (mR M) x1) 2 (mR M) x2) 3 (mR M) x3) 4 (mR M) x4) 0)) hx hb hE hP (wQ_D hD) hS 4 rfl (by omega) (Nat.le_of_ble_eq_true rfl) (wQ_st_4) dX6_addRiddle_128 (fun H locs hP hS => ?_)
                  refine lv_aload_n hx hb dX6_addRiddle_129 rfl (lv_at hl 1 rfl) ?_
                  refine lv_dup hx hb dX6_addRiddle_130 rfl ?_
                  refine q_get (v := .int (M 0 2)) hx hb hown hE inT_X6 hP 0 rfl rfl 2 (by decide) w_760 rfl dX6_addRiddle_131 ?_
                  refine q_top (y := nI (mR M)) (J0.R hI_c22) ?_
                  refine lv_iconst (v := 1) hx hb dX6_addRiddle_134 (by decide) ?_
                  refine lv_iadd hx hb dX6_addRiddle_135 ?_
                  refine q_top (y := nI ((mR M) + 1)) (nI_add (mR M) 1) ?_
                  refine q_put (ty0 := tyX6) (ws' := (wQ am cI cZ (st (st (st (st (st M 1 (mR M) x1) 2 (mR M) x2) 3 (mR M) x3) 4 (mR M) x4) 0 2 (nI ((mR M) + 1))) 0)) (v := .int (nI ((mR M) + 1))) hx hb hown hE inT_X6 tyX6_ok nmX6 hP (wQ_D hD) hS 0 rfl rfl 2 (by decide) w_760 rfl rfl rfl (Nat.le_of_ble_eq_true rfl) rfl dX6_addRiddle_136 (fun H locs hP hS => ?_)
                  refine lv_aload_n hx hb dX6_addRiddle_139 rfl (lv_at hl 1 rfl) ?_
                  refine q_get (v := .int (nI ((mR M) + 1))) hx hb hown hE inT_X6 hP 0 rfl rfl 2 (by decide) w_760 rfl dX6_addRiddle_140 ?_
                  refine lv_iconst (v := 1) hx hb dX6_addRiddle_143 (by decide) ?_
                  refine lv_isub hx hb dX6_addRiddle_144 ?_
                  rw [show mAddR M x1 x2 x3 x4 = ((nI ((mR M) + 1)) - 1, 0, st (st (st (st (st M 1 (mR M) x1) 2 (mR M) x2) 3 (mR M) x3) 4 (mR M) x4) 0 2 (nI ((mR M) + 1))) from by first | (simp only [mAddR, addRM, zc_1, zc_5, zc_9, zc_13, zc_18, ec_21, ↓reduceIte]; done) | (simp only [mAddR, addRM, zc_1, zc_5, zc_9, zc_13, zc_18, ec_21, ↓reduceIte]; rfl) | (simp [mAddR, addRM, zc_1, zc_5, zc_9, zc_13, zc_18, ec_21]; done) | (simp [mAddR, addRM, zc_1, zc_5, zc_9, zc_13, zc_18, ec_21]; rfl)]
                  exact e_wret hx hb hr hlk rfl hP hS dX6_addRiddle_145
                · skip
                  exact absurd zc_23 (by decide)
              · skip
                refine lv_iconst (v := 2) hx hb dX6_addRiddle_75 (by decide) ?_
                refine lv_goto (tgt := 80) hx hb dX6_addRiddle_76 (by decide) ?_
                refine q_w0 (q_runV (rest := []) hx hb hml hown hE (c_X6_goes l D cI cZ cL am M th A (wQ_D hD) 2) ck_X6_goes w_837 hP 0 rfl rfl hl.1 rfl ⟨Nat.le_of_ble_eq_true rfl, Nat.le_of_ble_eq_true rfl⟩ (Nat.le_of_ble_eq_true rfl) dX6_addRiddle_80 ⟨Nat.le_of_ble_eq_true rfl, Nat.le_of_ble_eq_true rfl⟩) hS (fun H locs hP hS => ?_)
                have hI_c24 : J0 M := hI
                refine q_top (y := 0) (by decide) ?_
                refine lv_if_ne (tgt := 88) hx hb dX6_addRiddle_83 (by decide) (fun zc_25 => ?_) (fun zc_25 => ?_)
                · skip
                  exact absurd zc_25 (by decide)
                · skip
                  refine lv_iconst (v := 0) hx hb dX6_addRiddle_86 (by decide) ?_
                  rw [show mAddR M x1 x2 x3 x4 = (0, 2, M) from by first | (simp only [mAddR, addRM, zc_1, zc_5, zc_9, zc_13, zc_18, zc_21, ↓reduceIte]; done) | (simp only [mAddR, addRM, zc_1, zc_5, zc_9, zc_13, zc_18, zc_21, ↓reduceIte]; rfl) | (simp [mAddR, addRM, zc_1, zc_5, zc_9, zc_13, zc_18, zc_21]; done) | (simp [mAddR, addRM, zc_1, zc_5, zc_9, zc_13, zc_18, zc_21]; rfl)]
                  exact e_wret hx hb hr hlk rfl hP hS dX6_addRiddle_87
          · skip
            exact absurd zc_17 (by decide)

theorem dX6_need_0 : decode cX6_need 0 = .ok (.aload_n 0, 1) := by decide +kernel
theorem dX6_need_1 : decode cX6_need 1 = .ok (.iload_n 1, 1) := by decide +kernel
theorem dX6_need_2 : decode cX6_need 2 = .ok (.invokevirtual 91, 3) := by decide +kernel
theorem dX6_need_5 : decode cX6_need 5 = .ok (.ifCond .eq 15, 3) := by decide +kernel
theorem dX6_need_8 : decode cX6_need 8 = .ok (.aload_n 0, 1) := by decide +kernel
theorem dX6_need_9 : decode cX6_need 9 = .ok (.iload_n 2, 1) := by decide +kernel
theorem dX6_need_10 : decode cX6_need 10 = .ok (.invokevirtual 91, 3) := by decide +kernel
theorem dX6_need_13 : decode cX6_need 13 = .ok (.ifCond .eq 7, 3) := by decide +kernel
theorem dX6_need_16 : decode cX6_need 16 = .ok (.iconst 1, 1) := by decide +kernel
theorem dX6_need_17 : decode cX6_need 17 = .ok (.goto 4, 3) := by decide +kernel
theorem dX6_need_20 : decode cX6_need 20 = .ok (.iconst 0, 1) := by decide +kernel
theorem dX6_need_21 : decode cX6_need 21 = .ok (.istore_n 3, 1) := by decide +kernel
theorem dX6_need_22 : decode cX6_need 22 = .ok (.aload_n 0, 1) := by decide +kernel
theorem dX6_need_23 : decode cX6_need 23 = .ok (.iload_n 3, 1) := by decide +kernel
theorem dX6_need_24 : decode cX6_need 24 = .ok (.ifCond .ne 7, 3) := by decide +kernel
theorem dX6_need_27 : decode cX6_need 27 = .ok (.iconst 1, 1) := by decide +kernel
theorem dX6_need_28 : decode cX6_need 28 = .ok (.goto 41, 3) := by decide +kernel
theorem dX6_need_31 : decode cX6_need 31 = .ok (.iload_n 2, 1) := by decide +kernel
theorem dX6_need_32 : decode cX6_need 32 = .ok (.iload_n 1, 1) := by decide +kernel
theorem dX6_need_33 : decode cX6_need 33 = .ok (.if_icmp .lt 7, 3) := by decide +kernel
theorem dX6_need_36 : decode cX6_need 36 = .ok (.iconst 2, 1) := by decide +kernel
theorem dX6_need_37 : decode cX6_need 37 = .ok (.goto 32, 3) := by decide +kernel
theorem dX6_need_40 : decode cX6_need 40 = .ok (.aload_n 0, 1) := by decide +kernel
theorem dX6_need_41 : decode cX6_need 41 = .ok (.getfield 80, 3) := by decide +kernel
theorem dX6_need_44 : decode cX6_need 44 = .ok (.ifCond .ne 20, 3) := by decide +kernel
theorem dX6_need_47 : decode cX6_need 47 = .ok (.aload_n 0, 1) := by decide +kernel
theorem dX6_need_48 : decode cX6_need 48 = .ok (.iload_n 1, 1) := by decide +kernel
theorem dX6_need_49 : decode cX6_need 49 = .ok (.iload_n 2, 1) := by decide +kernel
theorem dX6_need_50 : decode cX6_need 50 = .ok (.invokevirtual 94, 3) := by decide +kernel
theorem dX6_need_53 : decode cX6_need 53 = .ok (.ifCond .ne 11, 3) := by decide +kernel
theorem dX6_need_56 : decode cX6_need 56 = .ok (.aload_n 0, 1) := by decide +kernel
theorem dX6_need_57 : decode cX6_need 57 = .ok (.iload_n 1, 1) := by decide +kernel
theorem dX6_need_58 : decode cX6_need 58 = .ok (.invokevirtual 98, 3) := by decide +kernel
theorem dX6_need_61 : decode cX6_need 61 = .ok (.ifCond .eq 7, 3) := by decide +kernel
theorem dX6_need_64 : decode cX6_need 64 = .ok (.iconst 3, 1) := by decide +kernel
theorem dX6_need_65 : decode cX6_need 65 = .ok (.goto 4, 3) := by decide +kernel
theorem dX6_need_68 : decode cX6_need 68 = .ok (.iconst 0, 1) := by decide +kernel
theorem dX6_need_69 : decode cX6_need 69 = .ok (.invokevirtual 76, 3) := by decide +kernel
theorem dX6_need_72 : decode cX6_need 72 = .ok (.ifCond .ne 5, 3) := by decide +kernel
theorem dX6_need_75 : decode cX6_need 75 = .ok (.iconst 0, 1) := by decide +kernel
theorem dX6_need_76 : decode cX6_need 76 = .ok (.ireturn, 1) := by decide +kernel
theorem dX6_need_77 : decode cX6_need 77 = .ok (.aload_n 0, 1) := by decide +kernel
theorem dX6_need_78 : decode cX6_need 78 = .ok (.getfield 22, 3) := by decide +kernel
theorem dX6_need_81 : decode cX6_need 81 = .ok (.iload_n 1, 1) := by decide +kernel
theorem dX6_need_82 : decode cX6_need 82 = .ok (.dup2, 1) := by decide +kernel
theorem dX6_need_83 : decode cX6_need 83 = .ok (.iaload, 1) := by decide +kernel
theorem dX6_need_84 : decode cX6_need 84 = .ok (.iconst 1, 1) := by decide +kernel
theorem dX6_need_85 : decode cX6_need 85 = .ok (.iload_n 2, 1) := by decide +kernel
theorem dX6_need_86 : decode cX6_need 86 = .ok (.ishl, 1) := by decide +kernel
theorem dX6_need_87 : decode cX6_need 87 = .ok (.ior, 1) := by decide +kernel
theorem dX6_need_88 : decode cX6_need 88 = .ok (.iastore, 1) := by decide +kernel
theorem dX6_need_89 : decode cX6_need 89 = .ok (.aload_n 0, 1) := by decide +kernel
theorem dX6_need_90 : decode cX6_need 90 = .ok (.getfield 22, 3) := by decide +kernel
theorem dX6_need_93 : decode cX6_need 93 = .ok (.iload_n 1, 1) := by decide +kernel
theorem dX6_need_94 : decode cX6_need 94 = .ok (.iaload, 1) := by decide +kernel
theorem dX6_need_95 : decode cX6_need 95 = .ok (.invokestatic 101, 3) := by decide +kernel
theorem dX6_need_98 : decode cX6_need 98 = .ok (.ireturn, 1) := by decide +kernel
set_option maxHeartbeats 4000000 in
set_option maxRecDepth 100000 in
theorem c_X6_need (l : Launch) (D : va_G) (cI cZ cL : ClassId) (am : Nat → Nat) (M : Mem) (th : Int32) (A : Nat → Prop) (hD : va_D A (wQ am cI cZ M th)) (x1 : Int32) (x2 : Int32) (hI : J0 M) : WR l D cI cZ cL yX6_need cX6_need 4 (some .int) 9 [.ref (am 0), .int x1, .int x2] A (wQ am cI cZ M th) (wQ am cI cZ ((mNeed M x1 x2).2.2) ((mNeed M x1 x2).2.1)) (some (.int ((mNeed M x1 x2).1))) := by
  refine WR.of (by decide) (Nat.le_of_ble_eq_true rfl) ?_
  intro p e s m args below meth c ls hx hb hr hml hown hlk hE hP hS hl
  have hl : lv_has ls 4 [(0, .ref (am 0)), (1, .int x1), (2, .int x2)] := hl
  have hT8 := hI.T8
  have hR16 := hI.R16
  have hN200 := hI.N200
  refine lv_aload_n hx hb dX6_need_0 rfl (lv_at hl 0 rfl) ?_
  refine lv_iload_n hx hb dX6_need_1 rfl (lv_at hl 1 rfl) ?_
  refine q_rd (q_runV (rest := []) hx hb hml hown hE (c_X6_isRiddle l D cI cZ cL am M th x1 hI) ck_X6_isRiddle w_853 hP 0 rfl rfl hl.1 rfl ⟨Nat.le_of_ble_eq_true rfl, Nat.le_of_ble_eq_true rfl⟩ (Nat.le_of_ble_eq_true rfl) dX6_need_2 ⟨Nat.le_of_ble_eq_true rfl, Nat.le_of_ble_eq_true rfl⟩) ?_
  refine lv_if_eq (tgt := 20) hx hb dX6_need_5 (by decide) (fun zc_1 => ?_) (fun zc_1 => ?_)
  · skip
    have zc_1 : okn x1 (mR M) = false := b_f zc_1
    refine lv_iconst (v := 0) hx hb dX6_need_20 (by decide) ?_
    refine lv_istore_n (lv' := [(3, .int 0), (0, .ref (am 0)), (1, .int x1), (2, .int x2)]) hx hb dX6_need_21 rfl hl (by decide) rfl (fun ls hl => ?_)
    refine lv_aload_n hx hb dX6_need_22 rfl (lv_at hl 1 rfl) ?_
    refine lv_iload_n hx hb dX6_need_23 rfl (lv_at hl 0 rfl) ?_
    refine lv_if_ne (tgt := 31) hx hb dX6_need_24 (by decide) (fun zc_2 => ?_) (fun zc_2 => ?_)
    · skip
      exact absurd zc_2 (by decide)
    · skip
      refine lv_iconst (v := 1) hx hb dX6_need_27 (by decide) ?_
      refine lv_goto (tgt := 69) hx hb dX6_need_28 (by decide) ?_
      refine q_w0 (q_runV (rest := []) hx hb hml hown hE (c_X6_goes l D cI cZ cL am M th A (wQ_D hD) 1) ck_X6_goes w_837 hP 0 rfl rfl hl.1 rfl ⟨Nat.le_of_ble_eq_true rfl, Nat.le_of_ble_eq_true rfl⟩ (Nat.le_of_ble_eq_true rfl) dX6_need_69 ⟨Nat.le_of_ble_eq_true rfl, Nat.le_of_ble_eq_true rfl⟩) hS (fun H locs hP hS => ?_)
      have hI_c3 : J0 M := hI
      refine q_top (y := 0) (by decide) ?_
      refine lv_if_ne (tgt := 77) hx hb dX6_need_72 (by decide) (fun zc_4 => ?_) (fun zc_4 => ?_)
      · skip
        exact absurd zc_4 (by decide)
      · skip
        refine lv_iconst (v := 0) hx hb dX6_need_75 (by decide) ?_
        rw [show mNeed M x1 x2 = (0, 1, M) from by first | (simp only [mNeed, mm2, hmNeed, mneedM, zc_1, ↓reduceIte]; done) | (simp only [mNeed, mm2, hmNeed, mneedM, zc_1, ↓reduceIte]; rfl) | (simp [mNeed, mm2, hmNeed, mneedM, zc_1]; done) | (simp [mNeed, mm2, hmNeed, mneedM, zc_1]; rfl)]
        exact e_wret hx hb hr hlk rfl hP hS dX6_need_76
  · skip
    have zc_1 : okn x1 (mR M) = true := b_t zc_1
    obtain ⟨u1, hu1, eu1⟩ := okn_t (zc_1)
    subst eu1
    have iu1 : iN (nI u1) = u1 := iN_nI (by omega)
    refine lv_aload_n hx hb dX6_need_8 rfl (lv_at hl 0 rfl) ?_
    refine lv_iload_n hx hb dX6_need_9 rfl (lv_at hl 2 rfl) ?_
    refine q_rd (q_runV (rest := []) hx hb hml hown hE (c_X6_isRiddle l D cI cZ cL am M th x2 hI) ck_X6_isRiddle w_853 hP 0 rfl rfl hl.1 rfl ⟨Nat.le_of_ble_eq_true rfl, Nat.le_of_ble_eq_true rfl⟩ (Nat.le_of_ble_eq_true rfl) dX6_need_10 ⟨Nat.le_of_ble_eq_true rfl, Nat.le_of_ble_eq_true rfl⟩) ?_
    refine lv_if_eq (tgt := 20) hx hb dX6_need_13 (by decide) (fun zc_5 => ?_) (fun zc_5 => ?_)
    · skip
      have zc_5 : okn x2 (mR M) = false := b_f zc_5
      refine lv_iconst (v := 0) hx hb dX6_need_20 (by decide) ?_
      refine lv_istore_n (lv' := [(3, .int 0), (0, .ref (am 0)), (1, .int (nI u1)), (2, .int x2)]) hx hb dX6_need_21 rfl hl (by decide) rfl (fun ls hl => ?_)
      refine lv_aload_n hx hb dX6_need_22 rfl (lv_at hl 1 rfl) ?_
      refine lv_iload_n hx hb dX6_need_23 rfl (lv_at hl 0 rfl) ?_
      refine lv_if_ne (tgt := 31) hx hb dX6_need_24 (by decide) (fun zc_6 => ?_) (fun zc_6 => ?_)
      · skip
        exact absurd zc_6 (by decide)
      · skip
        refine lv_iconst (v := 1) hx hb dX6_need_27 (by decide) ?_
        refine lv_goto (tgt := 69) hx hb dX6_need_28 (by decide) ?_
        refine q_w0 (q_runV (rest := []) hx hb hml hown hE (c_X6_goes l D cI cZ cL am M th A (wQ_D hD) 1) ck_X6_goes w_837 hP 0 rfl rfl hl.1 rfl ⟨Nat.le_of_ble_eq_true rfl, Nat.le_of_ble_eq_true rfl⟩ (Nat.le_of_ble_eq_true rfl) dX6_need_69 ⟨Nat.le_of_ble_eq_true rfl, Nat.le_of_ble_eq_true rfl⟩) hS (fun H locs hP hS => ?_)
        have hI_c7 : J0 M := hI
        refine q_top (y := 0) (by decide) ?_
        refine lv_if_ne (tgt := 77) hx hb dX6_need_72 (by decide) (fun zc_8 => ?_) (fun zc_8 => ?_)
        · skip
          exact absurd zc_8 (by decide)
        · skip
          refine lv_iconst (v := 0) hx hb dX6_need_75 (by decide) ?_
          rw [show mNeed M (nI u1) x2 = (0, 1, M) from by first | (simp only [mNeed, mm2, hmNeed, mneedM, zc_1, iu1, zc_5, ↓reduceIte]; done) | (simp only [mNeed, mm2, hmNeed, mneedM, zc_1, iu1, zc_5, ↓reduceIte]; rfl) | (simp [mNeed, mm2, hmNeed, mneedM, zc_1, iu1, zc_5]; done) | (simp [mNeed, mm2, hmNeed, mneedM, zc_1, iu1, zc_5]; rfl)]
          exact e_wret hx hb hr hlk rfl hP hS dX6_need_76
    · skip
      have zc_5 : okn x2 (mR M) = true := b_t zc_5
      obtain ⟨u2, hu2, eu2⟩ := okn_t (zc_5)
      subst eu2
      have iu2 : iN (nI u2) = u2 := iN_nI (by omega)
      refine lv_iconst (v := 1) hx hb dX6_need_16 (by decide) ?_
      refine lv_goto (tgt := 21) hx hb dX6_need_17 (by decide) ?_
      refine lv_istore_n (lv' := [(3, .int 1), (0, .ref (am 0)), (1, .int (nI u1)), (2, .int (nI u2))]) hx hb dX6_need_21 rfl hl (by decide) rfl (fun ls hl => ?_)
      refine lv_aload_n hx hb dX6_need_22 rfl (lv_at hl 1 rfl) ?_
      refine lv_iload_n hx hb dX6_need_23 rfl (lv_at hl 0 rfl) ?_
      refine lv_if_ne (tgt := 31) hx hb dX6_need_24 (by decide) (fun zc_9 => ?_) (fun zc_9 => ?_)
      · skip
        refine lv_iload_n hx hb dX6_need_31 rfl (lv_at hl 3 rfl) ?_
        refine lv_iload_n hx hb dX6_need_32 rfl (lv_at hl 2 rfl) ?_
        refine lv_icmp_lt (tgt := 40) hx hb dX6_need_33 (by decide) (fun zc_10 => ?_) (fun zc_10 => ?_)
        · skip
          have zc_10 : u2 < u1 := n_lt (a := u2) (b := u1) (by omega) (by omega) zc_10
          refine lv_aload_n hx hb dX6_need_40 rfl (lv_at hl 1 rfl) ?_
          refine q_get (v := .int (M 0 1)) hx hb hown hE inT_X6 hP 0 rfl rfl 1 (by decide) w_759 rfl dX6_need_41 ?_
          refine lv_if_ne (tgt := 64) hx hb dX6_need_44 (by decide) (fun zc_11 => ?_) (fun zc_11 => ?_)
          · skip
            refine lv_iconst (v := 3) hx hb dX6_need_64 (by decide) ?_
            refine lv_goto (tgt := 69) hx hb dX6_need_65 (by decide) ?_
            refine q_w0 (q_runV (rest := []) hx hb hml hown hE (c_X6_goes l D cI cZ cL am M th A (wQ_D hD) 3) ck_X6_goes w_837 hP 0 rfl rfl hl.1 rfl ⟨Nat.le_of_ble_eq_true rfl, Nat.le_of_ble_eq_true rfl⟩ (Nat.le_of_ble_eq_true rfl) dX6_need_69 ⟨Nat.le_of_ble_eq_true rfl, Nat.le_of_ble_eq_true rfl⟩) hS (fun H locs hP hS => ?_)
            have hI_c12 : J0 M := hI
            refine q_top (y := 0) (by decide) ?_
            refine lv_if_ne (tgt := 77) hx hb dX6_need_72 (by decide) (fun zc_13 => ?_) (fun zc_13 => ?_)
            · skip
              exact absurd zc_13 (by decide)
            · skip
              refine lv_iconst (v := 0) hx hb dX6_need_75 (by decide) ?_
              rw [show mNeed M (nI u1) (nI u2) = (0, 3, M) from by first | (simp only [mNeed, mm2, hmNeed, mneedM, zc_1, iu1, zc_5, iu2, zc_10, zc_11, ↓reduceIte]; done) | (simp only [mNeed, mm2, hmNeed, mneedM, zc_1, iu1, zc_5, iu2, zc_10, zc_11, ↓reduceIte]; rfl) | (simp [mNeed, mm2, hmNeed, mneedM, zc_1, iu1, zc_5, iu2, zc_10, zc_11]; done) | (simp [mNeed, mm2, hmNeed, mneedM, zc_1, iu1, zc_5, iu2, zc_10, zc_11]; rfl)]
              exact e_wret hx hb hr hlk rfl hP hS dX6_need_76
          · skip
            have ec_11 := eq_true zc_11
            refine lv_aload_n hx hb dX6_need_47 rfl (lv_at hl 1 rfl) ?_
            refine lv_iload_n hx hb dX6_need_48 rfl (lv_at hl 2 rfl) ?_
            refine lv_iload_n hx hb dX6_need_49 rfl (lv_at hl 3 rfl) ?_
            refine q_rd (q_runV (rest := [.ref (am 0)]) hx hb hml hown hE (c_X6_doesNeed l D cI cZ cL am M th u1 u2 (by omega)) ck_X6_doesNeed w_857 hP 0 rfl rfl hl.1 rfl ⟨Nat.le_of_ble_eq_true rfl, Nat.le_of_ble_eq_true rfl⟩ (Nat.le_of_ble_eq_true rfl) dX6_need_50 ⟨Nat.le_of_ble_eq_true rfl, Nat.le_of_ble_eq_true rfl⟩) ?_
            refine lv_if_ne (tgt := 64) hx hb dX6_need_53 (by decide) (fun zc_14 => ?_) (fun zc_14 => ?_)
            · skip
              have zc_14 : m_need M u1 u2 = true := b_t zc_14
              refine lv_iconst (v := 3) hx hb dX6_need_64 (by decide) ?_
              refine lv_goto (tgt := 69) hx hb dX6_need_65 (by decide) ?_
              refine q_w0 (q_runV (rest := []) hx hb hml hown hE (c_X6_goes l D cI cZ cL am M th A (wQ_D hD) 3) ck_X6_goes w_837 hP 0 rfl rfl hl.1 rfl ⟨Nat.le_of_ble_eq_true rfl, Nat.le_of_ble_eq_true rfl⟩ (Nat.le_of_ble_eq_true rfl) dX6_need_69 ⟨Nat.le_of_ble_eq_true rfl, Nat.le_of_ble_eq_true rfl⟩) hS (fun H locs hP hS => ?_)
              have hI_c15 : J0 M := hI
              refine q_top (y := 0) (by decide) ?_
              refine lv_if_ne (tgt := 77) hx hb dX6_need_72 (by decide) (fun zc_16 => ?_) (fun zc_16 => ?_)
              · skip
                exact absurd zc_16 (by decide)
              · skip
                refine lv_iconst (v := 0) hx hb dX6_need_75 (by decide) ?_
                rw [show mNeed M (nI u1) (nI u2) = (0, 3, M) from by first | (simp only [mNeed, mm2, hmNeed, mneedM, zc_1, iu1, zc_5, iu2, zc_10, ec_11, zc_14, ↓reduceIte]; done) | (simp only [mNeed, mm2, hmNeed, mneedM, zc_1, iu1, zc_5, iu2, zc_10, ec_11, zc_14, ↓reduceIte]; rfl) | (simp [mNeed, mm2, hmNeed, mneedM, zc_1, iu1, zc_5, iu2, zc_10, ec_11, zc_14]; done) | (simp [mNeed, mm2, hmNeed, mneedM, zc_1, iu1, zc_5, iu2, zc_10, ec_11, zc_14]; rfl)]
                exact e_wret hx hb hr hlk rfl hP hS dX6_need_76
            · skip
              have zc_14 : m_need M u1 u2 = false := b_f zc_14
              refine lv_aload_n hx hb dX6_need_56 rfl (lv_at hl 1 rfl) ?_
              refine lv_iload_n hx hb dX6_need_57 rfl (lv_at hl 2 rfl) ?_
              refine q_rd (q_runV (rest := [.ref (am 0)]) hx hb hml hown hE (c_X6_isTouched l D cI cZ cL am M th u1 hI (by omega)) ck_X6_isTouched w_861 hP 0 rfl rfl hl.1 rfl ⟨Nat.le_of_ble_eq_true rfl, Nat.le_of_ble_eq_true rfl⟩ (Nat.le_of_ble_eq_true rfl) dX6_need_58 ⟨Nat.le_of_ble_eq_true rfl, Nat.le_of_ble_eq_true rfl⟩) ?_
              refine lv_if_eq (tgt := 68) hx hb dX6_need_61 (by decide) (fun zc_17 => ?_) (fun zc_17 => ?_)
              · skip
                have zc_17 : m_touch M u1 = false := b_f zc_17
                refine lv_iconst (v := 0) hx hb dX6_need_68 (by decide) ?_
                refine q_w0 (q_runV (rest := []) hx hb hml hown hE (c_X6_goes l D cI cZ cL am M th A (wQ_D hD) 0) ck_X6_goes w_837 hP 0 rfl rfl hl.1 rfl ⟨Nat.le_of_ble_eq_true rfl, Nat.le_of_ble_eq_true rfl⟩ (Nat.le_of_ble_eq_true rfl) dX6_need_69 ⟨Nat.le_of_ble_eq_true rfl, Nat.le_of_ble_eq_true rfl⟩) hS (fun H locs hP hS => ?_)
                have hI_c18 : J0 M := hI
                refine q_top (y := 1) (by decide) ?_
                refine lv_if_ne (tgt := 77) hx hb dX6_need_72 (by decide) (fun zc_19 => ?_) (fun zc_19 => ?_)
                · skip
                  refine lv_aload_n hx hb dX6_need_77 rfl (lv_at hl 1 rfl) ?_
                  refine q_get (v := .ref (am 5)) hx hb hown hE inT_X6 hP 0 rfl rfl 7 (by decide) w_765 rfl dX6_need_78 ?_
                  refine lv_iload_n hx hb dX6_need_81 rfl (lv_at hl 2 rfl) ?_
                  refine lv_dup2_11 hx hb dX6_need_82 rfl rfl ?_
                  refine q_iald (f := M 5) (i := u1) hx hb hE hP 5 rfl (by omega) (Nat.le_of_ble_eq_true rfl) dX6_need_83 ?_
                  refine lv_iconst (v := 1) hx hb dX6_need_84 (by decide) ?_
                  refine lv_iload_n hx hb dX6_need_85 rfl (lv_at hl 3 rfl) ?_
                  refine lv_ishl hx hb dX6_need_86 ?_
                  refine q_top (y := bt (nI u2)) rfl ?_
                  refine lv_ior hx hb dX6_need_87 ?_
                  refine q_iast (f := M 5) (i := u1) (x := (M 5 u1) ||| (bt (nI u2))) (ws' := (wQ am cI cZ (st M 5 u1 ((M 5 u1) ||| (bt (nI u2)))) 0)) hx hb hE hP (wQ_D hD) hS 5 rfl (by omega) (Nat.le_of_ble_eq_true rfl) (wQ_st_5) dX6_need_88 (fun H locs hP hS => ?_)
                  refine lv_aload_n hx hb dX6_need_89 rfl (lv_at hl 1 rfl) ?_
                  refine q_get (v := .ref (am 5)) hx hb hown hE inT_X6 hP 0 rfl rfl 7 (by decide) w_765 rfl dX6_need_90 ?_
                  refine lv_iload_n hx hb dX6_need_93 rfl (lv_at hl 2 rfl) ?_
                  refine q_iald (f := (st M 5 u1 ((M 5 u1) ||| (bt (nI u2)))) 5) (i := u1) hx hb hE hP 5 rfl (by omega) (Nat.le_of_ble_eq_true rfl) dX6_need_94 ?_
                  refine q_rd (q_runS (rest := []) hx hb hml hown hE (c_X6_bits l D cI cZ cL _ ((st M 5 u1 ((M 5 u1) ||| (bt (nI u2)))) 5 u1)) ck_X6_bits w_868 hP hl.1 rfl ⟨Nat.le_of_ble_eq_true rfl, Nat.le_of_ble_eq_true rfl⟩ (Nat.le_of_ble_eq_true rfl) dX6_need_95 ⟨Nat.le_of_ble_eq_true rfl, Nat.le_of_ble_eq_true rfl⟩) ?_
                  rw [show mNeed M (nI u1) (nI u2) = (m_bits ((st M 5 u1 ((M 5 u1) ||| (bt (nI u2)))) 5 u1) 16, 0, st M 5 u1 ((M 5 u1) ||| (bt (nI u2)))) from by first | (simp only [mNeed, mm2, hmNeed, mneedM, zc_1, iu1, zc_5, iu2, zc_10, ec_11, zc_14, zc_17, ↓reduceIte]; done) | (simp only [mNeed, mm2, hmNeed, mneedM, zc_1, iu1, zc_5, iu2, zc_10, ec_11, zc_14, zc_17, ↓reduceIte]; rfl) | (simp [mNeed, mm2, hmNeed, mneedM, zc_1, iu1, zc_5, iu2, zc_10, ec_11, zc_14, zc_17]; done) | (simp [mNeed, mm2, hmNeed, mneedM, zc_1, iu1, zc_5, iu2, zc_10, ec_11, zc_14, zc_17]; rfl)]
                  exact e_wret hx hb hr hlk rfl hP hS dX6_need_98
                · skip
                  exact absurd zc_19 (by decide)
              · skip
                have zc_17 : m_touch M u1 = true := b_t zc_17
                refine lv_iconst (v := 3) hx hb dX6_need_64 (by decide) ?_
                refine lv_goto (tgt := 69) hx hb dX6_need_65 (by decide) ?_
                refine q_w0 (q_runV (rest := []) hx hb hml hown hE (c_X6_goes l D cI cZ cL am M th A (wQ_D hD) 3) ck_X6_goes w_837 hP 0 rfl rfl hl.1 rfl ⟨Nat.le_of_ble_eq_true rfl, Nat.le_of_ble_eq_true rfl⟩ (Nat.le_of_ble_eq_true rfl) dX6_need_69 ⟨Nat.le_of_ble_eq_true rfl, Nat.le_of_ble_eq_true rfl⟩) hS (fun H locs hP hS => ?_)
                have hI_c20 : J0 M := hI
                refine q_top (y := 0) (by decide) ?_
                refine lv_if_ne (tgt := 77) hx hb dX6_need_72 (by decide) (fun zc_21 => ?_) (fun zc_21 => ?_)
                · skip
                  exact absurd zc_21 (by decide)
                · skip
                  refine lv_iconst (v := 0) hx hb dX6_need_75 (by decide) ?_
                  rw [show mNeed M (nI u1) (nI u2) = (0, 3, M) from by first | (simp only [mNeed, mm2, hmNeed, mneedM, zc_1, iu1, zc_5, iu2, zc_10, ec_11, zc_14, zc_17, ↓reduceIte]; done) | (simp only [mNeed, mm2, hmNeed, mneedM, zc_1, iu1, zc_5, iu2, zc_10, ec_11, zc_14, zc_17, ↓reduceIte]; rfl) | (simp [mNeed, mm2, hmNeed, mneedM, zc_1, iu1, zc_5, iu2, zc_10, ec_11, zc_14, zc_17]; done) | (simp [mNeed, mm2, hmNeed, mneedM, zc_1, iu1, zc_5, iu2, zc_10, ec_11, zc_14, zc_17]; rfl)]
                  exact e_wret hx hb hr hlk rfl hP hS dX6_need_76
        · skip
          have zc_10 : u1 ≤ u2 := n_nlt (a := u2) (b := u1) (by omega) (by omega) zc_10
          have dc_10 : ¬ u2 < u1 := Nat.not_lt.mpr zc_10
          refine lv_iconst (v := 2) hx hb dX6_need_36 (by decide) ?_
          refine lv_goto (tgt := 69) hx hb dX6_need_37 (by decide) ?_
          refine q_w0 (q_runV (rest := []) hx hb hml hown hE (c_X6_goes l D cI cZ cL am M th A (wQ_D hD) 2) ck_X6_goes w_837 hP 0 rfl rfl hl.1 rfl ⟨Nat.le_of_ble_eq_true rfl, Nat.le_of_ble_eq_true rfl⟩ (Nat.le_of_ble_eq_true rfl) dX6_need_69 ⟨Nat.le_of_ble_eq_true rfl, Nat.le_of_ble_eq_true rfl⟩) hS (fun H locs hP hS => ?_)
          have hI_c22 : J0 M := hI
          refine q_top (y := 0) (by decide) ?_
          refine lv_if_ne (tgt := 77) hx hb dX6_need_72 (by decide) (fun zc_23 => ?_) (fun zc_23 => ?_)
          · skip
            exact absurd zc_23 (by decide)
          · skip
            refine lv_iconst (v := 0) hx hb dX6_need_75 (by decide) ?_
            rw [show mNeed M (nI u1) (nI u2) = (0, 2, M) from by first | (simp only [mNeed, mm2, hmNeed, mneedM, zc_1, iu1, zc_5, iu2, zc_10, dc_10, ↓reduceIte]; done) | (simp only [mNeed, mm2, hmNeed, mneedM, zc_1, iu1, zc_5, iu2, zc_10, dc_10, ↓reduceIte]; rfl) | (simp [mNeed, mm2, hmNeed, mneedM, zc_1, iu1, zc_5, iu2, zc_10, dc_10]; done) | (simp [mNeed, mm2, hmNeed, mneedM, zc_1, iu1, zc_5, iu2, zc_10, dc_10]; rfl)]
            exact e_wret hx hb hr hlk rfl hP hS dX6_need_76
      · skip
        exact absurd zc_9 (by decide)

theorem dX6_addTeam_0 : decode cX6_addTeam 0 = .ok (.aload_n 0, 1) := by decide +kernel
theorem dX6_addTeam_1 : decode cX6_addTeam 1 = .ok (.aload_n 0, 1) := by decide +kernel
theorem dX6_addTeam_2 : decode cX6_addTeam 2 = .ok (.getfield 70, 3) := by decide +kernel
theorem dX6_addTeam_5 : decode cX6_addTeam 5 = .ok (.bipush 8, 2) := by decide +kernel
theorem dX6_addTeam_7 : decode cX6_addTeam 7 = .ok (.if_icmp .eq 10, 3) := by decide +kernel
theorem dX6_addTeam_10 : decode cX6_addTeam 10 = .ok (.aload_n 0, 1) := by decide +kernel
theorem dX6_addTeam_11 : decode cX6_addTeam 11 = .ok (.getfield 80, 3) := by decide +kernel
theorem dX6_addTeam_14 : decode cX6_addTeam 14 = .ok (.ifCond .eq 7, 3) := by decide +kernel
theorem dX6_addTeam_17 : decode cX6_addTeam 17 = .ok (.iconst 1, 1) := by decide +kernel
theorem dX6_addTeam_18 : decode cX6_addTeam 18 = .ok (.goto 4, 3) := by decide +kernel
theorem dX6_addTeam_21 : decode cX6_addTeam 21 = .ok (.iconst 0, 1) := by decide +kernel
theorem dX6_addTeam_22 : decode cX6_addTeam 22 = .ok (.invokevirtual 76, 3) := by decide +kernel
theorem dX6_addTeam_25 : decode cX6_addTeam 25 = .ok (.ifCond .ne 5, 3) := by decide +kernel
theorem dX6_addTeam_28 : decode cX6_addTeam 28 = .ok (.iconst 0, 1) := by decide +kernel
theorem dX6_addTeam_29 : decode cX6_addTeam 29 = .ok (.ireturn, 1) := by decide +kernel
theorem dX6_addTeam_30 : decode cX6_addTeam 30 = .ok (.iconst 0, 1) := by decide +kernel
theorem dX6_addTeam_31 : decode cX6_addTeam 31 = .ok (.istore_n 1, 1) := by decide +kernel
theorem dX6_addTeam_32 : decode cX6_addTeam 32 = .ok (.iload_n 1, 1) := by decide +kernel
theorem dX6_addTeam_33 : decode cX6_addTeam 33 = .ok (.bipush 16, 2) := by decide +kernel
theorem dX6_addTeam_35 : decode cX6_addTeam 35 = .ok (.if_icmp .ge 23, 3) := by decide +kernel
theorem dX6_addTeam_38 : decode cX6_addTeam 38 = .ok (.aload_n 0, 1) := by decide +kernel
theorem dX6_addTeam_39 : decode cX6_addTeam 39 = .ok (.getfield 25, 3) := by decide +kernel
theorem dX6_addTeam_42 : decode cX6_addTeam 42 = .ok (.aload_n 0, 1) := by decide +kernel
theorem dX6_addTeam_43 : decode cX6_addTeam 43 = .ok (.getfield 70, 3) := by decide +kernel
theorem dX6_addTeam_46 : decode cX6_addTeam 46 = .ok (.iload_n 1, 1) := by decide +kernel
theorem dX6_addTeam_47 : decode cX6_addTeam 47 = .ok (.invokestatic 87, 3) := by decide +kernel
theorem dX6_addTeam_50 : decode cX6_addTeam 50 = .ok (.iconst (-1), 1) := by decide +kernel
theorem dX6_addTeam_51 : decode cX6_addTeam 51 = .ok (.iastore, 1) := by decide +kernel
theorem dX6_addTeam_52 : decode cX6_addTeam 52 = .ok (.iinc 1 1, 3) := by decide +kernel
theorem dX6_addTeam_55 : decode cX6_addTeam 55 = .ok (.goto (-23), 3) := by decide +kernel
theorem dX6_addTeam_58 : decode cX6_addTeam 58 = .ok (.aload_n 0, 1) := by decide +kernel
theorem dX6_addTeam_59 : decode cX6_addTeam 59 = .ok (.dup, 1) := by decide +kernel
theorem dX6_addTeam_60 : decode cX6_addTeam 60 = .ok (.getfield 70, 3) := by decide +kernel
theorem dX6_addTeam_63 : decode cX6_addTeam 63 = .ok (.iconst 1, 1) := by decide +kernel
theorem dX6_addTeam_64 : decode cX6_addTeam 64 = .ok (.iadd, 1) := by decide +kernel
theorem dX6_addTeam_65 : decode cX6_addTeam 65 = .ok (.putfield 70, 3) := by decide +kernel
theorem dX6_addTeam_68 : decode cX6_addTeam 68 = .ok (.aload_n 0, 1) := by decide +kernel
theorem dX6_addTeam_69 : decode cX6_addTeam 69 = .ok (.getfield 70, 3) := by decide +kernel
theorem dX6_addTeam_72 : decode cX6_addTeam 72 = .ok (.iconst 1, 1) := by decide +kernel
theorem dX6_addTeam_73 : decode cX6_addTeam 73 = .ok (.isub, 1) := by decide +kernel
theorem dX6_addTeam_74 : decode cX6_addTeam 74 = .ok (.ireturn, 1) := by decide +kernel
set_option maxHeartbeats 4000000 in
set_option maxRecDepth 100000 in
theorem c_X6_addTeam (l : Launch) (D : va_G) (cI cZ cL : ClassId) (am : Nat → Nat) (M : Mem) (th : Int32) (A : Nat → Prop) (hD : va_D A (wQ am cI cZ M th)) (hI : J0 M) : WR l D cI cZ cL yX6_addTeam cX6_addTeam 2 (some .int) 9 [.ref (am 0)] A (wQ am cI cZ M th) (wQ am cI cZ ((mAddT M).2.2) ((mAddT M).2.1)) (some (.int ((mAddT M).1))) := by
  refine WR.of (by decide) (Nat.le_of_ble_eq_true rfl) ?_
  intro p e s m args below meth c ls hx hb hr hml hown hlk hE hP hS hl
  have hl : lv_has ls 2 [(0, .ref (am 0))] := hl
  have hT8 := hI.T8
  have hR16 := hI.R16
  have hN200 := hI.N200
  refine lv_aload_n hx hb dX6_addTeam_0 rfl (lv_at hl 0 rfl) ?_
  refine lv_aload_n hx hb dX6_addTeam_1 rfl (lv_at hl 0 rfl) ?_
  refine q_get (v := .int (M 0 8)) hx hb hown hE inT_X6 hP 0 rfl rfl 8 (by decide) w_766 rfl dX6_addTeam_2 ?_
  refine q_top (y := nI (mT M)) (J0.T hI) ?_
  refine lv_bipush (v := 8) hx hb dX6_addTeam_5 (by decide) ?_
  refine lv_icmp_eq (tgt := 17) hx hb dX6_addTeam_7 (by decide) (fun zc_1 => ?_) (fun zc_1 => ?_)
  · skip
    have zc_1 : (mT M) = 8 := n_eq (a := mT M) (b := 8) (by omega) (by omega) zc_1
    refine lv_iconst (v := 1) hx hb dX6_addTeam_17 (by decide) ?_
    refine lv_goto (tgt := 22) hx hb dX6_addTeam_18 (by decide) ?_
    refine q_w0 (q_runV (rest := []) hx hb hml hown hE (c_X6_goes l D cI cZ cL am M th A (wQ_D hD) 1) ck_X6_goes w_837 hP 0 rfl rfl hl.1 rfl ⟨Nat.le_of_ble_eq_true rfl, Nat.le_of_ble_eq_true rfl⟩ (Nat.le_of_ble_eq_true rfl) dX6_addTeam_22 ⟨Nat.le_of_ble_eq_true rfl, Nat.le_of_ble_eq_true rfl⟩) hS (fun H locs hP hS => ?_)
    have hI_c2 : J0 M := hI
    refine q_top (y := 0) (by decide) ?_
    refine lv_if_ne (tgt := 30) hx hb dX6_addTeam_25 (by decide) (fun zc_3 => ?_) (fun zc_3 => ?_)
    · skip
      exact absurd zc_3 (by decide)
    · skip
      refine lv_iconst (v := 0) hx hb dX6_addTeam_28 (by decide) ?_
      rw [show mAddT M = (0, 1, M) from by first | (simp only [mAddT, addTM, zc_1, ↓reduceIte]; done) | (simp only [mAddT, addTM, zc_1, ↓reduceIte]; rfl) | (simp [mAddT, addTM, zc_1]; done) | (simp [mAddT, addTM, zc_1]; rfl)]
      exact e_wret hx hb hr hlk rfl hP hS dX6_addTeam_29
  · skip
    have zc_1 : ¬ (mT M) = 8 := n_ne (a := mT M) (b := 8) (by omega) (by omega) zc_1
    refine lv_aload_n hx hb dX6_addTeam_10 rfl (lv_at hl 0 rfl) ?_
    refine q_get (v := .int (M 0 1)) hx hb hown hE inT_X6 hP 0 rfl rfl 1 (by decide) w_759 rfl dX6_addTeam_11 ?_
    refine lv_if_eq (tgt := 21) hx hb dX6_addTeam_14 (by decide) (fun zc_4 => ?_) (fun zc_4 => ?_)
    · skip
      have ec_4 := eq_true zc_4
      refine lv_iconst (v := 0) hx hb dX6_addTeam_21 (by decide) ?_
      refine q_w0 (q_runV (rest := []) hx hb hml hown hE (c_X6_goes l D cI cZ cL am M th A (wQ_D hD) 0) ck_X6_goes w_837 hP 0 rfl rfl hl.1 rfl ⟨Nat.le_of_ble_eq_true rfl, Nat.le_of_ble_eq_true rfl⟩ (Nat.le_of_ble_eq_true rfl) dX6_addTeam_22 ⟨Nat.le_of_ble_eq_true rfl, Nat.le_of_ble_eq_true rfl⟩) hS (fun H locs hP hS => ?_)
      have hI_c5 : J0 M := hI
      refine q_top (y := 1) (by decide) ?_
      refine lv_if_ne (tgt := 30) hx hb dX6_addTeam_25 (by decide) (fun zc_6 => ?_) (fun zc_6 => ?_)
      · skip
        refine lv_iconst (v := 0) hx hb dX6_addTeam_30 (by decide) ?_
        refine lv_istore_n (lv' := [(1, .int 0), (0, .ref (am 0))]) hx hb dX6_addTeam_31 rfl hl (by decide) rfl (fun ls hl => ?_)
        have hloop_32 : ∀ (n i : Nat), i ≤ 16 → 16 < i + n → ∀ (H : Heap) (locs : List Loc), va_P D vwCl (wQ am cI cZ (m_none M (mT M) i) 0) H → va_S A s.heap H locs → ∀ ls : Array Slot, lv_has ls 2 [(1, .int (nI i)), (0, .ref (am 0))] → W p l e (rm 9 0 0) s m args below meth c H locs 0 0 (MQ below (Qwr D A (wQ am cI cZ ((mAddT M).2.2) ((mAddT M).2.1)) (some (.int ((mAddT M).1)))) args s 0 0 A) (F0 m 32 ls []) := by
          intro n
          induction n with
          | zero => intro i h1 h2; exact absurd h2 (by omega)
          | succ n ih_32 =>
            intro i hi_32 hin_32  H locs hP hS ls hl
            have hI_32 : J0 (m_none M (mT M) i) := J0_none hI i
            refine lv_iload_n hx hb dX6_addTeam_32 rfl (lv_at hl 0 rfl) ?_
            refine lv_bipush (v := 16) hx hb dX6_addTeam_33 (by decide) ?_
            refine lv_icmp_ge (tgt := 58) hx hb dX6_addTeam_35 (by decide) (fun zc_7 => ?_) (fun zc_7 => ?_)
            · skip
              have zc_7 : 16 ≤ i := n_le (a := 16) (b := i) (by omega) (by omega) zc_7
              have hend_32 : 16 = i := by omega
              subst hend_32
              obtain ⟨M1, hM1⟩ : ∃ z, z = m_none M (mT M) 16 := ⟨_, rfl⟩
              rw [← hM1] at hP
              have hI_M1 : J0 M1 := by rw [hM1]; exact J0_none hI 16
              refine lv_aload_n hx hb dX6_addTeam_58 rfl (lv_at hl 1 rfl) ?_
              refine lv_dup hx hb dX6_addTeam_59 rfl ?_
              refine q_get (v := .int (M1 0 8)) hx hb hown hE inT_X6 hP 0 rfl rfl 8 (by decide) w_766 rfl dX6_addTeam_60 ?_
              refine q_top (y := nI (mT M1)) (J0.T hI_M1) ?_
              refine q_top (y := nI (mT M)) (congrArg nI (mT_congr (by rw [hM1]; exact m_none_0 _))) ?_
              refine lv_iconst (v := 1) hx hb dX6_addTeam_63 (by decide) ?_
              refine lv_iadd hx hb dX6_addTeam_64 ?_
              refine q_top (y := nI ((mT M) + 1)) (nI_add (mT M) 1) ?_
              refine q_put (ty0 := tyX6) (ws' := (wQ am cI cZ (st M1 0 8 (nI ((mT M) + 1))) 0)) (v := .int (nI ((mT M) + 1))) hx hb hown hE inT_X6 tyX6_ok nmX6 hP (wQ_D hD) hS 0 rfl rfl 8 (by decide) w_766 rfl rfl rfl (Nat.le_of_ble_eq_true rfl) rfl dX6_addTeam_65 (fun H locs hP hS => ?_)
              refine lv_aload_n hx hb dX6_addTeam_68 rfl (lv_at hl 1 rfl) ?_
              refine q_get (v := .int (nI ((mT M) + 1))) hx hb hown hE inT_X6 hP 0 rfl rfl 8 (by decide) w_766 rfl dX6_addTeam_69 ?_
              refine lv_iconst (v := 1) hx hb dX6_addTeam_72 (by decide) ?_
              refine lv_isub hx hb dX6_addTeam_73 ?_
              rw [show mAddT M = ((nI ((mT M) + 1)) - 1, 0, st M1 0 8 (nI ((mT M) + 1))) from by rw [hM1]; simp only [mAddT, addTM, zc_1, ec_4, ↓reduceIte]]
              exact e_wret hx hb hr hlk rfl hP hS dX6_addTeam_74
            · skip
              have zc_7 : i < 16 := n_nle (a := 16) (b := i) (by omega) (by omega) zc_7
              refine lv_aload_n hx hb dX6_addTeam_38 rfl (lv_at hl 1 rfl) ?_
              refine q_get (v := .ref (am 6)) hx hb hown hE inT_X6 hP 0 rfl rfl 9 (by decide) w_767 rfl dX6_addTeam_39 ?_
              refine lv_aload_n hx hb dX6_addTeam_42 rfl (lv_at hl 1 rfl) ?_
              refine q_get (v := .int ((m_none M (mT M) i) 0 8)) hx hb hown hE inT_X6 hP 0 rfl rfl 8 (by decide) w_766 rfl dX6_addTeam_43 ?_
              refine q_top (y := nI (mT (m_none M (mT M) i))) (J0.T hI_32) ?_
              refine q_top (y := nI (mT M)) (congrArg nI (mT_congr (m_none_0 _))) ?_
              refine lv_iload_n hx hb dX6_addTeam_46 rfl (lv_at hl 0 rfl) ?_
              refine q_rd (q_runS (rest := [.ref (am 6)]) hx hb hml hown hE (c_X6_at l D cI cZ cL _ (mT M) i) ck_X6_at w_865 hP hl.1 rfl ⟨Nat.le_of_ble_eq_true rfl, Nat.le_of_ble_eq_true rfl⟩ (Nat.le_of_ble_eq_true rfl) dX6_addTeam_47 ⟨Nat.le_of_ble_eq_true rfl, Nat.le_of_ble_eq_true rfl⟩) ?_
              refine lv_iconst (v := (-1)) hx hb dX6_addTeam_50 (by decide) ?_
              refine q_iast (f := (m_none M (mT M) i) 6) (i := (16 * (mT M) + i)) (x := (-1)) (ws' := (wQ am cI cZ (st (m_none M (mT M) i) 6 (16 * (mT M) + i) (-1)) 0)) hx hb hE hP (wQ_D hD) hS 6 rfl (by omega) (Nat.le_of_ble_eq_true rfl) (wQ_st_6) dX6_addTeam_51 (fun H locs hP hS => ?_)
              refine lv_iinc (v := nI (i + 1)) (lv' := [(1, .int (nI (i + 1))), (0, .ref (am 0))]) hx hb dX6_addTeam_52 hl (k := 0) rfl (nI_1 i) (by decide) rfl (fun ls hl => ?_)
              refine lv_goto (tgt := 32) hx hb dX6_addTeam_55 (by decide) ?_
              refine ih_32 (i + 1) (by omega) (by omega)  H locs (by rw [show m_none M (mT M) (i + 1) = st (m_none M (mT M) i) 6 (16 * (mT M) + i) (-1) from by rfl]; exact hP) hS ls ?_
              exact lv_sub hl [0, 1] rfl
        refine hloop_32 (16 + 1) 0 (by omega) (by omega)  H locs hP hS ls ?_
        exact lv_sub hl [0, 1] rfl
      · skip
        exact absurd zc_6 (by decide)
    · skip
      refine lv_iconst (v := 1) hx hb dX6_addTeam_17 (by decide) ?_
      refine lv_goto (tgt := 22) hx hb dX6_addTeam_18 (by decide) ?_
      refine q_w0 (q_runV (rest := []) hx hb hml hown hE (c_X6_goes l D cI cZ cL am M th A (wQ_D hD) 1) ck_X6_goes w_837 hP 0 rfl rfl hl.1 rfl ⟨Nat.le_of_ble_eq_true rfl, Nat.le_of_ble_eq_true rfl⟩ (Nat.le_of_ble_eq_true rfl) dX6_addTeam_22 ⟨Nat.le_of_ble_eq_true rfl, Nat.le_of_ble_eq_true rfl⟩) hS (fun H locs hP hS => ?_)
      have hI_c8 : J0 M := hI
      refine q_top (y := 0) (by decide) ?_
      refine lv_if_ne (tgt := 30) hx hb dX6_addTeam_25 (by decide) (fun zc_9 => ?_) (fun zc_9 => ?_)
      · skip
        exact absurd zc_9 (by decide)
      · skip
        refine lv_iconst (v := 0) hx hb dX6_addTeam_28 (by decide) ?_
        rw [show mAddT M = (0, 1, M) from by first | (simp only [mAddT, addTM, zc_1, zc_4, ↓reduceIte]; done) | (simp only [mAddT, addTM, zc_1, zc_4, ↓reduceIte]; rfl) | (simp [mAddT, addTM, zc_1, zc_4]; done) | (simp [mAddT, addTM, zc_1, zc_4]; rfl)]
        exact e_wret hx hb hr hlk rfl hP hS dX6_addTeam_29

theorem dX6_end_0 : decode cX6_end 0 = .ok (.aload_n 0, 1) := by decide +kernel
theorem dX6_end_1 : decode cX6_end 1 = .ok (.aload_n 0, 1) := by decide +kernel
theorem dX6_end_2 : decode cX6_end 2 = .ok (.getfield 80, 3) := by decide +kernel
theorem dX6_end_5 : decode cX6_end 5 = .ok (.ifCond .eq 7, 3) := by decide +kernel
theorem dX6_end_8 : decode cX6_end 8 = .ok (.iconst 1, 1) := by decide +kernel
theorem dX6_end_9 : decode cX6_end 9 = .ok (.goto 4, 3) := by decide +kernel
theorem dX6_end_12 : decode cX6_end 12 = .ok (.iconst 0, 1) := by decide +kernel
theorem dX6_end_13 : decode cX6_end 13 = .ok (.invokevirtual 76, 3) := by decide +kernel
theorem dX6_end_16 : decode cX6_end 16 = .ok (.ifCond .ne 5, 3) := by decide +kernel
theorem dX6_end_19 : decode cX6_end 19 = .ok (.iconst 0, 1) := by decide +kernel
theorem dX6_end_20 : decode cX6_end 20 = .ok (.ireturn, 1) := by decide +kernel
theorem dX6_end_21 : decode cX6_end 21 = .ok (.aload_n 0, 1) := by decide +kernel
theorem dX6_end_22 : decode cX6_end 22 = .ok (.iconst 1, 1) := by decide +kernel
theorem dX6_end_23 : decode cX6_end 23 = .ok (.putfield 80, 3) := by decide +kernel
theorem dX6_end_26 : decode cX6_end 26 = .ok (.iconst 0, 1) := by decide +kernel
theorem dX6_end_27 : decode cX6_end 27 = .ok (.istore_n 1, 1) := by decide +kernel
theorem dX6_end_28 : decode cX6_end 28 = .ok (.iconst 0, 1) := by decide +kernel
theorem dX6_end_29 : decode cX6_end 29 = .ok (.istore_n 2, 1) := by decide +kernel
theorem dX6_end_30 : decode cX6_end 30 = .ok (.iload_n 2, 1) := by decide +kernel
theorem dX6_end_31 : decode cX6_end 31 = .ok (.aload_n 0, 1) := by decide +kernel
theorem dX6_end_32 : decode cX6_end 32 = .ok (.getfield 63, 3) := by decide +kernel
theorem dX6_end_35 : decode cX6_end 35 = .ok (.if_icmp .ge 25, 3) := by decide +kernel
theorem dX6_end_38 : decode cX6_end 38 = .ok (.iload_n 1, 1) := by decide +kernel
theorem dX6_end_39 : decode cX6_end 39 = .ok (.aload_n 0, 1) := by decide +kernel
theorem dX6_end_40 : decode cX6_end 40 = .ok (.iload_n 2, 1) := by decide +kernel
theorem dX6_end_41 : decode cX6_end 41 = .ok (.invokevirtual 105, 3) := by decide +kernel
theorem dX6_end_44 : decode cX6_end 44 = .ok (.ifCond .eq 7, 3) := by decide +kernel
theorem dX6_end_47 : decode cX6_end 47 = .ok (.iconst 1, 1) := by decide +kernel
theorem dX6_end_48 : decode cX6_end 48 = .ok (.goto 4, 3) := by decide +kernel
theorem dX6_end_51 : decode cX6_end 51 = .ok (.iconst 0, 1) := by decide +kernel
theorem dX6_end_52 : decode cX6_end 52 = .ok (.iadd, 1) := by decide +kernel
theorem dX6_end_53 : decode cX6_end 53 = .ok (.istore_n 1, 1) := by decide +kernel
theorem dX6_end_54 : decode cX6_end 54 = .ok (.iinc 2 1, 3) := by decide +kernel
theorem dX6_end_57 : decode cX6_end 57 = .ok (.goto (-27), 3) := by decide +kernel
theorem dX6_end_60 : decode cX6_end 60 = .ok (.iload_n 1, 1) := by decide +kernel
theorem dX6_end_61 : decode cX6_end 61 = .ok (.ireturn, 1) := by decide +kernel
set_option maxHeartbeats 4000000 in
set_option maxRecDepth 100000 in
theorem c_X6_end (l : Launch) (D : va_G) (cI cZ cL : ClassId) (am : Nat → Nat) (M : Mem) (th : Int32) (A : Nat → Prop) (hD : va_D A (wQ am cI cZ M th)) (hI : J0 M) : WR l D cI cZ cL yX6_end cX6_end 3 (some .int) 9 [.ref (am 0)] A (wQ am cI cZ M th) (wQ am cI cZ ((mEnd M).2.2) ((mEnd M).2.1)) (some (.int ((mEnd M).1))) := by
  refine WR.of (by decide) (Nat.le_of_ble_eq_true rfl) ?_
  intro p e s m args below meth c ls hx hb hr hml hown hlk hE hP hS hl
  have hl : lv_has ls 3 [(0, .ref (am 0))] := hl
  have hT8 := hI.T8
  have hR16 := hI.R16
  have hN200 := hI.N200
  refine lv_aload_n hx hb dX6_end_0 rfl (lv_at hl 0 rfl) ?_
  refine lv_aload_n hx hb dX6_end_1 rfl (lv_at hl 0 rfl) ?_
  refine q_get (v := .int (M 0 1)) hx hb hown hE inT_X6 hP 0 rfl rfl 1 (by decide) w_759 rfl dX6_end_2 ?_
  refine lv_if_eq (tgt := 12) hx hb dX6_end_5 (by decide) (fun zc_1 => ?_) (fun zc_1 => ?_)
  · skip
    have ec_1 := eq_true zc_1
    refine lv_iconst (v := 0) hx hb dX6_end_12 (by decide) ?_
    refine q_w0 (q_runV (rest := []) hx hb hml hown hE (c_X6_goes l D cI cZ cL am M th A (wQ_D hD) 0) ck_X6_goes w_837 hP 0 rfl rfl hl.1 rfl ⟨Nat.le_of_ble_eq_true rfl, Nat.le_of_ble_eq_true rfl⟩ (Nat.le_of_ble_eq_true rfl) dX6_end_13 ⟨Nat.le_of_ble_eq_true rfl, Nat.le_of_ble_eq_true rfl⟩) hS (fun H locs hP hS => ?_)
    have hI_c2 : J0 M := hI
    refine q_top (y := 1) (by decide) ?_
    refine lv_if_ne (tgt := 21) hx hb dX6_end_16 (by decide) (fun zc_3 => ?_) (fun zc_3 => ?_)
    · skip
      refine lv_aload_n hx hb dX6_end_21 rfl (lv_at hl 0 rfl) ?_
      refine lv_iconst (v := 1) hx hb dX6_end_22 (by decide) ?_
      refine q_put (ty0 := tyX6) (ws' := (wQ am cI cZ (st M 0 1 1) 0)) (v := .int 1) hx hb hown hE inT_X6 tyX6_ok nmX6 hP (wQ_D hD) hS 0 rfl rfl 1 (by decide) w_759 rfl (by decide) rfl (Nat.le_of_ble_eq_true rfl) rfl dX6_end_23 (fun H locs hP hS => ?_)
      have hI_e : J0 (st M 0 1 1) := J0_0 (by decide) hI
      refine lv_iconst (v := 0) hx hb dX6_end_26 (by decide) ?_
      refine lv_istore_n (lv' := [(1, .int 0), (0, .ref (am 0))]) hx hb dX6_end_27 rfl hl (by decide) rfl (fun ls hl => ?_)
      refine lv_iconst (v := 0) hx hb dX6_end_28 (by decide) ?_
      refine lv_istore_n (lv' := [(2, .int 0), (1, .int 0), (0, .ref (am 0))]) hx hb dX6_end_29 rfl hl (by decide) rfl (fun ls hl => ?_)
      have hloop_30 : ∀ (n i : Nat), i ≤ mR M → mR M < i + n → ∀ ls : Array Slot, lv_has ls 3 [(2, .int (nI i)), (1, .int (m_ends (st M 0 1 1) i)), (0, .ref (am 0))] → W p l e (rm 9 0 0) s m args below meth c H locs 0 0 (MQ below (Qwr D A (wQ am cI cZ ((mEnd M).2.2) ((mEnd M).2.1)) (some (.int ((mEnd M).1)))) args s 0 0 A) (F0 m 30 ls []) := by
        intro n
        induction n with
        | zero => intro i h1 h2; exact absurd h2 (by omega)
        | succ n ih_30 =>
          intro i hi_30 hin_30  ls hl
          refine lv_iload_n hx hb dX6_end_30 rfl (lv_at hl 0 rfl) ?_
          refine lv_aload_n hx hb dX6_end_31 rfl (lv_at hl 2 rfl) ?_
          refine q_get (v := .int (M 0 2)) hx hb hown hE inT_X6 hP 0 rfl rfl 2 (by decide) w_760 rfl dX6_end_32 ?_
          refine q_top (y := nI (mR M)) (J0.R hI_e) ?_
          refine lv_icmp_ge (tgt := 60) hx hb dX6_end_35 (by decide) (fun zc_4 => ?_) (fun zc_4 => ?_)
          · skip
            have zc_4 : (mR M) ≤ i := n_le (a := mR M) (b := i) (by omega) (by omega) zc_4
            have hend_30 : mR M = i := by omega
            subst hend_30
            refine lv_iload_n hx hb dX6_end_60 rfl (lv_at hl 1 rfl) ?_
            rw [show mEnd M = (m_ends (st M 0 1 1) (mR M), 0, st M 0 1 1) from by first | (simp only [mEnd, ec_1, ↓reduceIte]; done) | (simp only [mEnd, ec_1, ↓reduceIte]; rfl) | (simp [mEnd, ec_1]; done) | (simp [mEnd, ec_1]; rfl)]
            exact e_wret hx hb hr hlk rfl hP hS dX6_end_61
          · skip
            have zc_4 : i < (mR M) := n_nle (a := mR M) (b := i) (by omega) (by omega) zc_4
            refine lv_iload_n hx hb dX6_end_38 rfl (lv_at hl 1 rfl) ?_
            refine lv_aload_n hx hb dX6_end_39 rfl (lv_at hl 2 rfl) ?_
            refine lv_iload_n hx hb dX6_end_40 rfl (lv_at hl 0 rfl) ?_
            refine q_rd (q_runV (rest := [.int (m_ends (st M 0 1 1) i)]) hx hb hml hown hE (c_X6_isOpenToAll l D cI cZ cL am (st M 0 1 1) 0 i hI_e (by omega)) ck_X6_isOpenToAll w_879 hP 0 rfl rfl hl.1 rfl ⟨Nat.le_of_ble_eq_true rfl, Nat.le_of_ble_eq_true rfl⟩ (Nat.le_of_ble_eq_true rfl) dX6_end_41 ⟨Nat.le_of_ble_eq_true rfl, Nat.le_of_ble_eq_true rfl⟩) ?_
            refine lv_if_eq (tgt := 51) hx hb dX6_end_44 (by decide) (fun zc_5 => ?_) (fun zc_5 => ?_)
            · skip
              have zc_5 : m_free (st M 0 1 1) i = false := b_f zc_5
              refine lv_iconst (v := 0) hx hb dX6_end_51 (by decide) ?_
              refine lv_iadd hx hb dX6_end_52 ?_
              refine lv_istore_n (lv' := [(1, .int ((m_ends (st M 0 1 1) i) + 0)), (2, .int (nI i)), (0, .ref (am 0))]) hx hb dX6_end_53 rfl hl (by decide) rfl (fun ls hl => ?_)
              refine lv_iinc (v := nI (i + 1)) (lv' := [(2, .int (nI (i + 1))), (1, .int ((m_ends (st M 0 1 1) i) + 0)), (0, .ref (am 0))]) hx hb dX6_end_54 hl (k := 1) rfl (nI_1 i) (by decide) rfl (fun ls hl => ?_)
              refine lv_goto (tgt := 30) hx hb dX6_end_57 (by decide) ?_
              refine ih_30 (i + 1) (by omega) (by omega)  ls ?_
              rw [show m_ends (st M 0 1 1) (i + 1) = (m_ends (st M 0 1 1) i) + 0 from by first | (simp only [bI, m_ends, zc_4, zc_5, ↓reduceIte]; done) | (simp [bI, m_ends, zc_4, zc_5]; done) | (simp_all [bI, m_ends]; done)]
              exact lv_sub hl [0, 1, 2] rfl
            · skip
              have zc_5 : m_free (st M 0 1 1) i = true := b_t zc_5
              refine lv_iconst (v := 1) hx hb dX6_end_47 (by decide) ?_
              refine lv_goto (tgt := 52) hx hb dX6_end_48 (by decide) ?_
              refine lv_iadd hx hb dX6_end_52 ?_
              refine lv_istore_n (lv' := [(1, .int ((m_ends (st M 0 1 1) i) + 1)), (2, .int (nI i)), (0, .ref (am 0))]) hx hb dX6_end_53 rfl hl (by decide) rfl (fun ls hl => ?_)
              refine lv_iinc (v := nI (i + 1)) (lv' := [(2, .int (nI (i + 1))), (1, .int ((m_ends (st M 0 1 1) i) + 1)), (0, .ref (am 0))]) hx hb dX6_end_54 hl (k := 1) rfl (nI_1 i) (by decide) rfl (fun ls hl => ?_)
              refine lv_goto (tgt := 30) hx hb dX6_end_57 (by decide) ?_
              refine ih_30 (i + 1) (by omega) (by omega)  ls ?_
              rw [show m_ends (st M 0 1 1) (i + 1) = (m_ends (st M 0 1 1) i) + 1 from by first | (simp only [bI, m_ends, zc_4, zc_5, ↓reduceIte]; done) | (simp [bI, m_ends, zc_4, zc_5]; done) | (simp_all [bI, m_ends]; done)]
              exact lv_sub hl [0, 1, 2] rfl
      refine hloop_30 (mR M + 1) 0 (by omega) (by omega)  ls ?_
      rw [show m_ends (st M 0 1 1) 0 = 0 from by first | rfl | (first | (simp only [bI, m_ends, ec_1, ↓reduceIte]; done) | (simp [bI, m_ends, ec_1]; done) | (simp_all [bI, m_ends]; done))]
      exact lv_sub hl [0, 1, 2] rfl
    · skip
      exact absurd zc_3 (by decide)
  · skip
    refine lv_iconst (v := 1) hx hb dX6_end_8 (by decide) ?_
    refine lv_goto (tgt := 13) hx hb dX6_end_9 (by decide) ?_
    refine q_w0 (q_runV (rest := []) hx hb hml hown hE (c_X6_goes l D cI cZ cL am M th A (wQ_D hD) 1) ck_X6_goes w_837 hP 0 rfl rfl hl.1 rfl ⟨Nat.le_of_ble_eq_true rfl, Nat.le_of_ble_eq_true rfl⟩ (Nat.le_of_ble_eq_true rfl) dX6_end_13 ⟨Nat.le_of_ble_eq_true rfl, Nat.le_of_ble_eq_true rfl⟩) hS (fun H locs hP hS => ?_)
    have hI_c6 : J0 M := hI
    refine q_top (y := 0) (by decide) ?_
    refine lv_if_ne (tgt := 21) hx hb dX6_end_16 (by decide) (fun zc_7 => ?_) (fun zc_7 => ?_)
    · skip
      exact absurd zc_7 (by decide)
    · skip
      refine lv_iconst (v := 0) hx hb dX6_end_19 (by decide) ?_
      rw [show mEnd M = (0, 1, M) from by first | (simp only [mEnd, zc_1, ↓reduceIte]; done) | (simp only [mEnd, zc_1, ↓reduceIte]; rfl) | (simp [mEnd, zc_1]; done) | (simp [mEnd, zc_1]; rfl)]
      exact e_wret hx hb hr hlk rfl hP hS dX6_end_20

theorem dX6_answer_0 : decode cX6_answer 0 = .ok (.aload_n 0, 1) := by decide +kernel
theorem dX6_answer_1 : decode cX6_answer 1 = .ok (.aload_n 0, 1) := by decide +kernel
theorem dX6_answer_2 : decode cX6_answer 2 = .ok (.iload_n 1, 1) := by decide +kernel
theorem dX6_answer_3 : decode cX6_answer 3 = .ok (.iload_n 2, 1) := by decide +kernel
theorem dX6_answer_4 : decode cX6_answer 4 = .ok (.invokevirtual 114, 3) := by decide +kernel
theorem dX6_answer_7 : decode cX6_answer 7 = .ok (.invokevirtual 76, 3) := by decide +kernel
theorem dX6_answer_10 : decode cX6_answer 10 = .ok (.ifCond .eq 49, 3) := by decide +kernel
theorem dX6_answer_13 : decode cX6_answer 13 = .ok (.aload_n 0, 1) := by decide +kernel
theorem dX6_answer_14 : decode cX6_answer 14 = .ok (.iload_n 3, 1) := by decide +kernel
theorem dX6_answer_15 : decode cX6_answer 15 = .ok (.iconst 0, 1) := by decide +kernel
theorem dX6_answer_16 : decode cX6_answer 16 = .ok (.sipush 9999, 3) := by decide +kernel
theorem dX6_answer_19 : decode cX6_answer 19 = .ok (.invokestatic 66, 3) := by decide +kernel
theorem dX6_answer_22 : decode cX6_answer 22 = .ok (.ifCond .ne 7, 3) := by decide +kernel
theorem dX6_answer_25 : decode cX6_answer 25 = .ok (.iconst 2, 1) := by decide +kernel
theorem dX6_answer_26 : decode cX6_answer 26 = .ok (.goto 27, 3) := by decide +kernel
theorem dX6_answer_29 : decode cX6_answer 29 = .ok (.aload_n 0, 1) := by decide +kernel
theorem dX6_answer_30 : decode cX6_answer 30 = .ok (.iload_n 1, 1) := by decide +kernel
theorem dX6_answer_31 : decode cX6_answer 31 = .ok (.iload_n 2, 1) := by decide +kernel
theorem dX6_answer_32 : decode cX6_answer 32 = .ok (.invokevirtual 117, 3) := by decide +kernel
theorem dX6_answer_35 : decode cX6_answer 35 = .ok (.ifCond .ne 13, 3) := by decide +kernel
theorem dX6_answer_38 : decode cX6_answer 38 = .ok (.aload_n 0, 1) := by decide +kernel
theorem dX6_answer_39 : decode cX6_answer 39 = .ok (.getfield 84, 3) := by decide +kernel
theorem dX6_answer_42 : decode cX6_answer 42 = .ok (.sipush 200, 3) := by decide +kernel
theorem dX6_answer_45 : decode cX6_answer 45 = .ok (.if_icmp .ne 7, 3) := by decide +kernel
theorem dX6_answer_48 : decode cX6_answer 48 = .ok (.iconst 3, 1) := by decide +kernel
theorem dX6_answer_49 : decode cX6_answer 49 = .ok (.goto 4, 3) := by decide +kernel
theorem dX6_answer_52 : decode cX6_answer 52 = .ok (.iconst 0, 1) := by decide +kernel
theorem dX6_answer_53 : decode cX6_answer 53 = .ok (.invokevirtual 76, 3) := by decide +kernel
theorem dX6_answer_56 : decode cX6_answer 56 = .ok (.ifCond .ne 5, 3) := by decide +kernel
theorem dX6_answer_59 : decode cX6_answer 59 = .ok (.iconst 0, 1) := by decide +kernel
theorem dX6_answer_60 : decode cX6_answer 60 = .ok (.ireturn, 1) := by decide +kernel
theorem dX6_answer_61 : decode cX6_answer 61 = .ok (.aload_n 0, 1) := by decide +kernel
theorem dX6_answer_62 : decode cX6_answer 62 = .ok (.getfield 41, 3) := by decide +kernel
theorem dX6_answer_65 : decode cX6_answer 65 = .ok (.aload_n 0, 1) := by decide +kernel
theorem dX6_answer_66 : decode cX6_answer 66 = .ok (.getfield 84, 3) := by decide +kernel
theorem dX6_answer_69 : decode cX6_answer 69 = .ok (.iload_n 1, 1) := by decide +kernel
theorem dX6_answer_70 : decode cX6_answer 70 = .ok (.iastore, 1) := by decide +kernel
theorem dX6_answer_71 : decode cX6_answer 71 = .ok (.aload_n 0, 1) := by decide +kernel
theorem dX6_answer_72 : decode cX6_answer 72 = .ok (.getfield 44, 3) := by decide +kernel
theorem dX6_answer_75 : decode cX6_answer 75 = .ok (.aload_n 0, 1) := by decide +kernel
theorem dX6_answer_76 : decode cX6_answer 76 = .ok (.getfield 84, 3) := by decide +kernel
theorem dX6_answer_79 : decode cX6_answer 79 = .ok (.iload_n 2, 1) := by decide +kernel
theorem dX6_answer_80 : decode cX6_answer 80 = .ok (.iastore, 1) := by decide +kernel
theorem dX6_answer_81 : decode cX6_answer 81 = .ok (.aload_n 0, 1) := by decide +kernel
theorem dX6_answer_82 : decode cX6_answer 82 = .ok (.getfield 47, 3) := by decide +kernel
theorem dX6_answer_85 : decode cX6_answer 85 = .ok (.aload_n 0, 1) := by decide +kernel
theorem dX6_answer_86 : decode cX6_answer 86 = .ok (.getfield 84, 3) := by decide +kernel
theorem dX6_answer_89 : decode cX6_answer 89 = .ok (.iload_n 3, 1) := by decide +kernel
theorem dX6_answer_90 : decode cX6_answer 90 = .ok (.iastore, 1) := by decide +kernel
theorem dX6_answer_91 : decode cX6_answer 91 = .ok (.aload_n 0, 1) := by decide +kernel
theorem dX6_answer_92 : decode cX6_answer 92 = .ok (.dup, 1) := by decide +kernel
theorem dX6_answer_93 : decode cX6_answer 93 = .ok (.getfield 84, 3) := by decide +kernel
theorem dX6_answer_96 : decode cX6_answer 96 = .ok (.iconst 1, 1) := by decide +kernel
theorem dX6_answer_97 : decode cX6_answer 97 = .ok (.iadd, 1) := by decide +kernel
theorem dX6_answer_98 : decode cX6_answer 98 = .ok (.putfield 84, 3) := by decide +kernel
theorem dX6_answer_101 : decode cX6_answer 101 = .ok (.iload_n 3, 1) := by decide +kernel
theorem dX6_answer_102 : decode cX6_answer 102 = .ok (.aload_n 0, 1) := by decide +kernel
theorem dX6_answer_103 : decode cX6_answer 103 = .ok (.getfield 13, 3) := by decide +kernel
theorem dX6_answer_106 : decode cX6_answer 106 = .ok (.iload_n 2, 1) := by decide +kernel
theorem dX6_answer_107 : decode cX6_answer 107 = .ok (.iaload, 1) := by decide +kernel
theorem dX6_answer_108 : decode cX6_answer 108 = .ok (.if_icmp .ne 7, 3) := by decide +kernel
theorem dX6_answer_111 : decode cX6_answer 111 = .ok (.iconst 1, 1) := by decide +kernel
theorem dX6_answer_112 : decode cX6_answer 112 = .ok (.goto 4, 3) := by decide +kernel
theorem dX6_answer_115 : decode cX6_answer 115 = .ok (.iconst 0, 1) := by decide +kernel
theorem dX6_answer_116 : decode cX6_answer 116 = .ok (.istore 4, 2) := by decide +kernel
theorem dX6_answer_118 : decode cX6_answer 118 = .ok (.iload 4, 2) := by decide +kernel
theorem dX6_answer_120 : decode cX6_answer 120 = .ok (.ifCond .eq 52, 3) := by decide +kernel
theorem dX6_answer_123 : decode cX6_answer 123 = .ok (.aload_n 0, 1) := by decide +kernel
theorem dX6_answer_124 : decode cX6_answer 124 = .ok (.getfield 28, 3) := by decide +kernel
theorem dX6_answer_127 : decode cX6_answer 127 = .ok (.iload_n 1, 1) := by decide +kernel
theorem dX6_answer_128 : decode cX6_answer 128 = .ok (.iload_n 2, 1) := by decide +kernel
theorem dX6_answer_129 : decode cX6_answer 129 = .ok (.invokestatic 87, 3) := by decide +kernel
theorem dX6_answer_132 : decode cX6_answer 132 = .ok (.aload_n 0, 1) := by decide +kernel
theorem dX6_answer_133 : decode cX6_answer 133 = .ok (.getfield 73, 3) := by decide +kernel
theorem dX6_answer_136 : decode cX6_answer 136 = .ok (.aload_n 0, 1) := by decide +kernel
theorem dX6_answer_137 : decode cX6_answer 137 = .ok (.iload_n 1, 1) := by decide +kernel
theorem dX6_answer_138 : decode cX6_answer 138 = .ok (.iload_n 2, 1) := by decide +kernel
theorem dX6_answer_139 : decode cX6_answer 139 = .ok (.invokevirtual 111, 3) := by decide +kernel
theorem dX6_answer_142 : decode cX6_answer 142 = .ok (.isub, 1) := by decide +kernel
theorem dX6_answer_143 : decode cX6_answer 143 = .ok (.aload_n 0, 1) := by decide +kernel
theorem dX6_answer_144 : decode cX6_answer 144 = .ok (.getfield 16, 3) := by decide +kernel
theorem dX6_answer_147 : decode cX6_answer 147 = .ok (.iload_n 2, 1) := by decide +kernel
theorem dX6_answer_148 : decode cX6_answer 148 = .ok (.iaload, 1) := by decide +kernel
theorem dX6_answer_149 : decode cX6_answer 149 = .ok (.if_icmp .ge 7, 3) := by decide +kernel
theorem dX6_answer_152 : decode cX6_answer 152 = .ok (.iconst 1, 1) := by decide +kernel
theorem dX6_answer_153 : decode cX6_answer 153 = .ok (.goto 4, 3) := by decide +kernel
theorem dX6_answer_156 : decode cX6_answer 156 = .ok (.iconst 0, 1) := by decide +kernel
theorem dX6_answer_157 : decode cX6_answer 157 = .ok (.bastore, 1) := by decide +kernel
theorem dX6_answer_158 : decode cX6_answer 158 = .ok (.aload_n 0, 1) := by decide +kernel
theorem dX6_answer_159 : decode cX6_answer 159 = .ok (.getfield 25, 3) := by decide +kernel
theorem dX6_answer_162 : decode cX6_answer 162 = .ok (.iload_n 1, 1) := by decide +kernel
theorem dX6_answer_163 : decode cX6_answer 163 = .ok (.iload_n 2, 1) := by decide +kernel
theorem dX6_answer_164 : decode cX6_answer 164 = .ok (.invokestatic 87, 3) := by decide +kernel
theorem dX6_answer_167 : decode cX6_answer 167 = .ok (.aload_n 0, 1) := by decide +kernel
theorem dX6_answer_168 : decode cX6_answer 168 = .ok (.getfield 73, 3) := by decide +kernel
theorem dX6_answer_171 : decode cX6_answer 171 = .ok (.iastore, 1) := by decide +kernel
theorem dX6_answer_172 : decode cX6_answer 172 = .ok (.iload 4, 2) := by decide +kernel
theorem dX6_answer_174 : decode cX6_answer 174 = .ok (.ireturn, 1) := by decide +kernel
set_option maxHeartbeats 4000000 in
set_option maxRecDepth 100000 in
theorem c_X6_answer (l : Launch) (D : va_G) (cI cZ cL : ClassId) (am : Nat → Nat) (M : Mem) (th : Int32) (A : Nat → Prop) (hD : va_D A (wQ am cI cZ M th)) (x1 : Int32) (x2 : Int32) (x3 : Int32) (hI : J0 M) : WR l D cI cZ cL yX6_answer cX6_answer 5 (some .boolean) 9 [.ref (am 0), .int x1, .int x2, .int x3] A (wQ am cI cZ M th) (wQ am cI cZ ((mAns M x1 x2 x3).2.2) ((mAns M x1 x2 x3).2.1)) (some (.int ((mAns M x1 x2 x3).1))) := by
  refine WR.of (by decide) (Nat.le_of_ble_eq_true rfl) ?_
  intro p e s m args below meth c ls hx hb hr hml hown hlk hE hP hS hl
  have hl : lv_has ls 5 [(0, .ref (am 0)), (1, .int x1), (2, .int x2), (3, .int x3)] := hl
  have hT8 := hI.T8
  have hR16 := hI.R16
  have hN200 := hI.N200
  refine lv_aload_n hx hb dX6_answer_0 rfl (lv_at hl 0 rfl) ?_
  refine lv_aload_n hx hb dX6_answer_1 rfl (lv_at hl 0 rfl) ?_
  refine lv_iload_n hx hb dX6_answer_2 rfl (lv_at hl 1 rfl) ?_
  refine lv_iload_n hx hb dX6_answer_3 rfl (lv_at hl 2 rfl) ?_
  refine q_rd (q_runV (rest := [.ref (am 0)]) hx hb hml hown hE (c_X6_wrong l D cI cZ cL am M th x1 x2 hI) ck_X6_wrong w_887 hP 0 rfl rfl hl.1 rfl ⟨Nat.le_of_ble_eq_true rfl, Nat.le_of_ble_eq_true rfl⟩ (Nat.le_of_ble_eq_true rfl) dX6_answer_4 ⟨Nat.le_of_ble_eq_true rfl, Nat.le_of_ble_eq_true rfl⟩) ?_
  refine q_w0 (q_runV (rest := []) hx hb hml hown hE (c_X6_goes l D cI cZ cL am M th A (wQ_D hD) (m_wrong M x1 x2)) ck_X6_goes w_837 hP 0 rfl rfl hl.1 rfl ⟨Nat.le_of_ble_eq_true rfl, Nat.le_of_ble_eq_true rfl⟩ (Nat.le_of_ble_eq_true rfl) dX6_answer_7 ⟨Nat.le_of_ble_eq_true rfl, Nat.le_of_ble_eq_true rfl⟩) hS (fun H locs hP hS => ?_)
  have hI_c1 : J0 M := hI
  refine lv_if_eq (tgt := 59) hx hb dX6_answer_10 (by decide) (fun zc_2 => ?_) (fun zc_2 => ?_)
  · skip
    have zc_2 : decide ((m_wrong M x1 x2) = 0) = false := b_f zc_2
    refine lv_iconst (v := 0) hx hb dX6_answer_59 (by decide) ?_
    rw [show mAns M x1 x2 x3 = (0, (m_wrong M x1 x2), M) from by first | exact mm2_no zc_2 | (simp only [mAns, mm2, hmAns, mapp, msol, zc_2, ↓reduceIte]; done) | (simp only [mAns, mm2, hmAns, mapp, msol, zc_2, ↓reduceIte]; rfl) | (simp [mAns, mm2, hmAns, mapp, msol, zc_2]; done) | (simp [mAns, mm2, hmAns, mapp, msol, zc_2]; rfl)]
    exact e_wret hx hb hr hlk (show narrow FieldType.boolean (Value.int 0) = Value.int 0 from by decide) hP hS dX6_answer_60
  · skip
    have zc_2 : decide ((m_wrong M x1 x2) = 0) = true := b_t zc_2
    obtain ⟨k1, k2⟩ := m_wrong_ok zc_2
    obtain ⟨u1, hu1, eu1⟩ := okn_t (k1)
    subst eu1
    have iu1 : iN (nI u1) = u1 := iN_nI (by omega)
    obtain ⟨u2, hu2, eu2⟩ := okn_t (k2)
    subst eu2
    have iu2 : iN (nI u2) = u2 := iN_nI (by omega)
    refine lv_aload_n hx hb dX6_answer_13 rfl (lv_at hl 0 rfl) ?_
    refine lv_iload_n hx hb dX6_answer_14 rfl (lv_at hl 3 rfl) ?_
    refine lv_iconst (v := 0) hx hb dX6_answer_15 (by decide) ?_
    refine lv_sipush (v := 9999) hx hb dX6_answer_16 (by decide) ?_
    refine q_rd (q_runS (rest := [.ref (am 0)]) hx hb hml hown hE (c_X6_isIn l D cI cZ cL _ x3 0 9999) ck_X6_isIn w_834 hP hl.1 rfl ⟨Nat.le_of_ble_eq_true rfl, Nat.le_of_ble_eq_true rfl⟩ (Nat.le_of_ble_eq_true rfl) dX6_answer_19 ⟨Nat.le_of_ble_eq_true rfl, Nat.le_of_ble_eq_true rfl⟩) ?_
    refine lv_if_ne (tgt := 29) hx hb dX6_answer_22 (by decide) (fun zc_3 => ?_) (fun zc_3 => ?_)
    · skip
      have zc_3 : okr x3 0 9999 = true := b_t zc_3
      refine lv_aload_n hx hb dX6_answer_29 rfl (lv_at hl 0 rfl) ?_
      refine lv_iload_n hx hb dX6_answer_30 rfl (lv_at hl 1 rfl) ?_
      refine lv_iload_n hx hb dX6_answer_31 rfl (lv_at hl 2 rfl) ?_
      refine q_rd (q_runV (rest := [.ref (am 0)]) hx hb hml hown hE (c_X6_isDone l D cI cZ cL am M (m_wrong M (nI u1) (nI u2)) u1 u2 (by omega) (by omega)) ck_X6_isDone w_895 hP 0 rfl rfl hl.1 rfl ⟨Nat.le_of_ble_eq_true rfl, Nat.le_of_ble_eq_true rfl⟩ (Nat.le_of_ble_eq_true rfl) dX6_answer_32 ⟨Nat.le_of_ble_eq_true rfl, Nat.le_of_ble_eq_true rfl⟩) ?_
      refine lv_if_ne (tgt := 48) hx hb dX6_answer_35 (by decide) (fun zc_4 => ?_) (fun zc_4 => ?_)
      · skip
        have zc_4 : m_done M u1 u2 = true := b_t zc_4
        refine lv_iconst (v := 3) hx hb dX6_answer_48 (by decide) ?_
        refine lv_goto (tgt := 53) hx hb dX6_answer_49 (by decide) ?_
        refine q_w0 (q_runV (rest := []) hx hb hml hown hE (c_X6_goes l D cI cZ cL am M (m_wrong M (nI u1) (nI u2)) A (wQ_D hD) 3) ck_X6_goes w_837 hP 0 rfl rfl hl.1 rfl ⟨Nat.le_of_ble_eq_true rfl, Nat.le_of_ble_eq_true rfl⟩ (Nat.le_of_ble_eq_true rfl) dX6_answer_53 ⟨Nat.le_of_ble_eq_true rfl, Nat.le_of_ble_eq_true rfl⟩) hS (fun H locs hP hS => ?_)
        have hI_c5 : J0 M := hI_c1
        refine q_top (y := 0) (by decide) ?_
        refine lv_if_ne (tgt := 61) hx hb dX6_answer_56 (by decide) (fun zc_6 => ?_) (fun zc_6 => ?_)
        · skip
          exact absurd zc_6 (by decide)
        · skip
          refine lv_iconst (v := 0) hx hb dX6_answer_59 (by decide) ?_
          rw [show mAns M (nI u1) (nI u2) x3 = (0, 3, M) from by first | exact mm2_no zc_2 | (simp only [mAns, mm2, hmAns, mapp, msol, zc_2, k1, k2, iu1, iu2, zc_3, zc_4, ↓reduceIte]; done) | (simp only [mAns, mm2, hmAns, mapp, msol, zc_2, k1, k2, iu1, iu2, zc_3, zc_4, ↓reduceIte]; rfl) | (simp [mAns, mm2, hmAns, mapp, msol, zc_2, k1, k2, iu1, iu2, zc_3, zc_4]; done) | (simp [mAns, mm2, hmAns, mapp, msol, zc_2, k1, k2, iu1, iu2, zc_3, zc_4]; rfl)]
          exact e_wret hx hb hr hlk (show narrow FieldType.boolean (Value.int 0) = Value.int 0 from by decide) hP hS dX6_answer_60
      · skip
        have zc_4 : m_done M u1 u2 = false := b_f zc_4
        refine lv_aload_n hx hb dX6_answer_38 rfl (lv_at hl 0 rfl) ?_
        refine q_get (v := .int (M 0 14)) hx hb hown hE inT_X6 hP 0 rfl rfl 14 (by decide) w_772 rfl dX6_answer_39 ?_
        refine q_top (y := nI (mN M)) (J0.N hI_c1) ?_
        refine lv_sipush (v := 200) hx hb dX6_answer_42 (by decide) ?_
        refine lv_icmp_ne (tgt := 52) hx hb dX6_answer_45 (by decide) (fun zc_7 => ?_) (fun zc_7 => ?_)
        · skip
          have zc_7 : ¬ (mN M) = 200 := n_ne (a := mN M) (b := 200) (by omega) (by omega) zc_7
          refine lv_iconst (v := 0) hx hb dX6_answer_52 (by decide) ?_
          refine q_w0 (q_runV (rest := []) hx hb hml hown hE (c_X6_goes l D cI cZ cL am M (m_wrong M (nI u1) (nI u2)) A (wQ_D hD) 0) ck_X6_goes w_837 hP 0 rfl rfl hl.1 rfl ⟨Nat.le_of_ble_eq_true rfl, Nat.le_of_ble_eq_true rfl⟩ (Nat.le_of_ble_eq_true rfl) dX6_answer_53 ⟨Nat.le_of_ble_eq_true rfl, Nat.le_of_ble_eq_true rfl⟩) hS (fun H locs hP hS => ?_)
          have hI_c8 : J0 M := hI_c1
          refine q_top (y := 1) (by decide) ?_
          refine lv_if_ne (tgt := 61) hx hb dX6_answer_56 (by decide) (fun zc_9 => ?_) (fun zc_9 => ?_)
          · skip
            refine lv_aload_n hx hb dX6_answer_61 rfl (lv_at hl 0 rfl) ?_
            refine q_get (v := .ref (am 11)) hx hb hown hE inT_X6 hP 0 rfl rfl 15 (by decide) w_773 rfl dX6_answer_62 ?_
            refine lv_aload_n hx hb dX6_answer_65 rfl (lv_at hl 0 rfl) ?_
            refine q_get (v := .int (M 0 14)) hx hb hown hE inT_X6 hP 0 rfl rfl 14 (by decide) w_772 rfl dX6_answer_66 ?_
            refine q_top (y := nI (mN M)) (J0.N hI_c8) ?_
            refine lv_iload_n hx hb dX6_answer_69 rfl (lv_at hl 1 rfl) ?_
            refine q_iast (f := M 11) (i := (mN M)) (x := nI u1) (ws' := (wQ am cI cZ (st M 11 (mN M) (nI u1)) 0)) hx hb hE hP (wQ_D hD) hS 11 rfl (by omega) (Nat.le_of_ble_eq_true rfl) (wQ_st_11) dX6_answer_70 (fun H locs hP hS => ?_)
            refine lv_aload_n hx hb dX6_answer_71 rfl (lv_at hl 0 rfl) ?_
            refine q_get (v := .ref (am 12)) hx hb hown hE inT_X6 hP 0 rfl rfl 16 (by decide) w_774 rfl dX6_answer_72 ?_
            refine lv_aload_n hx hb dX6_answer_75 rfl (lv_at hl 0 rfl) ?_
            refine q_get (v := .int (M 0 14)) hx hb hown hE inT_X6 hP 0 rfl rfl 14 (by decide) w_772 rfl dX6_answer_76 ?_
            refine q_top (y := nI (mN M)) (J0.N hI_c8) ?_
            refine lv_iload_n hx hb dX6_answer_79 rfl (lv_at hl 2 rfl) ?_
            refine q_iast (f := (st M 11 (mN M) (nI u1)) 12) (i := (mN M)) (x := nI u2) (ws' := (wQ am cI cZ (st (st M 11 (mN M) (nI u1)) 12 (mN M) (nI u2)) 0)) hx hb hE hP (wQ_D hD) hS 12 rfl (by omega) (Nat.le_of_ble_eq_true rfl) (wQ_st_12) dX6_answer_80 (fun H locs hP hS => ?_)
            refine lv_aload_n hx hb dX6_answer_81 rfl (lv_at hl 0 rfl) ?_
            refine q_get (v := .ref (am 13)) hx hb hown hE inT_X6 hP 0 rfl rfl 17 (by decide) w_775 rfl dX6_answer_82 ?_
            refine lv_aload_n hx hb dX6_answer_85 rfl (lv_at hl 0 rfl) ?_
            refine q_get (v := .int (M 0 14)) hx hb hown hE inT_X6 hP 0 rfl rfl 14 (by decide) w_772 rfl dX6_answer_86 ?_
            refine q_top (y := nI (mN M)) (J0.N hI_c8) ?_
            refine lv_iload_n hx hb dX6_answer_89 rfl (lv_at hl 3 rfl) ?_
            refine q_iast (f := (st (st M 11 (mN M) (nI u1)) 12 (mN M) (nI u2)) 13) (i := (mN M)) (x := x3) (ws' := (wQ am cI cZ (st (st (st M 11 (mN M) (nI u1)) 12 (mN M) (nI u2)) 13 (mN M) x3) 0)) hx hb hE hP (wQ_D hD) hS 13 rfl (by omega) (Nat.le_of_ble_eq_true rfl) (wQ_st_13) dX6_answer_90 (fun H locs hP hS => ?_)
            refine lv_aload_n hx hb dX6_answer_91 rfl (lv_at hl 0 rfl) ?_
            refine lv_dup hx hb dX6_answer_92 rfl ?_
            refine q_get (v := .int (M 0 14)) hx hb hown hE inT_X6 hP 0 rfl rfl 14 (by decide) w_772 rfl dX6_answer_93 ?_
            refine q_top (y := nI (mN M)) (J0.N hI_c8) ?_
            refine lv_iconst (v := 1) hx hb dX6_answer_96 (by decide) ?_
            refine lv_iadd hx hb dX6_answer_97 ?_
            refine q_top (y := nI ((mN M) + 1)) (nI_add (mN M) 1) ?_
            refine q_put (ty0 := tyX6) (ws' := (wQ am cI cZ (st (st (st (st M 11 (mN M) (nI u1)) 12 (mN M) (nI u2)) 13 (mN M) x3) 0 14 (nI ((mN M) + 1))) 0)) (v := .int (nI ((mN M) + 1))) hx hb hown hE inT_X6 tyX6_ok nmX6 hP (wQ_D hD) hS 0 rfl rfl 14 (by decide) w_772 rfl rfl rfl (Nat.le_of_ble_eq_true rfl) rfl dX6_answer_98 (fun H locs hP hS => ?_)
            refine lv_iload_n hx hb dX6_answer_101 rfl (lv_at hl 3 rfl) ?_
            refine lv_aload_n hx hb dX6_answer_102 rfl (lv_at hl 0 rfl) ?_
            refine q_get (v := .ref (am 2)) hx hb hown hE inT_X6 hP 0 rfl rfl 4 (by decide) w_762 rfl dX6_answer_103 ?_
            refine lv_iload_n hx hb dX6_answer_106 rfl (lv_at hl 2 rfl) ?_
            refine q_iald (f := M 2) (i := u2) hx hb hE hP 2 rfl (by omega) (Nat.le_of_ble_eq_true rfl) dX6_answer_107 ?_
            refine lv_icmp_ne (tgt := 115) hx hb dX6_answer_108 (by decide) (fun zc_10 => ?_) (fun zc_10 => ?_)
            · skip
              refine lv_iconst (v := 0) hx hb dX6_answer_115 (by decide) ?_
              refine lv_istore (lv' := [(4, .int 0), (0, .ref (am 0)), (1, .int (nI u1)), (2, .int (nI u2)), (3, .int x3)]) hx hb dX6_answer_116 hl (by decide) rfl (fun ls hl => ?_)
              refine lv_iload hx hb dX6_answer_118 (lv_at hl 0 rfl) ?_
              refine lv_if_eq (tgt := 172) hx hb dX6_answer_120 (by decide) (fun zc_11 => ?_) (fun zc_11 => ?_)
              · skip
                refine lv_iload hx hb dX6_answer_172 (lv_at hl 0 rfl) ?_
                rw [show mAns M (nI u1) (nI u2) x3 = (0, 0, st (st (st (st M 11 (mN M) (nI u1)) 12 (mN M) (nI u2)) 13 (mN M) x3) 0 14 (nI ((mN M) + 1))) from by first | exact mm2_no zc_2 | (simp only [mAns, mm2, hmAns, mapp, msol, zc_2, k1, k2, iu1, iu2, zc_3, zc_4, zc_7, zc_10, ↓reduceIte]; done) | (simp only [mAns, mm2, hmAns, mapp, msol, zc_2, k1, k2, iu1, iu2, zc_3, zc_4, zc_7, zc_10, ↓reduceIte]; rfl) | (simp [mAns, mm2, hmAns, mapp, msol, zc_2, k1, k2, iu1, iu2, zc_3, zc_4, zc_7, zc_10]; done) | (simp [mAns, mm2, hmAns, mapp, msol, zc_2, k1, k2, iu1, iu2, zc_3, zc_4, zc_7, zc_10]; rfl)]
                exact e_wret hx hb hr hlk (show narrow FieldType.boolean (Value.int 0) = Value.int 0 from by decide) hP hS dX6_answer_174
              · skip
                exact absurd zc_11 (by decide)
            · skip
              have ec_10 := eq_true zc_10
              refine lv_iconst (v := 1) hx hb dX6_answer_111 (by decide) ?_
              refine lv_goto (tgt := 116) hx hb dX6_answer_112 (by decide) ?_
              refine lv_istore (lv' := [(4, .int 1), (0, .ref (am 0)), (1, .int (nI u1)), (2, .int (nI u2)), (3, .int x3)]) hx hb dX6_answer_116 hl (by decide) rfl (fun ls hl => ?_)
              refine lv_iload hx hb dX6_answer_118 (lv_at hl 0 rfl) ?_
              refine lv_if_eq (tgt := 172) hx hb dX6_answer_120 (by decide) (fun zc_12 => ?_) (fun zc_12 => ?_)
              · skip
                exact absurd zc_12 (by decide)
              · skip
                refine lv_aload_n hx hb dX6_answer_123 rfl (lv_at hl 1 rfl) ?_
                refine q_get (v := .ref (am 7)) hx hb hown hE inT_X6 hP 0 rfl rfl 10 (by decide) w_768 rfl dX6_answer_124 ?_
                refine lv_iload_n hx hb dX6_answer_127 rfl (lv_at hl 2 rfl) ?_
                refine lv_iload_n hx hb dX6_answer_128 rfl (lv_at hl 3 rfl) ?_
                refine q_rd (q_runS (rest := [.ref (am 7)]) hx hb hml hown hE (c_X6_at l D cI cZ cL _ u1 u2) ck_X6_at w_865 hP hl.1 rfl ⟨Nat.le_of_ble_eq_true rfl, Nat.le_of_ble_eq_true rfl⟩ (Nat.le_of_ble_eq_true rfl) dX6_answer_129 ⟨Nat.le_of_ble_eq_true rfl, Nat.le_of_ble_eq_true rfl⟩) ?_
                refine lv_aload_n hx hb dX6_answer_132 rfl (lv_at hl 1 rfl) ?_
                refine q_get (v := .int (M 0 0)) hx hb hown hE inT_X6 hP 0 rfl rfl 0 (by decide) w_758 rfl dX6_answer_133 ?_
                refine lv_aload_n hx hb dX6_answer_136 rfl (lv_at hl 1 rfl) ?_
                refine lv_iload_n hx hb dX6_answer_137 rfl (lv_at hl 2 rfl) ?_
                refine lv_iload_n hx hb dX6_answer_138 rfl (lv_at hl 3 rfl) ?_
                refine q_rd (q_runV (rest := [.int (M 0 0), .int (nI (16 * u1 + u2)), .ref (am 7)]) hx hb hml hown hE (c_X6_opened l D cI cZ cL am (st (st (st (st M 11 (mN M) (nI u1)) 12 (mN M) (nI u2)) 13 (mN M) x3) 0 14 (nI ((mN M) + 1))) 0 u1 u2 (by omega) (by omega)) ck_X6_opened w_899 hP 0 rfl rfl hl.1 rfl ⟨Nat.le_of_ble_eq_true rfl, Nat.le_of_ble_eq_true rfl⟩ (Nat.le_of_ble_eq_true rfl) dX6_answer_139 ⟨Nat.le_of_ble_eq_true rfl, Nat.le_of_ble_eq_true rfl⟩) ?_
                refine lv_isub hx hb dX6_answer_142 ?_
                refine lv_aload_n hx hb dX6_answer_143 rfl (lv_at hl 1 rfl) ?_
                refine q_get (v := .ref (am 3)) hx hb hown hE inT_X6 hP 0 rfl rfl 5 (by decide) w_763 rfl dX6_answer_144 ?_
                refine lv_iload_n hx hb dX6_answer_147 rfl (lv_at hl 3 rfl) ?_
                refine q_iald (f := M 3) (i := u2) hx hb hE hP 3 rfl (by omega) (Nat.le_of_ble_eq_true rfl) dX6_answer_148 ?_
                refine lv_icmp_ge (tgt := 156) hx hb dX6_answer_149 (by decide) (fun zc_13 => ?_) (fun zc_13 => ?_)
                · skip
                  have gc_13 : ¬ ((M 0 0) - (m_opened (st (st (st (st M 11 (mN M) (nI u1)) 12 (mN M) (nI u2)) 13 (mN M) x3) 0 14 (nI ((mN M) + 1))) u1 u2)) < (M 3 u2) := Int32.not_lt.mpr zc_13
                  refine lv_iconst (v := 0) hx hb dX6_answer_156 (by decide) ?_
                  refine q_zast (f := (st (st (st (st M 11 (mN M) (nI u1)) 12 (mN M) (nI u2)) 13 (mN M) x3) 0 14 (nI ((mN M) + 1))) 7) (i := (16 * u1 + u2)) (x := 0) (ws' := (wQ am cI cZ (st (st (st (st (st M 11 (mN M) (nI u1)) 12 (mN M) (nI u2)) 13 (mN M) x3) 0 14 (nI ((mN M) + 1))) 7 (16 * u1 + u2) 0) 0)) hx hb hE hP (wQ_D hD) hS 7 rfl (by omega) (Nat.le_of_ble_eq_true rfl) (by decide) (wQ_st_7) dX6_answer_157 (fun H locs hP hS => ?_)
                  refine lv_aload_n hx hb dX6_answer_158 rfl (lv_at hl 1 rfl) ?_
                  refine q_get (v := .ref (am 6)) hx hb hown hE inT_X6 hP 0 rfl rfl 9 (by decide) w_767 rfl dX6_answer_159 ?_
                  refine lv_iload_n hx hb dX6_answer_162 rfl (lv_at hl 2 rfl) ?_
                  refine lv_iload_n hx hb dX6_answer_163 rfl (lv_at hl 3 rfl) ?_
                  refine q_rd (q_runS (rest := [.ref (am 6)]) hx hb hml hown hE (c_X6_at l D cI cZ cL _ u1 u2) ck_X6_at w_865 hP hl.1 rfl ⟨Nat.le_of_ble_eq_true rfl, Nat.le_of_ble_eq_true rfl⟩ (Nat.le_of_ble_eq_true rfl) dX6_answer_164 ⟨Nat.le_of_ble_eq_true rfl, Nat.le_of_ble_eq_true rfl⟩) ?_
                  refine lv_aload_n hx hb dX6_answer_167 rfl (lv_at hl 1 rfl) ?_
                  refine q_get (v := .int (M 0 0)) hx hb hown hE inT_X6 hP 0 rfl rfl 0 (by decide) w_758 rfl dX6_answer_168 ?_
                  refine q_iast (f := (st (st (st (st (st M 11 (mN M) (nI u1)) 12 (mN M) (nI u2)) 13 (mN M) x3) 0 14 (nI ((mN M) + 1))) 7 (16 * u1 + u2) 0) 6) (i := (16 * u1 + u2)) (x := M 0 0) (ws' := (wQ am cI cZ (st (st (st (st (st (st M 11 (mN M) (nI u1)) 12 (mN M) (nI u2)) 13 (mN M) x3) 0 14 (nI ((mN M) + 1))) 7 (16 * u1 + u2) 0) 6 (16 * u1 + u2) (M 0 0)) 0)) hx hb hE hP (wQ_D hD) hS 6 rfl (by omega) (Nat.le_of_ble_eq_true rfl) (wQ_st_6) dX6_answer_171 (fun H locs hP hS => ?_)
                  refine lv_iload hx hb dX6_answer_172 (lv_at hl 0 rfl) ?_
                  rw [show mAns M (nI u1) (nI u2) x3 = (1, 0, st (st (st (st (st (st M 11 (mN M) (nI u1)) 12 (mN M) (nI u2)) 13 (mN M) x3) 0 14 (nI ((mN M) + 1))) 7 (16 * u1 + u2) 0) 6 (16 * u1 + u2) (M 0 0)) from by first | exact mm2_no zc_2 | (simp only [mAns, mm2, hmAns, mapp, msol, zc_2, k1, k2, iu1, iu2, zc_3, zc_4, zc_7, ec_10, zc_13, gc_13, ↓reduceIte]; done) | (simp only [mAns, mm2, hmAns, mapp, msol, zc_2, k1, k2, iu1, iu2, zc_3, zc_4, zc_7, ec_10, zc_13, gc_13, ↓reduceIte]; rfl) | (simp [mAns, mm2, hmAns, mapp, msol, zc_2, k1, k2, iu1, iu2, zc_3, zc_4, zc_7, ec_10, zc_13, gc_13]; done) | (simp [mAns, mm2, hmAns, mapp, msol, zc_2, k1, k2, iu1, iu2, zc_3, zc_4, zc_7, ec_10, zc_13, gc_13]; rfl)]
                  exact e_wret hx hb hr hlk (show narrow FieldType.boolean (Value.int 1) = Value.int 1 from by decide) hP hS dX6_answer_174
                · skip
                  have gc_13 : ((M 0 0) - (m_opened (st (st (st (st M 11 (mN M) (nI u1)) 12 (mN M) (nI u2)) 13 (mN M) x3) 0 14 (nI ((mN M) + 1))) u1 u2)) < (M 3 u2) := Int32.not_le.mp zc_13
                  refine lv_iconst (v := 1) hx hb dX6_answer_152 (by decide) ?_
                  refine lv_goto (tgt := 157) hx hb dX6_answer_153 (by decide) ?_
                  refine q_zast (f := (st (st (st (st M 11 (mN M) (nI u1)) 12 (mN M) (nI u2)) 13 (mN M) x3) 0 14 (nI ((mN M) + 1))) 7) (i := (16 * u1 + u2)) (x := 1) (ws' := (wQ am cI cZ (st (st (st (st (st M 11 (mN M) (nI u1)) 12 (mN M) (nI u2)) 13 (mN M) x3) 0 14 (nI ((mN M) + 1))) 7 (16 * u1 + u2) 1) 0)) hx hb hE hP (wQ_D hD) hS 7 rfl (by omega) (Nat.le_of_ble_eq_true rfl) (by decide) (wQ_st_7) dX6_answer_157 (fun H locs hP hS => ?_)
                  refine lv_aload_n hx hb dX6_answer_158 rfl (lv_at hl 1 rfl) ?_
                  refine q_get (v := .ref (am 6)) hx hb hown hE inT_X6 hP 0 rfl rfl 9 (by decide) w_767 rfl dX6_answer_159 ?_
                  refine lv_iload_n hx hb dX6_answer_162 rfl (lv_at hl 2 rfl) ?_
                  refine lv_iload_n hx hb dX6_answer_163 rfl (lv_at hl 3 rfl) ?_
                  refine q_rd (q_runS (rest := [.ref (am 6)]) hx hb hml hown hE (c_X6_at l D cI cZ cL _ u1 u2) ck_X6_at w_865 hP hl.1 rfl ⟨Nat.le_of_ble_eq_true rfl, Nat.le_of_ble_eq_true rfl⟩ (Nat.le_of_ble_eq_true rfl) dX6_answer_164 ⟨Nat.le_of_ble_eq_true rfl, Nat.le_of_ble_eq_true rfl⟩) ?_
                  refine lv_aload_n hx hb dX6_answer_167 rfl (lv_at hl 1 rfl) ?_
                  refine q_get (v := .int (M 0 0)) hx hb hown hE inT_X6 hP 0 rfl rfl 0 (by decide) w_758 rfl dX6_answer_168 ?_
                  refine q_iast (f := (st (st (st (st (st M 11 (mN M) (nI u1)) 12 (mN M) (nI u2)) 13 (mN M) x3) 0 14 (nI ((mN M) + 1))) 7 (16 * u1 + u2) 1) 6) (i := (16 * u1 + u2)) (x := M 0 0) (ws' := (wQ am cI cZ (st (st (st (st (st (st M 11 (mN M) (nI u1)) 12 (mN M) (nI u2)) 13 (mN M) x3) 0 14 (nI ((mN M) + 1))) 7 (16 * u1 + u2) 1) 6 (16 * u1 + u2) (M 0 0)) 0)) hx hb hE hP (wQ_D hD) hS 6 rfl (by omega) (Nat.le_of_ble_eq_true rfl) (wQ_st_6) dX6_answer_171 (fun H locs hP hS => ?_)
                  refine lv_iload hx hb dX6_answer_172 (lv_at hl 0 rfl) ?_
                  rw [show mAns M (nI u1) (nI u2) x3 = (1, 0, st (st (st (st (st (st M 11 (mN M) (nI u1)) 12 (mN M) (nI u2)) 13 (mN M) x3) 0 14 (nI ((mN M) + 1))) 7 (16 * u1 + u2) 1) 6 (16 * u1 + u2) (M 0 0)) from by first | exact mm2_no zc_2 | (simp only [mAns, mm2, hmAns, mapp, msol, zc_2, k1, k2, iu1, iu2, zc_3, zc_4, zc_7, ec_10, zc_13, gc_13, ↓reduceIte]; done) | (simp only [mAns, mm2, hmAns, mapp, msol, zc_2, k1, k2, iu1, iu2, zc_3, zc_4, zc_7, ec_10, zc_13, gc_13, ↓reduceIte]; rfl) | (simp [mAns, mm2, hmAns, mapp, msol, zc_2, k1, k2, iu1, iu2, zc_3, zc_4, zc_7, ec_10, zc_13, gc_13]; done) | (simp [mAns, mm2, hmAns, mapp, msol, zc_2, k1, k2, iu1, iu2, zc_3, zc_4, zc_7, ec_10, zc_13, gc_13]; rfl)]
                  exact e_wret hx hb hr hlk (show narrow FieldType.boolean (Value.int 1) = Value.int 1 from by decide) hP hS dX6_answer_174
          · skip
            exact absurd zc_9 (by decide)
        · skip
          have zc_7 : (mN M) = 200 := n_eq (a := mN M) (b := 200) (by omega) (by omega) zc_7
          refine lv_iconst (v := 3) hx hb dX6_answer_48 (by decide) ?_
          refine lv_goto (tgt := 53) hx hb dX6_answer_49 (by decide) ?_
          refine q_w0 (q_runV (rest := []) hx hb hml hown hE (c_X6_goes l D cI cZ cL am M (m_wrong M (nI u1) (nI u2)) A (wQ_D hD) 3) ck_X6_goes w_837 hP 0 rfl rfl hl.1 rfl ⟨Nat.le_of_ble_eq_true rfl, Nat.le_of_ble_eq_true rfl⟩ (Nat.le_of_ble_eq_true rfl) dX6_answer_53 ⟨Nat.le_of_ble_eq_true rfl, Nat.le_of_ble_eq_true rfl⟩) hS (fun H locs hP hS => ?_)
          have hI_c14 : J0 M := hI_c1
          refine q_top (y := 0) (by decide) ?_
          refine lv_if_ne (tgt := 61) hx hb dX6_answer_56 (by decide) (fun zc_15 => ?_) (fun zc_15 => ?_)
          · skip
            exact absurd zc_15 (by decide)
          · skip
            refine lv_iconst (v := 0) hx hb dX6_answer_59 (by decide) ?_
            rw [show mAns M (nI u1) (nI u2) x3 = (0, 3, M) from by first | exact mm2_no zc_2 | (simp only [mAns, mm2, hmAns, mapp, msol, zc_2, k1, k2, iu1, iu2, zc_3, zc_4, zc_7, ↓reduceIte]; done) | (simp only [mAns, mm2, hmAns, mapp, msol, zc_2, k1, k2, iu1, iu2, zc_3, zc_4, zc_7, ↓reduceIte]; rfl) | (simp [mAns, mm2, hmAns, mapp, msol, zc_2, k1, k2, iu1, iu2, zc_3, zc_4, zc_7]; done) | (simp [mAns, mm2, hmAns, mapp, msol, zc_2, k1, k2, iu1, iu2, zc_3, zc_4, zc_7]; rfl)]
            exact e_wret hx hb hr hlk (show narrow FieldType.boolean (Value.int 0) = Value.int 0 from by decide) hP hS dX6_answer_60
    · skip
      have zc_3 : okr x3 0 9999 = false := b_f zc_3
      refine lv_iconst (v := 2) hx hb dX6_answer_25 (by decide) ?_
      refine lv_goto (tgt := 53) hx hb dX6_answer_26 (by decide) ?_
      refine q_w0 (q_runV (rest := []) hx hb hml hown hE (c_X6_goes l D cI cZ cL am M (m_wrong M (nI u1) (nI u2)) A (wQ_D hD) 2) ck_X6_goes w_837 hP 0 rfl rfl hl.1 rfl ⟨Nat.le_of_ble_eq_true rfl, Nat.le_of_ble_eq_true rfl⟩ (Nat.le_of_ble_eq_true rfl) dX6_answer_53 ⟨Nat.le_of_ble_eq_true rfl, Nat.le_of_ble_eq_true rfl⟩) hS (fun H locs hP hS => ?_)
      have hI_c16 : J0 M := hI_c1
      refine q_top (y := 0) (by decide) ?_
      refine lv_if_ne (tgt := 61) hx hb dX6_answer_56 (by decide) (fun zc_17 => ?_) (fun zc_17 => ?_)
      · skip
        exact absurd zc_17 (by decide)
      · skip
        refine lv_iconst (v := 0) hx hb dX6_answer_59 (by decide) ?_
        rw [show mAns M (nI u1) (nI u2) x3 = (0, 2, M) from by first | exact mm2_no zc_2 | (simp only [mAns, mm2, hmAns, mapp, msol, zc_2, k1, k2, iu1, iu2, zc_3, ↓reduceIte]; done) | (simp only [mAns, mm2, hmAns, mapp, msol, zc_2, k1, k2, iu1, iu2, zc_3, ↓reduceIte]; rfl) | (simp [mAns, mm2, hmAns, mapp, msol, zc_2, k1, k2, iu1, iu2, zc_3]; done) | (simp [mAns, mm2, hmAns, mapp, msol, zc_2, k1, k2, iu1, iu2, zc_3]; rfl)]
        exact e_wret hx hb hr hlk (show narrow FieldType.boolean (Value.int 0) = Value.int 0 from by decide) hP hS dX6_answer_60

theorem dX6_hint_0 : decode cX6_hint 0 = .ok (.aload_n 0, 1) := by decide +kernel
theorem dX6_hint_1 : decode cX6_hint 1 = .ok (.aload_n 0, 1) := by decide +kernel
theorem dX6_hint_2 : decode cX6_hint 2 = .ok (.iload_n 1, 1) := by decide +kernel
theorem dX6_hint_3 : decode cX6_hint 3 = .ok (.iload_n 2, 1) := by decide +kernel
theorem dX6_hint_4 : decode cX6_hint 4 = .ok (.invokevirtual 114, 3) := by decide +kernel
theorem dX6_hint_7 : decode cX6_hint 7 = .ok (.invokevirtual 76, 3) := by decide +kernel
theorem dX6_hint_10 : decode cX6_hint 10 = .ok (.ifCond .eq 38, 3) := by decide +kernel
theorem dX6_hint_13 : decode cX6_hint 13 = .ok (.aload_n 0, 1) := by decide +kernel
theorem dX6_hint_14 : decode cX6_hint 14 = .ok (.aload_n 0, 1) := by decide +kernel
theorem dX6_hint_15 : decode cX6_hint 15 = .ok (.iload_n 1, 1) := by decide +kernel
theorem dX6_hint_16 : decode cX6_hint 16 = .ok (.iload_n 2, 1) := by decide +kernel
theorem dX6_hint_17 : decode cX6_hint 17 = .ok (.invokevirtual 117, 3) := by decide +kernel
theorem dX6_hint_20 : decode cX6_hint 20 = .ok (.ifCond .ne 17, 3) := by decide +kernel
theorem dX6_hint_23 : decode cX6_hint 23 = .ok (.aload_n 0, 1) := by decide +kernel
theorem dX6_hint_24 : decode cX6_hint 24 = .ok (.getfield 35, 3) := by decide +kernel
theorem dX6_hint_27 : decode cX6_hint 27 = .ok (.iload_n 1, 1) := by decide +kernel
theorem dX6_hint_28 : decode cX6_hint 28 = .ok (.iload_n 2, 1) := by decide +kernel
theorem dX6_hint_29 : decode cX6_hint 29 = .ok (.invokestatic 87, 3) := by decide +kernel
theorem dX6_hint_32 : decode cX6_hint 32 = .ok (.iaload, 1) := by decide +kernel
theorem dX6_hint_33 : decode cX6_hint 33 = .ok (.iconst 3, 1) := by decide +kernel
theorem dX6_hint_34 : decode cX6_hint 34 = .ok (.if_icmp .ne 7, 3) := by decide +kernel
theorem dX6_hint_37 : decode cX6_hint 37 = .ok (.iconst 2, 1) := by decide +kernel
theorem dX6_hint_38 : decode cX6_hint 38 = .ok (.goto 4, 3) := by decide +kernel
theorem dX6_hint_41 : decode cX6_hint 41 = .ok (.iconst 0, 1) := by decide +kernel
theorem dX6_hint_42 : decode cX6_hint 42 = .ok (.invokevirtual 76, 3) := by decide +kernel
theorem dX6_hint_45 : decode cX6_hint 45 = .ok (.ifCond .ne 5, 3) := by decide +kernel
theorem dX6_hint_48 : decode cX6_hint 48 = .ok (.iconst 0, 1) := by decide +kernel
theorem dX6_hint_49 : decode cX6_hint 49 = .ok (.ireturn, 1) := by decide +kernel
theorem dX6_hint_50 : decode cX6_hint 50 = .ok (.aload_n 0, 1) := by decide +kernel
theorem dX6_hint_51 : decode cX6_hint 51 = .ok (.iload_n 1, 1) := by decide +kernel
theorem dX6_hint_52 : decode cX6_hint 52 = .ok (.iload_n 2, 1) := by decide +kernel
theorem dX6_hint_53 : decode cX6_hint 53 = .ok (.invokevirtual 120, 3) := by decide +kernel
theorem dX6_hint_56 : decode cX6_hint 56 = .ok (.istore_n 3, 1) := by decide +kernel
theorem dX6_hint_57 : decode cX6_hint 57 = .ok (.aload_n 0, 1) := by decide +kernel
theorem dX6_hint_58 : decode cX6_hint 58 = .ok (.getfield 35, 3) := by decide +kernel
theorem dX6_hint_61 : decode cX6_hint 61 = .ok (.iload_n 1, 1) := by decide +kernel
theorem dX6_hint_62 : decode cX6_hint 62 = .ok (.iload_n 2, 1) := by decide +kernel
theorem dX6_hint_63 : decode cX6_hint 63 = .ok (.invokestatic 87, 3) := by decide +kernel
theorem dX6_hint_66 : decode cX6_hint 66 = .ok (.dup2, 1) := by decide +kernel
theorem dX6_hint_67 : decode cX6_hint 67 = .ok (.iaload, 1) := by decide +kernel
theorem dX6_hint_68 : decode cX6_hint 68 = .ok (.iconst 1, 1) := by decide +kernel
theorem dX6_hint_69 : decode cX6_hint 69 = .ok (.iadd, 1) := by decide +kernel
theorem dX6_hint_70 : decode cX6_hint 70 = .ok (.iastore, 1) := by decide +kernel
theorem dX6_hint_71 : decode cX6_hint 71 = .ok (.aload_n 0, 1) := by decide +kernel
theorem dX6_hint_72 : decode cX6_hint 72 = .ok (.getfield 38, 3) := by decide +kernel
theorem dX6_hint_75 : decode cX6_hint 75 = .ok (.iload_n 1, 1) := by decide +kernel
theorem dX6_hint_76 : decode cX6_hint 76 = .ok (.iload_n 2, 1) := by decide +kernel
theorem dX6_hint_77 : decode cX6_hint 77 = .ok (.invokestatic 87, 3) := by decide +kernel
theorem dX6_hint_80 : decode cX6_hint 80 = .ok (.dup2, 1) := by decide +kernel
theorem dX6_hint_81 : decode cX6_hint 81 = .ok (.iaload, 1) := by decide +kernel
theorem dX6_hint_82 : decode cX6_hint 82 = .ok (.iload_n 3, 1) := by decide +kernel
theorem dX6_hint_83 : decode cX6_hint 83 = .ok (.iadd, 1) := by decide +kernel
theorem dX6_hint_84 : decode cX6_hint 84 = .ok (.iastore, 1) := by decide +kernel
theorem dX6_hint_85 : decode cX6_hint 85 = .ok (.iload_n 3, 1) := by decide +kernel
theorem dX6_hint_86 : decode cX6_hint 86 = .ok (.ireturn, 1) := by decide +kernel
set_option maxHeartbeats 4000000 in
set_option maxRecDepth 100000 in
theorem c_X6_hint (l : Launch) (D : va_G) (cI cZ cL : ClassId) (am : Nat → Nat) (M : Mem) (th : Int32) (A : Nat → Prop) (hD : va_D A (wQ am cI cZ M th)) (x1 : Int32) (x2 : Int32) (hI : J0 M) : WR l D cI cZ cL yX6_hint cX6_hint 4 (some .int) 9 [.ref (am 0), .int x1, .int x2] A (wQ am cI cZ M th) (wQ am cI cZ ((mHint M x1 x2).2.2) ((mHint M x1 x2).2.1)) (some (.int ((mHint M x1 x2).1))) := by
  refine WR.of (by decide) (Nat.le_of_ble_eq_true rfl) ?_
  intro p e s m args below meth c ls hx hb hr hml hown hlk hE hP hS hl
  have hl : lv_has ls 4 [(0, .ref (am 0)), (1, .int x1), (2, .int x2)] := hl
  have hT8 := hI.T8
  have hR16 := hI.R16
  have hN200 := hI.N200
  refine lv_aload_n hx hb dX6_hint_0 rfl (lv_at hl 0 rfl) ?_
  refine lv_aload_n hx hb dX6_hint_1 rfl (lv_at hl 0 rfl) ?_
  refine lv_iload_n hx hb dX6_hint_2 rfl (lv_at hl 1 rfl) ?_
  refine lv_iload_n hx hb dX6_hint_3 rfl (lv_at hl 2 rfl) ?_
  refine q_rd (q_runV (rest := [.ref (am 0)]) hx hb hml hown hE (c_X6_wrong l D cI cZ cL am M th x1 x2 hI) ck_X6_wrong w_887 hP 0 rfl rfl hl.1 rfl ⟨Nat.le_of_ble_eq_true rfl, Nat.le_of_ble_eq_true rfl⟩ (Nat.le_of_ble_eq_true rfl) dX6_hint_4 ⟨Nat.le_of_ble_eq_true rfl, Nat.le_of_ble_eq_true rfl⟩) ?_
  refine q_w0 (q_runV (rest := []) hx hb hml hown hE (c_X6_goes l D cI cZ cL am M th A (wQ_D hD) (m_wrong M x1 x2)) ck_X6_goes w_837 hP 0 rfl rfl hl.1 rfl ⟨Nat.le_of_ble_eq_true rfl, Nat.le_of_ble_eq_true rfl⟩ (Nat.le_of_ble_eq_true rfl) dX6_hint_7 ⟨Nat.le_of_ble_eq_true rfl, Nat.le_of_ble_eq_true rfl⟩) hS (fun H locs hP hS => ?_)
  have hI_c1 : J0 M := hI
  refine lv_if_eq (tgt := 48) hx hb dX6_hint_10 (by decide) (fun zc_2 => ?_) (fun zc_2 => ?_)
  · skip
    have zc_2 : decide ((m_wrong M x1 x2) = 0) = false := b_f zc_2
    refine lv_iconst (v := 0) hx hb dX6_hint_48 (by decide) ?_
    rw [show mHint M x1 x2 = (0, (m_wrong M x1 x2), M) from by first | exact mm2_no zc_2 | (simp only [mHint, mm2, mhintM, zc_2, ↓reduceIte]; done) | (simp only [mHint, mm2, mhintM, zc_2, ↓reduceIte]; rfl) | (simp [mHint, mm2, mhintM, zc_2]; done) | (simp [mHint, mm2, mhintM, zc_2]; rfl)]
    exact e_wret hx hb hr hlk rfl hP hS dX6_hint_49
  · skip
    have zc_2 : decide ((m_wrong M x1 x2) = 0) = true := b_t zc_2
    obtain ⟨k1, k2⟩ := m_wrong_ok zc_2
    obtain ⟨u1, hu1, eu1⟩ := okn_t (k1)
    subst eu1
    have iu1 : iN (nI u1) = u1 := iN_nI (by omega)
    obtain ⟨u2, hu2, eu2⟩ := okn_t (k2)
    subst eu2
    have iu2 : iN (nI u2) = u2 := iN_nI (by omega)
    refine lv_aload_n hx hb dX6_hint_13 rfl (lv_at hl 0 rfl) ?_
    refine lv_aload_n hx hb dX6_hint_14 rfl (lv_at hl 0 rfl) ?_
    refine lv_iload_n hx hb dX6_hint_15 rfl (lv_at hl 1 rfl) ?_
    refine lv_iload_n hx hb dX6_hint_16 rfl (lv_at hl 2 rfl) ?_
    refine q_rd (q_runV (rest := [.ref (am 0)]) hx hb hml hown hE (c_X6_isDone l D cI cZ cL am M (m_wrong M (nI u1) (nI u2)) u1 u2 (by omega) (by omega)) ck_X6_isDone w_895 hP 0 rfl rfl hl.1 rfl ⟨Nat.le_of_ble_eq_true rfl, Nat.le_of_ble_eq_true rfl⟩ (Nat.le_of_ble_eq_true rfl) dX6_hint_17 ⟨Nat.le_of_ble_eq_true rfl, Nat.le_of_ble_eq_true rfl⟩) ?_
    refine lv_if_ne (tgt := 37) hx hb dX6_hint_20 (by decide) (fun zc_3 => ?_) (fun zc_3 => ?_)
    · skip
      have zc_3 : m_done M u1 u2 = true := b_t zc_3
      refine lv_iconst (v := 2) hx hb dX6_hint_37 (by decide) ?_
      refine lv_goto (tgt := 42) hx hb dX6_hint_38 (by decide) ?_
      refine q_w0 (q_runV (rest := []) hx hb hml hown hE (c_X6_goes l D cI cZ cL am M (m_wrong M (nI u1) (nI u2)) A (wQ_D hD) 2) ck_X6_goes w_837 hP 0 rfl rfl hl.1 rfl ⟨Nat.le_of_ble_eq_true rfl, Nat.le_of_ble_eq_true rfl⟩ (Nat.le_of_ble_eq_true rfl) dX6_hint_42 ⟨Nat.le_of_ble_eq_true rfl, Nat.le_of_ble_eq_true rfl⟩) hS (fun H locs hP hS => ?_)
      have hI_c4 : J0 M := hI_c1
      refine q_top (y := 0) (by decide) ?_
      refine lv_if_ne (tgt := 50) hx hb dX6_hint_45 (by decide) (fun zc_5 => ?_) (fun zc_5 => ?_)
      · skip
        exact absurd zc_5 (by decide)
      · skip
        refine lv_iconst (v := 0) hx hb dX6_hint_48 (by decide) ?_
        rw [show mHint M (nI u1) (nI u2) = (0, 2, M) from by first | exact mm2_no zc_2 | (simp only [mHint, mm2, mhintM, zc_2, k1, k2, iu1, iu2, zc_3, ↓reduceIte]; done) | (simp only [mHint, mm2, mhintM, zc_2, k1, k2, iu1, iu2, zc_3, ↓reduceIte]; rfl) | (simp [mHint, mm2, mhintM, zc_2, k1, k2, iu1, iu2, zc_3]; done) | (simp [mHint, mm2, mhintM, zc_2, k1, k2, iu1, iu2, zc_3]; rfl)]
        exact e_wret hx hb hr hlk rfl hP hS dX6_hint_49
    · skip
      have zc_3 : m_done M u1 u2 = false := b_f zc_3
      refine lv_aload_n hx hb dX6_hint_23 rfl (lv_at hl 0 rfl) ?_
      refine q_get (v := .ref (am 9)) hx hb hown hE inT_X6 hP 0 rfl rfl 12 (by decide) w_770 rfl dX6_hint_24 ?_
      refine lv_iload_n hx hb dX6_hint_27 rfl (lv_at hl 1 rfl) ?_
      refine lv_iload_n hx hb dX6_hint_28 rfl (lv_at hl 2 rfl) ?_
      refine q_rd (q_runS (rest := [.ref (am 9), .ref (am 0)]) hx hb hml hown hE (c_X6_at l D cI cZ cL _ u1 u2) ck_X6_at w_865 hP hl.1 rfl ⟨Nat.le_of_ble_eq_true rfl, Nat.le_of_ble_eq_true rfl⟩ (Nat.le_of_ble_eq_true rfl) dX6_hint_29 ⟨Nat.le_of_ble_eq_true rfl, Nat.le_of_ble_eq_true rfl⟩) ?_
      refine q_iald (f := M 9) (i := (16 * u1 + u2)) hx hb hE hP 9 rfl (by omega) (Nat.le_of_ble_eq_true rfl) dX6_hint_32 ?_
      refine lv_iconst (v := 3) hx hb dX6_hint_33 (by decide) ?_
      refine lv_icmp_ne (tgt := 41) hx hb dX6_hint_34 (by decide) (fun zc_6 => ?_) (fun zc_6 => ?_)
      · skip
        refine lv_iconst (v := 0) hx hb dX6_hint_41 (by decide) ?_
        refine q_w0 (q_runV (rest := []) hx hb hml hown hE (c_X6_goes l D cI cZ cL am M (m_wrong M (nI u1) (nI u2)) A (wQ_D hD) 0) ck_X6_goes w_837 hP 0 rfl rfl hl.1 rfl ⟨Nat.le_of_ble_eq_true rfl, Nat.le_of_ble_eq_true rfl⟩ (Nat.le_of_ble_eq_true rfl) dX6_hint_42 ⟨Nat.le_of_ble_eq_true rfl, Nat.le_of_ble_eq_true rfl⟩) hS (fun H locs hP hS => ?_)
        have hI_c7 : J0 M := hI_c1
        refine q_top (y := 1) (by decide) ?_
        refine lv_if_ne (tgt := 50) hx hb dX6_hint_45 (by decide) (fun zc_8 => ?_) (fun zc_8 => ?_)
        · skip
          refine lv_aload_n hx hb dX6_hint_50 rfl (lv_at hl 0 rfl) ?_
          refine lv_iload_n hx hb dX6_hint_51 rfl (lv_at hl 1 rfl) ?_
          refine lv_iload_n hx hb dX6_hint_52 rfl (lv_at hl 2 rfl) ?_
          refine q_rd (q_runV (rest := []) hx hb hml hown hE (c_X6_priceOf l D cI cZ cL am M 0 u1 u2 hI_c7 (by omega) (by omega)) ck_X6_priceOf w_907 hP 0 rfl rfl hl.1 rfl ⟨Nat.le_of_ble_eq_true rfl, Nat.le_of_ble_eq_true rfl⟩ (Nat.le_of_ble_eq_true rfl) dX6_hint_53 ⟨Nat.le_of_ble_eq_true rfl, Nat.le_of_ble_eq_true rfl⟩) ?_
          refine lv_istore_n (lv' := [(3, .int (m_price M u1 u2)), (0, .ref (am 0)), (1, .int (nI u1)), (2, .int (nI u2))]) hx hb dX6_hint_56 rfl hl (by decide) rfl (fun ls hl => ?_)
          refine lv_aload_n hx hb dX6_hint_57 rfl (lv_at hl 1 rfl) ?_
          refine q_get (v := .ref (am 9)) hx hb hown hE inT_X6 hP 0 rfl rfl 12 (by decide) w_770 rfl dX6_hint_58 ?_
          refine lv_iload_n hx hb dX6_hint_61 rfl (lv_at hl 2 rfl) ?_
          refine lv_iload_n hx hb dX6_hint_62 rfl (lv_at hl 3 rfl) ?_
          refine q_rd (q_runS (rest := [.ref (am 9)]) hx hb hml hown hE (c_X6_at l D cI cZ cL _ u1 u2) ck_X6_at w_865 hP hl.1 rfl ⟨Nat.le_of_ble_eq_true rfl, Nat.le_of_ble_eq_true rfl⟩ (Nat.le_of_ble_eq_true rfl) dX6_hint_63 ⟨Nat.le_of_ble_eq_true rfl, Nat.le_of_ble_eq_true rfl⟩) ?_
          refine lv_dup2_11 hx hb dX6_hint_66 rfl rfl ?_
          refine q_iald (f := M 9) (i := (16 * u1 + u2)) hx hb hE hP 9 rfl (by omega) (Nat.le_of_ble_eq_true rfl) dX6_hint_67 ?_
          refine lv_iconst (v := 1) hx hb dX6_hint_68 (by decide) ?_
          refine lv_iadd hx hb dX6_hint_69 ?_
          refine q_iast (f := M 9) (i := (16 * u1 + u2)) (x := (M 9 (16 * u1 + u2)) + 1) (ws' := (wQ am cI cZ (st M 9 (16 * u1 + u2) ((M 9 (16 * u1 + u2)) + 1)) 0)) hx hb hE hP (wQ_D hD) hS 9 rfl (by omega) (Nat.le_of_ble_eq_true rfl) (wQ_st_9) dX6_hint_70 (fun H locs hP hS => ?_)
          refine lv_aload_n hx hb dX6_hint_71 rfl (lv_at hl 1 rfl) ?_
          refine q_get (v := .ref (am 10)) hx hb hown hE inT_X6 hP 0 rfl rfl 13 (by decide) w_771 rfl dX6_hint_72 ?_
          refine lv_iload_n hx hb dX6_hint_75 rfl (lv_at hl 2 rfl) ?_
          refine lv_iload_n hx hb dX6_hint_76 rfl (lv_at hl 3 rfl) ?_
          refine q_rd (q_runS (rest := [.ref (am 10)]) hx hb hml hown hE (c_X6_at l D cI cZ cL _ u1 u2) ck_X6_at w_865 hP hl.1 rfl ⟨Nat.le_of_ble_eq_true rfl, Nat.le_of_ble_eq_true rfl⟩ (Nat.le_of_ble_eq_true rfl) dX6_hint_77 ⟨Nat.le_of_ble_eq_true rfl, Nat.le_of_ble_eq_true rfl⟩) ?_
          refine lv_dup2_11 hx hb dX6_hint_80 rfl rfl ?_
          refine q_iald (f := M 10) (i := (16 * u1 + u2)) hx hb hE hP 10 rfl (by omega) (Nat.le_of_ble_eq_true rfl) dX6_hint_81 ?_
          refine lv_iload_n hx hb dX6_hint_82 rfl (lv_at hl 0 rfl) ?_
          refine lv_iadd hx hb dX6_hint_83 ?_
          refine q_iast (f := (st M 9 (16 * u1 + u2) ((M 9 (16 * u1 + u2)) + 1)) 10) (i := (16 * u1 + u2)) (x := (M 10 (16 * u1 + u2)) + (m_price M u1 u2)) (ws' := (wQ am cI cZ (st (st M 9 (16 * u1 + u2) ((M 9 (16 * u1 + u2)) + 1)) 10 (16 * u1 + u2) ((M 10 (16 * u1 + u2)) + (m_price M u1 u2))) 0)) hx hb hE hP (wQ_D hD) hS 10 rfl (by omega) (Nat.le_of_ble_eq_true rfl) (wQ_st_10) dX6_hint_84 (fun H locs hP hS => ?_)
          refine lv_iload_n hx hb dX6_hint_85 rfl (lv_at hl 0 rfl) ?_
          rw [show mHint M (nI u1) (nI u2) = (m_price M u1 u2, 0, st (st M 9 (16 * u1 + u2) ((M 9 (16 * u1 + u2)) + 1)) 10 (16 * u1 + u2) ((M 10 (16 * u1 + u2)) + (m_price M u1 u2))) from by first | exact mm2_no zc_2 | (simp only [mHint, mm2, mhintM, zc_2, k1, k2, iu1, iu2, zc_3, zc_6, ↓reduceIte]; done) | (simp only [mHint, mm2, mhintM, zc_2, k1, k2, iu1, iu2, zc_3, zc_6, ↓reduceIte]; rfl) | (simp [mHint, mm2, mhintM, zc_2, k1, k2, iu1, iu2, zc_3, zc_6]; done) | (simp [mHint, mm2, mhintM, zc_2, k1, k2, iu1, iu2, zc_3, zc_6]; rfl)]
          exact e_wret hx hb hr hlk rfl hP hS dX6_hint_86
        · skip
          exact absurd zc_8 (by decide)
      · skip
        have ec_6 := eq_true zc_6
        refine lv_iconst (v := 2) hx hb dX6_hint_37 (by decide) ?_
        refine lv_goto (tgt := 42) hx hb dX6_hint_38 (by decide) ?_
        refine q_w0 (q_runV (rest := []) hx hb hml hown hE (c_X6_goes l D cI cZ cL am M (m_wrong M (nI u1) (nI u2)) A (wQ_D hD) 2) ck_X6_goes w_837 hP 0 rfl rfl hl.1 rfl ⟨Nat.le_of_ble_eq_true rfl, Nat.le_of_ble_eq_true rfl⟩ (Nat.le_of_ble_eq_true rfl) dX6_hint_42 ⟨Nat.le_of_ble_eq_true rfl, Nat.le_of_ble_eq_true rfl⟩) hS (fun H locs hP hS => ?_)
        have hI_c9 : J0 M := hI_c1
        refine q_top (y := 0) (by decide) ?_
        refine lv_if_ne (tgt := 50) hx hb dX6_hint_45 (by decide) (fun zc_10 => ?_) (fun zc_10 => ?_)
        · skip
          exact absurd zc_10 (by decide)
        · skip
          refine lv_iconst (v := 0) hx hb dX6_hint_48 (by decide) ?_
          rw [show mHint M (nI u1) (nI u2) = (0, 2, M) from by first | exact mm2_no zc_2 | (simp only [mHint, mm2, mhintM, zc_2, k1, k2, iu1, iu2, zc_3, ec_6, ↓reduceIte]; done) | (simp only [mHint, mm2, mhintM, zc_2, k1, k2, iu1, iu2, zc_3, ec_6, ↓reduceIte]; rfl) | (simp [mHint, mm2, mhintM, zc_2, k1, k2, iu1, iu2, zc_3, ec_6]; done) | (simp [mHint, mm2, mhintM, zc_2, k1, k2, iu1, iu2, zc_3, ec_6]; rfl)]
          exact e_wret hx hb hr hlk rfl hP hS dX6_hint_49

theorem dX6_price_0 : decode cX6_price 0 = .ok (.aload_n 0, 1) := by decide +kernel
theorem dX6_price_1 : decode cX6_price 1 = .ok (.aload_n 0, 1) := by decide +kernel
theorem dX6_price_2 : decode cX6_price 2 = .ok (.iload_n 1, 1) := by decide +kernel
theorem dX6_price_3 : decode cX6_price 3 = .ok (.iload_n 2, 1) := by decide +kernel
theorem dX6_price_4 : decode cX6_price 4 = .ok (.invokevirtual 114, 3) := by decide +kernel
theorem dX6_price_7 : decode cX6_price 7 = .ok (.invokevirtual 76, 3) := by decide +kernel
theorem dX6_price_10 : decode cX6_price 10 = .ok (.ifCond .eq 39, 3) := by decide +kernel
theorem dX6_price_13 : decode cX6_price 13 = .ok (.aload_n 0, 1) := by decide +kernel
theorem dX6_price_14 : decode cX6_price 14 = .ok (.aload_n 0, 1) := by decide +kernel
theorem dX6_price_15 : decode cX6_price 15 = .ok (.iload_n 1, 1) := by decide +kernel
theorem dX6_price_16 : decode cX6_price 16 = .ok (.iload_n 2, 1) := by decide +kernel
theorem dX6_price_17 : decode cX6_price 17 = .ok (.invokevirtual 111, 3) := by decide +kernel
theorem dX6_price_20 : decode cX6_price 20 = .ok (.iconst (-1), 1) := by decide +kernel
theorem dX6_price_21 : decode cX6_price 21 = .ok (.if_icmp .eq 17, 3) := by decide +kernel
theorem dX6_price_24 : decode cX6_price 24 = .ok (.aload_n 0, 1) := by decide +kernel
theorem dX6_price_25 : decode cX6_price 25 = .ok (.getfield 35, 3) := by decide +kernel
theorem dX6_price_28 : decode cX6_price 28 = .ok (.iload_n 1, 1) := by decide +kernel
theorem dX6_price_29 : decode cX6_price 29 = .ok (.iload_n 2, 1) := by decide +kernel
theorem dX6_price_30 : decode cX6_price 30 = .ok (.invokestatic 87, 3) := by decide +kernel
theorem dX6_price_33 : decode cX6_price 33 = .ok (.iaload, 1) := by decide +kernel
theorem dX6_price_34 : decode cX6_price 34 = .ok (.iconst 3, 1) := by decide +kernel
theorem dX6_price_35 : decode cX6_price 35 = .ok (.if_icmp .ne 7, 3) := by decide +kernel
theorem dX6_price_38 : decode cX6_price 38 = .ok (.iconst 2, 1) := by decide +kernel
theorem dX6_price_39 : decode cX6_price 39 = .ok (.goto 4, 3) := by decide +kernel
theorem dX6_price_42 : decode cX6_price 42 = .ok (.iconst 0, 1) := by decide +kernel
theorem dX6_price_43 : decode cX6_price 43 = .ok (.invokevirtual 76, 3) := by decide +kernel
theorem dX6_price_46 : decode cX6_price 46 = .ok (.ifCond .ne 5, 3) := by decide +kernel
theorem dX6_price_49 : decode cX6_price 49 = .ok (.iconst 0, 1) := by decide +kernel
theorem dX6_price_50 : decode cX6_price 50 = .ok (.ireturn, 1) := by decide +kernel
theorem dX6_price_51 : decode cX6_price 51 = .ok (.aload_n 0, 1) := by decide +kernel
theorem dX6_price_52 : decode cX6_price 52 = .ok (.iload_n 1, 1) := by decide +kernel
theorem dX6_price_53 : decode cX6_price 53 = .ok (.iload_n 2, 1) := by decide +kernel
theorem dX6_price_54 : decode cX6_price 54 = .ok (.invokevirtual 120, 3) := by decide +kernel
theorem dX6_price_57 : decode cX6_price 57 = .ok (.ireturn, 1) := by decide +kernel
set_option maxHeartbeats 4000000 in
set_option maxRecDepth 100000 in
theorem c_X6_price (l : Launch) (D : va_G) (cI cZ cL : ClassId) (am : Nat → Nat) (M : Mem) (th : Int32) (A : Nat → Prop) (hD : va_D A (wQ am cI cZ M th)) (x1 : Int32) (x2 : Int32) (hI : J0 M) : WR l D cI cZ cL yX6_price cX6_price 3 (some .int) 9 [.ref (am 0), .int x1, .int x2] A (wQ am cI cZ M th) (wQ am cI cZ ((mPrice M x1 x2).2.2) ((mPrice M x1 x2).2.1)) (some (.int ((mPrice M x1 x2).1))) := by
  refine WR.of (by decide) (Nat.le_of_ble_eq_true rfl) ?_
  intro p e s m args below meth c ls hx hb hr hml hown hlk hE hP hS hl
  have hl : lv_has ls 3 [(0, .ref (am 0)), (1, .int x1), (2, .int x2)] := hl
  have hT8 := hI.T8
  have hR16 := hI.R16
  have hN200 := hI.N200
  refine lv_aload_n hx hb dX6_price_0 rfl (lv_at hl 0 rfl) ?_
  refine lv_aload_n hx hb dX6_price_1 rfl (lv_at hl 0 rfl) ?_
  refine lv_iload_n hx hb dX6_price_2 rfl (lv_at hl 1 rfl) ?_
  refine lv_iload_n hx hb dX6_price_3 rfl (lv_at hl 2 rfl) ?_
  refine q_rd (q_runV (rest := [.ref (am 0)]) hx hb hml hown hE (c_X6_wrong l D cI cZ cL am M th x1 x2 hI) ck_X6_wrong w_887 hP 0 rfl rfl hl.1 rfl ⟨Nat.le_of_ble_eq_true rfl, Nat.le_of_ble_eq_true rfl⟩ (Nat.le_of_ble_eq_true rfl) dX6_price_4 ⟨Nat.le_of_ble_eq_true rfl, Nat.le_of_ble_eq_true rfl⟩) ?_
  refine q_w0 (q_runV (rest := []) hx hb hml hown hE (c_X6_goes l D cI cZ cL am M th A (wQ_D hD) (m_wrong M x1 x2)) ck_X6_goes w_837 hP 0 rfl rfl hl.1 rfl ⟨Nat.le_of_ble_eq_true rfl, Nat.le_of_ble_eq_true rfl⟩ (Nat.le_of_ble_eq_true rfl) dX6_price_7 ⟨Nat.le_of_ble_eq_true rfl, Nat.le_of_ble_eq_true rfl⟩) hS (fun H locs hP hS => ?_)
  have hI_c1 : J0 M := hI
  refine lv_if_eq (tgt := 49) hx hb dX6_price_10 (by decide) (fun zc_2 => ?_) (fun zc_2 => ?_)
  · skip
    have zc_2 : decide ((m_wrong M x1 x2) = 0) = false := b_f zc_2
    refine lv_iconst (v := 0) hx hb dX6_price_49 (by decide) ?_
    rw [show mPrice M x1 x2 = (0, (m_wrong M x1 x2), M) from by first | exact mm2_no zc_2 | (simp only [mPrice, mm2, zc_2, ↓reduceIte]; done) | (simp only [mPrice, mm2, zc_2, ↓reduceIte]; rfl) | (simp [mPrice, mm2, zc_2]; done) | (simp [mPrice, mm2, zc_2]; rfl)]
    exact e_wret hx hb hr hlk rfl hP hS dX6_price_50
  · skip
    have zc_2 : decide ((m_wrong M x1 x2) = 0) = true := b_t zc_2
    obtain ⟨k1, k2⟩ := m_wrong_ok zc_2
    obtain ⟨u1, hu1, eu1⟩ := okn_t (k1)
    subst eu1
    have iu1 : iN (nI u1) = u1 := iN_nI (by omega)
    obtain ⟨u2, hu2, eu2⟩ := okn_t (k2)
    subst eu2
    have iu2 : iN (nI u2) = u2 := iN_nI (by omega)
    refine lv_aload_n hx hb dX6_price_13 rfl (lv_at hl 0 rfl) ?_
    refine lv_aload_n hx hb dX6_price_14 rfl (lv_at hl 0 rfl) ?_
    refine lv_iload_n hx hb dX6_price_15 rfl (lv_at hl 1 rfl) ?_
    refine lv_iload_n hx hb dX6_price_16 rfl (lv_at hl 2 rfl) ?_
    refine q_rd (q_runV (rest := [.ref (am 0)]) hx hb hml hown hE (c_X6_opened l D cI cZ cL am M (m_wrong M (nI u1) (nI u2)) u1 u2 (by omega) (by omega)) ck_X6_opened w_899 hP 0 rfl rfl hl.1 rfl ⟨Nat.le_of_ble_eq_true rfl, Nat.le_of_ble_eq_true rfl⟩ (Nat.le_of_ble_eq_true rfl) dX6_price_17 ⟨Nat.le_of_ble_eq_true rfl, Nat.le_of_ble_eq_true rfl⟩) ?_
    refine lv_iconst (v := (-1)) hx hb dX6_price_20 (by decide) ?_
    refine lv_icmp_eq (tgt := 38) hx hb dX6_price_21 (by decide) (fun zc_3 => ?_) (fun zc_3 => ?_)
    · skip
      have ec_3 := eq_true zc_3
      refine lv_iconst (v := 2) hx hb dX6_price_38 (by decide) ?_
      refine lv_goto (tgt := 43) hx hb dX6_price_39 (by decide) ?_
      refine q_w0 (q_runV (rest := []) hx hb hml hown hE (c_X6_goes l D cI cZ cL am M (m_wrong M (nI u1) (nI u2)) A (wQ_D hD) 2) ck_X6_goes w_837 hP 0 rfl rfl hl.1 rfl ⟨Nat.le_of_ble_eq_true rfl, Nat.le_of_ble_eq_true rfl⟩ (Nat.le_of_ble_eq_true rfl) dX6_price_43 ⟨Nat.le_of_ble_eq_true rfl, Nat.le_of_ble_eq_true rfl⟩) hS (fun H locs hP hS => ?_)
      have hI_c4 : J0 M := hI_c1
      refine q_top (y := 0) (by decide) ?_
      refine lv_if_ne (tgt := 51) hx hb dX6_price_46 (by decide) (fun zc_5 => ?_) (fun zc_5 => ?_)
      · skip
        exact absurd zc_5 (by decide)
      · skip
        refine lv_iconst (v := 0) hx hb dX6_price_49 (by decide) ?_
        rw [show mPrice M (nI u1) (nI u2) = (0, 2, M) from by first | exact mm2_no zc_2 | (simp only [mPrice, mm2, zc_2, k1, k2, iu1, iu2, ec_3, ↓reduceIte]; done) | (simp only [mPrice, mm2, zc_2, k1, k2, iu1, iu2, ec_3, ↓reduceIte]; rfl) | (simp [mPrice, mm2, zc_2, k1, k2, iu1, iu2, ec_3]; done) | (simp [mPrice, mm2, zc_2, k1, k2, iu1, iu2, ec_3]; rfl)]
        exact e_wret hx hb hr hlk rfl hP hS dX6_price_50
    · skip
      refine lv_aload_n hx hb dX6_price_24 rfl (lv_at hl 0 rfl) ?_
      refine q_get (v := .ref (am 9)) hx hb hown hE inT_X6 hP 0 rfl rfl 12 (by decide) w_770 rfl dX6_price_25 ?_
      refine lv_iload_n hx hb dX6_price_28 rfl (lv_at hl 1 rfl) ?_
      refine lv_iload_n hx hb dX6_price_29 rfl (lv_at hl 2 rfl) ?_
      refine q_rd (q_runS (rest := [.ref (am 9), .ref (am 0)]) hx hb hml hown hE (c_X6_at l D cI cZ cL _ u1 u2) ck_X6_at w_865 hP hl.1 rfl ⟨Nat.le_of_ble_eq_true rfl, Nat.le_of_ble_eq_true rfl⟩ (Nat.le_of_ble_eq_true rfl) dX6_price_30 ⟨Nat.le_of_ble_eq_true rfl, Nat.le_of_ble_eq_true rfl⟩) ?_
      refine q_iald (f := M 9) (i := (16 * u1 + u2)) hx hb hE hP 9 rfl (by omega) (Nat.le_of_ble_eq_true rfl) dX6_price_33 ?_
      refine lv_iconst (v := 3) hx hb dX6_price_34 (by decide) ?_
      refine lv_icmp_ne (tgt := 42) hx hb dX6_price_35 (by decide) (fun zc_6 => ?_) (fun zc_6 => ?_)
      · skip
        refine lv_iconst (v := 0) hx hb dX6_price_42 (by decide) ?_
        refine q_w0 (q_runV (rest := []) hx hb hml hown hE (c_X6_goes l D cI cZ cL am M (m_wrong M (nI u1) (nI u2)) A (wQ_D hD) 0) ck_X6_goes w_837 hP 0 rfl rfl hl.1 rfl ⟨Nat.le_of_ble_eq_true rfl, Nat.le_of_ble_eq_true rfl⟩ (Nat.le_of_ble_eq_true rfl) dX6_price_43 ⟨Nat.le_of_ble_eq_true rfl, Nat.le_of_ble_eq_true rfl⟩) hS (fun H locs hP hS => ?_)
        have hI_c7 : J0 M := hI_c1
        refine q_top (y := 1) (by decide) ?_
        refine lv_if_ne (tgt := 51) hx hb dX6_price_46 (by decide) (fun zc_8 => ?_) (fun zc_8 => ?_)
        · skip
          refine lv_aload_n hx hb dX6_price_51 rfl (lv_at hl 0 rfl) ?_
          refine lv_iload_n hx hb dX6_price_52 rfl (lv_at hl 1 rfl) ?_
          refine lv_iload_n hx hb dX6_price_53 rfl (lv_at hl 2 rfl) ?_
          refine q_rd (q_runV (rest := []) hx hb hml hown hE (c_X6_priceOf l D cI cZ cL am M 0 u1 u2 hI_c7 (by omega) (by omega)) ck_X6_priceOf w_907 hP 0 rfl rfl hl.1 rfl ⟨Nat.le_of_ble_eq_true rfl, Nat.le_of_ble_eq_true rfl⟩ (Nat.le_of_ble_eq_true rfl) dX6_price_54 ⟨Nat.le_of_ble_eq_true rfl, Nat.le_of_ble_eq_true rfl⟩) ?_
          rw [show mPrice M (nI u1) (nI u2) = (m_price M u1 u2, 0, M) from by first | exact mm2_no zc_2 | (simp only [mPrice, mm2, zc_2, k1, k2, iu1, iu2, zc_3, zc_6, ↓reduceIte]; done) | (simp only [mPrice, mm2, zc_2, k1, k2, iu1, iu2, zc_3, zc_6, ↓reduceIte]; rfl) | (simp [mPrice, mm2, zc_2, k1, k2, iu1, iu2, zc_3, zc_6]; done) | (simp [mPrice, mm2, zc_2, k1, k2, iu1, iu2, zc_3, zc_6]; rfl)]
          exact e_wret hx hb hr hlk rfl hP hS dX6_price_57
        · skip
          exact absurd zc_8 (by decide)
      · skip
        have ec_6 := eq_true zc_6
        refine lv_iconst (v := 2) hx hb dX6_price_38 (by decide) ?_
        refine lv_goto (tgt := 43) hx hb dX6_price_39 (by decide) ?_
        refine q_w0 (q_runV (rest := []) hx hb hml hown hE (c_X6_goes l D cI cZ cL am M (m_wrong M (nI u1) (nI u2)) A (wQ_D hD) 2) ck_X6_goes w_837 hP 0 rfl rfl hl.1 rfl ⟨Nat.le_of_ble_eq_true rfl, Nat.le_of_ble_eq_true rfl⟩ (Nat.le_of_ble_eq_true rfl) dX6_price_43 ⟨Nat.le_of_ble_eq_true rfl, Nat.le_of_ble_eq_true rfl⟩) hS (fun H locs hP hS => ?_)
        have hI_c9 : J0 M := hI_c1
        refine q_top (y := 0) (by decide) ?_
        refine lv_if_ne (tgt := 51) hx hb dX6_price_46 (by decide) (fun zc_10 => ?_) (fun zc_10 => ?_)
        · skip
          exact absurd zc_10 (by decide)
        · skip
          refine lv_iconst (v := 0) hx hb dX6_price_49 (by decide) ?_
          rw [show mPrice M (nI u1) (nI u2) = (0, 2, M) from by first | exact mm2_no zc_2 | (simp only [mPrice, mm2, zc_2, k1, k2, iu1, iu2, zc_3, ec_6, ↓reduceIte]; done) | (simp only [mPrice, mm2, zc_2, k1, k2, iu1, iu2, zc_3, ec_6, ↓reduceIte]; rfl) | (simp [mPrice, mm2, zc_2, k1, k2, iu1, iu2, zc_3, ec_6]; done) | (simp [mPrice, mm2, zc_2, k1, k2, iu1, iu2, zc_3, ec_6]; rfl)]
          exact e_wret hx hb hr hlk rfl hP hS dX6_price_50
