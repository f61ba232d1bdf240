theorem dX3_append_0 : decode cX3_append 0 = .ok (.aload_n 0, 1) := by decide +kernel
theorem dX3_append_1 : decode cX3_append 1 = .ok (.getfield 9, 3) := by decide +kernel
theorem dX3_append_4 : decode cX3_append 4 = .ok (.aload_n 0, 1) := by decide +kernel
theorem dX3_append_5 : decode cX3_append 5 = .ok (.getfield 27, 3) := by decide +kernel
theorem dX3_append_8 : decode cX3_append 8 = .ok (.iload_n 1, 1) := by decide +kernel
theorem dX3_append_9 : decode cX3_append 9 = .ok (.iastore, 1) := by decide +kernel
theorem dX3_append_10 : decode cX3_append 10 = .ok (.aload_n 0, 1) := by decide +kernel
theorem dX3_append_11 : decode cX3_append 11 = .ok (.getfield 15, 3) := by decide +kernel
theorem dX3_append_14 : decode cX3_append 14 = .ok (.aload_n 0, 1) := by decide +kernel
theorem dX3_append_15 : decode cX3_append 15 = .ok (.getfield 27, 3) := by decide +kernel
theorem dX3_append_18 : decode cX3_append 18 = .ok (.iload_n 2, 1) := by decide +kernel
theorem dX3_append_19 : decode cX3_append 19 = .ok (.iastore, 1) := by decide +kernel
theorem dX3_append_20 : decode cX3_append 20 = .ok (.aload_n 0, 1) := by decide +kernel
theorem dX3_append_21 : decode cX3_append 21 = .ok (.getfield 18, 3) := by decide +kernel
theorem dX3_append_24 : decode cX3_append 24 = .ok (.aload_n 0, 1) := by decide +kernel
theorem dX3_append_25 : decode cX3_append 25 = .ok (.getfield 27, 3) := by decide +kernel
theorem dX3_append_28 : decode cX3_append 28 = .ok (.iload_n 3, 1) := by decide +kernel
theorem dX3_append_29 : decode cX3_append 29 = .ok (.iastore, 1) := by decide +kernel
theorem dX3_append_30 : decode cX3_append 30 = .ok (.aload_n 0, 1) := by decide +kernel
theorem dX3_append_31 : decode cX3_append 31 = .ok (.getfield 21, 3) := by decide +kernel
theorem dX3_append_34 : decode cX3_append 34 = .ok (.aload_n 0, 1) := by decide +kernel
theorem dX3_append_35 : decode cX3_append 35 = .ok (.getfield 27, 3) := by decide +kernel
theorem dX3_append_38 : decode cX3_append 38 = .ok (.iload 4, 2) := by decide +kernel
theorem dX3_append_40 : decode cX3_append 40 = .ok (.iastore, 1) := by decide +kernel
theorem dX3_append_41 : decode cX3_append 41 = .ok (.aload_n 0, 1) := by decide +kernel
theorem dX3_append_42 : decode cX3_append 42 = .ok (.dup, 1) := by decide +kernel
theorem dX3_append_43 : decode cX3_append 43 = .ok (.getfield 27, 3) := by decide +kernel
theorem dX3_append_46 : decode cX3_append 46 = .ok (.dup_x1, 1) := by decide +kernel
theorem dX3_append_47 : decode cX3_append 47 = .ok (.iconst 1, 1) := by decide +kernel
theorem dX3_append_48 : decode cX3_append 48 = .ok (.iadd, 1) := by decide +kernel
theorem dX3_append_49 : decode cX3_append 49 = .ok (.putfield 27, 3) := by decide +kernel
theorem dX3_append_52 : decode cX3_append 52 = .ok (.ireturn, 1) := by decide +kernel
set_option maxHeartbeats 4000000 in
set_option maxRecDepth 100000 in
theorem c_X3_append (l : Launch) (D : va_G) (cI cZ cL : ClassId) (ad : Nat → Nat) (S : Mem) (A : Nat → Prop) (hD : va_D A (wC ad cI S)) (x1 : Int32) (x2 : Int32) (x3 : Int32) (x4 : Int32) (hI : I0 S) (hc : cR S < 16) : WR l D cI cZ cL yX3_append cX3_append 5 (some .int) 0 [.ref (ad 1), .int x1, .int x2, .int x3, .int x4] A (wC ad cI S) (wC ad cI (p_addR S x1 x2 x3 x4)) (some (.int (nI (cR S)))) := by
  refine WR.of (by decide) (Nat.le_of_ble_eq_true rfl) ?_
  intro p e s m args below meth c ls hx hb hr hml hown hlk hE hP hS hl
  have hl : lv_has ls 5 [(0, .ref (ad 1)), (1, .int x1), (2, .int x2), (3, .int x3), (4, .int x4)] := hl
  refine lv_aload_n hx hb dX3_append_0 rfl (lv_at hl 0 rfl) ?_
  refine q_get (v := .ref (ad 2)) hx hb hown hE inT_X3 hP 1 rfl rfl 0 (by decide) w_92 rfl dX3_append_1 ?_
  refine lv_aload_n hx hb dX3_append_4 rfl (lv_at hl 0 rfl) ?_
  refine q_get (v := .int (S 1 6)) hx hb hown hE inT_X3 hP 1 rfl rfl 6 (by decide) w_103 rfl dX3_append_5 ?_
  refine q_top (y := nI (cR S)) (I0.R hI) ?_
  refine lv_iload_n hx hb dX3_append_8 rfl (lv_at hl 1 rfl) ?_
  refine q_iast (f := S 2) (i := (cR S)) (x := x1) (ws' := (wC ad cI (st S 2 (cR S) x1))) hx hb hE hP (wC_D hD) hS 2 rfl (by omega) (Nat.le_of_ble_eq_true rfl) (wC_st_2) dX3_append_9 (fun H locs hP hS => ?_)
  refine lv_aload_n hx hb dX3_append_10 rfl (lv_at hl 0 rfl) ?_
  refine q_get (v := .ref (ad 3)) hx hb hown hE inT_X3 hP 1 rfl rfl 1 (by decide) w_94 rfl dX3_append_11 ?_
  refine lv_aload_n hx hb dX3_append_14 rfl (lv_at hl 0 rfl) ?_
  refine q_get (v := .int (S 1 6)) hx hb hown hE inT_X3 hP 1 rfl rfl 6 (by decide) w_103 rfl dX3_append_15 ?_
  refine q_top (y := nI (cR S)) (I0.R hI) ?_
  refine lv_iload_n hx hb dX3_append_18 rfl (lv_at hl 2 rfl) ?_
  refine q_iast (f := (st S 2 (cR S) x1) 3) (i := (cR S)) (x := x2) (ws' := (wC ad cI (st (st S 2 (cR S) x1) 3 (cR S) x2))) hx hb hE hP (wC_D hD) hS 3 rfl (by omega) (Nat.le_of_ble_eq_true rfl) (wC_st_3) dX3_append_19 (fun H locs hP hS => ?_)
  refine lv_aload_n hx hb dX3_append_20 rfl (lv_at hl 0 rfl) ?_
  refine q_get (v := .ref (ad 4)) hx hb hown hE inT_X3 hP 1 rfl rfl 2 (by decide) w_96 rfl dX3_append_21 ?_
  refine lv_aload_n hx hb dX3_append_24 rfl (lv_at hl 0 rfl) ?_
  refine q_get (v := .int (S 1 6)) hx hb hown hE inT_X3 hP 1 rfl rfl 6 (by decide) w_103 rfl dX3_append_25 ?_
  refine q_top (y := nI (cR S)) (I0.R hI) ?_
  refine lv_iload_n hx hb dX3_append_28 rfl (lv_at hl 3 rfl) ?_
  refine q_iast (f := (st (st S 2 (cR S) x1) 3 (cR S) x2) 4) (i := (cR S)) (x := x3) (ws' := (wC ad cI (st (st (st S 2 (cR S) x1) 3 (cR S) x2) 4 (cR S) x3))) hx hb hE hP (wC_D hD) hS 4 rfl (by omega) (Nat.le_of_ble_eq_true rfl) (wC_st_4) dX3_append_29 (fun H locs hP hS => ?_)
  refine lv_aload_n hx hb dX3_append_30 rfl (lv_at hl 0 rfl) ?_
  refine q_get (v := .ref (ad 5)) hx hb hown hE inT_X3 hP 1 rfl rfl 3 (by decide) w_98 rfl dX3_append_31 ?_
  refine lv_aload_n hx hb dX3_append_34 rfl (lv_at hl 0 rfl) ?_
  refine q_get (v := .int (S 1 6)) hx hb hown hE inT_X3 hP 1 rfl rfl 6 (by decide) w_103 rfl dX3_append_35 ?_
  refine q_top (y := nI (cR S)) (I0.R hI) ?_
  refine lv_iload hx hb dX3_append_38 (lv_at hl 4 rfl) ?_
  refine q_iast (f := (st (st (st S 2 (cR S) x1) 3 (cR S) x2) 4 (cR S) x3) 5) (i := (cR S)) (x := x4) (ws' := (wC ad cI (st (st (st (st S 2 (cR S) x1) 3 (cR S) x2) 4 (cR S) x3) 5 (cR S) x4))) hx hb hE hP (wC_D hD) hS 5 rfl (by omega) (Nat.le_of_ble_eq_true rfl) (wC_st_5) dX3_append_40 (fun H locs hP hS => ?_)
  refine lv_aload_n hx hb dX3_append_41 rfl (lv_at hl 0 rfl) ?_
  refine lv_dup hx hb dX3_append_42 rfl ?_
  refine q_get (v := .int (S 1 6)) hx hb hown hE inT_X3 hP 1 rfl rfl 6 (by decide) w_103 rfl dX3_append_43 ?_
  refine q_top (y := nI (cR S)) (I0.R hI) ?_
  refine lv_dup_x1 hx hb dX3_append_46 rfl rfl ?_
  refine lv_iconst (v := 1) hx hb dX3_append_47 (by decide) ?_
  refine lv_iadd hx hb dX3_append_48 ?_
  refine q_top (y := nI ((cR S) + 1)) (nI_add (cR S) 1) ?_
  refine q_put (ty0 := tyX3) (ws' := (wC ad cI (st (st (st (st (st S 2 (cR S) x1) 3 (cR S) x2) 4 (cR S) x3) 5 (cR S) x4) 1 6 (nI ((cR S) + 1))))) (v := .int (nI ((cR S) + 1))) hx hb hown hE inT_X3 tyX3_ok nmX3 hP (wC_D hD) hS 1 rfl rfl 6 (by decide) w_103 rfl rfl rfl (Nat.le_of_ble_eq_true rfl) rfl dX3_append_49 (fun H locs hP hS => ?_)
  exact e_wret hx hb hr hlk rfl (by rw [show p_addR S x1 x2 x3 x4 = st (st (st (st (st S 2 (cR S) x1) 3 (cR S) x2) 4 (cR S) x3) 5 (cR S) x4) 1 6 (nI ((cR S) + 1)) from by rfl]; exact hP) hS dX3_append_52

theorem dX0_append_0 : decode cX0_append 0 = .ok (.aload_n 0, 1) := by decide +kernel
theorem dX0_append_1 : decode cX0_append 1 = .ok (.getfield 9, 3) := by decide +kernel
theorem dX0_append_4 : decode cX0_append 4 = .ok (.aload_n 0, 1) := by decide +kernel
theorem dX0_append_5 : decode cX0_append 5 = .ok (.getfield 24, 3) := by decide +kernel
theorem dX0_append_8 : decode cX0_append 8 = .ok (.iload_n 1, 1) := by decide +kernel
theorem dX0_append_9 : decode cX0_append 9 = .ok (.iastore, 1) := by decide +kernel
theorem dX0_append_10 : decode cX0_append 10 = .ok (.aload_n 0, 1) := by decide +kernel
theorem dX0_append_11 : decode cX0_append 11 = .ok (.getfield 15, 3) := by decide +kernel
theorem dX0_append_14 : decode cX0_append 14 = .ok (.aload_n 0, 1) := by decide +kernel
theorem dX0_append_15 : decode cX0_append 15 = .ok (.getfield 24, 3) := by decide +kernel
theorem dX0_append_18 : decode cX0_append 18 = .ok (.iload_n 2, 1) := by decide +kernel
theorem dX0_append_19 : decode cX0_append 19 = .ok (.iastore, 1) := by decide +kernel
theorem dX0_append_20 : decode cX0_append 20 = .ok (.aload_n 0, 1) := by decide +kernel
theorem dX0_append_21 : decode cX0_append 21 = .ok (.getfield 18, 3) := by decide +kernel
theorem dX0_append_24 : decode cX0_append 24 = .ok (.aload_n 0, 1) := by decide +kernel
theorem dX0_append_25 : decode cX0_append 25 = .ok (.getfield 24, 3) := by decide +kernel
theorem dX0_append_28 : decode cX0_append 28 = .ok (.iload_n 3, 1) := by decide +kernel
theorem dX0_append_29 : decode cX0_append 29 = .ok (.iastore, 1) := by decide +kernel
theorem dX0_append_30 : decode cX0_append 30 = .ok (.aload_n 0, 1) := by decide +kernel
theorem dX0_append_31 : decode cX0_append 31 = .ok (.getfield 21, 3) := by decide +kernel
theorem dX0_append_34 : decode cX0_append 34 = .ok (.aload_n 0, 1) := by decide +kernel
theorem dX0_append_35 : decode cX0_append 35 = .ok (.getfield 24, 3) := by decide +kernel
theorem dX0_append_38 : decode cX0_append 38 = .ok (.iload 4, 2) := by decide +kernel
theorem dX0_append_40 : decode cX0_append 40 = .ok (.iastore, 1) := by decide +kernel
theorem dX0_append_41 : decode cX0_append 41 = .ok (.aload_n 0, 1) := by decide +kernel
theorem dX0_append_42 : decode cX0_append 42 = .ok (.dup, 1) := by decide +kernel
theorem dX0_append_43 : decode cX0_append 43 = .ok (.getfield 24, 3) := by decide +kernel
theorem dX0_append_46 : decode cX0_append 46 = .ok (.iconst 1, 1) := by decide +kernel
theorem dX0_append_47 : decode cX0_append 47 = .ok (.iadd, 1) := by decide +kernel
theorem dX0_append_48 : decode cX0_append 48 = .ok (.putfield 24, 3) := by decide +kernel
theorem dX0_append_51 : decode cX0_append 51 = .ok (.return_, 1) := by decide +kernel
set_option maxHeartbeats 4000000 in
set_option maxRecDepth 100000 in
theorem c_X0_append (l : Launch) (D : va_G) (cI cZ cL : ClassId) (ad : Nat → Nat) (S : Mem) (A : Nat → Prop) (hD : va_D A (wC ad cI S)) (t : Nat) (r : Nat) (w : Int32) (mi : Int32) (hI : I0 S) (hc : cN S < 200) : WR l D cI cZ cL yX0_append cX0_append 5 none 0 [.ref (ad 7), .int (nI t), .int (nI r), .int w, .int mi] A (wC ad cI S) (wC ad cI (p_app S t r w mi)) none := by
  refine WR.of (by decide) (Nat.le_of_ble_eq_true rfl) ?_
  intro p e s m args below meth c ls hx hb hr hml hown hlk hE hP hS hl
  have hl : lv_has ls 5 [(0, .ref (ad 7)), (1, .int (nI t)), (2, .int (nI r)), (3, .int w), (4, .int mi)] := hl
  refine lv_aload_n hx hb dX0_append_0 rfl (lv_at hl 0 rfl) ?_
  refine q_get (v := .ref (ad 8)) hx hb hown hE inT_X0 hP 7 rfl rfl 0 (by decide) w_127 rfl dX0_append_1 ?_
  refine lv_aload_n hx hb dX0_append_4 rfl (lv_at hl 0 rfl) ?_
  refine q_get (v := .int (S 7 4)) hx hb hown hE inT_X0 hP 7 rfl rfl 4 (by decide) w_135 rfl dX0_append_5 ?_
  refine q_top (y := nI (cN S)) (I0.N hI) ?_
  refine lv_iload_n hx hb dX0_append_8 rfl (lv_at hl 1 rfl) ?_
  refine q_iast (f := S 8) (i := (cN S)) (x := nI t) (ws' := (wC ad cI (st S 8 (cN S) (nI t)))) hx hb hE hP (wC_D hD) hS 8 rfl (by omega) (Nat.le_of_ble_eq_true rfl) (wC_st_8) dX0_append_9 (fun H locs hP hS => ?_)
  refine lv_aload_n hx hb dX0_append_10 rfl (lv_at hl 0 rfl) ?_
  refine q_get (v := .ref (ad 9)) hx hb hown hE inT_X0 hP 7 rfl rfl 1 (by decide) w_129 rfl dX0_append_11 ?_
  refine lv_aload_n hx hb dX0_append_14 rfl (lv_at hl 0 rfl) ?_
  refine q_get (v := .int (S 7 4)) hx hb hown hE inT_X0 hP 7 rfl rfl 4 (by decide) w_135 rfl dX0_append_15 ?_
  refine q_top (y := nI (cN S)) (I0.N hI) ?_
  refine lv_iload_n hx hb dX0_append_18 rfl (lv_at hl 2 rfl) ?_
  refine q_iast (f := (st S 8 (cN S) (nI t)) 9) (i := (cN S)) (x := nI r) (ws' := (wC ad cI (st (st S 8 (cN S) (nI t)) 9 (cN S) (nI r)))) hx hb hE hP (wC_D hD) hS 9 rfl (by omega) (Nat.le_of_ble_eq_true rfl) (wC_st_9) dX0_append_19 (fun H locs hP hS => ?_)
  refine lv_aload_n hx hb dX0_append_20 rfl (lv_at hl 0 rfl) ?_
  refine q_get (v := .ref (ad 10)) hx hb hown hE inT_X0 hP 7 rfl rfl 2 (by decide) w_131 rfl dX0_append_21 ?_
  refine lv_aload_n hx hb dX0_append_24 rfl (lv_at hl 0 rfl) ?_
  refine q_get (v := .int (S 7 4)) hx hb hown hE inT_X0 hP 7 rfl rfl 4 (by decide) w_135 rfl dX0_append_25 ?_
  refine q_top (y := nI (cN S)) (I0.N hI) ?_
  refine lv_iload_n hx hb dX0_append_28 rfl (lv_at hl 3 rfl) ?_
  refine q_iast (f := (st (st S 8 (cN S) (nI t)) 9 (cN S) (nI r)) 10) (i := (cN S)) (x := w) (ws' := (wC ad cI (st (st (st S 8 (cN S) (nI t)) 9 (cN S) (nI r)) 10 (cN S) w))) hx hb hE hP (wC_D hD) hS 10 rfl (by omega) (Nat.le_of_ble_eq_true rfl) (wC_st_10) dX0_append_29 (fun H locs hP hS => ?_)
  refine lv_aload_n hx hb dX0_append_30 rfl (lv_at hl 0 rfl) ?_
  refine q_get (v := .ref (ad 11)) hx hb hown hE inT_X0 hP 7 rfl rfl 3 (by decide) w_133 rfl dX0_append_31 ?_
  refine lv_aload_n hx hb dX0_append_34 rfl (lv_at hl 0 rfl) ?_
  refine q_get (v := .int (S 7 4)) hx hb hown hE inT_X0 hP 7 rfl rfl 4 (by decide) w_135 rfl dX0_append_35 ?_
  refine q_top (y := nI (cN S)) (I0.N hI) ?_
  refine lv_iload hx hb dX0_append_38 (lv_at hl 4 rfl) ?_
  refine q_iast (f := (st (st (st S 8 (cN S) (nI t)) 9 (cN S) (nI r)) 10 (cN S) w) 11) (i := (cN S)) (x := mi) (ws' := (wC ad cI (st (st (st (st S 8 (cN S) (nI t)) 9 (cN S) (nI r)) 10 (cN S) w) 11 (cN S) mi))) hx hb hE hP (wC_D hD) hS 11 rfl (by omega) (Nat.le_of_ble_eq_true rfl) (wC_st_11) dX0_append_40 (fun H locs hP hS => ?_)
  refine lv_aload_n hx hb dX0_append_41 rfl (lv_at hl 0 rfl) ?_
  refine lv_dup hx hb dX0_append_42 rfl ?_
  refine q_get (v := .int (S 7 4)) hx hb hown hE inT_X0 hP 7 rfl rfl 4 (by decide) w_135 rfl dX0_append_43 ?_
  refine q_top (y := nI (cN S)) (I0.N hI) ?_
  refine lv_iconst (v := 1) hx hb dX0_append_46 (by decide) ?_
  refine lv_iadd hx hb dX0_append_47 ?_
  refine q_top (y := nI ((cN S) + 1)) (nI_add (cN S) 1) ?_
  refine q_put (ty0 := tyX0) (ws' := (wC ad cI (st (st (st (st (st S 8 (cN S) (nI t)) 9 (cN S) (nI r)) 10 (cN S) w) 11 (cN S) mi) 7 4 (nI ((cN S) + 1))))) (v := .int (nI ((cN S) + 1))) hx hb hown hE inT_X0 tyX0_ok nmX0 hP (wC_D hD) hS 7 rfl rfl 4 (by decide) w_135 rfl rfl rfl (Nat.le_of_ble_eq_true rfl) rfl dX0_append_48 (fun H locs hP hS => ?_)
  exact e_wretv hx hb hr hlk (by rw [show p_app S t r w mi = st (st (st (st (st S 8 (cN S) (nI t)) 9 (cN S) (nI r)) 10 (cN S) w) 11 (cN S) mi) 7 4 (nI ((cN S) + 1)) from by rfl]; exact hP) hS dX0_append_51

theorem dX4_append_0 : decode cX4_append 0 = .ok (.aload_n 0, 1) := by decide +kernel
theorem dX4_append_1 : decode cX4_append 1 = .ok (.getfield 9, 3) := by decide +kernel
theorem dX4_append_4 : decode cX4_append 4 = .ok (.iload_n 1, 1) := by decide +kernel
theorem dX4_append_5 : decode cX4_append 5 = .ok (.iload_n 2, 1) := by decide +kernel
theorem dX4_append_6 : decode cX4_append 6 = .ok (.invokestatic 18, 3) := by decide +kernel
theorem dX4_append_9 : decode cX4_append 9 = .ok (.iaload, 1) := by decide +kernel
theorem dX4_append_10 : decode cX4_append 10 = .ok (.istore 4, 2) := by decide +kernel
theorem dX4_append_12 : decode cX4_append 12 = .ok (.aload_n 0, 1) := by decide +kernel
theorem dX4_append_13 : decode cX4_append 13 = .ok (.getfield 15, 3) := by decide +kernel
theorem dX4_append_16 : decode cX4_append 16 = .ok (.iload_n 1, 1) := by decide +kernel
theorem dX4_append_17 : decode cX4_append 17 = .ok (.iload_n 2, 1) := by decide +kernel
theorem dX4_append_18 : decode cX4_append 18 = .ok (.iload 4, 2) := by decide +kernel
theorem dX4_append_20 : decode cX4_append 20 = .ok (.invokestatic 22, 3) := by decide +kernel
theorem dX4_append_23 : decode cX4_append 23 = .ok (.iload_n 3, 1) := by decide +kernel
theorem dX4_append_24 : decode cX4_append 24 = .ok (.iastore, 1) := by decide +kernel
theorem dX4_append_25 : decode cX4_append 25 = .ok (.aload_n 0, 1) := by decide +kernel
theorem dX4_append_26 : decode cX4_append 26 = .ok (.getfield 9, 3) := by decide +kernel
theorem dX4_append_29 : decode cX4_append 29 = .ok (.iload_n 1, 1) := by decide +kernel
theorem dX4_append_30 : decode cX4_append 30 = .ok (.iload_n 2, 1) := by decide +kernel
theorem dX4_append_31 : decode cX4_append 31 = .ok (.invokestatic 18, 3) := by decide +kernel
theorem dX4_append_34 : decode cX4_append 34 = .ok (.iload 4, 2) := by decide +kernel
theorem dX4_append_36 : decode cX4_append 36 = .ok (.iconst 1, 1) := by decide +kernel
theorem dX4_append_37 : decode cX4_append 37 = .ok (.iadd, 1) := by decide +kernel
theorem dX4_append_38 : decode cX4_append 38 = .ok (.iastore, 1) := by decide +kernel
theorem dX4_append_39 : decode cX4_append 39 = .ok (.return_, 1) := by decide +kernel
set_option maxHeartbeats 4000000 in
set_option maxRecDepth 100000 in
theorem c_X4_append (l : Launch) (D : va_G) (cI cZ cL : ClassId) (ad : Nat → Nat) (S : Mem) (A : Nat → Prop) (hD : va_D A (wC ad cI S)) (t : Nat) (r : Nat) (x : Int32) (hI : I0 S) (ht : t < 8) (hr : r < 16) (hc : iN (S 13 (t * 16 + r)) < 3) : WR l D cI cZ cL yX4_append cX4_append 5 none 2 [.ref (ad 12), .int (nI t), .int (nI r), .int x] A (wC ad cI S) (wC ad cI (p_sold S t r x)) none := by
  refine WR.of (by decide) (Nat.le_of_ble_eq_true rfl) ?_
  intro p e s m args below meth c ls hx hb hr hml hown hlk hE hP hS hl
  have hl : lv_has ls 5 [(0, .ref (ad 12)), (1, .int (nI t)), (2, .int (nI r)), (3, .int x)] := hl
  refine lv_aload_n hx hb dX4_append_0 rfl (lv_at hl 0 rfl) ?_
  refine q_get (v := .ref (ad 13)) hx hb hown hE inT_X4 hP 12 rfl rfl 0 (by decide) w_154 rfl dX4_append_1 ?_
  refine lv_iload_n hx hb dX4_append_4 rfl (lv_at hl 1 rfl) ?_
  refine lv_iload_n hx hb dX4_append_5 rfl (lv_at hl 2 rfl) ?_
  refine q_rd (q_runSN (rest := [.ref (ad 13)]) hx hb hml hown hE (c_X5_cell l D cI cZ cL _ t r) ck_X5_cell w_549 hP hl.1 rfl ⟨Nat.le_of_ble_eq_true rfl, Nat.le_of_ble_eq_true rfl⟩ (Nat.le_of_ble_eq_true rfl) dX4_append_6 ⟨Nat.le_of_ble_eq_true rfl, Nat.le_of_ble_eq_true rfl⟩) ?_
  refine q_iald (f := S 13) (i := (t * 16 + r)) hx hb hE hP 13 rfl (by omega) (Nat.le_of_ble_eq_true rfl) dX4_append_9 ?_
  refine q_top (y := nI (iN (S 13 (t * 16 + r)))) (hI.bo (by omega)) ?_
  refine lv_istore (lv' := [(4, .int (nI (iN (S 13 (t * 16 + r))))), (0, .ref (ad 12)), (1, .int (nI t)), (2, .int (nI r)), (3, .int x)]) hx hb dX4_append_10 hl (by decide) rfl (fun ls hl => ?_)
  refine lv_aload_n hx hb dX4_append_12 rfl (lv_at hl 1 rfl) ?_
  refine q_get (v := .ref (ad 14)) hx hb hown hE inT_X4 hP 12 rfl rfl 1 (by decide) w_156 rfl dX4_append_13 ?_
  refine lv_iload_n hx hb dX4_append_16 rfl (lv_at hl 2 rfl) ?_
  refine lv_iload_n hx hb dX4_append_17 rfl (lv_at hl 3 rfl) ?_
  refine lv_iload hx hb dX4_append_18 (lv_at hl 0 rfl) ?_
  refine q_rd (q_runSN (rest := [.ref (ad 14)]) hx hb hml hown hE (c_X5_sale l D cI cZ cL _ t r (iN (S 13 (t * 16 + r)))) ck_X5_sale w_555 hP hl.1 rfl ⟨Nat.le_of_ble_eq_true rfl, Nat.le_of_ble_eq_true rfl⟩ (Nat.le_of_ble_eq_true rfl) dX4_append_20 ⟨Nat.le_of_ble_eq_true rfl, Nat.le_of_ble_eq_true rfl⟩) ?_
  refine lv_iload_n hx hb dX4_append_23 rfl (lv_at hl 4 rfl) ?_
  refine q_iast (f := S 14) (i := ((t * 16 + r) * 3 + (iN (S 13 (t * 16 + r))))) (x := x) (ws' := (wC ad cI (st S 14 ((t * 16 + r) * 3 + (iN (S 13 (t * 16 + r)))) x))) hx hb hE hP (wC_D hD) hS 14 rfl (by omega) (Nat.le_of_ble_eq_true rfl) (wC_st_14) dX4_append_24 (fun H locs hP hS => ?_)
  refine lv_aload_n hx hb dX4_append_25 rfl (lv_at hl 1 rfl) ?_
  refine q_get (v := .ref (ad 13)) hx hb hown hE inT_X4 hP 12 rfl rfl 0 (by decide) w_154 rfl dX4_append_26 ?_
  refine lv_iload_n hx hb dX4_append_29 rfl (lv_at hl 2 rfl) ?_
  refine lv_iload_n hx hb dX4_append_30 rfl (lv_at hl 3 rfl) ?_
  refine q_rd (q_runSN (rest := [.ref (ad 13)]) hx hb hml hown hE (c_X5_cell l D cI cZ cL _ t r) ck_X5_cell w_549 hP hl.1 rfl ⟨Nat.le_of_ble_eq_true rfl, Nat.le_of_ble_eq_true rfl⟩ (Nat.le_of_ble_eq_true rfl) dX4_append_31 ⟨Nat.le_of_ble_eq_true rfl, Nat.le_of_ble_eq_true rfl⟩) ?_
  refine lv_iload hx hb dX4_append_34 (lv_at hl 0 rfl) ?_
  refine lv_iconst (v := 1) hx hb dX4_append_36 (by decide) ?_
  refine lv_iadd hx hb dX4_append_37 ?_
  refine q_top (y := nI ((iN (S 13 (t * 16 + r))) + 1)) (nI_add (iN (S 13 (t * 16 + r))) 1) ?_
  refine q_iast (f := (st S 14 ((t * 16 + r) * 3 + (iN (S 13 (t * 16 + r)))) x) 13) (i := (t * 16 + r)) (x := nI ((iN (S 13 (t * 16 + r))) + 1)) (ws' := (wC ad cI (st (st S 14 ((t * 16 + r) * 3 + (iN (S 13 (t * 16 + r)))) x) 13 (t * 16 + r) (nI ((iN (S 13 (t * 16 + r))) + 1))))) hx hb hE hP (wC_D hD) hS 13 rfl (by omega) (Nat.le_of_ble_eq_true rfl) (wC_st_13) dX4_append_38 (fun H locs hP hS => ?_)
  exact e_wretv hx hb hr hlk (by rw [show p_sold S t r x = st (st S 14 ((t * 16 + r) * 3 + (iN (S 13 (t * 16 + r)))) x) 13 (t * 16 + r) (nI ((iN (S 13 (t * 16 + r))) + 1)) from by rfl]; exact hP) hS dX4_append_39

theorem dX1_switchPardon_0 : decode cX1_switchPardon 0 = .ok (.aload_n 0, 1) := by decide +kernel
theorem dX1_switchPardon_1 : decode cX1_switchPardon 1 = .ok (.getfield 15, 3) := by decide +kernel
theorem dX1_switchPardon_4 : decode cX1_switchPardon 4 = .ok (.iload_n 1, 1) := by decide +kernel
theorem dX1_switchPardon_5 : decode cX1_switchPardon 5 = .ok (.dup2, 1) := by decide +kernel
theorem dX1_switchPardon_6 : decode cX1_switchPardon 6 = .ok (.iaload, 1) := by decide +kernel
theorem dX1_switchPardon_7 : decode cX1_switchPardon 7 = .ok (.iload_n 2, 1) := by decide +kernel
theorem dX1_switchPardon_8 : decode cX1_switchPardon 8 = .ok (.invokestatic 22, 3) := by decide +kernel
theorem dX1_switchPardon_11 : decode cX1_switchPardon 11 = .ok (.ixor, 1) := by decide +kernel
theorem dX1_switchPardon_12 : decode cX1_switchPardon 12 = .ok (.iastore, 1) := by decide +kernel
theorem dX1_switchPardon_13 : decode cX1_switchPardon 13 = .ok (.aload_n 0, 1) := by decide +kernel
theorem dX1_switchPardon_14 : decode cX1_switchPardon 14 = .ok (.getfield 15, 3) := by decide +kernel
theorem dX1_switchPardon_17 : decode cX1_switchPardon 17 = .ok (.iload_n 2, 1) := by decide +kernel
theorem dX1_switchPardon_18 : decode cX1_switchPardon 18 = .ok (.dup2, 1) := by decide +kernel
theorem dX1_switchPardon_19 : decode cX1_switchPardon 19 = .ok (.iaload, 1) := by decide +kernel
theorem dX1_switchPardon_20 : decode cX1_switchPardon 20 = .ok (.iload_n 1, 1) := by decide +kernel
theorem dX1_switchPardon_21 : decode cX1_switchPardon 21 = .ok (.invokestatic 22, 3) := by decide +kernel
theorem dX1_switchPardon_24 : decode cX1_switchPardon 24 = .ok (.ixor, 1) := by decide +kernel
theorem dX1_switchPardon_25 : decode cX1_switchPardon 25 = .ok (.iastore, 1) := by decide +kernel
theorem dX1_switchPardon_26 : decode cX1_switchPardon 26 = .ok (.aload_n 0, 1) := by decide +kernel
theorem dX1_switchPardon_27 : decode cX1_switchPardon 27 = .ok (.getfield 15, 3) := by decide +kernel
theorem dX1_switchPardon_30 : decode cX1_switchPardon 30 = .ok (.iload_n 1, 1) := by decide +kernel
theorem dX1_switchPardon_31 : decode cX1_switchPardon 31 = .ok (.iaload, 1) := by decide +kernel
theorem dX1_switchPardon_32 : decode cX1_switchPardon 32 = .ok (.iload_n 2, 1) := by decide +kernel
theorem dX1_switchPardon_33 : decode cX1_switchPardon 33 = .ok (.invokestatic 26, 3) := by decide +kernel
theorem dX1_switchPardon_36 : decode cX1_switchPardon 36 = .ok (.ireturn, 1) := by decide +kernel
set_option maxHeartbeats 4000000 in
set_option maxRecDepth 100000 in
theorem c_X1_switchPardon (l : Launch) (D : va_G) (cI cZ cL : ClassId) (ad : Nat → Nat) (S : Mem) (A : Nat → Prop) (hD : va_D A (wC ad cI S)) (t : Nat) (o : Nat) (ht : t < 8) (ho : o < 8) : WR l D cI cZ cL yX1_switchPardon cX1_switchPardon 3 (some .boolean) 1 [.ref (ad 15), .int (nI t), .int (nI o)] A (wC ad cI S) (wC ad cI (p_swi S t o)) (some (.int (bI (hs (p_swi S t o 17 t) (nI o))))) := by
  refine WR.of (by decide) (Nat.le_of_ble_eq_true rfl) ?_
  intro p e s m args below meth c ls hx hb hr hml hown hlk hE hP hS hl
  have hl : lv_has ls 3 [(0, .ref (ad 15)), (1, .int (nI t)), (2, .int (nI o))] := hl
  refine lv_aload_n hx hb dX1_switchPardon_0 rfl (lv_at hl 0 rfl) ?_
  refine q_get (v := .ref (ad 17)) hx hb hown hE inT_X1 hP 15 rfl rfl 1 (by decide) w_171 rfl dX1_switchPardon_1 ?_
  refine lv_iload_n hx hb dX1_switchPardon_4 rfl (lv_at hl 1 rfl) ?_
  refine lv_dup2_11 hx hb dX1_switchPardon_5 rfl rfl ?_
  refine q_iald (f := S 17) (i := t) hx hb hE hP 17 rfl (by omega) (Nat.le_of_ble_eq_true rfl) dX1_switchPardon_6 ?_
  refine lv_iload_n hx hb dX1_switchPardon_7 rfl (lv_at hl 2 rfl) ?_
  refine q_rd (q_runSN (rest := [.int (S 17 t), .int (nI t), .ref (ad 17)]) hx hb hml hown hE (c_X5_bit l D cI cZ cL _ (nI o)) ck_X5_bit w_620 hP hl.1 rfl ⟨Nat.le_of_ble_eq_true rfl, Nat.le_of_ble_eq_true rfl⟩ (Nat.le_of_ble_eq_true rfl) dX1_switchPardon_8 ⟨Nat.le_of_ble_eq_true rfl, Nat.le_of_ble_eq_true rfl⟩) ?_
  refine lv_ixor hx hb dX1_switchPardon_11 ?_
  refine q_iast (f := S 17) (i := t) (x := (S 17 t) ^^^ (bt (nI o))) (ws' := (wC ad cI (st S 17 t ((S 17 t) ^^^ (bt (nI o)))))) hx hb hE hP (wC_D hD) hS 17 rfl (by omega) (Nat.le_of_ble_eq_true rfl) (wC_st_17) dX1_switchPardon_12 (fun H locs hP hS => ?_)
  refine lv_aload_n hx hb dX1_switchPardon_13 rfl (lv_at hl 0 rfl) ?_
  refine q_get (v := .ref (ad 17)) hx hb hown hE inT_X1 hP 15 rfl rfl 1 (by decide) w_171 rfl dX1_switchPardon_14 ?_
  refine lv_iload_n hx hb dX1_switchPardon_17 rfl (lv_at hl 2 rfl) ?_
  refine lv_dup2_11 hx hb dX1_switchPardon_18 rfl rfl ?_
  refine q_iald (f := (st S 17 t ((S 17 t) ^^^ (bt (nI o)))) 17) (i := o) hx hb hE hP 17 rfl (by omega) (Nat.le_of_ble_eq_true rfl) dX1_switchPardon_19 ?_
  refine lv_iload_n hx hb dX1_switchPardon_20 rfl (lv_at hl 1 rfl) ?_
  refine q_rd (q_runSN (rest := [.int ((st S 17 t ((S 17 t) ^^^ (bt (nI o)))) 17 o), .int (nI o), .ref (ad 17)]) hx hb hml hown hE (c_X5_bit l D cI cZ cL _ (nI t)) ck_X5_bit w_620 hP hl.1 rfl ⟨Nat.le_of_ble_eq_true rfl, Nat.le_of_ble_eq_true rfl⟩ (Nat.le_of_ble_eq_true rfl) dX1_switchPardon_21 ⟨Nat.le_of_ble_eq_true rfl, Nat.le_of_ble_eq_true rfl⟩) ?_
  refine lv_ixor hx hb dX1_switchPardon_24 ?_
  refine q_iast (f := (st S 17 t ((S 17 t) ^^^ (bt (nI o)))) 17) (i := o) (x := ((st S 17 t ((S 17 t) ^^^ (bt (nI o)))) 17 o) ^^^ (bt (nI t))) (ws' := (wC ad cI (st (st S 17 t ((S 17 t) ^^^ (bt (nI o)))) 17 o (((st S 17 t ((S 17 t) ^^^ (bt (nI o)))) 17 o) ^^^ (bt (nI t)))))) hx hb hE hP (wC_D hD) hS 17 rfl (by omega) (Nat.le_of_ble_eq_true rfl) (wC_st_17) dX1_switchPardon_25 (fun H locs hP hS => ?_)
  refine lv_aload_n hx hb dX1_switchPardon_26 rfl (lv_at hl 0 rfl) ?_
  refine q_get (v := .ref (ad 17)) hx hb hown hE inT_X1 hP 15 rfl rfl 1 (by decide) w_171 rfl dX1_switchPardon_27 ?_
  refine lv_iload_n hx hb dX1_switchPardon_30 rfl (lv_at hl 1 rfl) ?_
  refine q_iald (f := (st (st S 17 t ((S 17 t) ^^^ (bt (nI o)))) 17 o (((st S 17 t ((S 17 t) ^^^ (bt (nI o)))) 17 o) ^^^ (bt (nI t)))) 17) (i := t) hx hb hE hP 17 rfl (by omega) (Nat.le_of_ble_eq_true rfl) dX1_switchPardon_31 ?_
  refine lv_iload_n hx hb dX1_switchPardon_32 rfl (lv_at hl 2 rfl) ?_
  refine q_rd (q_runSN (rest := []) hx hb hml hown hE (c_X5_has l D cI cZ cL _ ((st (st S 17 t ((S 17 t) ^^^ (bt (nI o)))) 17 o (((st S 17 t ((S 17 t) ^^^ (bt (nI o)))) 17 o) ^^^ (bt (nI t)))) 17 t) (nI o)) ck_X5_has w_280 hP hl.1 rfl ⟨Nat.le_of_ble_eq_true rfl, Nat.le_of_ble_eq_true rfl⟩ (Nat.le_of_ble_eq_true rfl) dX1_switchPardon_33 ⟨Nat.le_of_ble_eq_true rfl, Nat.le_of_ble_eq_true rfl⟩) ?_
  refine q_top (y := bI (hs (p_swi S t o 17 t) (nI o))) (by rfl) ?_
  exact e_wret hx hb hr hlk (n_bI _) (by rw [show p_swi S t o = st (st S 17 t ((S 17 t) ^^^ (bt (nI o)))) 17 o (((st S 17 t ((S 17 t) ^^^ (bt (nI o)))) 17 o) ^^^ (bt (nI t))) from by rfl]; exact hP) hS dX1_switchPardon_36

theorem dX2_solve_0 : decode cX2_solve 0 = .ok (.aload_n 0, 1) := by decide +kernel
theorem dX2_solve_1 : decode cX2_solve 1 = .ok (.getfield 9, 3) := by decide +kernel
theorem dX2_solve_4 : decode cX2_solve 4 = .ok (.iload_n 1, 1) := by decide +kernel
theorem dX2_solve_5 : decode cX2_solve 5 = .ok (.dup2, 1) := by decide +kernel
theorem dX2_solve_6 : decode cX2_solve 6 = .ok (.iaload, 1) := by decide +kernel
theorem dX2_solve_7 : decode cX2_solve 7 = .ok (.iload_n 2, 1) := by decide +kernel
theorem dX2_solve_8 : decode cX2_solve 8 = .ok (.invokestatic 36, 3) := by decide +kernel
theorem dX2_solve_11 : decode cX2_solve 11 = .ok (.ior, 1) := by decide +kernel
theorem dX2_solve_12 : decode cX2_solve 12 = .ok (.iastore, 1) := by decide +kernel
theorem dX2_solve_13 : decode cX2_solve 13 = .ok (.aload_n 0, 1) := by decide +kernel
theorem dX2_solve_14 : decode cX2_solve 14 = .ok (.getfield 18, 3) := by decide +kernel
theorem dX2_solve_17 : decode cX2_solve 17 = .ok (.iload_n 1, 1) := by decide +kernel
theorem dX2_solve_18 : decode cX2_solve 18 = .ok (.iload_n 2, 1) := by decide +kernel
theorem dX2_solve_19 : decode cX2_solve 19 = .ok (.invokestatic 40, 3) := by decide +kernel
theorem dX2_solve_22 : decode cX2_solve 22 = .ok (.iload_n 3, 1) := by decide +kernel
theorem dX2_solve_23 : decode cX2_solve 23 = .ok (.iastore, 1) := by decide +kernel
theorem dX2_solve_24 : decode cX2_solve 24 = .ok (.iload 4, 2) := by decide +kernel
theorem dX2_solve_26 : decode cX2_solve 26 = .ok (.ifCond .eq 16, 3) := by decide +kernel
theorem dX2_solve_29 : decode cX2_solve 29 = .ok (.aload_n 0, 1) := by decide +kernel
theorem dX2_solve_30 : decode cX2_solve 30 = .ok (.getfield 15, 3) := by decide +kernel
theorem dX2_solve_33 : decode cX2_solve 33 = .ok (.iload_n 1, 1) := by decide +kernel
theorem dX2_solve_34 : decode cX2_solve 34 = .ok (.dup2, 1) := by decide +kernel
theorem dX2_solve_35 : decode cX2_solve 35 = .ok (.iaload, 1) := by decide +kernel
theorem dX2_solve_36 : decode cX2_solve 36 = .ok (.iload_n 2, 1) := by decide +kernel
theorem dX2_solve_37 : decode cX2_solve 37 = .ok (.invokestatic 36, 3) := by decide +kernel
theorem dX2_solve_40 : decode cX2_solve 40 = .ok (.ior, 1) := by decide +kernel
theorem dX2_solve_41 : decode cX2_solve 41 = .ok (.iastore, 1) := by decide +kernel
theorem dX2_solve_42 : decode cX2_solve 42 = .ok (.return_, 1) := by decide +kernel
set_option maxHeartbeats 4000000 in
set_option maxRecDepth 100000 in
theorem c_X2_solve_18 (l : Launch) (D : va_G) (cI cZ cL : ClassId) (ad : Nat → Nat) (S : Mem) (A : Nat → Prop) (hD : va_D A (wC ad cI S)) (t : Nat) (r : Nat) (mi : Int32) (soon : Bool) (ht : t < 8) (hr : r < 16) : WR l D cI cZ cL yX2_solve cX2_solve 5 none 1 [.ref (ad 18), .int (nI t), .int (nI r), .int mi, .int (bI soon)] A (wC ad cI S) (wC ad cI (p_solve S 18 t r mi soon)) none := by
  refine WR.of (by decide) (Nat.le_of_ble_eq_true rfl) ?_
  intro p e s m args below meth c ls hx hb hr hml hown hlk hE hP hS hl
  have hl : lv_has ls 5 [(0, .ref (ad 18)), (1, .int (nI t)), (2, .int (nI r)), (3, .int mi), (4, .int (bI soon))] := hl
  refine lv_aload_n hx hb dX2_solve_0 rfl (lv_at hl 0 rfl) ?_
  refine q_get (v := .ref (ad 19)) hx hb hown hE inT_X2 hP 18 rfl rfl 0 (by decide) w_187 rfl dX2_solve_1 ?_
  refine lv_iload_n hx hb dX2_solve_4 rfl (lv_at hl 1 rfl) ?_
  refine lv_dup2_11 hx hb dX2_solve_5 rfl rfl ?_
  refine q_iald (f := S 19) (i := t) hx hb hE hP 19 rfl (by omega) (Nat.le_of_ble_eq_true rfl) dX2_solve_6 ?_
  refine lv_iload_n hx hb dX2_solve_7 rfl (lv_at hl 2 rfl) ?_
  refine q_rd (q_runSN (rest := [.int (S 19 t), .int (nI t), .ref (ad 19)]) hx hb hml hown hE (c_X5_bit l D cI cZ cL _ (nI r)) ck_X5_bit w_510 hP hl.1 rfl ⟨Nat.le_of_ble_eq_true rfl, Nat.le_of_ble_eq_true rfl⟩ (Nat.le_of_ble_eq_true rfl) dX2_solve_8 ⟨Nat.le_of_ble_eq_true rfl, Nat.le_of_ble_eq_true rfl⟩) ?_
  refine lv_ior hx hb dX2_solve_11 ?_
  refine q_iast (f := S 19) (i := t) (x := (S 19 t) ||| (bt (nI r))) (ws' := (wC ad cI (st S 19 t ((S 19 t) ||| (bt (nI r)))))) hx hb hE hP (wC_D hD) hS 19 rfl (by omega) (Nat.le_of_ble_eq_true rfl) (wC_st_19) dX2_solve_12 (fun H locs hP hS => ?_)
  refine lv_aload_n hx hb dX2_solve_13 rfl (lv_at hl 0 rfl) ?_
  refine q_get (v := .ref (ad 21)) hx hb hown hE inT_X2 hP 18 rfl rfl 2 (by decide) w_191 rfl dX2_solve_14 ?_
  refine lv_iload_n hx hb dX2_solve_17 rfl (lv_at hl 1 rfl) ?_
  refine lv_iload_n hx hb dX2_solve_18 rfl (lv_at hl 2 rfl) ?_
  refine q_rd (q_runSN (rest := [.ref (ad 21)]) hx hb hml hown hE (c_X5_cell l D cI cZ cL _ t r) ck_X5_cell w_307 hP hl.1 rfl ⟨Nat.le_of_ble_eq_true rfl, Nat.le_of_ble_eq_true rfl⟩ (Nat.le_of_ble_eq_true rfl) dX2_solve_19 ⟨Nat.le_of_ble_eq_true rfl, Nat.le_of_ble_eq_true rfl⟩) ?_
  refine lv_iload_n hx hb dX2_solve_22 rfl (lv_at hl 3 rfl) ?_
  refine q_iast (f := (st S 19 t ((S 19 t) ||| (bt (nI r)))) 21) (i := (t * 16 + r)) (x := mi) (ws' := (wC ad cI (st (st S 19 t ((S 19 t) ||| (bt (nI r)))) 21 (t * 16 + r) mi))) hx hb hE hP (wC_D hD) hS 21 rfl (by omega) (Nat.le_of_ble_eq_true rfl) (wC_st_21) dX2_solve_23 (fun H locs hP hS => ?_)
  refine lv_iload hx hb dX2_solve_24 (lv_at hl 4 rfl) ?_
  refine lv_if_eq (tgt := 42) hx hb dX2_solve_26 (by decide) (fun c_1 => ?_) (fun c_1 => ?_)
  · skip
    have c_1 : soon = false := b_f c_1
    exact e_wretv hx hb hr hlk (by rw [show p_solve S 18 t r mi soon = st (st S 19 t ((S 19 t) ||| (bt (nI r)))) 21 (t * 16 + r) mi from by first | (simp only [bI, p_solve, c_1, ↓reduceIte]; done) | (simp [bI, p_solve, c_1]; done) | (simp_all [bI, p_solve]; done)]; exact hP) hS dX2_solve_42
  · skip
    have c_1 : soon = true := b_t c_1
    refine lv_aload_n hx hb dX2_solve_29 rfl (lv_at hl 0 rfl) ?_
    refine q_get (v := .ref (ad 20)) hx hb hown hE inT_X2 hP 18 rfl rfl 1 (by decide) w_189 rfl dX2_solve_30 ?_
    refine lv_iload_n hx hb dX2_solve_33 rfl (lv_at hl 1 rfl) ?_
    refine lv_dup2_11 hx hb dX2_solve_34 rfl rfl ?_
    refine q_iald (f := S 20) (i := t) hx hb hE hP 20 rfl (by omega) (Nat.le_of_ble_eq_true rfl) dX2_solve_35 ?_
    refine lv_iload_n hx hb dX2_solve_36 rfl (lv_at hl 2 rfl) ?_
    refine q_rd (q_runSN (rest := [.int (S 20 t), .int (nI t), .ref (ad 20)]) hx hb hml hown hE (c_X5_bit l D cI cZ cL _ (nI r)) ck_X5_bit w_510 hP hl.1 rfl ⟨Nat.le_of_ble_eq_true rfl, Nat.le_of_ble_eq_true rfl⟩ (Nat.le_of_ble_eq_true rfl) dX2_solve_37 ⟨Nat.le_of_ble_eq_true rfl, Nat.le_of_ble_eq_true rfl⟩) ?_
    refine lv_ior hx hb dX2_solve_40 ?_
    refine q_iast (f := (st (st S 19 t ((S 19 t) ||| (bt (nI r)))) 21 (t * 16 + r) mi) 20) (i := t) (x := (S 20 t) ||| (bt (nI r))) (ws' := (wC ad cI (st (st (st S 19 t ((S 19 t) ||| (bt (nI r)))) 21 (t * 16 + r) mi) 20 t ((S 20 t) ||| (bt (nI r)))))) hx hb hE hP (wC_D hD) hS 20 rfl (by omega) (Nat.le_of_ble_eq_true rfl) (wC_st_20) dX2_solve_41 (fun H locs hP hS => ?_)
    exact e_wretv hx hb hr hlk (by rw [show p_solve S 18 t r mi soon = st (st (st S 19 t ((S 19 t) ||| (bt (nI r)))) 21 (t * 16 + r) mi) 20 t ((S 20 t) ||| (bt (nI r))) from by first | (simp only [bI, p_solve, c_1, ↓reduceIte]; done) | (simp [bI, p_solve, c_1]; done) | (simp_all [bI, p_solve]; done)]; exact hP) hS dX2_solve_42

theorem dX2_pay_0 : decode cX2_pay 0 = .ok (.aload_n 0, 1) := by decide +kernel
theorem dX2_pay_1 : decode cX2_pay 1 = .ok (.getfield 21, 3) := by decide +kernel
theorem dX2_pay_4 : decode cX2_pay 4 = .ok (.iload_n 1, 1) := by decide +kernel
theorem dX2_pay_5 : decode cX2_pay 5 = .ok (.iload_n 2, 1) := by decide +kernel
theorem dX2_pay_6 : decode cX2_pay 6 = .ok (.invokestatic 40, 3) := by decide +kernel
theorem dX2_pay_9 : decode cX2_pay 9 = .ok (.dup2, 1) := by decide +kernel
theorem dX2_pay_10 : decode cX2_pay 10 = .ok (.iaload, 1) := by decide +kernel
theorem dX2_pay_11 : decode cX2_pay 11 = .ok (.iload_n 3, 1) := by decide +kernel
theorem dX2_pay_12 : decode cX2_pay 12 = .ok (.iadd, 1) := by decide +kernel
theorem dX2_pay_13 : decode cX2_pay 13 = .ok (.iastore, 1) := by decide +kernel
theorem dX2_pay_14 : decode cX2_pay 14 = .ok (.return_, 1) := by decide +kernel
set_option maxHeartbeats 4000000 in
set_option maxRecDepth 100000 in
theorem c_X2_pay_18 (l : Launch) (D : va_G) (cI cZ cL : ClassId) (ad : Nat → Nat) (S : Mem) (A : Nat → Prop) (hD : va_D A (wC ad cI S)) (t : Nat) (r : Nat) (x : Int32) (ht : t < 8) (hr : r < 16) : WR l D cI cZ cL yX2_pay cX2_pay 4 none 1 [.ref (ad 18), .int (nI t), .int (nI r), .int x] A (wC ad cI S) (wC ad cI (p_pay S 18 t r x)) none := by
  refine WR.of (by decide) (Nat.le_of_ble_eq_true rfl) ?_
  intro p e s m args below meth c ls hx hb hr hml hown hlk hE hP hS hl
  have hl : lv_has ls 4 [(0, .ref (ad 18)), (1, .int (nI t)), (2, .int (nI r)), (3, .int x)] := hl
  refine lv_aload_n hx hb dX2_pay_0 rfl (lv_at hl 0 rfl) ?_
  refine q_get (v := .ref (ad 22)) hx hb hown hE inT_X2 hP 18 rfl rfl 3 (by decide) w_193 rfl dX2_pay_1 ?_
  refine lv_iload_n hx hb dX2_pay_4 rfl (lv_at hl 1 rfl) ?_
  refine lv_iload_n hx hb dX2_pay_5 rfl (lv_at hl 2 rfl) ?_
  refine q_rd (q_runSN (rest := [.ref (ad 22)]) hx hb hml hown hE (c_X5_cell l D cI cZ cL _ t r) ck_X5_cell w_307 hP hl.1 rfl ⟨Nat.le_of_ble_eq_true rfl, Nat.le_of_ble_eq_true rfl⟩ (Nat.le_of_ble_eq_true rfl) dX2_pay_6 ⟨Nat.le_of_ble_eq_true rfl, Nat.le_of_ble_eq_true rfl⟩) ?_
  refine lv_dup2_11 hx hb dX2_pay_9 rfl rfl ?_
  refine q_iald (f := S 22) (i := (t * 16 + r)) hx hb hE hP 22 rfl (by omega) (Nat.le_of_ble_eq_true rfl) dX2_pay_10 ?_
  refine lv_iload_n hx hb dX2_pay_11 rfl (lv_at hl 3 rfl) ?_
  refine lv_iadd hx hb dX2_pay_12 ?_
  refine q_iast (f := S 22) (i := (t * 16 + r)) (x := (S 22 (t * 16 + r)) + x) (ws' := (wC ad cI (st S 22 (t * 16 + r) ((S 22 (t * 16 + r)) + x)))) hx hb hE hP (wC_D hD) hS 22 rfl (by omega) (Nat.le_of_ble_eq_true rfl) (wC_st_22) dX2_pay_13 (fun H locs hP hS => ?_)
  exact e_wretv hx hb hr hlk (by rw [show p_pay S 18 t r x = st S 22 (t * 16 + r) ((S 22 (t * 16 + r)) + x) from by rfl]; exact hP) hS dX2_pay_14

theorem dX2_noteCommon_0 : decode cX2_noteCommon 0 = .ok (.aload_n 0, 1) := by decide +kernel
theorem dX2_noteCommon_1 : decode cX2_noteCommon 1 = .ok (.getfield 24, 3) := by decide +kernel
theorem dX2_noteCommon_4 : decode cX2_noteCommon 4 = .ok (.iload_n 1, 1) := by decide +kernel
theorem dX2_noteCommon_5 : decode cX2_noteCommon 5 = .ok (.iload_n 2, 1) := by decide +kernel
theorem dX2_noteCommon_6 : decode cX2_noteCommon 6 = .ok (.invokestatic 44, 3) := by decide +kernel
theorem dX2_noteCommon_9 : decode cX2_noteCommon 9 = .ok (.dup2, 1) := by decide +kernel
theorem dX2_noteCommon_10 : decode cX2_noteCommon 10 = .ok (.iaload, 1) := by decide +kernel
theorem dX2_noteCommon_11 : decode cX2_noteCommon 11 = .ok (.iconst 1, 1) := by decide +kernel
theorem dX2_noteCommon_12 : decode cX2_noteCommon 12 = .ok (.iadd, 1) := by decide +kernel
theorem dX2_noteCommon_13 : decode cX2_noteCommon 13 = .ok (.iastore, 1) := by decide +kernel
theorem dX2_noteCommon_14 : decode cX2_noteCommon 14 = .ok (.aload_n 0, 1) := by decide +kernel
theorem dX2_noteCommon_15 : decode cX2_noteCommon 15 = .ok (.getfield 24, 3) := by decide +kernel
theorem dX2_noteCommon_18 : decode cX2_noteCommon 18 = .ok (.iload_n 2, 1) := by decide +kernel
theorem dX2_noteCommon_19 : decode cX2_noteCommon 19 = .ok (.iload_n 1, 1) := by decide +kernel
theorem dX2_noteCommon_20 : decode cX2_noteCommon 20 = .ok (.invokestatic 44, 3) := by decide +kernel
theorem dX2_noteCommon_23 : decode cX2_noteCommon 23 = .ok (.dup2, 1) := by decide +kernel
theorem dX2_noteCommon_24 : decode cX2_noteCommon 24 = .ok (.iaload, 1) := by decide +kernel
theorem dX2_noteCommon_25 : decode cX2_noteCommon 25 = .ok (.iconst 1, 1) := by decide +kernel
theorem dX2_noteCommon_26 : decode cX2_noteCommon 26 = .ok (.iadd, 1) := by decide +kernel
theorem dX2_noteCommon_27 : decode cX2_noteCommon 27 = .ok (.iastore, 1) := by decide +kernel
theorem dX2_noteCommon_28 : decode cX2_noteCommon 28 = .ok (.aload_n 0, 1) := by decide +kernel
theorem dX2_noteCommon_29 : decode cX2_noteCommon 29 = .ok (.getfield 27, 3) := by decide +kernel
theorem dX2_noteCommon_32 : decode cX2_noteCommon 32 = .ok (.iload_n 1, 1) := by decide +kernel
theorem dX2_noteCommon_33 : decode cX2_noteCommon 33 = .ok (.iload_n 2, 1) := by decide +kernel
theorem dX2_noteCommon_34 : decode cX2_noteCommon 34 = .ok (.invokestatic 44, 3) := by decide +kernel
theorem dX2_noteCommon_37 : decode cX2_noteCommon 37 = .ok (.dup2, 1) := by decide +kernel
theorem dX2_noteCommon_38 : decode cX2_noteCommon 38 = .ok (.iaload, 1) := by decide +kernel
theorem dX2_noteCommon_39 : decode cX2_noteCommon 39 = .ok (.iload_n 3, 1) := by decide +kernel
theorem dX2_noteCommon_40 : decode cX2_noteCommon 40 = .ok (.invokestatic 36, 3) := by decide +kernel
theorem dX2_noteCommon_43 : decode cX2_noteCommon 43 = .ok (.ior, 1) := by decide +kernel
theorem dX2_noteCommon_44 : decode cX2_noteCommon 44 = .ok (.iastore, 1) := by decide +kernel
theorem dX2_noteCommon_45 : decode cX2_noteCommon 45 = .ok (.aload_n 0, 1) := by decide +kernel
theorem dX2_noteCommon_46 : decode cX2_noteCommon 46 = .ok (.getfield 27, 3) := by decide +kernel
theorem dX2_noteCommon_49 : decode cX2_noteCommon 49 = .ok (.iload_n 2, 1) := by decide +kernel
theorem dX2_noteCommon_50 : decode cX2_noteCommon 50 = .ok (.iload_n 1, 1) := by decide +kernel
theorem dX2_noteCommon_51 : decode cX2_noteCommon 51 = .ok (.invokestatic 44, 3) := by decide +kernel
theorem dX2_noteCommon_54 : decode cX2_noteCommon 54 = .ok (.dup2, 1) := by decide +kernel
theorem dX2_noteCommon_55 : decode cX2_noteCommon 55 = .ok (.iaload, 1) := by decide +kernel
theorem dX2_noteCommon_56 : decode cX2_noteCommon 56 = .ok (.iload_n 3, 1) := by decide +kernel
theorem dX2_noteCommon_57 : decode cX2_noteCommon 57 = .ok (.invokestatic 36, 3) := by decide +kernel
theorem dX2_noteCommon_60 : decode cX2_noteCommon 60 = .ok (.ior, 1) := by decide +kernel
theorem dX2_noteCommon_61 : decode cX2_noteCommon 61 = .ok (.iastore, 1) := by decide +kernel
theorem dX2_noteCommon_62 : decode cX2_noteCommon 62 = .ok (.return_, 1) := by decide +kernel
set_option maxHeartbeats 4000000 in
set_option maxRecDepth 100000 in
theorem c_X2_noteCommon_18 (l : Launch) (D : va_G) (cI cZ cL : ClassId) (ad : Nat → Nat) (S : Mem) (A : Nat → Prop) (hD : va_D A (wC ad cI S)) (t : Nat) (o : Nat) (r : Nat) (ht : t < 8) (ho : o < 8) : WR l D cI cZ cL yX2_noteCommon cX2_noteCommon 4 none 1 [.ref (ad 18), .int (nI t), .int (nI o), .int (nI r)] A (wC ad cI S) (wC ad cI (p_common S 18 t o r)) none := by
  refine WR.of (by decide) (Nat.le_of_ble_eq_true rfl) ?_
  intro p e s m args below meth c ls hx hb hr hml hown hlk hE hP hS hl
  have hl : lv_has ls 4 [(0, .ref (ad 18)), (1, .int (nI t)), (2, .int (nI o)), (3, .int (nI r))] := hl
  refine lv_aload_n hx hb dX2_noteCommon_0 rfl (lv_at hl 0 rfl) ?_
  refine q_get (v := .ref (ad 23)) hx hb hown hE inT_X2 hP 18 rfl rfl 4 (by decide) w_195 rfl dX2_noteCommon_1 ?_
  refine lv_iload_n hx hb dX2_noteCommon_4 rfl (lv_at hl 1 rfl) ?_
  refine lv_iload_n hx hb dX2_noteCommon_5 rfl (lv_at hl 2 rfl) ?_
  refine q_rd (q_runSN (rest := [.ref (ad 23)]) hx hb hml hown hE (c_X5_pair l D cI cZ cL _ t o) ck_X5_pair w_524 hP hl.1 rfl ⟨Nat.le_of_ble_eq_true rfl, Nat.le_of_ble_eq_true rfl⟩ (Nat.le_of_ble_eq_true rfl) dX2_noteCommon_6 ⟨Nat.le_of_ble_eq_true rfl, Nat.le_of_ble_eq_true rfl⟩) ?_
  refine lv_dup2_11 hx hb dX2_noteCommon_9 rfl rfl ?_
  refine q_iald (f := S 23) (i := (t * 8 + o)) hx hb hE hP 23 rfl (by omega) (Nat.le_of_ble_eq_true rfl) dX2_noteCommon_10 ?_
  refine lv_iconst (v := 1) hx hb dX2_noteCommon_11 (by decide) ?_
  refine lv_iadd hx hb dX2_noteCommon_12 ?_
  refine q_iast (f := S 23) (i := (t * 8 + o)) (x := (S 23 (t * 8 + o)) + 1) (ws' := (wC ad cI (st S 23 (t * 8 + o) ((S 23 (t * 8 + o)) + 1)))) hx hb hE hP (wC_D hD) hS 23 rfl (by omega) (Nat.le_of_ble_eq_true rfl) (wC_st_23) dX2_noteCommon_13 (fun H locs hP hS => ?_)
  refine lv_aload_n hx hb dX2_noteCommon_14 rfl (lv_at hl 0 rfl) ?_
  refine q_get (v := .ref (ad 23)) hx hb hown hE inT_X2 hP 18 rfl rfl 4 (by decide) w_195 rfl dX2_noteCommon_15 ?_
  refine lv_iload_n hx hb dX2_noteCommon_18 rfl (lv_at hl 2 rfl) ?_
  refine lv_iload_n hx hb dX2_noteCommon_19 rfl (lv_at hl 1 rfl) ?_
  refine q_rd (q_runSN (rest := [.ref (ad 23)]) hx hb hml hown hE (c_X5_pair l D cI cZ cL _ o t) ck_X5_pair w_524 hP hl.1 rfl ⟨Nat.le_of_ble_eq_true rfl, Nat.le_of_ble_eq_true rfl⟩ (Nat.le_of_ble_eq_true rfl) dX2_noteCommon_20 ⟨Nat.le_of_ble_eq_true rfl, Nat.le_of_ble_eq_true rfl⟩) ?_
  refine lv_dup2_11 hx hb dX2_noteCommon_23 rfl rfl ?_
  refine q_iald (f := (st S 23 (t * 8 + o) ((S 23 (t * 8 + o)) + 1)) 23) (i := (o * 8 + t)) hx hb hE hP 23 rfl (by omega) (Nat.le_of_ble_eq_true rfl) dX2_noteCommon_24 ?_
  refine lv_iconst (v := 1) hx hb dX2_noteCommon_25 (by decide) ?_
  refine lv_iadd hx hb dX2_noteCommon_26 ?_
  refine q_iast (f := (st S 23 (t * 8 + o) ((S 23 (t * 8 + o)) + 1)) 23) (i := (o * 8 + t)) (x := ((st S 23 (t * 8 + o) ((S 23 (t * 8 + o)) + 1)) 23 (o * 8 + t)) + 1) (ws' := (wC ad cI (st (st S 23 (t * 8 + o) ((S 23 (t * 8 + o)) + 1)) 23 (o * 8 + t) (((st S 23 (t * 8 + o) ((S 23 (t * 8 + o)) + 1)) 23 (o * 8 + t)) + 1)))) hx hb hE hP (wC_D hD) hS 23 rfl (by omega) (Nat.le_of_ble_eq_true rfl) (wC_st_23) dX2_noteCommon_27 (fun H locs hP hS => ?_)
  refine lv_aload_n hx hb dX2_noteCommon_28 rfl (lv_at hl 0 rfl) ?_
  refine q_get (v := .ref (ad 24)) hx hb hown hE inT_X2 hP 18 rfl rfl 5 (by decide) w_197 rfl dX2_noteCommon_29 ?_
  refine lv_iload_n hx hb dX2_noteCommon_32 rfl (lv_at hl 1 rfl) ?_
  refine lv_iload_n hx hb dX2_noteCommon_33 rfl (lv_at hl 2 rfl) ?_
  refine q_rd (q_runSN (rest := [.ref (ad 24)]) hx hb hml hown hE (c_X5_pair l D cI cZ cL _ t o) ck_X5_pair w_524 hP hl.1 rfl ⟨Nat.le_of_ble_eq_true rfl, Nat.le_of_ble_eq_true rfl⟩ (Nat.le_of_ble_eq_true rfl) dX2_noteCommon_34 ⟨Nat.le_of_ble_eq_true rfl, Nat.le_of_ble_eq_true rfl⟩) ?_
  refine lv_dup2_11 hx hb dX2_noteCommon_37 rfl rfl ?_
  refine q_iald (f := S 24) (i := (t * 8 + o)) hx hb hE hP 24 rfl (by omega) (Nat.le_of_ble_eq_true rfl) dX2_noteCommon_38 ?_
  refine lv_iload_n hx hb dX2_noteCommon_39 rfl (lv_at hl 3 rfl) ?_
  refine q_rd (q_runSN (rest := [.int (S 24 (t * 8 + o)), .int (nI (t * 8 + o)), .ref (ad 24)]) hx hb hml hown hE (c_X5_bit l D cI cZ cL _ (nI r)) ck_X5_bit w_510 hP hl.1 rfl ⟨Nat.le_of_ble_eq_true rfl, Nat.le_of_ble_eq_true rfl⟩ (Nat.le_of_ble_eq_true rfl) dX2_noteCommon_40 ⟨Nat.le_of_ble_eq_true rfl, Nat.le_of_ble_eq_true rfl⟩) ?_
  refine lv_ior hx hb dX2_noteCommon_43 ?_
  refine q_iast (f := (st (st S 23 (t * 8 + o) ((S 23 (t * 8 + o)) + 1)) 23 (o * 8 + t) (((st S 23 (t * 8 + o) ((S 23 (t * 8 + o)) + 1)) 23 (o * 8 + t)) + 1)) 24) (i := (t * 8 + o)) (x := (S 24 (t * 8 + o)) ||| (bt (nI r))) (ws' := (wC ad cI (st (st (st S 23 (t * 8 + o) ((S 23 (t * 8 + o)) + 1)) 23 (o * 8 + t) (((st S 23 (t * 8 + o) ((S 23 (t * 8 + o)) + 1)) 23 (o * 8 + t)) + 1)) 24 (t * 8 + o) ((S 24 (t * 8 + o)) ||| (bt (nI r)))))) hx hb hE hP (wC_D hD) hS 24 rfl (by omega) (Nat.le_of_ble_eq_true rfl) (wC_st_24) dX2_noteCommon_44 (fun H locs hP hS => ?_)
  refine lv_aload_n hx hb dX2_noteCommon_45 rfl (lv_at hl 0 rfl) ?_
  refine q_get (v := .ref (ad 24)) hx hb hown hE inT_X2 hP 18 rfl rfl 5 (by decide) w_197 rfl dX2_noteCommon_46 ?_
  refine lv_iload_n hx hb dX2_noteCommon_49 rfl (lv_at hl 2 rfl) ?_
  refine lv_iload_n hx hb dX2_noteCommon_50 rfl (lv_at hl 1 rfl) ?_
  refine q_rd (q_runSN (rest := [.ref (ad 24)]) hx hb hml hown hE (c_X5_pair l D cI cZ cL _ o t) ck_X5_pair w_524 hP hl.1 rfl ⟨Nat.le_of_ble_eq_true rfl, Nat.le_of_ble_eq_true rfl⟩ (Nat.le_of_ble_eq_true rfl) dX2_noteCommon_51 ⟨Nat.le_of_ble_eq_true rfl, Nat.le_of_ble_eq_true rfl⟩) ?_
  refine lv_dup2_11 hx hb dX2_noteCommon_54 rfl rfl ?_
  refine q_iald (f := (st (st (st S 23 (t * 8 + o) ((S 23 (t * 8 + o)) + 1)) 23 (o * 8 + t) (((st S 23 (t * 8 + o) ((S 23 (t * 8 + o)) + 1)) 23 (o * 8 + t)) + 1)) 24 (t * 8 + o) ((S 24 (t * 8 + o)) ||| (bt (nI r)))) 24) (i := (o * 8 + t)) hx hb hE hP 24 rfl (by omega) (Nat.le_of_ble_eq_true rfl) dX2_noteCommon_55 ?_
  refine lv_iload_n hx hb dX2_noteCommon_56 rfl (lv_at hl 3 rfl) ?_
  refine q_rd (q_runSN (rest := [.int ((st (st (st S 23 (t * 8 + o) ((S 23 (t * 8 + o)) + 1)) 23 (o * 8 + t) (((st S 23 (t * 8 + o) ((S 23 (t * 8 + o)) + 1)) 23 (o * 8 + t)) + 1)) 24 (t * 8 + o) ((S 24 (t * 8 + o)) ||| (bt (nI r)))) 24 (o * 8 + t)), .int (nI (o * 8 + t)), .ref (ad 24)]) hx hb hml hown hE (c_X5_bit l D cI cZ cL _ (nI r)) ck_X5_bit w_510 hP hl.1 rfl ⟨Nat.le_of_ble_eq_true rfl, Nat.le_of_ble_eq_true rfl⟩ (Nat.le_of_ble_eq_true rfl) dX2_noteCommon_57 ⟨Nat.le_of_ble_eq_true rfl, Nat.le_of_ble_eq_true rfl⟩) ?_
  refine lv_ior hx hb dX2_noteCommon_60 ?_
  refine q_iast (f := (st (st (st S 23 (t * 8 + o) ((S 23 (t * 8 + o)) + 1)) 23 (o * 8 + t) (((st S 23 (t * 8 + o) ((S 23 (t * 8 + o)) + 1)) 23 (o * 8 + t)) + 1)) 24 (t * 8 + o) ((S 24 (t * 8 + o)) ||| (bt (nI r)))) 24) (i := (o * 8 + t)) (x := ((st (st (st S 23 (t * 8 + o) ((S 23 (t * 8 + o)) + 1)) 23 (o * 8 + t) (((st S 23 (t * 8 + o) ((S 23 (t * 8 + o)) + 1)) 23 (o * 8 + t)) + 1)) 24 (t * 8 + o) ((S 24 (t * 8 + o)) ||| (bt (nI r)))) 24 (o * 8 + t)) ||| (bt (nI r))) (ws' := (wC ad cI (st (st (st (st S 23 (t * 8 + o) ((S 23 (t * 8 + o)) + 1)) 23 (o * 8 + t) (((st S 23 (t * 8 + o) ((S 23 (t * 8 + o)) + 1)) 23 (o * 8 + t)) + 1)) 24 (t * 8 + o) ((S 24 (t * 8 + o)) ||| (bt (nI r)))) 24 (o * 8 + t) (((st (st (st S 23 (t * 8 + o) ((S 23 (t * 8 + o)) + 1)) 23 (o * 8 + t) (((st S 23 (t * 8 + o) ((S 23 (t * 8 + o)) + 1)) 23 (o * 8 + t)) + 1)) 24 (t * 8 + o) ((S 24 (t * 8 + o)) ||| (bt (nI r)))) 24 (o * 8 + t)) ||| (bt (nI r)))))) hx hb hE hP (wC_D hD) hS 24 rfl (by omega) (Nat.le_of_ble_eq_true rfl) (wC_st_24) dX2_noteCommon_61 (fun H locs hP hS => ?_)
  exact e_wretv hx hb hr hlk (by rw [show p_common S 18 t o r = st (st (st (st S 23 (t * 8 + o) ((S 23 (t * 8 + o)) + 1)) 23 (o * 8 + t) (((st S 23 (t * 8 + o) ((S 23 (t * 8 + o)) + 1)) 23 (o * 8 + t)) + 1)) 24 (t * 8 + o) ((S 24 (t * 8 + o)) ||| (bt (nI r)))) 24 (o * 8 + t) (((st (st (st S 23 (t * 8 + o) ((S 23 (t * 8 + o)) + 1)) 23 (o * 8 + t) (((st S 23 (t * 8 + o) ((S 23 (t * 8 + o)) + 1)) 23 (o * 8 + t)) + 1)) 24 (t * 8 + o) ((S 24 (t * 8 + o)) ||| (bt (nI r)))) 24 (o * 8 + t)) ||| (bt (nI r))) from by rfl]; exact hP) hS dX2_noteCommon_62

theorem dX5_noteSolved_0 : decode cX5_noteSolved 0 = .ok (.iload 4, 2) := by decide +kernel
theorem dX5_noteSolved_2 : decode cX5_noteSolved 2 = .ok (.aload_n 0, 1) := by decide +kernel
theorem dX5_noteSolved_3 : decode cX5_noteSolved 3 = .ok (.aload_n 1, 1) := by decide +kernel
theorem dX5_noteSolved_4 : decode cX5_noteSolved 4 = .ok (.iload_n 2, 1) := by decide +kernel
theorem dX5_noteSolved_5 : decode cX5_noteSolved 5 = .ok (.iload_n 3, 1) := by decide +kernel
theorem dX5_noteSolved_6 : decode cX5_noteSolved 6 = .ok (.invokevirtual 162, 3) := by decide +kernel
theorem dX5_noteSolved_9 : decode cX5_noteSolved 9 = .ok (.isub, 1) := by decide +kernel
theorem dX5_noteSolved_10 : decode cX5_noteSolved 10 = .ok (.istore 5, 2) := by decide +kernel
theorem dX5_noteSolved_12 : decode cX5_noteSolved 12 = .ok (.aload_n 1, 1) := by decide +kernel
theorem dX5_noteSolved_13 : decode cX5_noteSolved 13 = .ok (.iload_n 2, 1) := by decide +kernel
theorem dX5_noteSolved_14 : decode cX5_noteSolved 14 = .ok (.iload_n 3, 1) := by decide +kernel
theorem dX5_noteSolved_15 : decode cX5_noteSolved 15 = .ok (.iload 4, 2) := by decide +kernel
theorem dX5_noteSolved_17 : decode cX5_noteSolved 17 = .ok (.iload 5, 2) := by decide +kernel
theorem dX5_noteSolved_19 : decode cX5_noteSolved 19 = .ok (.aload_n 0, 1) := by decide +kernel
theorem dX5_noteSolved_20 : decode cX5_noteSolved 20 = .ok (.getfield 10, 3) := by decide +kernel
theorem dX5_noteSolved_23 : decode cX5_noteSolved 23 = .ok (.getfield 274, 3) := by decide +kernel
theorem dX5_noteSolved_26 : decode cX5_noteSolved 26 = .ok (.iload_n 3, 1) := by decide +kernel
theorem dX5_noteSolved_27 : decode cX5_noteSolved 27 = .ok (.iaload, 1) := by decide +kernel
theorem dX5_noteSolved_28 : decode cX5_noteSolved 28 = .ok (.if_icmp .ge 7, 3) := by decide +kernel
theorem dX5_noteSolved_31 : decode cX5_noteSolved 31 = .ok (.iconst 1, 1) := by decide +kernel
theorem dX5_noteSolved_32 : decode cX5_noteSolved 32 = .ok (.goto 4, 3) := by decide +kernel
theorem dX5_noteSolved_35 : decode cX5_noteSolved 35 = .ok (.iconst 0, 1) := by decide +kernel
theorem dX5_noteSolved_36 : decode cX5_noteSolved 36 = .ok (.invokevirtual 277, 3) := by decide +kernel
theorem dX5_noteSolved_39 : decode cX5_noteSolved 39 = .ok (.return_, 1) := by decide +kernel
set_option maxHeartbeats 4000000 in
set_option maxRecDepth 100000 in
theorem c_X5_noteSolved_18 (l : Launch) (D : va_G) (cI cZ cL : ClassId) (ad : Nat → Nat) (S : Mem) (A : Nat → Prop) (hD : va_D A (wC ad cI S)) (t : Nat) (r : Nat) (mi : Int32) (ht : t < 8) (hr : r < 16) : WR l D cI cZ cL yX5_noteSolved cX5_noteSolved 6 none 3 [.ref (ad 0), .ref (ad 18), .int (nI t), .int (nI r), .int mi] A (wC ad cI S) (wC ad cI (p_noteS S 18 t r mi)) none := by
  refine WR.of (by decide) (Nat.le_of_ble_eq_true rfl) ?_
  intro p e s m args below meth c ls hx hb hr hml hown hlk hE hP hS hl
  have hl : lv_has ls 6 [(0, .ref (ad 0)), (1, .ref (ad 18)), (2, .int (nI t)), (3, .int (nI r)), (4, .int mi)] := hl
  refine lv_iload hx hb dX5_noteSolved_0 (lv_at hl 4 rfl) ?_
  refine lv_aload_n hx hb dX5_noteSolved_2 rfl (lv_at hl 0 rfl) ?_
  refine lv_aload_n hx hb dX5_noteSolved_3 rfl (lv_at hl 1 rfl) ?_
  refine lv_iload_n hx hb dX5_noteSolved_4 rfl (lv_at hl 2 rfl) ?_
  refine lv_iload_n hx hb dX5_noteSolved_5 rfl (lv_at hl 3 rfl) ?_
  refine q_rd (q_runV (rest := [.int mi]) hx hb hml hown hE (c_X5_openMinute_18 l D cI cZ cL ad S t r (by omega) (by omega)) ck_X5_openMinute w_497 hP 0 rfl rfl hl.1 rfl ⟨Nat.le_of_ble_eq_true rfl, Nat.le_of_ble_eq_true rfl⟩ (Nat.le_of_ble_eq_true rfl) dX5_noteSolved_6 ⟨Nat.le_of_ble_eq_true rfl, Nat.le_of_ble_eq_true rfl⟩) ?_
  refine lv_isub hx hb dX5_noteSolved_9 ?_
  refine lv_istore (lv' := [(5, .int (mi - (p_open S 18 t r))), (0, .ref (ad 0)), (1, .ref (ad 18)), (2, .int (nI t)), (3, .int (nI r)), (4, .int mi)]) hx hb dX5_noteSolved_10 hl (by decide) rfl (fun ls hl => ?_)
  refine lv_aload_n hx hb dX5_noteSolved_12 rfl (lv_at hl 2 rfl) ?_
  refine lv_iload_n hx hb dX5_noteSolved_13 rfl (lv_at hl 3 rfl) ?_
  refine lv_iload_n hx hb dX5_noteSolved_14 rfl (lv_at hl 4 rfl) ?_
  refine lv_iload hx hb dX5_noteSolved_15 (lv_at hl 5 rfl) ?_
  refine lv_iload hx hb dX5_noteSolved_17 (lv_at hl 0 rfl) ?_
  refine lv_aload_n hx hb dX5_noteSolved_19 rfl (lv_at hl 1 rfl) ?_
  refine q_get (v := .ref (ad 1)) hx hb hown hE inT_X5 hP 0 rfl rfl 0 (by decide) w_212 rfl dX5_noteSolved_20 ?_
  refine q_getN (v := .ref (ad 4)) hx hb hown hE inT_X3 hP 1 rfl rfl 2 (by decide) w_97 rfl dX5_noteSolved_23 ?_
  refine lv_iload_n hx hb dX5_noteSolved_26 rfl (lv_at hl 4 rfl) ?_
  refine q_iald (f := S 4) (i := r) hx hb hE hP 4 rfl (by omega) (Nat.le_of_ble_eq_true rfl) dX5_noteSolved_27 ?_
  refine lv_icmp_ge (tgt := 35) hx hb dX5_noteSolved_28 (by decide) (fun c_1 => ?_) (fun c_1 => ?_)
  · skip
    refine lv_iconst (v := 0) hx hb dX5_noteSolved_35 (by decide) ?_
    refine q_w0v (q_runVN (rest := []) hx hb hml hown hE (c_X2_solve_18 l D cI cZ cL ad S A (wC_D hD) t r mi false (by omega) (by omega)) ck_X2_solve w_506 hP 18 rfl rfl hl.1 rfl ⟨Nat.le_of_ble_eq_true rfl, Nat.le_of_ble_eq_true rfl⟩ (Nat.le_of_ble_eq_true rfl) dX5_noteSolved_36 ⟨Nat.le_of_ble_eq_true rfl, Nat.le_of_ble_eq_true rfl⟩) hS (fun H locs hP hS => ?_)
    exact e_wretv hx hb hr hlk (by rw [show p_noteS S 18 t r mi = p_solve S 18 t r mi false from by first | (simp only [bI, p_noteS, c_1, ↓reduceIte]; done) | (simp [bI, p_noteS, c_1]; done) | (simp_all [bI, p_noteS]; done)]; exact hP) hS dX5_noteSolved_39
  · skip
    refine lv_iconst (v := 1) hx hb dX5_noteSolved_31 (by decide) ?_
    refine lv_goto (tgt := 36) hx hb dX5_noteSolved_32 (by decide) ?_
    refine q_w0v (q_runVN (rest := []) hx hb hml hown hE (c_X2_solve_18 l D cI cZ cL ad S A (wC_D hD) t r mi true (by omega) (by omega)) ck_X2_solve w_506 hP 18 rfl rfl hl.1 rfl ⟨Nat.le_of_ble_eq_true rfl, Nat.le_of_ble_eq_true rfl⟩ (Nat.le_of_ble_eq_true rfl) dX5_noteSolved_36 ⟨Nat.le_of_ble_eq_true rfl, Nat.le_of_ble_eq_true rfl⟩) hS (fun H locs hP hS => ?_)
    exact e_wretv hx hb hr hlk (by rw [show p_noteS S 18 t r mi = p_solve S 18 t r mi true from by first | (simp only [bI, p_noteS, c_1, ↓reduceIte]; done) | (simp [bI, p_noteS, c_1]; done) | (simp_all [bI, p_noteS]; done)]; exact hP) hS dX5_noteSolved_39


set_option maxHeartbeats 4000000 in
set_option maxRecDepth 100000 in
theorem c_X2_solve_25 (l : Launch) (D : va_G) (cI cZ cL : ClassId) (ad : Nat → Nat) (S : Mem) (A : Nat → Prop) (hD : va_D A (wC ad cI S)) (t : Nat) (r : Nat) (mi : Int32) (soon : Bool) (ht : t < 8) (hr : r < 16) : WR l D cI cZ cL yX2_solve cX2_solve 5 none 1 [.ref (ad 25), .int (nI t), .int (nI r), .int mi, .int (bI soon)] A (wC ad cI S) (wC ad cI (p_solve S 25 t r mi soon)) none := by
  refine WR.of (by decide) (Nat.le_of_ble_eq_true rfl) ?_
  intro p e s m args below meth c ls hx hb hr hml hown hlk hE hP hS hl
  have hl : lv_has ls 5 [(0, .ref (ad 25)), (1, .int (nI t)), (2, .int (nI r)), (3, .int mi), (4, .int (bI soon))] := hl
  refine lv_aload_n hx hb dX2_solve_0 rfl (lv_at hl 0 rfl) ?_
  refine q_get (v := .ref (ad 26)) hx hb hown hE inT_X2 hP 25 rfl rfl 0 (by decide) w_187 rfl dX2_solve_1 ?_
  refine lv_iload_n hx hb dX2_solve_4 rfl (lv_at hl 1 rfl) ?_
  refine lv_dup2_11 hx hb dX2_solve_5 rfl rfl ?_
  refine q_iald (f := S 26) (i := t) hx hb hE hP 26 rfl (by omega) (Nat.le_of_ble_eq_true rfl) dX2_solve_6 ?_
  refine lv_iload_n hx hb dX2_solve_7 rfl (lv_at hl 2 rfl) ?_
  refine q_rd (q_runSN (rest := [.int (S 26 t), .int (nI t), .ref (ad 26)]) hx hb hml hown hE (c_X5_bit l D cI cZ cL _ (nI r)) ck_X5_bit w_510 hP hl.1 rfl ⟨Nat.le_of_ble_eq_true rfl, Nat.le_of_ble_eq_true rfl⟩ (Nat.le_of_ble_eq_true rfl) dX2_solve_8 ⟨Nat.le_of_ble_eq_true rfl, Nat.le_of_ble_eq_true rfl⟩) ?_
  refine lv_ior hx hb dX2_solve_11 ?_
  refine q_iast (f := S 26) (i := t) (x := (S 26 t) ||| (bt (nI r))) (ws' := (wC ad cI (st S 26 t ((S 26 t) ||| (bt (nI r)))))) hx hb hE hP (wC_D hD) hS 26 rfl (by omega) (Nat.le_of_ble_eq_true rfl) (wC_st_26) dX2_solve_12 (fun H locs hP hS => ?_)
  refine lv_aload_n hx hb dX2_solve_13 rfl (lv_at hl 0 rfl) ?_
  refine q_get (v := .ref (ad 28)) hx hb hown hE inT_X2 hP 25 rfl rfl 2 (by decide) w_191 rfl dX2_solve_14 ?_
  refine lv_iload_n hx hb dX2_solve_17 rfl (lv_at hl 1 rfl) ?_
  refine lv_iload_n hx hb dX2_solve_18 rfl (lv_at hl 2 rfl) ?_
  refine q_rd (q_runSN (rest := [.ref (ad 28)]) hx hb hml hown hE (c_X5_cell l D cI cZ cL _ t r) ck_X5_cell w_307 hP hl.1 rfl ⟨Nat.le_of_ble_eq_true rfl, Nat.le_of_ble_eq_true rfl⟩ (Nat.le_of_ble_eq_true rfl) dX2_solve_19 ⟨Nat.le_of_ble_eq_true rfl, Nat.le_of_ble_eq_true rfl⟩) ?_
  refine lv_iload_n hx hb dX2_solve_22 rfl (lv_at hl 3 rfl) ?_
  refine q_iast (f := (st S 26 t ((S 26 t) ||| (bt (nI r)))) 28) (i := (t * 16 + r)) (x := mi) (ws' := (wC ad cI (st (st S 26 t ((S 26 t) ||| (bt (nI r)))) 28 (t * 16 + r) mi))) hx hb hE hP (wC_D hD) hS 28 rfl (by omega) (Nat.le_of_ble_eq_true rfl) (wC_st_28) dX2_solve_23 (fun H locs hP hS => ?_)
  refine lv_iload hx hb dX2_solve_24 (lv_at hl 4 rfl) ?_
  refine lv_if_eq (tgt := 42) hx hb dX2_solve_26 (by decide) (fun c_1 => ?_) (fun c_1 => ?_)
  · skip
    have c_1 : soon = false := b_f c_1
    exact e_wretv hx hb hr hlk (by rw [show p_solve S 25 t r mi soon = st (st S 26 t ((S 26 t) ||| (bt (nI r)))) 28 (t * 16 + r) mi from by first | (simp only [bI, p_solve, c_1, ↓reduceIte]; done) | (simp [bI, p_solve, c_1]; done) | (simp_all [bI, p_solve]; done)]; exact hP) hS dX2_solve_42
  · skip
    have c_1 : soon = true := b_t c_1
    refine lv_aload_n hx hb dX2_solve_29 rfl (lv_at hl 0 rfl) ?_
    refine q_get (v := .ref (ad 27)) hx hb hown hE inT_X2 hP 25 rfl rfl 1 (by decide) w_189 rfl dX2_solve_30 ?_
    refine lv_iload_n hx hb dX2_solve_33 rfl (lv_at hl 1 rfl) ?_
    refine lv_dup2_11 hx hb dX2_solve_34 rfl rfl ?_
    refine q_iald (f := S 27) (i := t) hx hb hE hP 27 rfl (by omega) (Nat.le_of_ble_eq_true rfl) dX2_solve_35 ?_
    refine lv_iload_n hx hb dX2_solve_36 rfl (lv_at hl 2 rfl) ?_
    refine q_rd (q_runSN (rest := [.int (S 27 t), .int (nI t), .ref (ad 27)]) hx hb hml hown hE (c_X5_bit l D cI cZ cL _ (nI r)) ck_X5_bit w_510 hP hl.1 rfl ⟨Nat.le_of_ble_eq_true rfl, Nat.le_of_ble_eq_true rfl⟩ (Nat.le_of_ble_eq_true rfl) dX2_solve_37 ⟨Nat.le_of_ble_eq_true rfl, Nat.le_of_ble_eq_true rfl⟩) ?_
    refine lv_ior hx hb dX2_solve_40 ?_
    refine q_iast (f := (st (st S 26 t ((S 26 t) ||| (bt (nI r)))) 28 (t * 16 + r) mi) 27) (i := t) (x := (S 27 t) ||| (bt (nI r))) (ws' := (wC ad cI (st (st (st S 26 t ((S 26 t) ||| (bt (nI r)))) 28 (t * 16 + r) mi) 27 t ((S 27 t) ||| (bt (nI r)))))) hx hb hE hP (wC_D hD) hS 27 rfl (by omega) (Nat.le_of_ble_eq_true rfl) (wC_st_27) dX2_solve_41 (fun H locs hP hS => ?_)
    exact e_wretv hx hb hr hlk (by rw [show p_solve S 25 t r mi soon = st (st (st S 26 t ((S 26 t) ||| (bt (nI r)))) 28 (t * 16 + r) mi) 27 t ((S 27 t) ||| (bt (nI r))) from by first | (simp only [bI, p_solve, c_1, ↓reduceIte]; done) | (simp [bI, p_solve, c_1]; done) | (simp_all [bI, p_solve]; done)]; exact hP) hS dX2_solve_42


set_option maxHeartbeats 4000000 in
set_option maxRecDepth 100000 in
theorem c_X2_pay_25 (l : Launch) (D : va_G) (cI cZ cL : ClassId) (ad : Nat → Nat) (S : Mem) (A : Nat → Prop) (hD : va_D A (wC ad cI S)) (t : Nat) (r : Nat) (x : Int32) (ht : t < 8) (hr : r < 16) : WR l D cI cZ cL yX2_pay cX2_pay 4 none 1 [.ref (ad 25), .int (nI t), .int (nI r), .int x] A (wC ad cI S) (wC ad cI (p_pay S 25 t r x)) none := by
  refine WR.of (by decide) (Nat.le_of_ble_eq_true rfl) ?_
  intro p e s m args below meth c ls hx hb hr hml hown hlk hE hP hS hl
  have hl : lv_has ls 4 [(0, .ref (ad 25)), (1, .int (nI t)), (2, .int (nI r)), (3, .int x)] := hl
  refine lv_aload_n hx hb dX2_pay_0 rfl (lv_at hl 0 rfl) ?_
  refine q_get (v := .ref (ad 29)) hx hb hown hE inT_X2 hP 25 rfl rfl 3 (by decide) w_193 rfl dX2_pay_1 ?_
  refine lv_iload_n hx hb dX2_pay_4 rfl (lv_at hl 1 rfl) ?_
  refine lv_iload_n hx hb dX2_pay_5 rfl (lv_at hl 2 rfl) ?_
  refine q_rd (q_runSN (rest := [.ref (ad 29)]) hx hb hml hown hE (c_X5_cell l D cI cZ cL _ t r) ck_X5_cell w_307 hP hl.1 rfl ⟨Nat.le_of_ble_eq_true rfl, Nat.le_of_ble_eq_true rfl⟩ (Nat.le_of_ble_eq_true rfl) dX2_pay_6 ⟨Nat.le_of_ble_eq_true rfl, Nat.le_of_ble_eq_true rfl⟩) ?_
  refine lv_dup2_11 hx hb dX2_pay_9 rfl rfl ?_
  refine q_iald (f := S 29) (i := (t * 16 + r)) hx hb hE hP 29 rfl (by omega) (Nat.le_of_ble_eq_true rfl) dX2_pay_10 ?_
  refine lv_iload_n hx hb dX2_pay_11 rfl (lv_at hl 3 rfl) ?_
  refine lv_iadd hx hb dX2_pay_12 ?_
  refine q_iast (f := S 29) (i := (t * 16 + r)) (x := (S 29 (t * 16 + r)) + x) (ws' := (wC ad cI (st S 29 (t * 16 + r) ((S 29 (t * 16 + r)) + x)))) hx hb hE hP (wC_D hD) hS 29 rfl (by omega) (Nat.le_of_ble_eq_true rfl) (wC_st_29) dX2_pay_13 (fun H locs hP hS => ?_)
  exact e_wretv hx hb hr hlk (by rw [show p_pay S 25 t r x = st S 29 (t * 16 + r) ((S 29 (t * 16 + r)) + x) from by rfl]; exact hP) hS dX2_pay_14


set_option maxHeartbeats 4000000 in
set_option maxRecDepth 100000 in
theorem c_X2_noteCommon_25 (l : Launch) (D : va_G) (cI cZ cL : ClassId) (ad : Nat → Nat) (S : Mem) (A : Nat → Prop) (hD : va_D A (wC ad cI S)) (t : Nat) (o : Nat) (r : Nat) (ht : t < 8) (ho : o < 8) : WR l D cI cZ cL yX2_noteCommon cX2_noteCommon 4 none 1 [.ref (ad 25), .int (nI t), .int (nI o), .int (nI r)] A (wC ad cI S) (wC ad cI (p_common S 25 t o r)) none := by
  refine WR.of (by decide) (Nat.le_of_ble_eq_true rfl) ?_
  intro p e s m args below meth c ls hx hb hr hml hown hlk hE hP hS hl
  have hl : lv_has ls 4 [(0, .ref (ad 25)), (1, .int (nI t)), (2, .int (nI o)), (3, .int (nI r))] := hl
  refine lv_aload_n hx hb dX2_noteCommon_0 rfl (lv_at hl 0 rfl) ?_
  refine q_get (v := .ref (ad 30)) hx hb hown hE inT_X2 hP 25 rfl rfl 4 (by decide) w_195 rfl dX2_noteCommon_1 ?_
  refine lv_iload_n hx hb dX2_noteCommon_4 rfl (lv_at hl 1 rfl) ?_
  refine lv_iload_n hx hb dX2_noteCommon_5 rfl (lv_at hl 2 rfl) ?_
  refine q_rd (q_runSN (rest := [.ref (ad 30)]) hx hb hml hown hE (c_X5_pair l D cI cZ cL _ t o) ck_X5_pair w_524 hP hl.1 rfl ⟨Nat.le_of_ble_eq_true rfl, Nat.le_of_ble_eq_true rfl⟩ (Nat.le_of_ble_eq_true rfl) dX2_noteCommon_6 ⟨Nat.le_of_ble_eq_true rfl, Nat.le_of_ble_eq_true rfl⟩) ?_
  refine lv_dup2_11 hx hb dX2_noteCommon_9 rfl rfl ?_
  refine q_iald (f := S 30) (i := (t * 8 + o)) hx hb hE hP 30 rfl (by omega) (Nat.le_of_ble_eq_true rfl) dX2_noteCommon_10 ?_
  refine lv_iconst (v := 1) hx hb dX2_noteCommon_11 (by decide) ?_
  refine lv_iadd hx hb dX2_noteCommon_12 ?_
  refine q_iast (f := S 30) (i := (t * 8 + o)) (x := (S 30 (t * 8 + o)) + 1) (ws' := (wC ad cI (st S 30 (t * 8 + o) ((S 30 (t * 8 + o)) + 1)))) hx hb hE hP (wC_D hD) hS 30 rfl (by omega) (Nat.le_of_ble_eq_true rfl) (wC_st_30) dX2_noteCommon_13 (fun H locs hP hS => ?_)
  refine lv_aload_n hx hb dX2_noteCommon_14 rfl (lv_at hl 0 rfl) ?_
  refine q_get (v := .ref (ad 30)) hx hb hown hE inT_X2 hP 25 rfl rfl 4 (by decide) w_195 rfl dX2_noteCommon_15 ?_
  refine lv_iload_n hx hb dX2_noteCommon_18 rfl (lv_at hl 2 rfl) ?_
  refine lv_iload_n hx hb dX2_noteCommon_19 rfl (lv_at hl 1 rfl) ?_
  refine q_rd (q_runSN (rest := [.ref (ad 30)]) hx hb hml hown hE (c_X5_pair l D cI cZ cL _ o t) ck_X5_pair w_524 hP hl.1 rfl ⟨Nat.le_of_ble_eq_true rfl, Nat.le_of_ble_eq_true rfl⟩ (Nat.le_of_ble_eq_true rfl) dX2_noteCommon_20 ⟨Nat.le_of_ble_eq_true rfl, Nat.le_of_ble_eq_true rfl⟩) ?_
  refine lv_dup2_11 hx hb dX2_noteCommon_23 rfl rfl ?_
  refine q_iald (f := (st S 30 (t * 8 + o) ((S 30 (t * 8 + o)) + 1)) 30) (i := (o * 8 + t)) hx hb hE hP 30 rfl (by omega) (Nat.le_of_ble_eq_true rfl) dX2_noteCommon_24 ?_
  refine lv_iconst (v := 1) hx hb dX2_noteCommon_25 (by decide) ?_
  refine lv_iadd hx hb dX2_noteCommon_26 ?_
  refine q_iast (f := (st S 30 (t * 8 + o) ((S 30 (t * 8 + o)) + 1)) 30) (i := (o * 8 + t)) (x := ((st S 30 (t * 8 + o) ((S 30 (t * 8 + o)) + 1)) 30 (o * 8 + t)) + 1) (ws' := (wC ad cI (st (st S 30 (t * 8 + o) ((S 30 (t * 8 + o)) + 1)) 30 (o * 8 + t) (((st S 30 (t * 8 + o) ((S 30 (t * 8 + o)) + 1)) 30 (o * 8 + t)) + 1)))) hx hb hE hP (wC_D hD) hS 30 rfl (by omega) (Nat.le_of_ble_eq_true rfl) (wC_st_30) dX2_noteCommon_27 (fun H locs hP hS => ?_)
  refine lv_aload_n hx hb dX2_noteCommon_28 rfl (lv_at hl 0 rfl) ?_
  refine q_get (v := .ref (ad 31)) hx hb hown hE inT_X2 hP 25 rfl rfl 5 (by decide) w_197 rfl dX2_noteCommon_29 ?_
  refine lv_iload_n hx hb dX2_noteCommon_32 rfl (lv_at hl 1 rfl) ?_
  refine lv_iload_n hx hb dX2_noteCommon_33 rfl (lv_at hl 2 rfl) ?_
  refine q_rd (q_runSN (rest := [.ref (ad 31)]) hx hb hml hown hE (c_X5_pair l D cI cZ cL _ t o) ck_X5_pair w_524 hP hl.1 rfl ⟨Nat.le_of_ble_eq_true rfl, Nat.le_of_ble_eq_true rfl⟩ (Nat.le_of_ble_eq_true rfl) dX2_noteCommon_34 ⟨Nat.le_of_ble_eq_true rfl, Nat.le_of_ble_eq_true rfl⟩) ?_
  refine lv_dup2_11 hx hb dX2_noteCommon_37 rfl rfl ?_
  refine q_iald (f := S 31) (i := (t * 8 + o)) hx hb hE hP 31 rfl (by omega) (Nat.le_of_ble_eq_true rfl) dX2_noteCommon_38 ?_
  refine lv_iload_n hx hb dX2_noteCommon_39 rfl (lv_at hl 3 rfl) ?_
  refine q_rd (q_runSN (rest := [.int (S 31 (t * 8 + o)), .int (nI (t * 8 + o)), .ref (ad 31)]) hx hb hml hown hE (c_X5_bit l D cI cZ cL _ (nI r)) ck_X5_bit w_510 hP hl.1 rfl ⟨Nat.le_of_ble_eq_true rfl, Nat.le_of_ble_eq_true rfl⟩ (Nat.le_of_ble_eq_true rfl) dX2_noteCommon_40 ⟨Nat.le_of_ble_eq_true rfl, Nat.le_of_ble_eq_true rfl⟩) ?_
  refine lv_ior hx hb dX2_noteCommon_43 ?_
  refine q_iast (f := (st (st S 30 (t * 8 + o) ((S 30 (t * 8 + o)) + 1)) 30 (o * 8 + t) (((st S 30 (t * 8 + o) ((S 30 (t * 8 + o)) + 1)) 30 (o * 8 + t)) + 1)) 31) (i := (t * 8 + o)) (x := (S 31 (t * 8 + o)) ||| (bt (nI r))) (ws' := (wC ad cI (st (st (st S 30 (t * 8 + o) ((S 30 (t * 8 + o)) + 1)) 30 (o * 8 + t) (((st S 30 (t * 8 + o) ((S 30 (t * 8 + o)) + 1)) 30 (o * 8 + t)) + 1)) 31 (t * 8 + o) ((S 31 (t * 8 + o)) ||| (bt (nI r)))))) hx hb hE hP (wC_D hD) hS 31 rfl (by omega) (Nat.le_of_ble_eq_true rfl) (wC_st_31) dX2_noteCommon_44 (fun H locs hP hS => ?_)
  refine lv_aload_n hx hb dX2_noteCommon_45 rfl (lv_at hl 0 rfl) ?_
  refine q_get (v := .ref (ad 31)) hx hb hown hE inT_X2 hP 25 rfl rfl 5 (by decide) w_197 rfl dX2_noteCommon_46 ?_
  refine lv_iload_n hx hb dX2_noteCommon_49 rfl (lv_at hl 2 rfl) ?_
  refine lv_iload_n hx hb dX2_noteCommon_50 rfl (lv_at hl 1 rfl) ?_
  refine q_rd (q_runSN (rest := [.ref (ad 31)]) hx hb hml hown hE (c_X5_pair l D cI cZ cL _ o t) ck_X5_pair w_524 hP hl.1 rfl ⟨Nat.le_of_ble_eq_true rfl, Nat.le_of_ble_eq_true rfl⟩ (Nat.le_of_ble_eq_true rfl) dX2_noteCommon_51 ⟨Nat.le_of_ble_eq_true rfl, Nat.le_of_ble_eq_true rfl⟩) ?_
  refine lv_dup2_11 hx hb dX2_noteCommon_54 rfl rfl ?_
  refine q_iald (f := (st (st (st S 30 (t * 8 + o) ((S 30 (t * 8 + o)) + 1)) 30 (o * 8 + t) (((st S 30 (t * 8 + o) ((S 30 (t * 8 + o)) + 1)) 30 (o * 8 + t)) + 1)) 31 (t * 8 + o) ((S 31 (t * 8 + o)) ||| (bt (nI r)))) 31) (i := (o * 8 + t)) hx hb hE hP 31 rfl (by omega) (Nat.le_of_ble_eq_true rfl) dX2_noteCommon_55 ?_
  refine lv_iload_n hx hb dX2_noteCommon_56 rfl (lv_at hl 3 rfl) ?_
  refine q_rd (q_runSN (rest := [.int ((st (st (st S 30 (t * 8 + o) ((S 30 (t * 8 + o)) + 1)) 30 (o * 8 + t) (((st S 30 (t * 8 + o) ((S 30 (t * 8 + o)) + 1)) 30 (o * 8 + t)) + 1)) 31 (t * 8 + o) ((S 31 (t * 8 + o)) ||| (bt (nI r)))) 31 (o * 8 + t)), .int (nI (o * 8 + t)), .ref (ad 31)]) hx hb hml hown hE (c_X5_bit l D cI cZ cL _ (nI r)) ck_X5_bit w_510 hP hl.1 rfl ⟨Nat.le_of_ble_eq_true rfl, Nat.le_of_ble_eq_true rfl⟩ (Nat.le_of_ble_eq_true rfl) dX2_noteCommon_57 ⟨Nat.le_of_ble_eq_true rfl, Nat.le_of_ble_eq_true rfl⟩) ?_
  refine lv_ior hx hb dX2_noteCommon_60 ?_
  refine q_iast (f := (st (st (st S 30 (t * 8 + o) ((S 30 (t * 8 + o)) + 1)) 30 (o * 8 + t) (((st S 30 (t * 8 + o) ((S 30 (t * 8 + o)) + 1)) 30 (o * 8 + t)) + 1)) 31 (t * 8 + o) ((S 31 (t * 8 + o)) ||| (bt (nI r)))) 31) (i := (o * 8 + t)) (x := ((st (st (st S 30 (t * 8 + o) ((S 30 (t * 8 + o)) + 1)) 30 (o * 8 + t) (((st S 30 (t * 8 + o) ((S 30 (t * 8 + o)) + 1)) 30 (o * 8 + t)) + 1)) 31 (t * 8 + o) ((S 31 (t * 8 + o)) ||| (bt (nI r)))) 31 (o * 8 + t)) ||| (bt (nI r))) (ws' := (wC ad cI (st (st (st (st S 30 (t * 8 + o) ((S 30 (t * 8 + o)) + 1)) 30 (o * 8 + t) (((st S 30 (t * 8 + o) ((S 30 (t * 8 + o)) + 1)) 30 (o * 8 + t)) + 1)) 31 (t * 8 + o) ((S 31 (t * 8 + o)) ||| (bt (nI r)))) 31 (o * 8 + t) (((st (st (st S 30 (t * 8 + o) ((S 30 (t * 8 + o)) + 1)) 30 (o * 8 + t) (((st S 30 (t * 8 + o) ((S 30 (t * 8 + o)) + 1)) 30 (o * 8 + t)) + 1)) 31 (t * 8 + o) ((S 31 (t * 8 + o)) ||| (bt (nI r)))) 31 (o * 8 + t)) ||| (bt (nI r)))))) hx hb hE hP (wC_D hD) hS 31 rfl (by omega) (Nat.le_of_ble_eq_true rfl) (wC_st_31) dX2_noteCommon_61 (fun H locs hP hS => ?_)
  exact e_wretv hx hb hr hlk (by rw [show p_common S 25 t o r = st (st (st (st S 30 (t * 8 + o) ((S 30 (t * 8 + o)) + 1)) 30 (o * 8 + t) (((st S 30 (t * 8 + o) ((S 30 (t * 8 + o)) + 1)) 30 (o * 8 + t)) + 1)) 31 (t * 8 + o) ((S 31 (t * 8 + o)) ||| (bt (nI r)))) 31 (o * 8 + t) (((st (st (st S 30 (t * 8 + o) ((S 30 (t * 8 + o)) + 1)) 30 (o * 8 + t) (((st S 30 (t * 8 + o) ((S 30 (t * 8 + o)) + 1)) 30 (o * 8 + t)) + 1)) 31 (t * 8 + o) ((S 31 (t * 8 + o)) ||| (bt (nI r)))) 31 (o * 8 + t)) ||| (bt (nI r))) from by rfl]; exact hP) hS dX2_noteCommon_62


set_option maxHeartbeats 4000000 in
set_option maxRecDepth 100000 in
theorem c_X5_noteSolved_25 (l : Launch) (D : va_G) (cI cZ cL : ClassId) (ad : Nat → Nat) (S : Mem) (A : Nat → Prop) (hD : va_D A (wC ad cI S)) (t : Nat) (r : Nat) (mi : Int32) (ht : t < 8) (hr : r < 16) : WR l D cI cZ cL yX5_noteSolved cX5_noteSolved 6 none 3 [.ref (ad 0), .ref (ad 25), .int (nI t), .int (nI r), .int mi] A (wC ad cI S) (wC ad cI (p_noteS S 25 t r mi)) none := by
  refine WR.of (by decide) (Nat.le_of_ble_eq_true rfl) ?_
  intro p e s m args below meth c ls hx hb hr hml hown hlk hE hP hS hl
  have hl : lv_has ls 6 [(0, .ref (ad 0)), (1, .ref (ad 25)), (2, .int (nI t)), (3, .int (nI r)), (4, .int mi)] := hl
  refine lv_iload hx hb dX5_noteSolved_0 (lv_at hl 4 rfl) ?_
  refine lv_aload_n hx hb dX5_noteSolved_2 rfl (lv_at hl 0 rfl) ?_
  refine lv_aload_n hx hb dX5_noteSolved_3 rfl (lv_at hl 1 rfl) ?_
  refine lv_iload_n hx hb dX5_noteSolved_4 rfl (lv_at hl 2 rfl) ?_
  refine lv_iload_n hx hb dX5_noteSolved_5 rfl (lv_at hl 3 rfl) ?_
  refine q_rd (q_runV (rest := [.int mi]) hx hb hml hown hE (c_X5_openMinute_25 l D cI cZ cL ad S t r (by omega) (by omega)) ck_X5_openMinute w_497 hP 0 rfl rfl hl.1 rfl ⟨Nat.le_of_ble_eq_true rfl, Nat.le_of_ble_eq_true rfl⟩ (Nat.le_of_ble_eq_true rfl) dX5_noteSolved_6 ⟨Nat.le_of_ble_eq_true rfl, Nat.le_of_ble_eq_true rfl⟩) ?_
  refine lv_isub hx hb dX5_noteSolved_9 ?_
  refine lv_istore (lv' := [(5, .int (mi - (p_open S 25 t r))), (0, .ref (ad 0)), (1, .ref (ad 25)), (2, .int (nI t)), (3, .int (nI r)), (4, .int mi)]) hx hb dX5_noteSolved_10 hl (by decide) rfl (fun ls hl => ?_)
  refine lv_aload_n hx hb dX5_noteSolved_12 rfl (lv_at hl 2 rfl) ?_
  refine lv_iload_n hx hb dX5_noteSolved_13 rfl (lv_at hl 3 rfl) ?_
  refine lv_iload_n hx hb dX5_noteSolved_14 rfl (lv_at hl 4 rfl) ?_
  refine lv_iload hx hb dX5_noteSolved_15 (lv_at hl 5 rfl) ?_
  refine lv_iload hx hb dX5_noteSolved_17 (lv_at hl 0 rfl) ?_
  refine lv_aload_n hx hb dX5_noteSolved_19 rfl (lv_at hl 1 rfl) ?_
  refine q_get (v := .ref (ad 1)) hx hb hown hE inT_X5 hP 0 rfl rfl 0 (by decide) w_212 rfl dX5_noteSolved_20 ?_
  refine q_getN (v := .ref (ad 4)) hx hb hown hE inT_X3 hP 1 rfl rfl 2 (by decide) w_97 rfl dX5_noteSolved_23 ?_
  refine lv_iload_n hx hb dX5_noteSolved_26 rfl (lv_at hl 4 rfl) ?_
  refine q_iald (f := S 4) (i := r) hx hb hE hP 4 rfl (by omega) (Nat.le_of_ble_eq_true rfl) dX5_noteSolved_27 ?_
  refine lv_icmp_ge (tgt := 35) hx hb dX5_noteSolved_28 (by decide) (fun c_1 => ?_) (fun c_1 => ?_)
  · skip
    refine lv_iconst (v := 0) hx hb dX5_noteSolved_35 (by decide) ?_
    refine q_w0v (q_runVN (rest := []) hx hb hml hown hE (c_X2_solve_25 l D cI cZ cL ad S A (wC_D hD) t r mi false (by omega) (by omega)) ck_X2_solve w_506 hP 25 rfl rfl hl.1 rfl ⟨Nat.le_of_ble_eq_true rfl, Nat.le_of_ble_eq_true rfl⟩ (Nat.le_of_ble_eq_true rfl) dX5_noteSolved_36 ⟨Nat.le_of_ble_eq_true rfl, Nat.le_of_ble_eq_true rfl⟩) hS (fun H locs hP hS => ?_)
    exact e_wretv hx hb hr hlk (by rw [show p_noteS S 25 t r mi = p_solve S 25 t r mi false from by first | (simp only [bI, p_noteS, c_1, ↓reduceIte]; done) | (simp [bI, p_noteS, c_1]; done) | (simp_all [bI, p_noteS]; done)]; exact hP) hS dX5_noteSolved_39
  · skip
    refine lv_iconst (v := 1) hx hb dX5_noteSolved_31 (by decide) ?_
    refine lv_goto (tgt := 36) hx hb dX5_noteSolved_32 (by decide) ?_
    refine q_w0v (q_runVN (rest := []) hx hb hml hown hE (c_X2_solve_25 l D cI cZ cL ad S A (wC_D hD) t r mi true (by omega) (by omega)) ck_X2_solve w_506 hP 25 rfl rfl hl.1 rfl ⟨Nat.le_of_ble_eq_true rfl, Nat.le_of_ble_eq_true rfl⟩ (Nat.le_of_ble_eq_true rfl) dX5_noteSolved_36 ⟨Nat.le_of_ble_eq_true rfl, Nat.le_of_ble_eq_true rfl⟩) hS (fun H locs hP hS => ?_)
    exact e_wretv hx hb hr hlk (by rw [show p_noteS S 25 t r mi = p_solve S 25 t r mi true from by first | (simp only [bI, p_noteS, c_1, ↓reduceIte]; done) | (simp [bI, p_noteS, c_1]; done) | (simp_all [bI, p_noteS]; done)]; exact hP) hS dX5_noteSolved_39

theorem dX5_noteWrong_0 : decode cX5_noteWrong 0 = .ok (.aload_n 0, 1) := by decide +kernel
theorem dX5_noteWrong_1 : decode cX5_noteWrong 1 = .ok (.getfield 19, 3) := by decide +kernel
theorem dX5_noteWrong_4 : decode cX5_noteWrong 4 = .ok (.iload_n 2, 1) := by decide +kernel
theorem dX5_noteWrong_5 : decode cX5_noteWrong 5 = .ok (.iload_n 3, 1) := by decide +kernel
theorem dX5_noteWrong_6 : decode cX5_noteWrong 6 = .ok (.invokevirtual 281, 3) := by decide +kernel
theorem dX5_noteWrong_9 : decode cX5_noteWrong 9 = .ok (.istore 4, 2) := by decide +kernel
theorem dX5_noteWrong_11 : decode cX5_noteWrong 11 = .ok (.iload 4, 2) := by decide +kernel
theorem dX5_noteWrong_13 : decode cX5_noteWrong 13 = .ok (.iload_n 1, 1) := by decide +kernel
theorem dX5_noteWrong_14 : decode cX5_noteWrong 14 = .ok (.invokestatic 97, 3) := by decide +kernel
theorem dX5_noteWrong_17 : decode cX5_noteWrong 17 = .ok (.ifCond .eq 4, 3) := by decide +kernel
theorem dX5_noteWrong_20 : decode cX5_noteWrong 20 = .ok (.return_, 1) := by decide +kernel
theorem dX5_noteWrong_21 : decode cX5_noteWrong 21 = .ok (.iconst 0, 1) := by decide +kernel
theorem dX5_noteWrong_22 : decode cX5_noteWrong 22 = .ok (.istore 5, 2) := by decide +kernel
theorem dX5_noteWrong_24 : decode cX5_noteWrong 24 = .ok (.iload 5, 2) := by decide +kernel
theorem dX5_noteWrong_26 : decode cX5_noteWrong 26 = .ok (.aload_n 0, 1) := by decide +kernel
theorem dX5_noteWrong_27 : decode cX5_noteWrong 27 = .ok (.getfield 115, 3) := by decide +kernel
theorem dX5_noteWrong_30 : decode cX5_noteWrong 30 = .ok (.if_icmp .ge 30, 3) := by decide +kernel
theorem dX5_noteWrong_33 : decode cX5_noteWrong 33 = .ok (.iload 4, 2) := by decide +kernel
theorem dX5_noteWrong_35 : decode cX5_noteWrong 35 = .ok (.iload 5, 2) := by decide +kernel
theorem dX5_noteWrong_37 : decode cX5_noteWrong 37 = .ok (.invokestatic 97, 3) := by decide +kernel
theorem dX5_noteWrong_40 : decode cX5_noteWrong 40 = .ok (.ifCond .eq 14, 3) := by decide +kernel
theorem dX5_noteWrong_43 : decode cX5_noteWrong 43 = .ok (.aload_n 0, 1) := by decide +kernel
theorem dX5_noteWrong_44 : decode cX5_noteWrong 44 = .ok (.getfield 40, 3) := by decide +kernel
theorem dX5_noteWrong_47 : decode cX5_noteWrong 47 = .ok (.iload_n 1, 1) := by decide +kernel
theorem dX5_noteWrong_48 : decode cX5_noteWrong 48 = .ok (.iload 5, 2) := by decide +kernel
theorem dX5_noteWrong_50 : decode cX5_noteWrong 50 = .ok (.iload_n 2, 1) := by decide +kernel
theorem dX5_noteWrong_51 : decode cX5_noteWrong 51 = .ok (.invokevirtual 284, 3) := by decide +kernel
theorem dX5_noteWrong_54 : decode cX5_noteWrong 54 = .ok (.iinc 5 1, 3) := by decide +kernel
theorem dX5_noteWrong_57 : decode cX5_noteWrong 57 = .ok (.goto (-33), 3) := by decide +kernel
theorem dX5_noteWrong_60 : decode cX5_noteWrong 60 = .ok (.return_, 1) := by decide +kernel
set_option maxHeartbeats 4000000 in
set_option maxRecDepth 100000 in
theorem c_X5_noteWrong (l : Launch) (D : va_G) (cI cZ cL : ClassId) (ad : Nat → Nat) (S : Mem) (A : Nat → Prop) (hD : va_D A (wC ad cI S)) (t : Nat) (r : Nat) (w : Int32) (hI : I0 S) (ht : t < 8) (hr : r < 16) : WR l D cI cZ cL yX5_noteWrong cX5_noteWrong 6 none 2 [.ref (ad 0), .int (nI t), .int (nI r), .int w] A (wC ad cI S) (wC ad cI (p_noteW S t r w)) none := by
  refine WR.of (by decide) (Nat.le_of_ble_eq_true rfl) ?_
  intro p e s m args below meth c ls hx hb hr hml hown hlk hE hP hS hl
  have hl : lv_has ls 6 [(0, .ref (ad 0)), (1, .int (nI t)), (2, .int (nI r)), (3, .int w)] := hl
  have hT8 := hI.T8
  have hR16 := hI.R16
  have hN200 := hI.N200
  refine lv_aload_n hx hb dX5_noteWrong_0 rfl (lv_at hl 0 rfl) ?_
  refine q_get (v := .ref (ad 7)) hx hb hown hE inT_X5 hP 0 rfl rfl 1 (by decide) w_213 rfl dX5_noteWrong_1 ?_
  refine lv_iload_n hx hb dX5_noteWrong_4 rfl (lv_at hl 2 rfl) ?_
  refine lv_iload_n hx hb dX5_noteWrong_5 rfl (lv_at hl 3 rfl) ?_
  refine q_rd (q_runVN (rest := []) hx hb hml hown hE (c_X0_giversOf l D cI cZ cL ad S r w hI) ck_X0_giversOf w_515 hP 7 rfl rfl hl.1 rfl ⟨Nat.le_of_ble_eq_true rfl, Nat.le_of_ble_eq_true rfl⟩ (Nat.le_of_ble_eq_true rfl) dX5_noteWrong_6 ⟨Nat.le_of_ble_eq_true rfl, Nat.le_of_ble_eq_true rfl⟩) ?_
  refine lv_istore (lv' := [(4, .int (p_give S r w (cN S))), (0, .ref (ad 0)), (1, .int (nI t)), (2, .int (nI r)), (3, .int w)]) hx hb dX5_noteWrong_9 hl (by decide) rfl (fun ls hl => ?_)
  refine lv_iload hx hb dX5_noteWrong_11 (lv_at hl 0 rfl) ?_
  refine lv_iload_n hx hb dX5_noteWrong_13 rfl (lv_at hl 2 rfl) ?_
  refine q_rd (q_runS (rest := []) hx hb hml hown hE (c_X5_has l D cI cZ cL _ (p_give S r w (cN S)) (nI t)) ck_X5_has w_298 hP hl.1 rfl ⟨Nat.le_of_ble_eq_true rfl, Nat.le_of_ble_eq_true rfl⟩ (Nat.le_of_ble_eq_true rfl) dX5_noteWrong_14 ⟨Nat.le_of_ble_eq_true rfl, Nat.le_of_ble_eq_true rfl⟩) ?_
  refine lv_if_eq (tgt := 21) hx hb dX5_noteWrong_17 (by decide) (fun c_1 => ?_) (fun c_1 => ?_)
  · skip
    have c_1 : hs (p_give S r w (cN S)) (nI t) = false := b_f c_1
    refine lv_iconst (v := 0) hx hb dX5_noteWrong_21 (by decide) ?_
    refine lv_istore (lv' := [(5, .int 0), (4, .int (p_give S r w (cN S))), (0, .ref (ad 0)), (1, .int (nI t)), (2, .int (nI r)), (3, .int w)]) hx hb dX5_noteWrong_22 hl (by decide) rfl (fun ls hl => ?_)
    have hloop_24 : ∀ (n i : Nat), i ≤ cT S → cT S < i + n → ∀ (H : Heap) (locs : List Loc), va_P D vwCl (wC ad cI (p_nwl S (p_give S r w (cN S)) t r i)) H → va_S A s.heap H locs → ∀ ls : Array Slot, lv_has ls 6 [(5, .int (nI i)), (4, .int (p_give S r w (cN S))), (0, .ref (ad 0)), (1, .int (nI t)), (2, .int (nI r)), (3, .int w)] → W p l e (rm 2 0 0) s m args below meth c H locs 0 0 (MQ below (Qwr D A (wC ad cI (p_noteW S t r w)) none) args s 0 0 A) (F0 m 24 ls []) := by
      intro n
      induction n with
      | zero => intro i h1 h2; exact absurd h2 (by omega)
      | succ n ih_24 =>
        intro i hi_24 hin_24  H locs hP hS ls hl
        have hI_24 : I0 (p_nwl S (p_give S r w (cN S)) t r i) := I0_congr (fun c hc => fr_nwl (by omega) _) hI
        refine lv_iload hx hb dX5_noteWrong_24 (lv_at hl 0 rfl) ?_
        refine lv_aload_n hx hb dX5_noteWrong_26 rfl (lv_at hl 2 rfl) ?_
        refine q_get (v := .int ((p_nwl S (p_give S r w (cN S)) t r i) 0 9)) hx hb hown hE inT_X5 hP 0 rfl rfl 9 (by decide) w_221 rfl dX5_noteWrong_27 ?_
        refine q_top (y := nI (cT (p_nwl S (p_give S r w (cN S)) t r i))) (I0.T hI_24) ?_
        refine q_top (y := nI (cT S)) (congrArg nI (cT_congr (fr_nwl (by omega) _))) ?_
        refine lv_icmp_ge (tgt := 60) hx hb dX5_noteWrong_30 (by decide) (fun c_2 => ?_) (fun c_2 => ?_)
        · skip
          have c_2 : (cT S) ≤ i := n_le (a := cT S) (b := i) (by omega) (by omega) c_2
          have hend_24 : cT S = i := by omega
          subst hend_24
          exact e_wretv hx hb hr hlk (by rw [show p_noteW S t r w = p_nwl S (p_give S r w (cN S)) t r (cT S) from by first | (simp only [bI, p_noteW, c_1, ↓reduceIte]; done) | (simp [bI, p_noteW, c_1]; done) | (simp_all [bI, p_noteW]; done)]; exact hP) hS dX5_noteWrong_60
        · skip
          have c_2 : i < (cT S) := n_nle (a := cT S) (b := i) (by omega) (by omega) c_2
          refine lv_iload hx hb dX5_noteWrong_33 (lv_at hl 1 rfl) ?_
          refine lv_iload hx hb dX5_noteWrong_35 (lv_at hl 0 rfl) ?_
          refine q_rd (q_runS (rest := []) hx hb hml hown hE (c_X5_has l D cI cZ cL _ (p_give S r w (cN S)) (nI i)) ck_X5_has w_298 hP hl.1 rfl ⟨Nat.le_of_ble_eq_true rfl, Nat.le_of_ble_eq_true rfl⟩ (Nat.le_of_ble_eq_true rfl) dX5_noteWrong_37 ⟨Nat.le_of_ble_eq_true rfl, Nat.le_of_ble_eq_true rfl⟩) ?_
          refine lv_if_eq (tgt := 54) hx hb dX5_noteWrong_40 (by decide) (fun c_3 => ?_) (fun c_3 => ?_)
          · skip
            have c_3 : hs (p_give S r w (cN S)) (nI i) = false := b_f c_3
            refine lv_iinc (v := nI (i + 1)) (lv' := [(5, .int (nI (i + 1))), (4, .int (p_give S r w (cN S))), (0, .ref (ad 0)), (1, .int (nI t)), (2, .int (nI r)), (3, .int w)]) hx hb dX5_noteWrong_54 hl (k := 0) rfl (nI_1 i) (by decide) rfl (fun ls hl => ?_)
            refine lv_goto (tgt := 24) hx hb dX5_noteWrong_57 (by decide) ?_
            refine ih_24 (i + 1) (by omega) (by omega)  H locs (by rw [show p_nwl S (p_give S r w (cN S)) t r (i + 1) = p_nwl S (p_give S r w (cN S)) t r i from by first | (simp only [bI, p_nwl, c_2, c_3, ↓reduceIte]; done) | (simp [bI, p_nwl, c_2, c_3]; done) | (simp_all [bI, p_nwl]; done)]; exact hP) hS ls ?_
            exact lv_sub hl [0, 1, 2, 3, 4, 5] rfl
          · skip
            have c_3 : hs (p_give S r w (cN S)) (nI i) = true := b_t c_3
            refine lv_aload_n hx hb dX5_noteWrong_43 rfl (lv_at hl 2 rfl) ?_
            refine q_get (v := .ref (ad 18)) hx hb hown hE inT_X5 hP 0 rfl rfl 4 (by decide) w_216 rfl dX5_noteWrong_44 ?_
            refine lv_iload_n hx hb dX5_noteWrong_47 rfl (lv_at hl 3 rfl) ?_
            refine lv_iload hx hb dX5_noteWrong_48 (lv_at hl 0 rfl) ?_
            refine lv_iload_n hx hb dX5_noteWrong_50 rfl (lv_at hl 4 rfl) ?_
            refine q_w0v (q_runVN (rest := []) hx hb hml hown hE (c_X2_noteCommon_18 l D cI cZ cL ad (p_nwl S (p_give S r w (cN S)) t r i) A (wC_D hD) t i r (by omega) (by omega)) ck_X2_noteCommon w_520 hP 18 rfl rfl hl.1 rfl ⟨Nat.le_of_ble_eq_true rfl, Nat.le_of_ble_eq_true rfl⟩ (Nat.le_of_ble_eq_true rfl) dX5_noteWrong_51 ⟨Nat.le_of_ble_eq_true rfl, Nat.le_of_ble_eq_true rfl⟩) hS (fun H locs hP hS => ?_)
            refine lv_iinc (v := nI (i + 1)) (lv' := [(5, .int (nI (i + 1))), (4, .int (p_give S r w (cN S))), (0, .ref (ad 0)), (1, .int (nI t)), (2, .int (nI r)), (3, .int w)]) hx hb dX5_noteWrong_54 hl (k := 0) rfl (nI_1 i) (by decide) rfl (fun ls hl => ?_)
            refine lv_goto (tgt := 24) hx hb dX5_noteWrong_57 (by decide) ?_
            refine ih_24 (i + 1) (by omega) (by omega)  H locs (by rw [show p_nwl S (p_give S r w (cN S)) t r (i + 1) = p_common (p_nwl S (p_give S r w (cN S)) t r i) 18 t i r from by first | (simp only [bI, p_nwl, c_2, c_3, ↓reduceIte]; done) | (simp [bI, p_nwl, c_2, c_3]; done) | (simp_all [bI, p_nwl]; done)]; exact hP) hS ls ?_
            exact lv_sub hl [0, 1, 2, 3, 4, 5] rfl
    refine hloop_24 (cT S + 1) 0 (by omega) (by omega)  s.heap [] hP hS ls ?_
    exact lv_sub hl [0, 1, 2, 3, 4, 5] rfl
  · skip
    have c_1 : hs (p_give S r w (cN S)) (nI t) = true := b_t c_1
    exact e_wretv hx hb hr hlk (by rw [show p_noteW S t r w = S from by first | (simp only [bI, p_noteW, c_1, ↓reduceIte]; done) | (simp [bI, p_noteW, c_1]; done) | (simp_all [bI, p_noteW]; done)]; exact hP) hS dX5_noteWrong_20

theorem dJ7_fill_53178_0 : decode cJ7_fill_53178 0 = .ok (.iconst 0, 1) := by decide +kernel
theorem dJ7_fill_53178_1 : decode cJ7_fill_53178 1 = .ok (.istore_n 2, 1) := by decide +kernel
theorem dJ7_fill_53178_2 : decode cJ7_fill_53178 2 = .ok (.aload_n 0, 1) := by decide +kernel
theorem dJ7_fill_53178_3 : decode cJ7_fill_53178 3 = .ok (.arraylength, 1) := by decide +kernel
theorem dJ7_fill_53178_4 : decode cJ7_fill_53178 4 = .ok (.istore_n 3, 1) := by decide +kernel
theorem dJ7_fill_53178_5 : decode cJ7_fill_53178 5 = .ok (.iload_n 2, 1) := by decide +kernel
theorem dJ7_fill_53178_6 : decode cJ7_fill_53178 6 = .ok (.iload_n 3, 1) := by decide +kernel
theorem dJ7_fill_53178_7 : decode cJ7_fill_53178 7 = .ok (.if_icmp .ge 13, 3) := by decide +kernel
theorem dJ7_fill_53178_10 : decode cJ7_fill_53178 10 = .ok (.aload_n 0, 1) := by decide +kernel
theorem dJ7_fill_53178_11 : decode cJ7_fill_53178 11 = .ok (.iload_n 2, 1) := by decide +kernel
theorem dJ7_fill_53178_12 : decode cJ7_fill_53178 12 = .ok (.iload_n 1, 1) := by decide +kernel
theorem dJ7_fill_53178_13 : decode cJ7_fill_53178 13 = .ok (.iastore, 1) := by decide +kernel
theorem dJ7_fill_53178_14 : decode cJ7_fill_53178 14 = .ok (.iinc 2 1, 3) := by decide +kernel
theorem dJ7_fill_53178_17 : decode cJ7_fill_53178 17 = .ok (.goto (-12), 3) := by decide +kernel
theorem dJ7_fill_53178_20 : decode cJ7_fill_53178 20 = .ok (.return_, 1) := by decide +kernel
set_option maxHeartbeats 4000000 in
set_option maxRecDepth 100000 in
theorem c_J7_fill_53178_26 (l : Launch) (D : va_G) (cI cZ cL : ClassId) (ad : Nat → Nat) (S : Mem) (A : Nat → Prop) (hD : va_D A (wC ad cI S)) : WR l D cI cZ cL yJ7_fill_53178 cJ7_fill_53178 4 none 0 [.ref (ad 26), .int 0] A (wC ad cI S) (wC ad cI (fillS S 26 8)) none := by
  refine WR.of (by decide) (Nat.le_of_ble_eq_true rfl) ?_
  intro p e s m args below meth c ls hx hb hr hml hown hlk hE hP hS hl
  have hl : lv_has ls 4 [(0, .ref (ad 26)), (1, .int 0)] := hl
  refine lv_iconst (v := 0) hx hb dJ7_fill_53178_0 (by decide) ?_
  refine lv_istore_n (lv' := [(2, .int 0), (0, .ref (ad 26)), (1, .int 0)]) hx hb dJ7_fill_53178_1 rfl hl (by decide) rfl (fun ls hl => ?_)
  refine lv_aload_n hx hb dJ7_fill_53178_2 rfl (lv_at hl 1 rfl) ?_
  refine va_alen (v := 8) hx hb hE.2 hP 26 0 rfl rfl rfl dJ7_fill_53178_3 ?_
  refine lv_istore_n (lv' := [(3, .int 8), (2, .int 0), (0, .ref (ad 26)), (1, .int 0)]) hx hb dJ7_fill_53178_4 rfl hl (by decide) rfl (fun ls hl => ?_)
  have hloop_5 : ∀ (n i : Nat), i ≤ 8 → 8 < i + n → ∀ (H : Heap) (locs : List Loc), va_P D vwCl (wC ad cI (fillS S 26 i)) H → va_S A s.heap H locs → ∀ ls : Array Slot, lv_has ls 4 [(3, .int 8), (2, .int (nI i)), (0, .ref (ad 26)), (1, .int 0)] → W p l e (rm 0 0 0) s m args below meth c H locs 0 0 (MQ below (Qwr D A (wC ad cI (fillS S 26 8)) none) args s 0 0 A) (F0 m 5 ls []) := by
    intro n
    induction n with
    | zero => intro i h1 h2; exact absurd h2 (by omega)
    | succ n ih_5 =>
      intro i hi_5 hin_5  H locs hP hS ls hl
      refine lv_iload_n hx hb dJ7_fill_53178_5 rfl (lv_at hl 1 rfl) ?_
      refine lv_iload_n hx hb dJ7_fill_53178_6 rfl (lv_at hl 0 rfl) ?_
      refine lv_icmp_ge (tgt := 20) hx hb dJ7_fill_53178_7 (by decide) (fun c_1 => ?_) (fun c_1 => ?_)
      · skip
        have c_1 : 8 ≤ i := n_le (a := 8) (b := i) (by omega) (by omega) c_1
        have hend_5 : 8 = i := by omega
        subst hend_5
        exact e_wretv hx hb hr hlk hP hS dJ7_fill_53178_20
      · skip
        have c_1 : i < 8 := n_nle (a := 8) (b := i) (by omega) (by omega) c_1
        refine lv_aload_n hx hb dJ7_fill_53178_10 rfl (lv_at hl 2 rfl) ?_
        refine lv_iload_n hx hb dJ7_fill_53178_11 rfl (lv_at hl 1 rfl) ?_
        refine lv_iload_n hx hb dJ7_fill_53178_12 rfl (lv_at hl 3 rfl) ?_
        refine q_iast (f := (fillS S 26 i) 26) (i := i) (x := 0) (ws' := (wC ad cI (st (fillS S 26 i) 26 i 0))) hx hb hE hP (wC_D hD) hS 26 rfl (by omega) (Nat.le_of_ble_eq_true rfl) (wC_st_26) dJ7_fill_53178_13 (fun H locs hP hS => ?_)
        refine lv_iinc (v := nI (i + 1)) (lv' := [(2, .int (nI (i + 1))), (3, .int 8), (0, .ref (ad 26)), (1, .int 0)]) hx hb dJ7_fill_53178_14 hl (k := 1) rfl (nI_1 i) (by decide) rfl (fun ls hl => ?_)
        refine lv_goto (tgt := 5) hx hb dJ7_fill_53178_17 (by decide) ?_
        refine ih_5 (i + 1) (by omega) (by omega)  H locs (by rw [show fillS S 26 (i + 1) = st (fillS S 26 i) 26 i 0 from by exact fill_step]; exact hP) hS ls ?_
        exact lv_sub hl [1, 0, 2, 3] rfl
  refine hloop_5 (8 + 1) 0 (by omega) (by omega)  s.heap [] (by rw [fill_zero]; exact hP) hS ls ?_
  exact lv_sub hl [0, 1, 2, 3] rfl


set_option maxHeartbeats 4000000 in
set_option maxRecDepth 100000 in
theorem c_J7_fill_53178_27 (l : Launch) (D : va_G) (cI cZ cL : ClassId) (ad : Nat → Nat) (S : Mem) (A : Nat → Prop) (hD : va_D A (wC ad cI S)) : WR l D cI cZ cL yJ7_fill_53178 cJ7_fill_53178 4 none 0 [.ref (ad 27), .int 0] A (wC ad cI S) (wC ad cI (fillS S 27 8)) none := by
  refine WR.of (by decide) (Nat.le_of_ble_eq_true rfl) ?_
  intro p e s m args below meth c ls hx hb hr hml hown hlk hE hP hS hl
  have hl : lv_has ls 4 [(0, .ref (ad 27)), (1, .int 0)] := hl
  refine lv_iconst (v := 0) hx hb dJ7_fill_53178_0 (by decide) ?_
  refine lv_istore_n (lv' := [(2, .int 0), (0, .ref (ad 27)), (1, .int 0)]) hx hb dJ7_fill_53178_1 rfl hl (by decide) rfl (fun ls hl => ?_)
  refine lv_aload_n hx hb dJ7_fill_53178_2 rfl (lv_at hl 1 rfl) ?_
  refine va_alen (v := 8) hx hb hE.2 hP 27 0 rfl rfl rfl dJ7_fill_53178_3 ?_
  refine lv_istore_n (lv' := [(3, .int 8), (2, .int 0), (0, .ref (ad 27)), (1, .int 0)]) hx hb dJ7_fill_53178_4 rfl hl (by decide) rfl (fun ls hl => ?_)
  have hloop_5 : ∀ (n i : Nat), i ≤ 8 → 8 < i + n → ∀ (H : Heap) (locs : List Loc), va_P D vwCl (wC ad cI (fillS S 27 i)) H → va_S A s.heap H locs → ∀ ls : Array Slot, lv_has ls 4 [(3, .int 8), (2, .int (nI i)), (0, .ref (ad 27)), (1, .int 0)] → W p l e (rm 0 0 0) s m args below meth c H locs 0 0 (MQ below (Qwr D A (wC ad cI (fillS S 27 8)) none) args s 0 0 A) (F0 m 5 ls []) := by
    intro n
    induction n with
    | zero => intro i h1 h2; exact absurd h2 (by omega)
    | succ n ih_5 =>
      intro i hi_5 hin_5  H locs hP hS ls hl
      refine lv_iload_n hx hb dJ7_fill_53178_5 rfl (lv_at hl 1 rfl) ?_
      refine lv_iload_n hx hb dJ7_fill_53178_6 rfl (lv_at hl 0 rfl) ?_
      refine lv_icmp_ge (tgt := 20) hx hb dJ7_fill_53178_7 (by decide) (fun c_1 => ?_) (fun c_1 => ?_)
      · skip
        have c_1 : 8 ≤ i := n_le (a := 8) (b := i) (by omega) (by omega) c_1
        have hend_5 : 8 = i := by omega
        subst hend_5
        exact e_wretv hx hb hr hlk hP hS dJ7_fill_53178_20
      · skip
        have c_1 : i < 8 := n_nle (a := 8) (b := i) (by omega) (by omega) c_1
        refine lv_aload_n hx hb dJ7_fill_53178_10 rfl (lv_at hl 2 rfl) ?_
        refine lv_iload_n hx hb dJ7_fill_53178_11 rfl (lv_at hl 1 rfl) ?_
        refine lv_iload_n hx hb dJ7_fill_53178_12 rfl (lv_at hl 3 rfl) ?_
        refine q_iast (f := (fillS S 27 i) 27) (i := i) (x := 0) (ws' := (wC ad cI (st (fillS S 27 i) 27 i 0))) hx hb hE hP (wC_D hD) hS 27 rfl (by omega) (Nat.le_of_ble_eq_true rfl) (wC_st_27) dJ7_fill_53178_13 (fun H locs hP hS => ?_)
        refine lv_iinc (v := nI (i + 1)) (lv' := [(2, .int (nI (i + 1))), (3, .int 8), (0, .ref (ad 27)), (1, .int 0)]) hx hb dJ7_fill_53178_14 hl (k := 1) rfl (nI_1 i) (by decide) rfl (fun ls hl => ?_)
        refine lv_goto (tgt := 5) hx hb dJ7_fill_53178_17 (by decide) ?_
        refine ih_5 (i + 1) (by omega) (by omega)  H locs (by rw [show fillS S 27 (i + 1) = st (fillS S 27 i) 27 i 0 from by exact fill_step]; exact hP) hS ls ?_
        exact lv_sub hl [1, 0, 2, 3] rfl
  refine hloop_5 (8 + 1) 0 (by omega) (by omega)  s.heap [] (by rw [fill_zero]; exact hP) hS ls ?_
  exact lv_sub hl [0, 1, 2, 3] rfl


set_option maxHeartbeats 4000000 in
set_option maxRecDepth 100000 in
theorem c_J7_fill_53178_28 (l : Launch) (D : va_G) (cI cZ cL : ClassId) (ad : Nat → Nat) (S : Mem) (A : Nat → Prop) (hD : va_D A (wC ad cI S)) : WR l D cI cZ cL yJ7_fill_53178 cJ7_fill_53178 4 none 0 [.ref (ad 28), .int 0] A (wC ad cI S) (wC ad cI (fillS S 28 128)) none := by
  refine WR.of (by decide) (Nat.le_of_ble_eq_true rfl) ?_
  intro p e s m args below meth c ls hx hb hr hml hown hlk hE hP hS hl
  have hl : lv_has ls 4 [(0, .ref (ad 28)), (1, .int 0)] := hl
  refine lv_iconst (v := 0) hx hb dJ7_fill_53178_0 (by decide) ?_
  refine lv_istore_n (lv' := [(2, .int 0), (0, .ref (ad 28)), (1, .int 0)]) hx hb dJ7_fill_53178_1 rfl hl (by decide) rfl (fun ls hl => ?_)
  refine lv_aload_n hx hb dJ7_fill_53178_2 rfl (lv_at hl 1 rfl) ?_
  refine va_alen (v := 128) hx hb hE.2 hP 28 0 rfl rfl rfl dJ7_fill_53178_3 ?_
  refine lv_istore_n (lv' := [(3, .int 128), (2, .int 0), (0, .ref (ad 28)), (1, .int 0)]) hx hb dJ7_fill_53178_4 rfl hl (by decide) rfl (fun ls hl => ?_)
  have hloop_5 : ∀ (n i : Nat), i ≤ 128 → 128 < i + n → ∀ (H : Heap) (locs : List Loc), va_P D vwCl (wC ad cI (fillS S 28 i)) H → va_S A s.heap H locs → ∀ ls : Array Slot, lv_has ls 4 [(3, .int 128), (2, .int (nI i)), (0, .ref (ad 28)), (1, .int 0)] → W p l e (rm 0 0 0) s m args below meth c H locs 0 0 (MQ below (Qwr D A (wC ad cI (fillS S 28 128)) none) args s 0 0 A) (F0 m 5 ls []) := by
    intro n
    induction n with
    | zero => intro i h1 h2; exact absurd h2 (by omega)
    | succ n ih_5 =>
      intro i hi_5 hin_5  H locs hP hS ls hl
      refine lv_iload_n hx hb dJ7_fill_53178_5 rfl (lv_at hl 1 rfl) ?_
      refine lv_iload_n hx hb dJ7_fill_53178_6 rfl (lv_at hl 0 rfl) ?_
      refine lv_icmp_ge (tgt := 20) hx hb dJ7_fill_53178_7 (by decide) (fun c_1 => ?_) (fun c_1 => ?_)
      · skip
        have c_1 : 128 ≤ i := n_le (a := 128) (b := i) (by omega) (by omega) c_1
        have hend_5 : 128 = i := by omega
        subst hend_5
        exact e_wretv hx hb hr hlk hP hS dJ7_fill_53178_20
      · skip
        have c_1 : i < 128 := n_nle (a := 128) (b := i) (by omega) (by omega) c_1
        refine lv_aload_n hx hb dJ7_fill_53178_10 rfl (lv_at hl 2 rfl) ?_
        refine lv_iload_n hx hb dJ7_fill_53178_11 rfl (lv_at hl 1 rfl) ?_
        refine lv_iload_n hx hb dJ7_fill_53178_12 rfl (lv_at hl 3 rfl) ?_
        refine q_iast (f := (fillS S 28 i) 28) (i := i) (x := 0) (ws' := (wC ad cI (st (fillS S 28 i) 28 i 0))) hx hb hE hP (wC_D hD) hS 28 rfl (by omega) (Nat.le_of_ble_eq_true rfl) (wC_st_28) dJ7_fill_53178_13 (fun H locs hP hS => ?_)
        refine lv_iinc (v := nI (i + 1)) (lv' := [(2, .int (nI (i + 1))), (3, .int 128), (0, .ref (ad 28)), (1, .int 0)]) hx hb dJ7_fill_53178_14 hl (k := 1) rfl (nI_1 i) (by decide) rfl (fun ls hl => ?_)
        refine lv_goto (tgt := 5) hx hb dJ7_fill_53178_17 (by decide) ?_
        refine ih_5 (i + 1) (by omega) (by omega)  H locs (by rw [show fillS S 28 (i + 1) = st (fillS S 28 i) 28 i 0 from by exact fill_step]; exact hP) hS ls ?_
        exact lv_sub hl [1, 0, 2, 3] rfl
  refine hloop_5 (128 + 1) 0 (by omega) (by omega)  s.heap [] (by rw [fill_zero]; exact hP) hS ls ?_
  exact lv_sub hl [0, 1, 2, 3] rfl


set_option maxHeartbeats 4000000 in
set_option maxRecDepth 100000 in
theorem c_J7_fill_53178_29 (l : Launch) (D : va_G) (cI cZ cL : ClassId) (ad : Nat → Nat) (S : Mem) (A : Nat → Prop) (hD : va_D A (wC ad cI S)) : WR l D cI cZ cL yJ7_fill_53178 cJ7_fill_53178 4 none 0 [.ref (ad 29), .int 0] A (wC ad cI S) (wC ad cI (fillS S 29 128)) none := by
  refine WR.of (by decide) (Nat.le_of_ble_eq_true rfl) ?_
  intro p e s m args below meth c ls hx hb hr hml hown hlk hE hP hS hl
  have hl : lv_has ls 4 [(0, .ref (ad 29)), (1, .int 0)] := hl
  refine lv_iconst (v := 0) hx hb dJ7_fill_53178_0 (by decide) ?_
  refine lv_istore_n (lv' := [(2, .int 0), (0, .ref (ad 29)), (1, .int 0)]) hx hb dJ7_fill_53178_1 rfl hl (by decide) rfl (fun ls hl => ?_)
  refine lv_aload_n hx hb dJ7_fill_53178_2 rfl (lv_at hl 1 rfl) ?_
  refine va_alen (v := 128) hx hb hE.2 hP 29 0 rfl rfl rfl dJ7_fill_53178_3 ?_
  refine lv_istore_n (lv' := [(3, .int 128), (2, .int 0), (0, .ref (ad 29)), (1, .int 0)]) hx hb dJ7_fill_53178_4 rfl hl (by decide) rfl (fun ls hl => ?_)
  have hloop_5 : ∀ (n i : Nat), i ≤ 128 → 128 < i + n → ∀ (H : Heap) (locs : List Loc), va_P D vwCl (wC ad cI (fillS S 29 i)) H → va_S A s.heap H locs → ∀ ls : Array Slot, lv_has ls 4 [(3, .int 128), (2, .int (nI i)), (0, .ref (ad 29)), (1, .int 0)] → W p l e (rm 0 0 0) s m args below meth c H locs 0 0 (MQ below (Qwr D A (wC ad cI (fillS S 29 128)) none) args s 0 0 A) (F0 m 5 ls []) := by
    intro n
    induction n with
    | zero => intro i h1 h2; exact absurd h2 (by omega)
    | succ n ih_5 =>
      intro i hi_5 hin_5  H locs hP hS ls hl
      refine lv_iload_n hx hb dJ7_fill_53178_5 rfl (lv_at hl 1 rfl) ?_
      refine lv_iload_n hx hb dJ7_fill_53178_6 rfl (lv_at hl 0 rfl) ?_
      refine lv_icmp_ge (tgt := 20) hx hb dJ7_fill_53178_7 (by decide) (fun c_1 => ?_) (fun c_1 => ?_)
      · skip
        have c_1 : 128 ≤ i := n_le (a := 128) (b := i) (by omega) (by omega) c_1
        have hend_5 : 128 = i := by omega
        subst hend_5
        exact e_wretv hx hb hr hlk hP hS dJ7_fill_53178_20
      · skip
        have c_1 : i < 128 := n_nle (a := 128) (b := i) (by omega) (by omega) c_1
        refine lv_aload_n hx hb dJ7_fill_53178_10 rfl (lv_at hl 2 rfl) ?_
        refine lv_iload_n hx hb dJ7_fill_53178_11 rfl (lv_at hl 1 rfl) ?_
        refine lv_iload_n hx hb dJ7_fill_53178_12 rfl (lv_at hl 3 rfl) ?_
        refine q_iast (f := (fillS S 29 i) 29) (i := i) (x := 0) (ws' := (wC ad cI (st (fillS S 29 i) 29 i 0))) hx hb hE hP (wC_D hD) hS 29 rfl (by omega) (Nat.le_of_ble_eq_true rfl) (wC_st_29) dJ7_fill_53178_13 (fun H locs hP hS => ?_)
        refine lv_iinc (v := nI (i + 1)) (lv' := [(2, .int (nI (i + 1))), (3, .int 128), (0, .ref (ad 29)), (1, .int 0)]) hx hb dJ7_fill_53178_14 hl (k := 1) rfl (nI_1 i) (by decide) rfl (fun ls hl => ?_)
        refine lv_goto (tgt := 5) hx hb dJ7_fill_53178_17 (by decide) ?_
        refine ih_5 (i + 1) (by omega) (by omega)  H locs (by rw [show fillS S 29 (i + 1) = st (fillS S 29 i) 29 i 0 from by exact fill_step]; exact hP) hS ls ?_
        exact lv_sub hl [1, 0, 2, 3] rfl
  refine hloop_5 (128 + 1) 0 (by omega) (by omega)  s.heap [] (by rw [fill_zero]; exact hP) hS ls ?_
  exact lv_sub hl [0, 1, 2, 3] rfl


set_option maxHeartbeats 4000000 in
set_option maxRecDepth 100000 in
theorem c_J7_fill_53178_30 (l : Launch) (D : va_G) (cI cZ cL : ClassId) (ad : Nat → Nat) (S : Mem) (A : Nat → Prop) (hD : va_D A (wC ad cI S)) : WR l D cI cZ cL yJ7_fill_53178 cJ7_fill_53178 4 none 0 [.ref (ad 30), .int 0] A (wC ad cI S) (wC ad cI (fillS S 30 64)) none := by
  refine WR.of (by decide) (Nat.le_of_ble_eq_true rfl) ?_
  intro p e s m args below meth c ls hx hb hr hml hown hlk hE hP hS hl
  have hl : lv_has ls 4 [(0, .ref (ad 30)), (1, .int 0)] := hl
  refine lv_iconst (v := 0) hx hb dJ7_fill_53178_0 (by decide) ?_
  refine lv_istore_n (lv' := [(2, .int 0), (0, .ref (ad 30)), (1, .int 0)]) hx hb dJ7_fill_53178_1 rfl hl (by decide) rfl (fun ls hl => ?_)
  refine lv_aload_n hx hb dJ7_fill_53178_2 rfl (lv_at hl 1 rfl) ?_
  refine va_alen (v := 64) hx hb hE.2 hP 30 0 rfl rfl rfl dJ7_fill_53178_3 ?_
  refine lv_istore_n (lv' := [(3, .int 64), (2, .int 0), (0, .ref (ad 30)), (1, .int 0)]) hx hb dJ7_fill_53178_4 rfl hl (by decide) rfl (fun ls hl => ?_)
  have hloop_5 : ∀ (n i : Nat), i ≤ 64 → 64 < i + n → ∀ (H : Heap) (locs : List Loc), va_P D vwCl (wC ad cI (fillS S 30 i)) H → va_S A s.heap H locs → ∀ ls : Array Slot, lv_has ls 4 [(3, .int 64), (2, .int (nI i)), (0, .ref (ad 30)), (1, .int 0)] → W p l e (rm 0 0 0) s m args below meth c H locs 0 0 (MQ below (Qwr D A (wC ad cI (fillS S 30 64)) none) args s 0 0 A) (F0 m 5 ls []) := by
    intro n
    induction n with
    | zero => intro i h1 h2; exact absurd h2 (by omega)
    | succ n ih_5 =>
      intro i hi_5 hin_5  H locs hP hS ls hl
      refine lv_iload_n hx hb dJ7_fill_53178_5 rfl (lv_at hl 1 rfl) ?_
      refine lv_iload_n hx hb dJ7_fill_53178_6 rfl (lv_at hl 0 rfl) ?_
      refine lv_icmp_ge (tgt := 20) hx hb dJ7_fill_53178_7 (by decide) (fun c_1 => ?_) (fun c_1 => ?_)
      · skip
        have c_1 : 64 ≤ i := n_le (a := 64) (b := i) (by omega) (by omega) c_1
        have hend_5 : 64 = i := by omega
        subst hend_5
        exact e_wretv hx hb hr hlk hP hS dJ7_fill_53178_20
      · skip
        have c_1 : i < 64 := n_nle (a := 64) (b := i) (by omega) (by omega) c_1
        refine lv_aload_n hx hb dJ7_fill_53178_10 rfl (lv_at hl 2 rfl) ?_
        refine lv_iload_n hx hb dJ7_fill_53178_11 rfl (lv_at hl 1 rfl) ?_
        refine lv_iload_n hx hb dJ7_fill_53178_12 rfl (lv_at hl 3 rfl) ?_
        refine q_iast (f := (fillS S 30 i) 30) (i := i) (x := 0) (ws' := (wC ad cI (st (fillS S 30 i) 30 i 0))) hx hb hE hP (wC_D hD) hS 30 rfl (by omega) (Nat.le_of_ble_eq_true rfl) (wC_st_30) dJ7_fill_53178_13 (fun H locs hP hS => ?_)
        refine lv_iinc (v := nI (i + 1)) (lv' := [(2, .int (nI (i + 1))), (3, .int 64), (0, .ref (ad 30)), (1, .int 0)]) hx hb dJ7_fill_53178_14 hl (k := 1) rfl (nI_1 i) (by decide) rfl (fun ls hl => ?_)
        refine lv_goto (tgt := 5) hx hb dJ7_fill_53178_17 (by decide) ?_
        refine ih_5 (i + 1) (by omega) (by omega)  H locs (by rw [show fillS S 30 (i + 1) = st (fillS S 30 i) 30 i 0 from by exact fill_step]; exact hP) hS ls ?_
        exact lv_sub hl [1, 0, 2, 3] rfl
  refine hloop_5 (64 + 1) 0 (by omega) (by omega)  s.heap [] (by rw [fill_zero]; exact hP) hS ls ?_
  exact lv_sub hl [0, 1, 2, 3] rfl


set_option maxHeartbeats 4000000 in
set_option maxRecDepth 100000 in
theorem c_J7_fill_53178_31 (l : Launch) (D : va_G) (cI cZ cL : ClassId) (ad : Nat → Nat) (S : Mem) (A : Nat → Prop) (hD : va_D A (wC ad cI S)) : WR l D cI cZ cL yJ7_fill_53178 cJ7_fill_53178 4 none 0 [.ref (ad 31), .int 0] A (wC ad cI S) (wC ad cI (fillS S 31 64)) none := by
  refine WR.of (by decide) (Nat.le_of_ble_eq_true rfl) ?_
  intro p e s m args below meth c ls hx hb hr hml hown hlk hE hP hS hl
  have hl : lv_has ls 4 [(0, .ref (ad 31)), (1, .int 0)] := hl
  refine lv_iconst (v := 0) hx hb dJ7_fill_53178_0 (by decide) ?_
  refine lv_istore_n (lv' := [(2, .int 0), (0, .ref (ad 31)), (1, .int 0)]) hx hb dJ7_fill_53178_1 rfl hl (by decide) rfl (fun ls hl => ?_)
  refine lv_aload_n hx hb dJ7_fill_53178_2 rfl (lv_at hl 1 rfl) ?_
  refine va_alen (v := 64) hx hb hE.2 hP 31 0 rfl rfl rfl dJ7_fill_53178_3 ?_
  refine lv_istore_n (lv' := [(3, .int 64), (2, .int 0), (0, .ref (ad 31)), (1, .int 0)]) hx hb dJ7_fill_53178_4 rfl hl (by decide) rfl (fun ls hl => ?_)
  have hloop_5 : ∀ (n i : Nat), i ≤ 64 → 64 < i + n → ∀ (H : Heap) (locs : List Loc), va_P D vwCl (wC ad cI (fillS S 31 i)) H → va_S A s.heap H locs → ∀ ls : Array Slot, lv_has ls 4 [(3, .int 64), (2, .int (nI i)), (0, .ref (ad 31)), (1, .int 0)] → W p l e (rm 0 0 0) s m args below meth c H locs 0 0 (MQ below (Qwr D A (wC ad cI (fillS S 31 64)) none) args s 0 0 A) (F0 m 5 ls []) := by
    intro n
    induction n with
    | zero => intro i h1 h2; exact absurd h2 (by omega)
    | succ n ih_5 =>
      intro i hi_5 hin_5  H locs hP hS ls hl
      refine lv_iload_n hx hb dJ7_fill_53178_5 rfl (lv_at hl 1 rfl) ?_
      refine lv_iload_n hx hb dJ7_fill_53178_6 rfl (lv_at hl 0 rfl) ?_
      refine lv_icmp_ge (tgt := 20) hx hb dJ7_fill_53178_7 (by decide) (fun c_1 => ?_) (fun c_1 => ?_)
      · skip
        have c_1 : 64 ≤ i := n_le (a := 64) (b := i) (by omega) (by omega) c_1
        have hend_5 : 64 = i := by omega
        subst hend_5
        exact e_wretv hx hb hr hlk hP hS dJ7_fill_53178_20
      · skip
        have c_1 : i < 64 := n_nle (a := 64) (b := i) (by omega) (by omega) c_1
        refine lv_aload_n hx hb dJ7_fill_53178_10 rfl (lv_at hl 2 rfl) ?_
        refine lv_iload_n hx hb dJ7_fill_53178_11 rfl (lv_at hl 1 rfl) ?_
        refine lv_iload_n hx hb dJ7_fill_53178_12 rfl (lv_at hl 3 rfl) ?_
        refine q_iast (f := (fillS S 31 i) 31) (i := i) (x := 0) (ws' := (wC ad cI (st (fillS S 31 i) 31 i 0))) hx hb hE hP (wC_D hD) hS 31 rfl (by omega) (Nat.le_of_ble_eq_true rfl) (wC_st_31) dJ7_fill_53178_13 (fun H locs hP hS => ?_)
        refine lv_iinc (v := nI (i + 1)) (lv' := [(2, .int (nI (i + 1))), (3, .int 64), (0, .ref (ad 31)), (1, .int 0)]) hx hb dJ7_fill_53178_14 hl (k := 1) rfl (nI_1 i) (by decide) rfl (fun ls hl => ?_)
        refine lv_goto (tgt := 5) hx hb dJ7_fill_53178_17 (by decide) ?_
        refine ih_5 (i + 1) (by omega) (by omega)  H locs (by rw [show fillS S 31 (i + 1) = st (fillS S 31 i) 31 i 0 from by exact fill_step]; exact hP) hS ls ?_
        exact lv_sub hl [1, 0, 2, 3] rfl
  refine hloop_5 (64 + 1) 0 (by omega) (by omega)  s.heap [] (by rw [fill_zero]; exact hP) hS ls ?_
  exact lv_sub hl [0, 1, 2, 3] rfl

theorem dX2_wipe_0 : decode cX2_wipe 0 = .ok (.aload_n 0, 1) := by decide +kernel
theorem dX2_wipe_1 : decode cX2_wipe 1 = .ok (.getfield 9, 3) := by decide +kernel
theorem dX2_wipe_4 : decode cX2_wipe 4 = .ok (.iconst 0, 1) := by decide +kernel
theorem dX2_wipe_5 : decode cX2_wipe 5 = .ok (.invokestatic 30, 3) := by decide +kernel
theorem dX2_wipe_8 : decode cX2_wipe 8 = .ok (.aload_n 0, 1) := by decide +kernel
theorem dX2_wipe_9 : decode cX2_wipe 9 = .ok (.getfield 15, 3) := by decide +kernel
theorem dX2_wipe_12 : decode cX2_wipe 12 = .ok (.iconst 0, 1) := by decide +kernel
theorem dX2_wipe_13 : decode cX2_wipe 13 = .ok (.invokestatic 30, 3) := by decide +kernel
theorem dX2_wipe_16 : decode cX2_wipe 16 = .ok (.aload_n 0, 1) := by decide +kernel
theorem dX2_wipe_17 : decode cX2_wipe 17 = .ok (.getfield 18, 3) := by decide +kernel
theorem dX2_wipe_20 : decode cX2_wipe 20 = .ok (.iconst 0, 1) := by decide +kernel
theorem dX2_wipe_21 : decode cX2_wipe 21 = .ok (.invokestatic 30, 3) := by decide +kernel
theorem dX2_wipe_24 : decode cX2_wipe 24 = .ok (.aload_n 0, 1) := by decide +kernel
theorem dX2_wipe_25 : decode cX2_wipe 25 = .ok (.getfield 21, 3) := by decide +kernel
theorem dX2_wipe_28 : decode cX2_wipe 28 = .ok (.iconst 0, 1) := by decide +kernel
theorem dX2_wipe_29 : decode cX2_wipe 29 = .ok (.invokestatic 30, 3) := by decide +kernel
theorem dX2_wipe_32 : decode cX2_wipe 32 = .ok (.aload_n 0, 1) := by decide +kernel
theorem dX2_wipe_33 : decode cX2_wipe 33 = .ok (.getfield 24, 3) := by decide +kernel
theorem dX2_wipe_36 : decode cX2_wipe 36 = .ok (.iconst 0, 1) := by decide +kernel
theorem dX2_wipe_37 : decode cX2_wipe 37 = .ok (.invokestatic 30, 3) := by decide +kernel
theorem dX2_wipe_40 : decode cX2_wipe 40 = .ok (.aload_n 0, 1) := by decide +kernel
theorem dX2_wipe_41 : decode cX2_wipe 41 = .ok (.getfield 27, 3) := by decide +kernel
theorem dX2_wipe_44 : decode cX2_wipe 44 = .ok (.iconst 0, 1) := by decide +kernel
theorem dX2_wipe_45 : decode cX2_wipe 45 = .ok (.invokestatic 30, 3) := by decide +kernel
theorem dX2_wipe_48 : decode cX2_wipe 48 = .ok (.return_, 1) := by decide +kernel
set_option maxHeartbeats 4000000 in
set_option maxRecDepth 100000 in
theorem c_X2_wipe (l : Launch) (D : va_G) (cI cZ cL : ClassId) (ad : Nat → Nat) (S : Mem) (A : Nat → Prop) (hD : va_D A (wC ad cI S)) : WR l D cI cZ cL yX2_wipe cX2_wipe 1 none 1 [.ref (ad 25)] A (wC ad cI S) (wC ad cI (p_wipe S)) none := by
  refine WR.of (by decide) (Nat.le_of_ble_eq_true rfl) ?_
  intro p e s m args below meth c ls hx hb hr hml hown hlk hE hP hS hl
  have hl : lv_has ls 1 [(0, .ref (ad 25))] := hl
  refine lv_aload_n hx hb dX2_wipe_0 rfl (lv_at hl 0 rfl) ?_
  refine q_get (v := .ref (ad 26)) hx hb hown hE inT_X2 hP 25 rfl rfl 0 (by decide) w_187 rfl dX2_wipe_1 ?_
  refine lv_iconst (v := 0) hx hb dX2_wipe_4 (by decide) ?_
  refine q_w0v (q_runS (rest := []) hx hb hml hown hE (c_J7_fill_53178_26 l D cI cZ cL ad S A (wC_D hD)) ck_J7_fill_53178 w_693 hP hl.1 rfl ⟨Nat.le_of_ble_eq_true rfl, Nat.le_of_ble_eq_true rfl⟩ (Nat.le_of_ble_eq_true rfl) dX2_wipe_5 ⟨Nat.le_of_ble_eq_true rfl, Nat.le_of_ble_eq_true rfl⟩) hS (fun H locs hP hS => ?_)
  refine lv_aload_n hx hb dX2_wipe_8 rfl (lv_at hl 0 rfl) ?_
  refine q_get (v := .ref (ad 27)) hx hb hown hE inT_X2 hP 25 rfl rfl 1 (by decide) w_189 rfl dX2_wipe_9 ?_
  refine lv_iconst (v := 0) hx hb dX2_wipe_12 (by decide) ?_
  refine q_w0v (q_runS (rest := []) hx hb hml hown hE (c_J7_fill_53178_27 l D cI cZ cL ad (fillS S 26 8) A (wC_D hD)) ck_J7_fill_53178 w_693 hP hl.1 rfl ⟨Nat.le_of_ble_eq_true rfl, Nat.le_of_ble_eq_true rfl⟩ (Nat.le_of_ble_eq_true rfl) dX2_wipe_13 ⟨Nat.le_of_ble_eq_true rfl, Nat.le_of_ble_eq_true rfl⟩) hS (fun H locs hP hS => ?_)
  refine lv_aload_n hx hb dX2_wipe_16 rfl (lv_at hl 0 rfl) ?_
  refine q_get (v := .ref (ad 28)) hx hb hown hE inT_X2 hP 25 rfl rfl 2 (by decide) w_191 rfl dX2_wipe_17 ?_
  refine lv_iconst (v := 0) hx hb dX2_wipe_20 (by decide) ?_
  refine q_w0v (q_runS (rest := []) hx hb hml hown hE (c_J7_fill_53178_28 l D cI cZ cL ad (fillS (fillS S 26 8) 27 8) A (wC_D hD)) ck_J7_fill_53178 w_693 hP hl.1 rfl ⟨Nat.le_of_ble_eq_true rfl, Nat.le_of_ble_eq_true rfl⟩ (Nat.le_of_ble_eq_true rfl) dX2_wipe_21 ⟨Nat.le_of_ble_eq_true rfl, Nat.le_of_ble_eq_true rfl⟩) hS (fun H locs hP hS => ?_)
  refine lv_aload_n hx hb dX2_wipe_24 rfl (lv_at hl 0 rfl) ?_
  refine q_get (v := .ref (ad 29)) hx hb hown hE inT_X2 hP 25 rfl rfl 3 (by decide) w_193 rfl dX2_wipe_25 ?_
  refine lv_iconst (v := 0) hx hb dX2_wipe_28 (by decide) ?_
  refine q_w0v (q_runS (rest := []) hx hb hml hown hE (c_J7_fill_53178_29 l D cI cZ cL ad (fillS (fillS (fillS S 26 8) 27 8) 28 128) A (wC_D hD)) ck_J7_fill_53178 w_693 hP hl.1 rfl ⟨Nat.le_of_ble_eq_true rfl, Nat.le_of_ble_eq_true rfl⟩ (Nat.le_of_ble_eq_true rfl) dX2_wipe_29 ⟨Nat.le_of_ble_eq_true rfl, Nat.le_of_ble_eq_true rfl⟩) hS (fun H locs hP hS => ?_)
  refine lv_aload_n hx hb dX2_wipe_32 rfl (lv_at hl 0 rfl) ?_
  refine q_get (v := .ref (ad 30)) hx hb hown hE inT_X2 hP 25 rfl rfl 4 (by decide) w_195 rfl dX2_wipe_33 ?_
  refine lv_iconst (v := 0) hx hb dX2_wipe_36 (by decide) ?_
  refine q_w0v (q_runS (rest := []) hx hb hml hown hE (c_J7_fill_53178_30 l D cI cZ cL ad (fillS (fillS (fillS (fillS S 26 8) 27 8) 28 128) 29 128) A (wC_D hD)) ck_J7_fill_53178 w_693 hP hl.1 rfl ⟨Nat.le_of_ble_eq_true rfl, Nat.le_of_ble_eq_true rfl⟩ (Nat.le_of_ble_eq_true rfl) dX2_wipe_37 ⟨Nat.le_of_ble_eq_true rfl, Nat.le_of_ble_eq_true rfl⟩) hS (fun H locs hP hS => ?_)
  refine lv_aload_n hx hb dX2_wipe_40 rfl (lv_at hl 0 rfl) ?_
  refine q_get (v := .ref (ad 31)) hx hb hown hE inT_X2 hP 25 rfl rfl 5 (by decide) w_197 rfl dX2_wipe_41 ?_
  refine lv_iconst (v := 0) hx hb dX2_wipe_44 (by decide) ?_
  refine q_w0v (q_runS (rest := []) hx hb hml hown hE (c_J7_fill_53178_31 l D cI cZ cL ad (fillS (fillS (fillS (fillS (fillS S 26 8) 27 8) 28 128) 29 128) 30 64) A (wC_D hD)) ck_J7_fill_53178 w_693 hP hl.1 rfl ⟨Nat.le_of_ble_eq_true rfl, Nat.le_of_ble_eq_true rfl⟩ (Nat.le_of_ble_eq_true rfl) dX2_wipe_45 ⟨Nat.le_of_ble_eq_true rfl, Nat.le_of_ble_eq_true rfl⟩) hS (fun H locs hP hS => ?_)
  exact e_wretv hx hb hr hlk (by rw [show p_wipe S = fillS (fillS (fillS (fillS (fillS (fillS S 26 8) 27 8) 28 128) 29 128) 30 64) 31 64 from by rfl]; exact hP) hS dX2_wipe_48

theorem dX5_replaySolutions_0 : decode cX5_replaySolutions 0 = .ok (.iconst 0, 1) := by decide +kernel
theorem dX5_replaySolutions_1 : decode cX5_replaySolutions 1 = .ok (.istore_n 1, 1) := by decide +kernel
theorem dX5_replaySolutions_2 : decode cX5_replaySolutions 2 = .ok (.iload_n 1, 1) := by decide +kernel
theorem dX5_replaySolutions_3 : decode cX5_replaySolutions 3 = .ok (.aload_n 0, 1) := by decide +kernel
theorem dX5_replaySolutions_4 : decode cX5_replaySolutions 4 = .ok (.getfield 19, 3) := by decide +kernel
theorem dX5_replaySolutions_7 : decode cX5_replaySolutions 7 = .ok (.getfield 132, 3) := by decide +kernel
theorem dX5_replaySolutions_10 : decode cX5_replaySolutions 10 = .ok (.if_icmp .ge 52, 3) := by decide +kernel
theorem dX5_replaySolutions_13 : decode cX5_replaySolutions 13 = .ok (.aload_n 0, 1) := by decide +kernel
theorem dX5_replaySolutions_14 : decode cX5_replaySolutions 14 = .ok (.iload_n 1, 1) := by decide +kernel
theorem dX5_replaySolutions_15 : decode cX5_replaySolutions 15 = .ok (.invokevirtual 299, 3) := by decide +kernel
theorem dX5_replaySolutions_18 : decode cX5_replaySolutions 18 = .ok (.ifCond .eq 38, 3) := by decide +kernel
theorem dX5_replaySolutions_21 : decode cX5_replaySolutions 21 = .ok (.aload_n 0, 1) := by decide +kernel
theorem dX5_replaySolutions_22 : decode cX5_replaySolutions 22 = .ok (.aload_n 0, 1) := by decide +kernel
theorem dX5_replaySolutions_23 : decode cX5_replaySolutions 23 = .ok (.getfield 44, 3) := by decide +kernel
theorem dX5_replaySolutions_26 : decode cX5_replaySolutions 26 = .ok (.aload_n 0, 1) := by decide +kernel
theorem dX5_replaySolutions_27 : decode cX5_replaySolutions 27 = .ok (.getfield 19, 3) := by decide +kernel
theorem dX5_replaySolutions_30 : decode cX5_replaySolutions 30 = .ok (.getfield 303, 3) := by decide +kernel
theorem dX5_replaySolutions_33 : decode cX5_replaySolutions 33 = .ok (.iload_n 1, 1) := by decide +kernel
theorem dX5_replaySolutions_34 : decode cX5_replaySolutions 34 = .ok (.iaload, 1) := by decide +kernel
theorem dX5_replaySolutions_35 : decode cX5_replaySolutions 35 = .ok (.aload_n 0, 1) := by decide +kernel
theorem dX5_replaySolutions_36 : decode cX5_replaySolutions 36 = .ok (.getfield 19, 3) := by decide +kernel
theorem dX5_replaySolutions_39 : decode cX5_replaySolutions 39 = .ok (.getfield 306, 3) := by decide +kernel
theorem dX5_replaySolutions_42 : decode cX5_replaySolutions 42 = .ok (.iload_n 1, 1) := by decide +kernel
theorem dX5_replaySolutions_43 : decode cX5_replaySolutions 43 = .ok (.iaload, 1) := by decide +kernel
theorem dX5_replaySolutions_44 : decode cX5_replaySolutions 44 = .ok (.aload_n 0, 1) := by decide +kernel
theorem dX5_replaySolutions_45 : decode cX5_replaySolutions 45 = .ok (.getfield 19, 3) := by decide +kernel
theorem dX5_replaySolutions_48 : decode cX5_replaySolutions 48 = .ok (.getfield 308, 3) := by decide +kernel
theorem dX5_replaySolutions_51 : decode cX5_replaySolutions 51 = .ok (.iload_n 1, 1) := by decide +kernel
theorem dX5_replaySolutions_52 : decode cX5_replaySolutions 52 = .ok (.iaload, 1) := by decide +kernel
theorem dX5_replaySolutions_53 : decode cX5_replaySolutions 53 = .ok (.invokevirtual 138, 3) := by decide +kernel
theorem dX5_replaySolutions_56 : decode cX5_replaySolutions 56 = .ok (.iinc 1 1, 3) := by decide +kernel
theorem dX5_replaySolutions_59 : decode cX5_replaySolutions 59 = .ok (.goto (-57), 3) := by decide +kernel
theorem dX5_replaySolutions_62 : decode cX5_replaySolutions 62 = .ok (.return_, 1) := by decide +kernel
set_option maxHeartbeats 4000000 in
set_option maxRecDepth 100000 in
theorem c_X5_replaySolutions (l : Launch) (D : va_G) (cI cZ cL : ClassId) (ad : Nat → Nat) (S : Mem) (A : Nat → Prop) (hD : va_D A (wC ad cI S)) (hI : I0 S) : WR l D cI cZ cL yX5_replaySolutions cX5_replaySolutions 2 none 4 [.ref (ad 0)] A (wC ad cI S) (wC ad cI (p_replay S (cN S))) none := by
  refine WR.of (by decide) (Nat.le_of_ble_eq_true rfl) ?_
  intro p e s m args below meth c ls hx hb hr hml hown hlk hE hP hS hl
  have hl : lv_has ls 2 [(0, .ref (ad 0))] := hl
  have hT8 := hI.T8
  have hR16 := hI.R16
  have hN200 := hI.N200
  refine lv_iconst (v := 0) hx hb dX5_replaySolutions_0 (by decide) ?_
  refine lv_istore_n (lv' := [(1, .int 0), (0, .ref (ad 0))]) hx hb dX5_replaySolutions_1 rfl hl (by decide) rfl (fun ls hl => ?_)
  have hloop_2 : ∀ (n i : Nat), i ≤ cN S → cN S < i + n → ∀ (H : Heap) (locs : List Loc), va_P D vwCl (wC ad cI (p_replay S i)) H → va_S A s.heap H locs → ∀ ls : Array Slot, lv_has ls 2 [(1, .int (nI i)), (0, .ref (ad 0))] → W p l e (rm 4 0 0) s m args below meth c H locs 0 0 (MQ below (Qwr D A (wC ad cI (p_replay S (cN S))) none) args s 0 0 A) (F0 m 2 ls []) := by
    intro n
    induction n with
    | zero => intro i h1 h2; exact absurd h2 (by omega)
    | succ n ih_2 =>
      intro i hi_2 hin_2  H locs hP hS ls hl
      have hI_2 : I0 (p_replay S i) := I0_congr (fun c hc => fr_replay (by omega) _) hI
      have hcN : cN (p_replay S i) = cN S := cN_congr (fr_replay (by omega) _)
      refine lv_iload_n hx hb dX5_replaySolutions_2 rfl (lv_at hl 0 rfl) ?_
      refine lv_aload_n hx hb dX5_replaySolutions_3 rfl (lv_at hl 1 rfl) ?_
      refine q_get (v := .ref (ad 7)) hx hb hown hE inT_X5 hP 0 rfl rfl 1 (by decide) w_213 rfl dX5_replaySolutions_4 ?_
      refine q_getN (v := .int ((p_replay S i) 7 4)) hx hb hown hE inT_X0 hP 7 rfl rfl 4 (by decide) w_136 rfl dX5_replaySolutions_7 ?_
      refine q_top (y := nI (cN (p_replay S i))) (I0.N hI_2) ?_
      refine q_top (y := nI (cN S)) (congrArg nI hcN) ?_
      refine lv_icmp_ge (tgt := 62) hx hb dX5_replaySolutions_10 (by decide) (fun c_1 => ?_) (fun c_1 => ?_)
      · skip
        have c_1 : (cN S) ≤ i := n_le (a := cN S) (b := i) (by omega) (by omega) c_1
        have hend_2 : cN S = i := by omega
        subst hend_2
        exact e_wretv hx hb hr hlk hP hS dX5_replaySolutions_62
      · skip
        have c_1 : i < (cN S) := n_nle (a := cN S) (b := i) (by omega) (by omega) c_1
        have h8 := hI_2.xT8 (k := i) (by omega)
        have h16 := hI_2.xR16 (k := i) (by omega)
        refine lv_aload_n hx hb dX5_replaySolutions_13 rfl (lv_at hl 1 rfl) ?_
        refine lv_iload_n hx hb dX5_replaySolutions_14 rfl (lv_at hl 0 rfl) ?_
        refine q_rd (q_runV (rest := []) hx hb hml hown hE (c_X5_isRight l D cI cZ cL ad (p_replay S i) i hI_2 (by omega)) ck_X5_isRight w_700 hP 0 rfl rfl hl.1 rfl ⟨Nat.le_of_ble_eq_true rfl, Nat.le_of_ble_eq_true rfl⟩ (Nat.le_of_ble_eq_true rfl) dX5_replaySolutions_15 ⟨Nat.le_of_ble_eq_true rfl, Nat.le_of_ble_eq_true rfl⟩) ?_
        refine lv_if_eq (tgt := 56) hx hb dX5_replaySolutions_18 (by decide) (fun c_2 => ?_) (fun c_2 => ?_)
        · skip
          have c_2 : p_right (p_replay S i) i = false := b_f c_2
          refine lv_iinc (v := nI (i + 1)) (lv' := [(1, .int (nI (i + 1))), (0, .ref (ad 0))]) hx hb dX5_replaySolutions_56 hl (k := 0) rfl (nI_1 i) (by decide) rfl (fun ls hl => ?_)
          refine lv_goto (tgt := 2) hx hb dX5_replaySolutions_59 (by decide) ?_
          refine ih_2 (i + 1) (by omega) (by omega)  H locs (by rw [show p_replay S (i + 1) = p_replay S i from by first | (simp only [bI, p_replay, c_1, c_2, ↓reduceIte]; done) | (simp [bI, p_replay, c_1, c_2]; done) | (simp_all [bI, p_replay]; done)]; exact hP) hS ls ?_
          exact lv_sub hl [0, 1] rfl
        · skip
          have c_2 : p_right (p_replay S i) i = true := b_t c_2
          refine lv_aload_n hx hb dX5_replaySolutions_21 rfl (lv_at hl 1 rfl) ?_
          refine lv_aload_n hx hb dX5_replaySolutions_22 rfl (lv_at hl 1 rfl) ?_
          refine q_get (v := .ref (ad 25)) hx hb hown hE inT_X5 hP 0 rfl rfl 5 (by decide) w_217 rfl dX5_replaySolutions_23 ?_
          refine lv_aload_n hx hb dX5_replaySolutions_26 rfl (lv_at hl 1 rfl) ?_
          refine q_get (v := .ref (ad 7)) hx hb hown hE inT_X5 hP 0 rfl rfl 1 (by decide) w_213 rfl dX5_replaySolutions_27 ?_
          refine q_getN (v := .ref (ad 8)) hx hb hown hE inT_X0 hP 7 rfl rfl 0 (by decide) w_128 rfl dX5_replaySolutions_30 ?_
          refine lv_iload_n hx hb dX5_replaySolutions_33 rfl (lv_at hl 0 rfl) ?_
          refine q_iald (f := (p_replay S i) 8) (i := i) hx hb hE hP 8 rfl (by omega) (Nat.le_of_ble_eq_true rfl) dX5_replaySolutions_34 ?_
          refine q_top (y := nI (aT (p_replay S i) i)) (hI_2.xT (by omega)) ?_
          refine lv_aload_n hx hb dX5_replaySolutions_35 rfl (lv_at hl 1 rfl) ?_
          refine q_get (v := .ref (ad 7)) hx hb hown hE inT_X5 hP 0 rfl rfl 1 (by decide) w_213 rfl dX5_replaySolutions_36 ?_
          refine q_getN (v := .ref (ad 9)) hx hb hown hE inT_X0 hP 7 rfl rfl 1 (by decide) w_130 rfl dX5_replaySolutions_39 ?_
          refine lv_iload_n hx hb dX5_replaySolutions_42 rfl (lv_at hl 0 rfl) ?_
          refine q_iald (f := (p_replay S i) 9) (i := i) hx hb hE hP 9 rfl (by omega) (Nat.le_of_ble_eq_true rfl) dX5_replaySolutions_43 ?_
          refine q_top (y := nI (aR (p_replay S i) i)) (hI_2.xR (by omega)) ?_
          refine lv_aload_n hx hb dX5_replaySolutions_44 rfl (lv_at hl 1 rfl) ?_
          refine q_get (v := .ref (ad 7)) hx hb hown hE inT_X5 hP 0 rfl rfl 1 (by decide) w_213 rfl dX5_replaySolutions_45 ?_
          refine q_getN (v := .ref (ad 11)) hx hb hown hE inT_X0 hP 7 rfl rfl 3 (by decide) w_134 rfl dX5_replaySolutions_48 ?_
          refine lv_iload_n hx hb dX5_replaySolutions_51 rfl (lv_at hl 0 rfl) ?_
          refine q_iald (f := (p_replay S i) 11) (i := i) hx hb hE hP 11 rfl (by omega) (Nat.le_of_ble_eq_true rfl) dX5_replaySolutions_52 ?_
          refine q_w0v (q_runV (rest := []) hx hb hml hown hE (c_X5_noteSolved_25 l D cI cZ cL ad (p_replay S i) A (wC_D hD) (aT (p_replay S i) i) (aR (p_replay S i) i) ((p_replay S i) 11 i) (by omega) (by omega)) ck_X5_noteSolved w_502 hP 0 rfl rfl hl.1 rfl ⟨Nat.le_of_ble_eq_true rfl, Nat.le_of_ble_eq_true rfl⟩ (Nat.le_of_ble_eq_true rfl) dX5_replaySolutions_53 ⟨Nat.le_of_ble_eq_true rfl, Nat.le_of_ble_eq_true rfl⟩) hS (fun H locs hP hS => ?_)
          have hI_c3 : I0 (p_noteS (p_replay S i) 25 (aT (p_replay S i) i) (aR (p_replay S i) i) ((p_replay S i) 11 i)) := I0_congr (fun c hc => fr_noteS (by omega)) hI_2
          refine lv_iinc (v := nI (i + 1)) (lv' := [(1, .int (nI (i + 1))), (0, .ref (ad 0))]) hx hb dX5_replaySolutions_56 hl (k := 0) rfl (nI_1 i) (by decide) rfl (fun ls hl => ?_)
          refine lv_goto (tgt := 2) hx hb dX5_replaySolutions_59 (by decide) ?_
          refine ih_2 (i + 1) (by omega) (by omega)  H locs (by rw [show p_replay S (i + 1) = p_noteS (p_replay S i) 25 (aT (p_replay S i) i) (aR (p_replay S i) i) ((p_replay S i) 11 i) from by first | (simp only [bI, p_replay, c_1, c_2, ↓reduceIte]; done) | (simp [bI, p_replay, c_1, c_2]; done) | (simp_all [bI, p_replay]; done)]; exact hP) hS ls ?_
          exact lv_sub hl [0, 1] rfl
  refine hloop_2 (cN S + 1) 0 (by omega) (by omega)  s.heap [] hP hS ls ?_
  exact lv_sub hl [0, 1] rfl

theorem dX5_compareWithOthers_0 : decode cX5_compareWithOthers 0 = .ok (.aload_n 0, 1) := by decide +kernel
theorem dX5_compareWithOthers_1 : decode cX5_compareWithOthers 1 = .ok (.getfield 19, 3) := by decide +kernel
theorem dX5_compareWithOthers_4 : decode cX5_compareWithOthers 4 = .ok (.getfield 303, 3) := by decide +kernel
theorem dX5_compareWithOthers_7 : decode cX5_compareWithOthers 7 = .ok (.iload_n 1, 1) := by decide +kernel
theorem dX5_compareWithOthers_8 : decode cX5_compareWithOthers 8 = .ok (.iaload, 1) := by decide +kernel
theorem dX5_compareWithOthers_9 : decode cX5_compareWithOthers 9 = .ok (.istore_n 2, 1) := by decide +kernel
theorem dX5_compareWithOthers_10 : decode cX5_compareWithOthers 10 = .ok (.iconst 0, 1) := by decide +kernel
theorem dX5_compareWithOthers_11 : decode cX5_compareWithOthers 11 = .ok (.istore_n 3, 1) := by decide +kernel
theorem dX5_compareWithOthers_12 : decode cX5_compareWithOthers 12 = .ok (.iload_n 3, 1) := by decide +kernel
theorem dX5_compareWithOthers_13 : decode cX5_compareWithOthers 13 = .ok (.aload_n 0, 1) := by decide +kernel
theorem dX5_compareWithOthers_14 : decode cX5_compareWithOthers 14 = .ok (.getfield 19, 3) := by decide +kernel
theorem dX5_compareWithOthers_17 : decode cX5_compareWithOthers 17 = .ok (.getfield 132, 3) := by decide +kernel
theorem dX5_compareWithOthers_20 : decode cX5_compareWithOthers 20 = .ok (.if_icmp .ge 71, 3) := by decide +kernel
theorem dX5_compareWithOthers_23 : decode cX5_compareWithOthers 23 = .ok (.aload_n 0, 1) := by decide +kernel
theorem dX5_compareWithOthers_24 : decode cX5_compareWithOthers 24 = .ok (.getfield 19, 3) := by decide +kernel
theorem dX5_compareWithOthers_27 : decode cX5_compareWithOthers 27 = .ok (.getfield 303, 3) := by decide +kernel
theorem dX5_compareWithOthers_30 : decode cX5_compareWithOthers 30 = .ok (.iload_n 3, 1) := by decide +kernel
theorem dX5_compareWithOthers_31 : decode cX5_compareWithOthers 31 = .ok (.iaload, 1) := by decide +kernel
theorem dX5_compareWithOthers_32 : decode cX5_compareWithOthers 32 = .ok (.iload_n 2, 1) := by decide +kernel
theorem dX5_compareWithOthers_33 : decode cX5_compareWithOthers 33 = .ok (.if_icmp .eq 52, 3) := by decide +kernel
theorem dX5_compareWithOthers_36 : decode cX5_compareWithOthers 36 = .ok (.aload_n 0, 1) := by decide +kernel
theorem dX5_compareWithOthers_37 : decode cX5_compareWithOthers 37 = .ok (.getfield 19, 3) := by decide +kernel
theorem dX5_compareWithOthers_40 : decode cX5_compareWithOthers 40 = .ok (.iload_n 1, 1) := by decide +kernel
theorem dX5_compareWithOthers_41 : decode cX5_compareWithOthers 41 = .ok (.iload_n 3, 1) := by decide +kernel
theorem dX5_compareWithOthers_42 : decode cX5_compareWithOthers 42 = .ok (.invokevirtual 317, 3) := by decide +kernel
theorem dX5_compareWithOthers_45 : decode cX5_compareWithOthers 45 = .ok (.ifCond .eq 40, 3) := by decide +kernel
theorem dX5_compareWithOthers_48 : decode cX5_compareWithOthers 48 = .ok (.aload_n 0, 1) := by decide +kernel
theorem dX5_compareWithOthers_49 : decode cX5_compareWithOthers 49 = .ok (.getfield 19, 3) := by decide +kernel
theorem dX5_compareWithOthers_52 : decode cX5_compareWithOthers 52 = .ok (.iload_n 3, 1) := by decide +kernel
theorem dX5_compareWithOthers_53 : decode cX5_compareWithOthers 53 = .ok (.invokevirtual 311, 3) := by decide +kernel
theorem dX5_compareWithOthers_56 : decode cX5_compareWithOthers 56 = .ok (.ifCond .ne 29, 3) := by decide +kernel
theorem dX5_compareWithOthers_59 : decode cX5_compareWithOthers 59 = .ok (.aload_n 0, 1) := by decide +kernel
theorem dX5_compareWithOthers_60 : decode cX5_compareWithOthers 60 = .ok (.getfield 44, 3) := by decide +kernel
theorem dX5_compareWithOthers_63 : decode cX5_compareWithOthers 63 = .ok (.iload_n 2, 1) := by decide +kernel
theorem dX5_compareWithOthers_64 : decode cX5_compareWithOthers 64 = .ok (.aload_n 0, 1) := by decide +kernel
theorem dX5_compareWithOthers_65 : decode cX5_compareWithOthers 65 = .ok (.getfield 19, 3) := by decide +kernel
theorem dX5_compareWithOthers_68 : decode cX5_compareWithOthers 68 = .ok (.getfield 303, 3) := by decide +kernel
theorem dX5_compareWithOthers_71 : decode cX5_compareWithOthers 71 = .ok (.iload_n 3, 1) := by decide +kernel
theorem dX5_compareWithOthers_72 : decode cX5_compareWithOthers 72 = .ok (.iaload, 1) := by decide +kernel
theorem dX5_compareWithOthers_73 : decode cX5_compareWithOthers 73 = .ok (.aload_n 0, 1) := by decide +kernel
theorem dX5_compareWithOthers_74 : decode cX5_compareWithOthers 74 = .ok (.getfield 19, 3) := by decide +kernel
theorem dX5_compareWithOthers_77 : decode cX5_compareWithOthers 77 = .ok (.getfield 306, 3) := by decide +kernel
theorem dX5_compareWithOthers_80 : decode cX5_compareWithOthers 80 = .ok (.iload_n 3, 1) := by decide +kernel
theorem dX5_compareWithOthers_81 : decode cX5_compareWithOthers 81 = .ok (.iaload, 1) := by decide +kernel
theorem dX5_compareWithOthers_82 : decode cX5_compareWithOthers 82 = .ok (.invokevirtual 284, 3) := by decide +kernel
theorem dX5_compareWithOthers_85 : decode cX5_compareWithOthers 85 = .ok (.iinc 3 1, 3) := by decide +kernel
theorem dX5_compareWithOthers_88 : decode cX5_compareWithOthers 88 = .ok (.goto (-76), 3) := by decide +kernel
theorem dX5_compareWithOthers_91 : decode cX5_compareWithOthers 91 = .ok (.return_, 1) := by decide +kernel
set_option maxHeartbeats 4000000 in
set_option maxRecDepth 100000 in
theorem c_X5_compareWithOthers (l : Launch) (D : va_G) (cI cZ cL : ClassId) (ad : Nat → Nat) (S : Mem) (A : Nat → Prop) (hD : va_D A (wC ad cI S)) (a : Nat) (hI : I0 S) (ha : a < cN S) : WR l D cI cZ cL yX5_compareWithOthers cX5_compareWithOthers 4 none 2 [.ref (ad 0), .int (nI a)] A (wC ad cI S) (wC ad cI (p_cmpO S a (cN S))) none := by
  refine WR.of (by decide) (Nat.le_of_ble_eq_true rfl) ?_
  intro p e s m args below meth c ls hx hb hr hml hown hlk hE hP hS hl
  have hl : lv_has ls 4 [(0, .ref (ad 0)), (1, .int (nI a))] := hl
  have hT8 := hI.T8
  have hR16 := hI.R16
  have hN200 := hI.N200
  have ha8 := hI.xT8 ha
  refine lv_aload_n hx hb dX5_compareWithOthers_0 rfl (lv_at hl 0 rfl) ?_
  refine q_get (v := .ref (ad 7)) hx hb hown hE inT_X5 hP 0 rfl rfl 1 (by decide) w_213 rfl dX5_compareWithOthers_1 ?_
  refine q_getN (v := .ref (ad 8)) hx hb hown hE inT_X0 hP 7 rfl rfl 0 (by decide) w_128 rfl dX5_compareWithOthers_4 ?_
  refine lv_iload_n hx hb dX5_compareWithOthers_7 rfl (lv_at hl 1 rfl) ?_
  refine q_iald (f := S 8) (i := a) hx hb hE hP 8 rfl (by omega) (Nat.le_of_ble_eq_true rfl) dX5_compareWithOthers_8 ?_
  refine q_top (y := nI (aT S a)) (hI.xT ha) ?_
  refine lv_istore_n (lv' := [(2, .int (nI (aT S a))), (0, .ref (ad 0)), (1, .int (nI a))]) hx hb dX5_compareWithOthers_9 rfl hl (by decide) rfl (fun ls hl => ?_)
  refine lv_iconst (v := 0) hx hb dX5_compareWithOthers_10 (by decide) ?_
  refine lv_istore_n (lv' := [(3, .int 0), (2, .int (nI (aT S a))), (0, .ref (ad 0)), (1, .int (nI a))]) hx hb dX5_compareWithOthers_11 rfl hl (by decide) rfl (fun ls hl => ?_)
  have hloop_12 : ∀ (n i : Nat), i ≤ cN S → cN S < i + n → ∀ (H : Heap) (locs : List Loc), va_P D vwCl (wC ad cI (p_cmpO S a i)) H → va_S A s.heap H locs → ∀ ls : Array Slot, lv_has ls 4 [(3, .int (nI i)), (2, .int (nI (aT S a))), (0, .ref (ad 0)), (1, .int (nI a))] → W p l e (rm 2 0 0) s m args below meth c H locs 0 0 (MQ below (Qwr D A (wC ad cI (p_cmpO S a (cN S))) none) args s 0 0 A) (F0 m 12 ls []) := by
    intro n
    induction n with
    | zero => intro i h1 h2; exact absurd h2 (by omega)
    | succ n ih_12 =>
      intro i hi_12 hin_12  H locs hP hS ls hl
      have hI_12 : I0 (p_cmpO S a i) := I0_congr (fun c hc => fr_cmpO (by omega) _) hI
      have hcN : cN (p_cmpO S a i) = cN S := cN_congr (fr_cmpO (by omega) _)
      refine lv_iload_n hx hb dX5_compareWithOthers_12 rfl (lv_at hl 0 rfl) ?_
      refine lv_aload_n hx hb dX5_compareWithOthers_13 rfl (lv_at hl 2 rfl) ?_
      refine q_get (v := .ref (ad 7)) hx hb hown hE inT_X5 hP 0 rfl rfl 1 (by decide) w_213 rfl dX5_compareWithOthers_14 ?_
      refine q_getN (v := .int ((p_cmpO S a i) 7 4)) hx hb hown hE inT_X0 hP 7 rfl rfl 4 (by decide) w_136 rfl dX5_compareWithOthers_17 ?_
      refine q_top (y := nI (cN (p_cmpO S a i))) (I0.N hI_12) ?_
      refine q_top (y := nI (cN S)) (congrArg nI hcN) ?_
      refine lv_icmp_ge (tgt := 91) hx hb dX5_compareWithOthers_20 (by decide) (fun c_1 => ?_) (fun c_1 => ?_)
      · skip
        have c_1 : (cN S) ≤ i := n_le (a := cN S) (b := i) (by omega) (by omega) c_1
        have hend_12 : cN S = i := by omega
        subst hend_12
        exact e_wretv hx hb hr hlk hP hS dX5_compareWithOthers_91
      · skip
        have c_1 : i < (cN S) := n_nle (a := cN S) (b := i) (by omega) (by omega) c_1
        have h8 := hI_12.xT8 (k := i) (by omega)
        have h16 := hI_12.xR16 (k := i) (by omega)
        refine lv_aload_n hx hb dX5_compareWithOthers_23 rfl (lv_at hl 2 rfl) ?_
        refine q_get (v := .ref (ad 7)) hx hb hown hE inT_X5 hP 0 rfl rfl 1 (by decide) w_213 rfl dX5_compareWithOthers_24 ?_
        refine q_getN (v := .ref (ad 8)) hx hb hown hE inT_X0 hP 7 rfl rfl 0 (by decide) w_128 rfl dX5_compareWithOthers_27 ?_
        refine lv_iload_n hx hb dX5_compareWithOthers_30 rfl (lv_at hl 0 rfl) ?_
        refine q_iald (f := (p_cmpO S a i) 8) (i := i) hx hb hE hP 8 rfl (by omega) (Nat.le_of_ble_eq_true rfl) dX5_compareWithOthers_31 ?_
        refine lv_iload_n hx hb dX5_compareWithOthers_32 rfl (lv_at hl 1 rfl) ?_
        refine lv_icmp_eq (tgt := 85) hx hb dX5_compareWithOthers_33 (by decide) (fun c_2 => ?_) (fun c_2 => ?_)
        · skip
          refine lv_iinc (v := nI (i + 1)) (lv' := [(3, .int (nI (i + 1))), (2, .int (nI (aT S a))), (0, .ref (ad 0)), (1, .int (nI a))]) hx hb dX5_compareWithOthers_85 hl (k := 0) rfl (nI_1 i) (by decide) rfl (fun ls hl => ?_)
          refine lv_goto (tgt := 12) hx hb dX5_compareWithOthers_88 (by decide) ?_
          refine ih_12 (i + 1) (by omega) (by omega)  H locs (by rw [show p_cmpO S a (i + 1) = p_cmpO S a i from by first | (simp only [bI, p_cmpO, c_1, c_2, ↓reduceIte]; done) | (simp [bI, p_cmpO, c_1, c_2]; done) | (simp_all [bI, p_cmpO]; done)]; exact hP) hS ls ?_
          exact lv_sub hl [0, 1, 2, 3] rfl
        · skip
          refine lv_aload_n hx hb dX5_compareWithOthers_36 rfl (lv_at hl 2 rfl) ?_
          refine q_get (v := .ref (ad 7)) hx hb hown hE inT_X5 hP 0 rfl rfl 1 (by decide) w_213 rfl dX5_compareWithOthers_37 ?_
          refine lv_iload_n hx hb dX5_compareWithOthers_40 rfl (lv_at hl 3 rfl) ?_
          refine lv_iload_n hx hb dX5_compareWithOthers_41 rfl (lv_at hl 0 rfl) ?_
          refine q_rd (q_runVN (rest := []) hx hb hml hown hE (c_X0_areSame l D cI cZ cL ad (p_cmpO S a i) a i (by omega) (by omega)) ck_X0_areSame w_720 hP 7 rfl rfl hl.1 rfl ⟨Nat.le_of_ble_eq_true rfl, Nat.le_of_ble_eq_true rfl⟩ (Nat.le_of_ble_eq_true rfl) dX5_compareWithOthers_42 ⟨Nat.le_of_ble_eq_true rfl, Nat.le_of_ble_eq_true rfl⟩) ?_
          refine lv_if_eq (tgt := 85) hx hb dX5_compareWithOthers_45 (by decide) (fun c_3 => ?_) (fun c_3 => ?_)
          · skip
            have c_3 : p_same (p_cmpO S a i) a i = false := b_f c_3
            refine lv_iinc (v := nI (i + 1)) (lv' := [(3, .int (nI (i + 1))), (2, .int (nI (aT S a))), (0, .ref (ad 0)), (1, .int (nI a))]) hx hb dX5_compareWithOthers_85 hl (k := 0) rfl (nI_1 i) (by decide) rfl (fun ls hl => ?_)
            refine lv_goto (tgt := 12) hx hb dX5_compareWithOthers_88 (by decide) ?_
            refine ih_12 (i + 1) (by omega) (by omega)  H locs (by rw [show p_cmpO S a (i + 1) = p_cmpO S a i from by first | (simp only [bI, p_cmpO, c_1, c_2, c_3, ↓reduceIte]; done) | (simp [bI, p_cmpO, c_1, c_2, c_3]; done) | (simp_all [bI, p_cmpO]; done)]; exact hP) hS ls ?_
            exact lv_sub hl [0, 1, 2, 3] rfl
          · skip
            have c_3 : p_same (p_cmpO S a i) a i = true := b_t c_3
            refine lv_aload_n hx hb dX5_compareWithOthers_48 rfl (lv_at hl 2 rfl) ?_
            refine q_get (v := .ref (ad 7)) hx hb hown hE inT_X5 hP 0 rfl rfl 1 (by decide) w_213 rfl dX5_compareWithOthers_49 ?_
            refine lv_iload_n hx hb dX5_compareWithOthers_52 rfl (lv_at hl 0 rfl) ?_
            refine q_rd (q_runVN (rest := []) hx hb hml hown hE (c_X0_isRepeated l D cI cZ cL ad (p_cmpO S a i) i (by omega)) ck_X0_isRepeated w_708 hP 7 rfl rfl hl.1 rfl ⟨Nat.le_of_ble_eq_true rfl, Nat.le_of_ble_eq_true rfl⟩ (Nat.le_of_ble_eq_true rfl) dX5_compareWithOthers_53 ⟨Nat.le_of_ble_eq_true rfl, Nat.le_of_ble_eq_true rfl⟩) ?_
            refine lv_if_ne (tgt := 85) hx hb dX5_compareWithOthers_56 (by decide) (fun c_4 => ?_) (fun c_4 => ?_)
            · skip
              have c_4 : p_rep (p_cmpO S a i) i = true := b_t c_4
              refine lv_iinc (v := nI (i + 1)) (lv' := [(3, .int (nI (i + 1))), (2, .int (nI (aT S a))), (0, .ref (ad 0)), (1, .int (nI a))]) hx hb dX5_compareWithOthers_85 hl (k := 0) rfl (nI_1 i) (by decide) rfl (fun ls hl => ?_)
              refine lv_goto (tgt := 12) hx hb dX5_compareWithOthers_88 (by decide) ?_
              refine ih_12 (i + 1) (by omega) (by omega)  H locs (by rw [show p_cmpO S a (i + 1) = p_cmpO S a i from by first | (simp only [bI, p_cmpO, c_1, c_2, c_3, c_4, ↓reduceIte]; done) | (simp [bI, p_cmpO, c_1, c_2, c_3, c_4]; done) | (simp_all [bI, p_cmpO]; done)]; exact hP) hS ls ?_
              exact lv_sub hl [0, 1, 2, 3] rfl
            · skip
              have c_4 : p_rep (p_cmpO S a i) i = false := b_f c_4
              refine lv_aload_n hx hb dX5_compareWithOthers_59 rfl (lv_at hl 2 rfl) ?_
              refine q_get (v := .ref (ad 25)) hx hb hown hE inT_X5 hP 0 rfl rfl 5 (by decide) w_217 rfl dX5_compareWithOthers_60 ?_
              refine lv_iload_n hx hb dX5_compareWithOthers_63 rfl (lv_at hl 1 rfl) ?_
              refine lv_aload_n hx hb dX5_compareWithOthers_64 rfl (lv_at hl 2 rfl) ?_
              refine q_get (v := .ref (ad 7)) hx hb hown hE inT_X5 hP 0 rfl rfl 1 (by decide) w_213 rfl dX5_compareWithOthers_65 ?_
              refine q_getN (v := .ref (ad 8)) hx hb hown hE inT_X0 hP 7 rfl rfl 0 (by decide) w_128 rfl dX5_compareWithOthers_68 ?_
              refine lv_iload_n hx hb dX5_compareWithOthers_71 rfl (lv_at hl 0 rfl) ?_
              refine q_iald (f := (p_cmpO S a i) 8) (i := i) hx hb hE hP 8 rfl (by omega) (Nat.le_of_ble_eq_true rfl) dX5_compareWithOthers_72 ?_
              refine q_top (y := nI (aT (p_cmpO S a i) i)) (hI_12.xT (by omega)) ?_
              refine lv_aload_n hx hb dX5_compareWithOthers_73 rfl (lv_at hl 2 rfl) ?_
              refine q_get (v := .ref (ad 7)) hx hb hown hE inT_X5 hP 0 rfl rfl 1 (by decide) w_213 rfl dX5_compareWithOthers_74 ?_
              refine q_getN (v := .ref (ad 9)) hx hb hown hE inT_X0 hP 7 rfl rfl 1 (by decide) w_130 rfl dX5_compareWithOthers_77 ?_
              refine lv_iload_n hx hb dX5_compareWithOthers_80 rfl (lv_at hl 0 rfl) ?_
              refine q_iald (f := (p_cmpO S a i) 9) (i := i) hx hb hE hP 9 rfl (by omega) (Nat.le_of_ble_eq_true rfl) dX5_compareWithOthers_81 ?_
              refine q_top (y := nI (aR (p_cmpO S a i) i)) (hI_12.xR (by omega)) ?_
              refine q_w0v (q_runVN (rest := []) hx hb hml hown hE (c_X2_noteCommon_25 l D cI cZ cL ad (p_cmpO S a i) A (wC_D hD) (aT S a) (aT (p_cmpO S a i) i) (aR (p_cmpO S a i) i) (by omega) (by omega)) ck_X2_noteCommon w_520 hP 25 rfl rfl hl.1 rfl ⟨Nat.le_of_ble_eq_true rfl, Nat.le_of_ble_eq_true rfl⟩ (Nat.le_of_ble_eq_true rfl) dX5_compareWithOthers_82 ⟨Nat.le_of_ble_eq_true rfl, Nat.le_of_ble_eq_true rfl⟩) hS (fun H locs hP hS => ?_)
              refine lv_iinc (v := nI (i + 1)) (lv' := [(3, .int (nI (i + 1))), (2, .int (nI (aT S a))), (0, .ref (ad 0)), (1, .int (nI a))]) hx hb dX5_compareWithOthers_85 hl (k := 0) rfl (nI_1 i) (by decide) rfl (fun ls hl => ?_)
              refine lv_goto (tgt := 12) hx hb dX5_compareWithOthers_88 (by decide) ?_
              refine ih_12 (i + 1) (by omega) (by omega)  H locs (by rw [show p_cmpO S a (i + 1) = p_common (p_cmpO S a i) 25 (aT S a) (aT (p_cmpO S a i) i) (aR (p_cmpO S a i) i) from by first | (simp only [bI, p_cmpO, c_1, c_2, c_3, c_4, ↓reduceIte]; done) | (simp [bI, p_cmpO, c_1, c_2, c_3, c_4]; done) | (simp_all [bI, p_cmpO]; done)]; exact hP) hS ls ?_
              exact lv_sub hl [0, 1, 2, 3] rfl
  refine hloop_12 (cN S + 1) 0 (by omega) (by omega)  s.heap [] hP hS ls ?_
  exact lv_sub hl [0, 1, 2, 3] rfl

theorem dX5_comparePairs_0 : decode cX5_comparePairs 0 = .ok (.iconst 0, 1) := by decide +kernel
theorem dX5_comparePairs_1 : decode cX5_comparePairs 1 = .ok (.istore_n 2, 1) := by decide +kernel
theorem dX5_comparePairs_2 : decode cX5_comparePairs 2 = .ok (.iload_n 2, 1) := by decide +kernel
theorem dX5_comparePairs_3 : decode cX5_comparePairs 3 = .ok (.aload_n 0, 1) := by decide +kernel
theorem dX5_comparePairs_4 : decode cX5_comparePairs 4 = .ok (.getfield 19, 3) := by decide +kernel
theorem dX5_comparePairs_7 : decode cX5_comparePairs 7 = .ok (.getfield 132, 3) := by decide +kernel
theorem dX5_comparePairs_10 : decode cX5_comparePairs 10 = .ok (.if_icmp .ge 46, 3) := by decide +kernel
theorem dX5_comparePairs_13 : decode cX5_comparePairs 13 = .ok (.aload_n 0, 1) := by decide +kernel
theorem dX5_comparePairs_14 : decode cX5_comparePairs 14 = .ok (.getfield 19, 3) := by decide +kernel
theorem dX5_comparePairs_17 : decode cX5_comparePairs 17 = .ok (.getfield 303, 3) := by decide +kernel
theorem dX5_comparePairs_20 : decode cX5_comparePairs 20 = .ok (.iload_n 2, 1) := by decide +kernel
theorem dX5_comparePairs_21 : decode cX5_comparePairs 21 = .ok (.iaload, 1) := by decide +kernel
theorem dX5_comparePairs_22 : decode cX5_comparePairs 22 = .ok (.iload_n 1, 1) := by decide +kernel
theorem dX5_comparePairs_23 : decode cX5_comparePairs 23 = .ok (.if_icmp .ne 27, 3) := by decide +kernel
theorem dX5_comparePairs_26 : decode cX5_comparePairs 26 = .ok (.aload_n 0, 1) := by decide +kernel
theorem dX5_comparePairs_27 : decode cX5_comparePairs 27 = .ok (.iload_n 2, 1) := by decide +kernel
theorem dX5_comparePairs_28 : decode cX5_comparePairs 28 = .ok (.invokevirtual 299, 3) := by decide +kernel
theorem dX5_comparePairs_31 : decode cX5_comparePairs 31 = .ok (.ifCond .ne 19, 3) := by decide +kernel
theorem dX5_comparePairs_34 : decode cX5_comparePairs 34 = .ok (.aload_n 0, 1) := by decide +kernel
theorem dX5_comparePairs_35 : decode cX5_comparePairs 35 = .ok (.getfield 19, 3) := by decide +kernel
theorem dX5_comparePairs_38 : decode cX5_comparePairs 38 = .ok (.iload_n 2, 1) := by decide +kernel
theorem dX5_comparePairs_39 : decode cX5_comparePairs 39 = .ok (.invokevirtual 311, 3) := by decide +kernel
theorem dX5_comparePairs_42 : decode cX5_comparePairs 42 = .ok (.ifCond .ne 8, 3) := by decide +kernel
theorem dX5_comparePairs_45 : decode cX5_comparePairs 45 = .ok (.aload_n 0, 1) := by decide +kernel
theorem dX5_comparePairs_46 : decode cX5_comparePairs 46 = .ok (.iload_n 2, 1) := by decide +kernel
theorem dX5_comparePairs_47 : decode cX5_comparePairs 47 = .ok (.invokevirtual 314, 3) := by decide +kernel
theorem dX5_comparePairs_50 : decode cX5_comparePairs 50 = .ok (.iinc 2 1, 3) := by decide +kernel
theorem dX5_comparePairs_53 : decode cX5_comparePairs 53 = .ok (.goto (-51), 3) := by decide +kernel
theorem dX5_comparePairs_56 : decode cX5_comparePairs 56 = .ok (.return_, 1) := by decide +kernel
set_option maxHeartbeats 4000000 in
set_option maxRecDepth 100000 in
theorem c_X5_comparePairs (l : Launch) (D : va_G) (cI cZ cL : ClassId) (ad : Nat → Nat) (S : Mem) (A : Nat → Prop) (hD : va_D A (wC ad cI S)) (t : Nat) (hI : I0 S) (ht : t < 8) : WR l D cI cZ cL yX5_comparePairs cX5_comparePairs 3 none 3 [.ref (ad 0), .int (nI t)] A (wC ad cI S) (wC ad cI (p_cmpP S t (cN S))) none := by
  refine WR.of (by decide) (Nat.le_of_ble_eq_true rfl) ?_
  intro p e s m args below meth c ls hx hb hr hml hown hlk hE hP hS hl
  have hl : lv_has ls 3 [(0, .ref (ad 0)), (1, .int (nI t))] := hl
  have hT8 := hI.T8
  have hR16 := hI.R16
  have hN200 := hI.N200
  refine lv_iconst (v := 0) hx hb dX5_comparePairs_0 (by decide) ?_
  refine lv_istore_n (lv' := [(2, .int 0), (0, .ref (ad 0)), (1, .int (nI t))]) hx hb dX5_comparePairs_1 rfl hl (by decide) rfl (fun ls hl => ?_)
  have hloop_2 : ∀ (n i : Nat), i ≤ cN S → cN S < i + n → ∀ (H : Heap) (locs : List Loc), va_P D vwCl (wC ad cI (p_cmpP S t i)) H → va_S A s.heap H locs → ∀ ls : Array Slot, lv_has ls 3 [(2, .int (nI i)), (0, .ref (ad 0)), (1, .int (nI t))] → W p l e (rm 3 0 0) s m args below meth c H locs 0 0 (MQ below (Qwr D A (wC ad cI (p_cmpP S t (cN S))) none) args s 0 0 A) (F0 m 2 ls []) := by
    intro n
    induction n with
    | zero => intro i h1 h2; exact absurd h2 (by omega)
    | succ n ih_2 =>
      intro i hi_2 hin_2  H locs hP hS ls hl
      have hI_2 : I0 (p_cmpP S t i) := I0_congr (fun c hc => fr_cmpP (by omega) _) hI
      have hcN : cN (p_cmpP S t i) = cN S := cN_congr (fr_cmpP (by omega) _)
      refine lv_iload_n hx hb dX5_comparePairs_2 rfl (lv_at hl 0 rfl) ?_
      refine lv_aload_n hx hb dX5_comparePairs_3 rfl (lv_at hl 1 rfl) ?_
      refine q_get (v := .ref (ad 7)) hx hb hown hE inT_X5 hP 0 rfl rfl 1 (by decide) w_213 rfl dX5_comparePairs_4 ?_
      refine q_getN (v := .int ((p_cmpP S t i) 7 4)) hx hb hown hE inT_X0 hP 7 rfl rfl 4 (by decide) w_136 rfl dX5_comparePairs_7 ?_
      refine q_top (y := nI (cN (p_cmpP S t i))) (I0.N hI_2) ?_
      refine q_top (y := nI (cN S)) (congrArg nI hcN) ?_
      refine lv_icmp_ge (tgt := 56) hx hb dX5_comparePairs_10 (by decide) (fun c_1 => ?_) (fun c_1 => ?_)
      · skip
        have c_1 : (cN S) ≤ i := n_le (a := cN S) (b := i) (by omega) (by omega) c_1
        have hend_2 : cN S = i := by omega
        subst hend_2
        exact e_wretv hx hb hr hlk hP hS dX5_comparePairs_56
      · skip
        have c_1 : i < (cN S) := n_nle (a := cN S) (b := i) (by omega) (by omega) c_1
        refine lv_aload_n hx hb dX5_comparePairs_13 rfl (lv_at hl 1 rfl) ?_
        refine q_get (v := .ref (ad 7)) hx hb hown hE inT_X5 hP 0 rfl rfl 1 (by decide) w_213 rfl dX5_comparePairs_14 ?_
        refine q_getN (v := .ref (ad 8)) hx hb hown hE inT_X0 hP 7 rfl rfl 0 (by decide) w_128 rfl dX5_comparePairs_17 ?_
        refine lv_iload_n hx hb dX5_comparePairs_20 rfl (lv_at hl 0 rfl) ?_
        refine q_iald (f := (p_cmpP S t i) 8) (i := i) hx hb hE hP 8 rfl (by omega) (Nat.le_of_ble_eq_true rfl) dX5_comparePairs_21 ?_
        refine lv_iload_n hx hb dX5_comparePairs_22 rfl (lv_at hl 2 rfl) ?_
        refine lv_icmp_ne (tgt := 50) hx hb dX5_comparePairs_23 (by decide) (fun c_2 => ?_) (fun c_2 => ?_)
        · skip
          refine lv_iinc (v := nI (i + 1)) (lv' := [(2, .int (nI (i + 1))), (0, .ref (ad 0)), (1, .int (nI t))]) hx hb dX5_comparePairs_50 hl (k := 0) rfl (nI_1 i) (by decide) rfl (fun ls hl => ?_)
          refine lv_goto (tgt := 2) hx hb dX5_comparePairs_53 (by decide) ?_
          refine ih_2 (i + 1) (by omega) (by omega)  H locs (by rw [show p_cmpP S t (i + 1) = p_cmpP S t i from by first | (simp only [bI, p_cmpP, c_1, c_2, ↓reduceIte]; done) | (simp [bI, p_cmpP, c_1, c_2]; done) | (simp_all [bI, p_cmpP]; done)]; exact hP) hS ls ?_
          exact lv_sub hl [0, 1, 2] rfl
        · skip
          refine lv_aload_n hx hb dX5_comparePairs_26 rfl (lv_at hl 1 rfl) ?_
          refine lv_iload_n hx hb dX5_comparePairs_27 rfl (lv_at hl 0 rfl) ?_
          refine q_rd (q_runV (rest := []) hx hb hml hown hE (c_X5_isRight l D cI cZ cL ad (p_cmpP S t i) i hI_2 (by omega)) ck_X5_isRight w_700 hP 0 rfl rfl hl.1 rfl ⟨Nat.le_of_ble_eq_true rfl, Nat.le_of_ble_eq_true rfl⟩ (Nat.le_of_ble_eq_true rfl) dX5_comparePairs_28 ⟨Nat.le_of_ble_eq_true rfl, Nat.le_of_ble_eq_true rfl⟩) ?_
          refine lv_if_ne (tgt := 50) hx hb dX5_comparePairs_31 (by decide) (fun c_3 => ?_) (fun c_3 => ?_)
          · skip
            have c_3 : p_right (p_cmpP S t i) i = true := b_t c_3
            refine lv_iinc (v := nI (i + 1)) (lv' := [(2, .int (nI (i + 1))), (0, .ref (ad 0)), (1, .int (nI t))]) hx hb dX5_comparePairs_50 hl (k := 0) rfl (nI_1 i) (by decide) rfl (fun ls hl => ?_)
            refine lv_goto (tgt := 2) hx hb dX5_comparePairs_53 (by decide) ?_
            refine ih_2 (i + 1) (by omega) (by omega)  H locs (by rw [show p_cmpP S t (i + 1) = p_cmpP S t i from by first | (simp only [bI, p_cmpP, c_1, c_2, c_3, ↓reduceIte]; done) | (simp [bI, p_cmpP, c_1, c_2, c_3]; done) | (simp_all [bI, p_cmpP]; done)]; exact hP) hS ls ?_
            exact lv_sub hl [0, 1, 2] rfl
          · skip
            have c_3 : p_right (p_cmpP S t i) i = false := b_f c_3
            refine lv_aload_n hx hb dX5_comparePairs_34 rfl (lv_at hl 1 rfl) ?_
            refine q_get (v := .ref (ad 7)) hx hb hown hE inT_X5 hP 0 rfl rfl 1 (by decide) w_213 rfl dX5_comparePairs_35 ?_
            refine lv_iload_n hx hb dX5_comparePairs_38 rfl (lv_at hl 0 rfl) ?_
            refine q_rd (q_runVN (rest := []) hx hb hml hown hE (c_X0_isRepeated l D cI cZ cL ad (p_cmpP S t i) i (by omega)) ck_X0_isRepeated w_708 hP 7 rfl rfl hl.1 rfl ⟨Nat.le_of_ble_eq_true rfl, Nat.le_of_ble_eq_true rfl⟩ (Nat.le_of_ble_eq_true rfl) dX5_comparePairs_39 ⟨Nat.le_of_ble_eq_true rfl, Nat.le_of_ble_eq_true rfl⟩) ?_
            refine lv_if_ne (tgt := 50) hx hb dX5_comparePairs_42 (by decide) (fun c_4 => ?_) (fun c_4 => ?_)
            · skip
              have c_4 : p_rep (p_cmpP S t i) i = true := b_t c_4
              refine lv_iinc (v := nI (i + 1)) (lv' := [(2, .int (nI (i + 1))), (0, .ref (ad 0)), (1, .int (nI t))]) hx hb dX5_comparePairs_50 hl (k := 0) rfl (nI_1 i) (by decide) rfl (fun ls hl => ?_)
              refine lv_goto (tgt := 2) hx hb dX5_comparePairs_53 (by decide) ?_
              refine ih_2 (i + 1) (by omega) (by omega)  H locs (by rw [show p_cmpP S t (i + 1) = p_cmpP S t i from by first | (simp only [bI, p_cmpP, c_1, c_2, c_3, c_4, ↓reduceIte]; done) | (simp [bI, p_cmpP, c_1, c_2, c_3, c_4]; done) | (simp_all [bI, p_cmpP]; done)]; exact hP) hS ls ?_
              exact lv_sub hl [0, 1, 2] rfl
            · skip
              have c_4 : p_rep (p_cmpP S t i) i = false := b_f c_4
              refine lv_aload_n hx hb dX5_comparePairs_45 rfl (lv_at hl 1 rfl) ?_
              refine lv_iload_n hx hb dX5_comparePairs_46 rfl (lv_at hl 0 rfl) ?_
              refine q_w0v (q_runV (rest := []) hx hb hml hown hE (c_X5_compareWithOthers l D cI cZ cL ad (p_cmpP S t i) A (wC_D hD) i hI_2 (by omega)) ck_X5_compareWithOthers w_716 hP 0 rfl rfl hl.1 rfl ⟨Nat.le_of_ble_eq_true rfl, Nat.le_of_ble_eq_true rfl⟩ (Nat.le_of_ble_eq_true rfl) dX5_comparePairs_47 ⟨Nat.le_of_ble_eq_true rfl, Nat.le_of_ble_eq_true rfl⟩) hS (fun H locs hP hS => ?_)
              have hI_c5 : I0 (p_cmpO (p_cmpP S t i) i (cN (p_cmpP S t i))) := I0_congr (fun c hc => fr_cmpO (by omega) _) hI_2
              refine lv_iinc (v := nI (i + 1)) (lv' := [(2, .int (nI (i + 1))), (0, .ref (ad 0)), (1, .int (nI t))]) hx hb dX5_comparePairs_50 hl (k := 0) rfl (nI_1 i) (by decide) rfl (fun ls hl => ?_)
              refine lv_goto (tgt := 2) hx hb dX5_comparePairs_53 (by decide) ?_
              refine ih_2 (i + 1) (by omega) (by omega)  H locs (by rw [show p_cmpP S t (i + 1) = p_cmpO (p_cmpP S t i) i (cN (p_cmpP S t i)) from by first | (simp only [bI, p_cmpP, c_1, c_2, c_3, c_4, ↓reduceIte]; done) | (simp [bI, p_cmpP, c_1, c_2, c_3, c_4]; done) | (simp_all [bI, p_cmpP]; done)]; exact hP) hS ls ?_
              exact lv_sub hl [0, 1, 2] rfl
  refine hloop_2 (cN S + 1) 0 (by omega) (by omega)  s.heap [] hP hS ls ?_
  exact lv_sub hl [0, 1, 2] rfl

theorem dX5_replaySales_0 : decode cX5_replaySales 0 = .ok (.iconst 0, 1) := by decide +kernel
theorem dX5_replaySales_1 : decode cX5_replaySales 1 = .ok (.istore_n 2, 1) := by decide +kernel
theorem dX5_replaySales_2 : decode cX5_replaySales 2 = .ok (.iload_n 2, 1) := by decide +kernel
theorem dX5_replaySales_3 : decode cX5_replaySales 3 = .ok (.aload_n 0, 1) := by decide +kernel
theorem dX5_replaySales_4 : decode cX5_replaySales 4 = .ok (.getfield 10, 3) := by decide +kernel
theorem dX5_replaySales_7 : decode cX5_replaySales 7 = .ok (.getfield 76, 3) := by decide +kernel
theorem dX5_replaySales_10 : decode cX5_replaySales 10 = .ok (.if_icmp .ge 45, 3) := by decide +kernel
theorem dX5_replaySales_13 : decode cX5_replaySales 13 = .ok (.iconst 0, 1) := by decide +kernel
theorem dX5_replaySales_14 : decode cX5_replaySales 14 = .ok (.istore_n 3, 1) := by decide +kernel
theorem dX5_replaySales_15 : decode cX5_replaySales 15 = .ok (.iload_n 3, 1) := by decide +kernel
theorem dX5_replaySales_16 : decode cX5_replaySales 16 = .ok (.iconst 3, 1) := by decide +kernel
theorem dX5_replaySales_17 : decode cX5_replaySales 17 = .ok (.if_icmp .ge 32, 3) := by decide +kernel
theorem dX5_replaySales_20 : decode cX5_replaySales 20 = .ok (.aload_n 0, 1) := by decide +kernel
theorem dX5_replaySales_21 : decode cX5_replaySales 21 = .ok (.getfield 44, 3) := by decide +kernel
theorem dX5_replaySales_24 : decode cX5_replaySales 24 = .ok (.iload_n 1, 1) := by decide +kernel
theorem dX5_replaySales_25 : decode cX5_replaySales 25 = .ok (.iload_n 2, 1) := by decide +kernel
theorem dX5_replaySales_26 : decode cX5_replaySales 26 = .ok (.aload_n 0, 1) := by decide +kernel
theorem dX5_replaySales_27 : decode cX5_replaySales 27 = .ok (.getfield 26, 3) := by decide +kernel
theorem dX5_replaySales_30 : decode cX5_replaySales 30 = .ok (.getfield 320, 3) := by decide +kernel
theorem dX5_replaySales_33 : decode cX5_replaySales 33 = .ok (.iload_n 1, 1) := by decide +kernel
theorem dX5_replaySales_34 : decode cX5_replaySales 34 = .ok (.iload_n 2, 1) := by decide +kernel
theorem dX5_replaySales_35 : decode cX5_replaySales 35 = .ok (.iload_n 3, 1) := by decide +kernel
theorem dX5_replaySales_36 : decode cX5_replaySales 36 = .ok (.invokestatic 323, 3) := by decide +kernel
theorem dX5_replaySales_39 : decode cX5_replaySales 39 = .ok (.iaload, 1) := by decide +kernel
theorem dX5_replaySales_40 : decode cX5_replaySales 40 = .ok (.invokevirtual 159, 3) := by decide +kernel
theorem dX5_replaySales_43 : decode cX5_replaySales 43 = .ok (.iinc 3 1, 3) := by decide +kernel
theorem dX5_replaySales_46 : decode cX5_replaySales 46 = .ok (.goto (-31), 3) := by decide +kernel
theorem dX5_replaySales_49 : decode cX5_replaySales 49 = .ok (.iinc 2 1, 3) := by decide +kernel
theorem dX5_replaySales_52 : decode cX5_replaySales 52 = .ok (.goto (-50), 3) := by decide +kernel
theorem dX5_replaySales_55 : decode cX5_replaySales 55 = .ok (.return_, 1) := by decide +kernel
set_option maxHeartbeats 4000000 in
set_option maxRecDepth 100000 in
theorem c_X5_replaySales (l : Launch) (D : va_G) (cI cZ cL : ClassId) (ad : Nat → Nat) (S : Mem) (A : Nat → Prop) (hD : va_D A (wC ad cI S)) (t : Nat) (hI : I0 S) (ht : t < 8) : WR l D cI cZ cL yX5_replaySales cX5_replaySales 4 none 2 [.ref (ad 0), .int (nI t)] A (wC ad cI S) (wC ad cI (p_sals S t (cR S))) none := by
  refine WR.of (by decide) (Nat.le_of_ble_eq_true rfl) ?_
  intro p e s m args below meth c ls hx hb hr hml hown hlk hE hP hS hl
  have hl : lv_has ls 4 [(0, .ref (ad 0)), (1, .int (nI t))] := hl
  have hT8 := hI.T8
  have hR16 := hI.R16
  have hN200 := hI.N200
  refine lv_iconst (v := 0) hx hb dX5_replaySales_0 (by decide) ?_
  refine lv_istore_n (lv' := [(2, .int 0), (0, .ref (ad 0)), (1, .int (nI t))]) hx hb dX5_replaySales_1 rfl hl (by decide) rfl (fun ls hl => ?_)
  have hloop_2 : ∀ (n i : Nat), i ≤ cR S → cR S < i + n → ∀ (H : Heap) (locs : List Loc), va_P D vwCl (wC ad cI (p_sals S t i)) H → va_S A s.heap H locs → ∀ ls : Array Slot, lv_has ls 4 [(2, .int (nI i)), (0, .ref (ad 0)), (1, .int (nI t))] → W p l e (rm 2 0 0) s m args below meth c H locs 0 0 (MQ below (Qwr D A (wC ad cI (p_sals S t (cR S))) none) args s 0 0 A) (F0 m 2 ls []) := by
    intro n
    induction n with
    | zero => intro i h1 h2; exact absurd h2 (by omega)
    | succ n ih_2 =>
      intro i hi_2 hin_2  H locs hP hS ls hl
      have hI_2 : I0 (p_sals S t i) := I0_congr (fun c hc => fr_sals (by omega) _) hI
      refine lv_iload_n hx hb dX5_replaySales_2 rfl (lv_at hl 0 rfl) ?_
      refine lv_aload_n hx hb dX5_replaySales_3 rfl (lv_at hl 1 rfl) ?_
      refine q_get (v := .ref (ad 1)) hx hb hown hE inT_X5 hP 0 rfl rfl 0 (by decide) w_212 rfl dX5_replaySales_4 ?_
      refine q_getN (v := .int ((p_sals S t i) 1 6)) hx hb hown hE inT_X3 hP 1 rfl rfl 6 (by decide) w_104 rfl dX5_replaySales_7 ?_
      refine q_top (y := nI (cR (p_sals S t i))) (I0.R hI_2) ?_
      refine q_top (y := nI (cR S)) (congrArg nI (cR_congr (fr_sals (by omega) _))) ?_
      refine lv_icmp_ge (tgt := 55) hx hb dX5_replaySales_10 (by decide) (fun c_1 => ?_) (fun c_1 => ?_)
      · skip
        have c_1 : (cR S) ≤ i := n_le (a := cR S) (b := i) (by omega) (by omega) c_1
        have hend_2 : cR S = i := by omega
        subst hend_2
        exact e_wretv hx hb hr hlk hP hS dX5_replaySales_55
      · skip
        have c_1 : i < (cR S) := n_nle (a := cR S) (b := i) (by omega) (by omega) c_1
        refine lv_iconst (v := 0) hx hb dX5_replaySales_13 (by decide) ?_
        refine lv_istore_n (lv' := [(3, .int 0), (2, .int (nI i)), (0, .ref (ad 0)), (1, .int (nI t))]) hx hb dX5_replaySales_14 rfl hl (by decide) rfl (fun ls hl => ?_)
        have hloop_15 : ∀ (n j : Nat), j ≤ 3 → 3 < j + n → ∀ (H : Heap) (locs : List Loc), va_P D vwCl (wC ad cI (p_sal1 (p_sals S t i) t i j)) H → va_S A s.heap H locs → ∀ ls : Array Slot, lv_has ls 4 [(3, .int (nI j)), (2, .int (nI i)), (0, .ref (ad 0)), (1, .int (nI t))] → W p l e (rm 2 0 0) s m args below meth c H locs 0 0 (MQ below (Qwr D A (wC ad cI (p_sals S t (cR S))) none) args s 0 0 A) (F0 m 15 ls []) := by
          intro n
          induction n with
          | zero => intro j h1 h2; exact absurd h2 (by omega)
          | succ n ih_15 =>
            intro j hi_15 hin_15  H locs hP hS ls hl
            have hI_15 : I0 (p_sal1 (p_sals S t i) t i j) := I0_congr (fun c hc => (fr_sal1 (by omega) _).trans (fr_sals (by omega) _)) hI
            refine lv_iload_n hx hb dX5_replaySales_15 rfl (lv_at hl 0 rfl) ?_
            refine lv_iconst (v := 3) hx hb dX5_replaySales_16 (by decide) ?_
            refine lv_icmp_ge (tgt := 49) hx hb dX5_replaySales_17 (by decide) (fun c_2 => ?_) (fun c_2 => ?_)
            · skip
              have c_2 : 3 ≤ j := n_le (a := 3) (b := j) (by omega) (by omega) c_2
              have hend_15 : 3 = j := by omega
              subst hend_15
              refine lv_iinc (v := nI (i + 1)) (lv' := [(2, .int (nI (i + 1))), (3, .int (nI 3)), (0, .ref (ad 0)), (1, .int (nI t))]) hx hb dX5_replaySales_49 hl (k := 1) rfl (nI_1 i) (by decide) rfl (fun ls hl => ?_)
              refine lv_goto (tgt := 2) hx hb dX5_replaySales_52 (by decide) ?_
              refine ih_2 (i + 1) (by omega) (by omega)  H locs (by rw [show p_sals S t (i + 1) = p_sal1 (p_sals S t i) t i 3 from by first | (simp only [bI, p_sals, c_1, ↓reduceIte]; done) | (simp [bI, p_sals, c_1]; done) | (simp_all [bI, p_sals]; done)]; exact hP) hS ls ?_
              exact lv_sub hl [0, 2, 3] rfl
            · skip
              have c_2 : j < 3 := n_nle (a := 3) (b := j) (by omega) (by omega) c_2
              refine lv_aload_n hx hb dX5_replaySales_20 rfl (lv_at hl 2 rfl) ?_
              refine q_get (v := .ref (ad 25)) hx hb hown hE inT_X5 hP 0 rfl rfl 5 (by decide) w_217 rfl dX5_replaySales_21 ?_
              refine lv_iload_n hx hb dX5_replaySales_24 rfl (lv_at hl 3 rfl) ?_
              refine lv_iload_n hx hb dX5_replaySales_25 rfl (lv_at hl 1 rfl) ?_
              refine lv_aload_n hx hb dX5_replaySales_26 rfl (lv_at hl 2 rfl) ?_
              refine q_get (v := .ref (ad 12)) hx hb hown hE inT_X5 hP 0 rfl rfl 2 (by decide) w_214 rfl dX5_replaySales_27 ?_
              refine q_getN (v := .ref (ad 14)) hx hb hown hE inT_X4 hP 12 rfl rfl 1 (by decide) w_157 rfl dX5_replaySales_30 ?_
              refine lv_iload_n hx hb dX5_replaySales_33 rfl (lv_at hl 3 rfl) ?_
              refine lv_iload_n hx hb dX5_replaySales_34 rfl (lv_at hl 1 rfl) ?_
              refine lv_iload_n hx hb dX5_replaySales_35 rfl (lv_at hl 0 rfl) ?_
              refine q_rd (q_runS (rest := [.ref (ad 14), .int (nI i), .int (nI t), .ref (ad 25)]) hx hb hml hown hE (c_X5_sale l D cI cZ cL _ t i j) ck_X5_sale w_725 hP hl.1 rfl ⟨Nat.le_of_ble_eq_true rfl, Nat.le_of_ble_eq_true rfl⟩ (Nat.le_of_ble_eq_true rfl) dX5_replaySales_36 ⟨Nat.le_of_ble_eq_true rfl, Nat.le_of_ble_eq_true rfl⟩) ?_
              refine q_iald (f := (p_sal1 (p_sals S t i) t i j) 14) (i := ((t * 16 + i) * 3 + j)) hx hb hE hP 14 rfl (by omega) (Nat.le_of_ble_eq_true rfl) dX5_replaySales_39 ?_
              refine q_w0v (q_runVN (rest := []) hx hb hml hown hE (c_X2_pay_25 l D cI cZ cL ad (p_sal1 (p_sals S t i) t i j) A (wC_D hD) t i ((p_sal1 (p_sals S t i) t i j) 14 ((t * 16 + i) * 3 + j)) (by omega) (by omega)) ck_X2_pay w_558 hP 25 rfl rfl hl.1 rfl ⟨Nat.le_of_ble_eq_true rfl, Nat.le_of_ble_eq_true rfl⟩ (Nat.le_of_ble_eq_true rfl) dX5_replaySales_40 ⟨Nat.le_of_ble_eq_true rfl, Nat.le_of_ble_eq_true rfl⟩) hS (fun H locs hP hS => ?_)
              have hI_c3 : I0 (p_pay (p_sal1 (p_sals S t i) t i j) 25 t i ((p_sal1 (p_sals S t i) t i j) 14 ((t * 16 + i) * 3 + j))) := I0_congr (fun c hc => fr_pay (by omega)) hI_15
              refine lv_iinc (v := nI (j + 1)) (lv' := [(3, .int (nI (j + 1))), (2, .int (nI i)), (0, .ref (ad 0)), (1, .int (nI t))]) hx hb dX5_replaySales_43 hl (k := 0) rfl (nI_1 j) (by decide) rfl (fun ls hl => ?_)
              refine lv_goto (tgt := 15) hx hb dX5_replaySales_46 (by decide) ?_
              refine ih_15 (j + 1) (by omega) (by omega)  H locs (by rw [show p_sal1 (p_sals S t i) t i (j + 1) = p_pay (p_sal1 (p_sals S t i) t i j) 25 t i ((p_sal1 (p_sals S t i) t i j) 14 ((t * 16 + i) * 3 + j)) from by first | (simp only [bI, p_sal1, c_2, ↓reduceIte]; done) | (simp [bI, p_sal1, c_2]; done) | (simp_all [bI, p_sal1]; done)]; exact hP) hS ls ?_
              exact lv_sub hl [0, 1, 2, 3] rfl
        refine hloop_15 (3 + 1) 0 (by omega) (by omega)  H locs hP hS ls ?_
        exact lv_sub hl [0, 1, 2, 3] rfl
  refine hloop_2 (cR S + 1) 0 (by omega) (by omega)  s.heap [] hP hS ls ?_
  exact lv_sub hl [0, 1, 2] rfl

theorem dX5_rateTeams_0 : decode cX5_rateTeams 0 = .ok (.iconst 0, 1) := by decide +kernel
theorem dX5_rateTeams_1 : decode cX5_rateTeams 1 = .ok (.istore_n 1, 1) := by decide +kernel
theorem dX5_rateTeams_2 : decode cX5_rateTeams 2 = .ok (.iload_n 1, 1) := by decide +kernel
theorem dX5_rateTeams_3 : decode cX5_rateTeams 3 = .ok (.aload_n 0, 1) := by decide +kernel
theorem dX5_rateTeams_4 : decode cX5_rateTeams 4 = .ok (.getfield 115, 3) := by decide +kernel
theorem dX5_rateTeams_7 : decode cX5_rateTeams 7 = .ok (.if_icmp .ge 50, 3) := by decide +kernel
theorem dX5_rateTeams_10 : decode cX5_rateTeams 10 = .ok (.aload_n 0, 1) := by decide +kernel
theorem dX5_rateTeams_11 : decode cX5_rateTeams 11 = .ok (.aload_n 0, 1) := by decide +kernel
theorem dX5_rateTeams_12 : decode cX5_rateTeams 12 = .ok (.getfield 40, 3) := by decide +kernel
theorem dX5_rateTeams_15 : decode cX5_rateTeams 15 = .ok (.iload_n 1, 1) := by decide +kernel
theorem dX5_rateTeams_16 : decode cX5_rateTeams 16 = .ok (.invokevirtual 216, 3) := by decide +kernel
theorem dX5_rateTeams_19 : decode cX5_rateTeams 19 = .ok (.istore_n 2, 1) := by decide +kernel
theorem dX5_rateTeams_20 : decode cX5_rateTeams 20 = .ok (.aload_n 0, 1) := by decide +kernel
theorem dX5_rateTeams_21 : decode cX5_rateTeams 21 = .ok (.getfield 47, 3) := by decide +kernel
theorem dX5_rateTeams_24 : decode cX5_rateTeams 24 = .ok (.iload_n 1, 1) := by decide +kernel
theorem dX5_rateTeams_25 : decode cX5_rateTeams 25 = .ok (.aload_n 0, 1) := by decide +kernel
theorem dX5_rateTeams_26 : decode cX5_rateTeams 26 = .ok (.aload_n 0, 1) := by decide +kernel
theorem dX5_rateTeams_27 : decode cX5_rateTeams 27 = .ok (.getfield 40, 3) := by decide +kernel
theorem dX5_rateTeams_30 : decode cX5_rateTeams 30 = .ok (.iload_n 1, 1) := by decide +kernel
theorem dX5_rateTeams_31 : decode cX5_rateTeams 31 = .ok (.iload_n 2, 1) := by decide +kernel
theorem dX5_rateTeams_32 : decode cX5_rateTeams 32 = .ok (.invokevirtual 219, 3) := by decide +kernel
theorem dX5_rateTeams_35 : decode cX5_rateTeams 35 = .ok (.iastore, 1) := by decide +kernel
theorem dX5_rateTeams_36 : decode cX5_rateTeams 36 = .ok (.aload_n 0, 1) := by decide +kernel
theorem dX5_rateTeams_37 : decode cX5_rateTeams 37 = .ok (.getfield 51, 3) := by decide +kernel
theorem dX5_rateTeams_40 : decode cX5_rateTeams 40 = .ok (.iload_n 1, 1) := by decide +kernel
theorem dX5_rateTeams_41 : decode cX5_rateTeams 41 = .ok (.aload_n 0, 1) := by decide +kernel
theorem dX5_rateTeams_42 : decode cX5_rateTeams 42 = .ok (.getfield 40, 3) := by decide +kernel
theorem dX5_rateTeams_45 : decode cX5_rateTeams 45 = .ok (.iload_n 1, 1) := by decide +kernel
theorem dX5_rateTeams_46 : decode cX5_rateTeams 46 = .ok (.iload_n 2, 1) := by decide +kernel
theorem dX5_rateTeams_47 : decode cX5_rateTeams 47 = .ok (.invokevirtual 257, 3) := by decide +kernel
theorem dX5_rateTeams_50 : decode cX5_rateTeams 50 = .ok (.iastore, 1) := by decide +kernel
theorem dX5_rateTeams_51 : decode cX5_rateTeams 51 = .ok (.iinc 1 1, 3) := by decide +kernel
theorem dX5_rateTeams_54 : decode cX5_rateTeams 54 = .ok (.goto (-52), 3) := by decide +kernel
theorem dX5_rateTeams_57 : decode cX5_rateTeams 57 = .ok (.return_, 1) := by decide +kernel
set_option maxHeartbeats 4000000 in
set_option maxRecDepth 100000 in
theorem c_X5_rateTeams (l : Launch) (D : va_G) (cI cZ cL : ClassId) (ad : Nat → Nat) (S : Mem) (A : Nat → Prop) (hD : va_D A (wC ad cI S)) (hI : I0 S) : WR l D cI cZ cL yX5_rateTeams cX5_rateTeams 3 none 5 [.ref (ad 0)] A (wC ad cI S) (wC ad cI (p_rate S (cT S))) none := by
  refine WR.of (by decide) (Nat.le_of_ble_eq_true rfl) ?_
  intro p e s m args below meth c ls hx hb hr hml hown hlk hE hP hS hl
  have hl : lv_has ls 3 [(0, .ref (ad 0))] := hl
  have hT8 := hI.T8
  have hR16 := hI.R16
  have hN200 := hI.N200
  refine lv_iconst (v := 0) hx hb dX5_rateTeams_0 (by decide) ?_
  refine lv_istore_n (lv' := [(1, .int 0), (0, .ref (ad 0))]) hx hb dX5_rateTeams_1 rfl hl (by decide) rfl (fun ls hl => ?_)
  have hloop_2 : ∀ (n i : Nat), i ≤ cT S → cT S < i + n → ∀ (H : Heap) (locs : List Loc), va_P D vwCl (wC ad cI (p_rate S i)) H → va_S A s.heap H locs → ∀ ls : Array Slot, lv_has ls 3 [(1, .int (nI i)), (0, .ref (ad 0))] → W p l e (rm 5 0 0) s m args below meth c H locs 0 0 (MQ below (Qwr D A (wC ad cI (p_rate S (cT S))) none) args s 0 0 A) (F0 m 2 ls []) := by
    intro n
    induction n with
    | zero => intro i h1 h2; exact absurd h2 (by omega)
    | succ n ih_2 =>
      intro i hi_2 hin_2  H locs hP hS ls hl
      have hI_2 : I0 (p_rate S i) := I0_congr (fun c hc => fr_rate (by omega) _) hI
      refine lv_iload_n hx hb dX5_rateTeams_2 rfl (lv_at hl 0 rfl) ?_
      refine lv_aload_n hx hb dX5_rateTeams_3 rfl (lv_at hl 1 rfl) ?_
      refine q_get (v := .int ((p_rate S i) 0 9)) hx hb hown hE inT_X5 hP 0 rfl rfl 9 (by decide) w_221 rfl dX5_rateTeams_4 ?_
      refine q_top (y := nI (cT (p_rate S i))) (I0.T hI_2) ?_
      refine q_top (y := nI (cT S)) (congrArg nI (cT_congr (fr_rate (by omega) _))) ?_
      refine lv_icmp_ge (tgt := 57) hx hb dX5_rateTeams_7 (by decide) (fun c_1 => ?_) (fun c_1 => ?_)
      · skip
        have c_1 : (cT S) ≤ i := n_le (a := cT S) (b := i) (by omega) (by omega) c_1
        have hend_2 : cT S = i := by omega
        subst hend_2
        exact e_wretv hx hb hr hlk hP hS dX5_rateTeams_57
      · skip
        have c_1 : i < (cT S) := n_nle (a := cT S) (b := i) (by omega) (by omega) c_1
        refine lv_aload_n hx hb dX5_rateTeams_10 rfl (lv_at hl 1 rfl) ?_
        refine lv_aload_n hx hb dX5_rateTeams_11 rfl (lv_at hl 1 rfl) ?_
        refine q_get (v := .ref (ad 18)) hx hb hown hE inT_X5 hP 0 rfl rfl 4 (by decide) w_216 rfl dX5_rateTeams_12 ?_
        refine lv_iload_n hx hb dX5_rateTeams_15 rfl (lv_at hl 0 rfl) ?_
        refine q_rd (q_runV (rest := []) hx hb hml hown hE (c_X5_countingSet_18 l D cI cZ cL ad (p_rate S i) i hI_2 (by omega)) ck_X5_countingSet w_261 hP 0 rfl rfl hl.1 rfl ⟨Nat.le_of_ble_eq_true rfl, Nat.le_of_ble_eq_true rfl⟩ (Nat.le_of_ble_eq_true rfl) dX5_rateTeams_16 ⟨Nat.le_of_ble_eq_true rfl, Nat.le_of_ble_eq_true rfl⟩) ?_
        refine lv_istore_n (lv' := [(2, .int (p_count (p_rate S i) 18 i)), (1, .int (nI i)), (0, .ref (ad 0))]) hx hb dX5_rateTeams_19 rfl hl (by decide) rfl (fun ls hl => ?_)
        refine lv_aload_n hx hb dX5_rateTeams_20 rfl (lv_at hl 2 rfl) ?_
        refine q_get (v := .ref (ad 32)) hx hb hown hE inT_X5 hP 0 rfl rfl 6 (by decide) w_218 rfl dX5_rateTeams_21 ?_
        refine lv_iload_n hx hb dX5_rateTeams_24 rfl (lv_at hl 1 rfl) ?_
        refine lv_aload_n hx hb dX5_rateTeams_25 rfl (lv_at hl 2 rfl) ?_
        refine lv_aload_n hx hb dX5_rateTeams_26 rfl (lv_at hl 2 rfl) ?_
        refine q_get (v := .ref (ad 18)) hx hb hown hE inT_X5 hP 0 rfl rfl 4 (by decide) w_216 rfl dX5_rateTeams_27 ?_
        refine lv_iload_n hx hb dX5_rateTeams_30 rfl (lv_at hl 1 rfl) ?_
        refine lv_iload_n hx hb dX5_rateTeams_31 rfl (lv_at hl 0 rfl) ?_
        refine q_rd (q_runV (rest := [.int (nI i), .ref (ad 32)]) hx hb hml hown hE (c_X5_sumUp_18 l D cI cZ cL ad (p_rate S i) i (p_count (p_rate S i) 18 i) hI_2 (by omega)) ck_X5_sumUp w_294 hP 0 rfl rfl hl.1 rfl ⟨Nat.le_of_ble_eq_true rfl, Nat.le_of_ble_eq_true rfl⟩ (Nat.le_of_ble_eq_true rfl) dX5_rateTeams_32 ⟨Nat.le_of_ble_eq_true rfl, Nat.le_of_ble_eq_true rfl⟩) ?_
        refine q_iast (f := (p_rate S i) 32) (i := i) (x := p_sumUp (p_rate S i) 18 i (p_count (p_rate S i) 18 i)) (ws' := (wC ad cI (st (p_rate S i) 32 i (p_sumUp (p_rate S i) 18 i (p_count (p_rate S i) 18 i))))) hx hb hE hP (wC_D hD) hS 32 rfl (by omega) (Nat.le_of_ble_eq_true rfl) (wC_st_32) dX5_rateTeams_35 (fun H locs hP hS => ?_)
        refine lv_aload_n hx hb dX5_rateTeams_36 rfl (lv_at hl 2 rfl) ?_
        refine q_get (v := .ref (ad 33)) hx hb hown hE inT_X5 hP 0 rfl rfl 7 (by decide) w_219 rfl dX5_rateTeams_37 ?_
        refine lv_iload_n hx hb dX5_rateTeams_40 rfl (lv_at hl 1 rfl) ?_
        refine lv_aload_n hx hb dX5_rateTeams_41 rfl (lv_at hl 2 rfl) ?_
        refine q_get (v := .ref (ad 18)) hx hb hown hE inT_X5 hP 0 rfl rfl 4 (by decide) w_216 rfl dX5_rateTeams_42 ?_
        refine lv_iload_n hx hb dX5_rateTeams_45 rfl (lv_at hl 1 rfl) ?_
        refine lv_iload_n hx hb dX5_rateTeams_46 rfl (lv_at hl 0 rfl) ?_
        refine q_rd (q_runVN (rest := [.int (nI i), .ref (ad 33)]) hx hb hml hown hE (c_X2_lastSolveMinute_18 l D cI cZ cL ad (st (p_rate S i) 32 i (p_sumUp (p_rate S i) 18 i (p_count (p_rate S i) 18 i))) i (p_count (p_rate S i) 18 i) (by omega)) ck_X2_lastSolveMinute w_302 hP 18 rfl rfl hl.1 rfl ⟨Nat.le_of_ble_eq_true rfl, Nat.le_of_ble_eq_true rfl⟩ (Nat.le_of_ble_eq_true rfl) dX5_rateTeams_47 ⟨Nat.le_of_ble_eq_true rfl, Nat.le_of_ble_eq_true rfl⟩) ?_
        refine q_iast (f := (st (p_rate S i) 32 i (p_sumUp (p_rate S i) 18 i (p_count (p_rate S i) 18 i))) 33) (i := i) (x := p_last (st (p_rate S i) 32 i (p_sumUp (p_rate S i) 18 i (p_count (p_rate S i) 18 i))) 18 i (p_count (p_rate S i) 18 i)) (ws' := (wC ad cI (st (st (p_rate S i) 32 i (p_sumUp (p_rate S i) 18 i (p_count (p_rate S i) 18 i))) 33 i (p_last (st (p_rate S i) 32 i (p_sumUp (p_rate S i) 18 i (p_count (p_rate S i) 18 i))) 18 i (p_count (p_rate S i) 18 i))))) hx hb hE hP (wC_D hD) hS 33 rfl (by omega) (Nat.le_of_ble_eq_true rfl) (wC_st_33) dX5_rateTeams_50 (fun H locs hP hS => ?_)
        refine lv_iinc (v := nI (i + 1)) (lv' := [(1, .int (nI (i + 1))), (2, .int (p_count (p_rate S i) 18 i)), (0, .ref (ad 0))]) hx hb dX5_rateTeams_51 hl (k := 1) rfl (nI_1 i) (by decide) rfl (fun ls hl => ?_)
        refine lv_goto (tgt := 2) hx hb dX5_rateTeams_54 (by decide) ?_
        refine ih_2 (i + 1) (by omega) (by omega)  H locs (by rw [show p_rate S (i + 1) = st (st (p_rate S i) 32 i (p_sumUp (p_rate S i) 18 i (p_count (p_rate S i) 18 i))) 33 i (p_last (st (p_rate S i) 32 i (p_sumUp (p_rate S i) 18 i (p_count (p_rate S i) 18 i))) 18 i (p_count (p_rate S i) 18 i)) from by rfl]; exact hP) hS ls ?_
        exact lv_sub hl [0, 2] rfl
  refine hloop_2 (cT S + 1) 0 (by omega) (by omega)  s.heap [] hP hS ls ?_
  exact lv_sub hl [0, 1] rfl
