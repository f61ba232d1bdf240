/-! constructors of the classes that make arrays alone -/
theorem dX3_init_0 : decode cX3_init 0 = .ok (.aload_n 0, 1) := by decide +kernel
theorem dX3_init_1 : decode cX3_init 1 = .ok (.invokespecial 3, 3) := by decide +kernel
theorem dX3_init_4 : decode cX3_init 4 = .ok (.aload_n 0, 1) := by decide +kernel
theorem dX3_init_5 : decode cX3_init 5 = .ok (.bipush 16, 2) := by decide +kernel
theorem dX3_init_7 : decode cX3_init 7 = .ok (.newarray .int, 2) := by decide +kernel
theorem dX3_init_9 : decode cX3_init 9 = .ok (.putfield 9, 3) := by decide +kernel
theorem dX3_init_12 : decode cX3_init 12 = .ok (.aload_n 0, 1) := by decide +kernel
theorem dX3_init_13 : decode cX3_init 13 = .ok (.bipush 16, 2) := by decide +kernel
theorem dX3_init_15 : decode cX3_init 15 = .ok (.newarray .int, 2) := by decide +kernel
theorem dX3_init_17 : decode cX3_init 17 = .ok (.putfield 15, 3) := by decide +kernel
theorem dX3_init_20 : decode cX3_init 20 = .ok (.aload_n 0, 1) := by decide +kernel
theorem dX3_init_21 : decode cX3_init 21 = .ok (.bipush 16, 2) := by decide +kernel
theorem dX3_init_23 : decode cX3_init 23 = .ok (.newarray .int, 2) := by decide +kernel
theorem dX3_init_25 : decode cX3_init 25 = .ok (.putfield 18, 3) := by decide +kernel
theorem dX3_init_28 : decode cX3_init 28 = .ok (.aload_n 0, 1) := by decide +kernel
theorem dX3_init_29 : decode cX3_init 29 = .ok (.bipush 16, 2) := by decide +kernel
theorem dX3_init_31 : decode cX3_init 31 = .ok (.newarray .int, 2) := by decide +kernel
theorem dX3_init_33 : decode cX3_init 33 = .ok (.putfield 21, 3) := by decide +kernel
theorem dX3_init_36 : decode cX3_init 36 = .ok (.aload_n 0, 1) := by decide +kernel
theorem dX3_init_37 : decode cX3_init 37 = .ok (.bipush 16, 2) := by decide +kernel
theorem dX3_init_39 : decode cX3_init 39 = .ok (.newarray .int, 2) := by decide +kernel
theorem dX3_init_41 : decode cX3_init 41 = .ok (.putfield 24, 3) := by decide +kernel
theorem dX3_init_44 : decode cX3_init 44 = .ok (.return_, 1) := by decide +kernel
def nwX3 (cI cZ : ClassId) (ad : Nat → Nat) : va_W := [(ad 0, .inr (3, [.ref (ad 1), .ref (ad 2), .ref (ad 3), .ref (ad 4), .ref (ad 5), .int 0, .int 0])), (ad 1, .inl (cI, 16, .inl (fun _ => 0))), (ad 2, .inl (cI, 16, .inl (fun _ => 0))), (ad 3, .inl (cI, 16, .inl (fun _ => 0))), (ad 4, .inl (cI, 16, .inl (fun _ => 0))), (ad 5, .inl (cI, 16, .inl (fun _ => 0)))]
set_option maxHeartbeats 4000000 in
set_option maxRecDepth 100000 in
theorem n_X3 (l : Launch) (D : va_G) (cI cZ cL : ClassId) (a0 sz : Nat) : NW l D cI cZ cL yX3_init cX3_init 1 1 5 80 a0 sz 3 [.null, .null, .null, .null, .null, .int 0, .int 0] (nwX3 cI cZ) := by
  refine NW.of (by decide) rfl (Nat.le_of_ble_eq_true rfl) ?_
  intro p e s m args below meth c ls A hx hb hr hml hown hin hlk hE hP hD hS hA hl
  have hl : lv_has ls 1 [(0, .ref a0)] := hl
  refine lv_aload_n hx hb dX3_init_0 rfl (lv_at hl 0 rfl) ?_
  refine W.objInit hx hb hown (hE.1 _ w_91 args) (hE.1 _ w_84 args) (hE.1 _ w_85 args) rfl (by rw [hml]; exact hl.1) rfl dX3_init_1 (Nat.le_of_ble_eq_true rfl) (Nat.le_of_ble_eq_true rfl) ?_
  refine W.eq (g2 := F0 m 4 ls []) rfl ?_
  refine lv_aload_n hx hb dX3_init_4 rfl (lv_at hl 0 rfl) ?_
  refine lv_bipush (v := 16) hx hb dX3_init_5 (by decide) ?_
  refine q_newa (N' := 16) hx hb hE hP hD hS hA (by decide) (by decide) (Nat.le_of_ble_eq_true rfl) (Nat.le_of_ble_eq_true rfl) (Nat.le_of_ble_eq_true rfl) dX3_init_7 (fun q7 H hP hD hS => ?_)
  have hP : va_P D vwCl [(a0, .inr (3, [.null, .null, .null, .null, .null, .int 0, .int 0])), (q7, .inl (cI, 16, .inl (fun _ => 0)))] H := hP
  have hD : va_D A [(a0, .inr (3, [.null, .null, .null, .null, .null, .int 0, .int 0])), (q7, .inl (cI, 16, .inl (fun _ => 0)))] := hD
  refine q_putF (ty0 := tyX3) (v := .ref q7) hx hb hown hE inT_X3 tyX3_ok nmX3 hP hD hS 0 rfl rfl 0 (by decide) w_92 rfl hin rfl rfl rfl (Nat.le_of_ble_eq_true rfl) dX3_init_9 (fun H locs hP hD hS => ?_)
  have hP : va_P D vwCl [(a0, .inr (3, [.ref q7, .null, .null, .null, .null, .int 0, .int 0])), (q7, .inl (cI, 16, .inl (fun _ => 0)))] H := hP
  have hD : va_D A [(a0, .inr (3, [.ref q7, .null, .null, .null, .null, .int 0, .int 0])), (q7, .inl (cI, 16, .inl (fun _ => 0)))] := hD
  refine lv_aload_n hx hb dX3_init_12 rfl (lv_at hl 0 rfl) ?_
  refine lv_bipush (v := 16) hx hb dX3_init_13 (by decide) ?_
  refine q_newa (N' := 16) hx hb hE hP hD hS hA (by decide) (by decide) (Nat.le_of_ble_eq_true rfl) (Nat.le_of_ble_eq_true rfl) (Nat.le_of_ble_eq_true rfl) dX3_init_15 (fun q15 H hP hD hS => ?_)
  have hP : va_P D vwCl [(a0, .inr (3, [.ref q7, .null, .null, .null, .null, .int 0, .int 0])), (q7, .inl (cI, 16, .inl (fun _ => 0))), (q15, .inl (cI, 16, .inl (fun _ => 0)))] H := hP
  have hD : va_D A [(a0, .inr (3, [.ref q7, .null, .null, .null, .null, .int 0, .int 0])), (q7, .inl (cI, 16, .inl (fun _ => 0))), (q15, .inl (cI, 16, .inl (fun _ => 0)))] := hD
  refine q_putF (ty0 := tyX3) (v := .ref q15) hx hb hown hE inT_X3 tyX3_ok nmX3 hP hD hS 0 rfl rfl 1 (by decide) w_94 rfl hin rfl rfl rfl (Nat.le_of_ble_eq_true rfl) dX3_init_17 (fun H locs hP hD hS => ?_)
  have hP : va_P D vwCl [(a0, .inr (3, [.ref q7, .ref q15, .null, .null, .null, .int 0, .int 0])), (q7, .inl (cI, 16, .inl (fun _ => 0))), (q15, .inl (cI, 16, .inl (fun _ => 0)))] H := hP
  have hD : va_D A [(a0, .inr (3, [.ref q7, .ref q15, .null, .null, .null, .int 0, .int 0])), (q7, .inl (cI, 16, .inl (fun _ => 0))), (q15, .inl (cI, 16, .inl (fun _ => 0)))] := hD
  refine lv_aload_n hx hb dX3_init_20 rfl (lv_at hl 0 rfl) ?_
  refine lv_bipush (v := 16) hx hb dX3_init_21 (by decide) ?_
  refine q_newa (N' := 16) hx hb hE hP hD hS hA (by decide) (by decide) (Nat.le_of_ble_eq_true rfl) (Nat.le_of_ble_eq_true rfl) (Nat.le_of_ble_eq_true rfl) dX3_init_23 (fun q23 H hP hD hS => ?_)
  have hP : va_P D vwCl [(a0, .inr (3, [.ref q7, .ref q15, .null, .null, .null, .int 0, .int 0])), (q7, .inl (cI, 16, .inl (fun _ => 0))), (q15, .inl (cI, 16, .inl (fun _ => 0))), (q23, .inl (cI, 16, .inl (fun _ => 0)))] H := hP
  have hD : va_D A [(a0, .inr (3, [.ref q7, .ref q15, .null, .null, .null, .int 0, .int 0])), (q7, .inl (cI, 16, .inl (fun _ => 0))), (q15, .inl (cI, 16, .inl (fun _ => 0))), (q23, .inl (cI, 16, .inl (fun _ => 0)))] := hD
  refine q_putF (ty0 := tyX3) (v := .ref q23) hx hb hown hE inT_X3 tyX3_ok nmX3 hP hD hS 0 rfl rfl 2 (by decide) w_96 rfl hin rfl rfl rfl (Nat.le_of_ble_eq_true rfl) dX3_init_25 (fun H locs hP hD hS => ?_)
  have hP : va_P D vwCl [(a0, .inr (3, [.ref q7, .ref q15, .ref q23, .null, .null, .int 0, .int 0])), (q7, .inl (cI, 16, .inl (fun _ => 0))), (q15, .inl (cI, 16, .inl (fun _ => 0))), (q23, .inl (cI, 16, .inl (fun _ => 0)))] H := hP
  have hD : va_D A [(a0, .inr (3, [.ref q7, .ref q15, .ref q23, .null, .null, .int 0, .int 0])), (q7, .inl (cI, 16, .inl (fun _ => 0))), (q15, .inl (cI, 16, .inl (fun _ => 0))), (q23, .inl (cI, 16, .inl (fun _ => 0)))] := hD
  refine lv_aload_n hx hb dX3_init_28 rfl (lv_at hl 0 rfl) ?_
  refine lv_bipush (v := 16) hx hb dX3_init_29 (by decide) ?_
  refine q_newa (N' := 16) hx hb hE hP hD hS hA (by decide) (by decide) (Nat.le_of_ble_eq_true rfl) (Nat.le_of_ble_eq_true rfl) (Nat.le_of_ble_eq_true rfl) dX3_init_31 (fun q31 H hP hD hS => ?_)
  have hP : va_P D vwCl [(a0, .inr (3, [.ref q7, .ref q15, .ref q23, .null, .null, .int 0, .int 0])), (q7, .inl (cI, 16, .inl (fun _ => 0))), (q15, .inl (cI, 16, .inl (fun _ => 0))), (q23, .inl (cI, 16, .inl (fun _ => 0))), (q31, .inl (cI, 16, .inl (fun _ => 0)))] H := hP
  have hD : va_D A [(a0, .inr (3, [.ref q7, .ref q15, .ref q23, .null, .null, .int 0, .int 0])), (q7, .inl (cI, 16, .inl (fun _ => 0))), (q15, .inl (cI, 16, .inl (fun _ => 0))), (q23, .inl (cI, 16, .inl (fun _ => 0))), (q31, .inl (cI, 16, .inl (fun _ => 0)))] := hD
  refine q_putF (ty0 := tyX3) (v := .ref q31) hx hb hown hE inT_X3 tyX3_ok nmX3 hP hD hS 0 rfl rfl 3 (by decide) w_98 rfl hin rfl rfl rfl (Nat.le_of_ble_eq_true rfl) dX3_init_33 (fun H locs hP hD hS => ?_)
  have hP : va_P D vwCl [(a0, .inr (3, [.ref q7, .ref q15, .ref q23, .ref q31, .null, .int 0, .int 0])), (q7, .inl (cI, 16, .inl (fun _ => 0))), (q15, .inl (cI, 16, .inl (fun _ => 0))), (q23, .inl (cI, 16, .inl (fun _ => 0))), (q31, .inl (cI, 16, .inl (fun _ => 0)))] H := hP
  have hD : va_D A [(a0, .inr (3, [.ref q7, .ref q15, .ref q23, .ref q31, .null, .int 0, .int 0])), (q7, .inl (cI, 16, .inl (fun _ => 0))), (q15, .inl (cI, 16, .inl (fun _ => 0))), (q23, .inl (cI, 16, .inl (fun _ => 0))), (q31, .inl (cI, 16, .inl (fun _ => 0)))] := hD
  refine lv_aload_n hx hb dX3_init_36 rfl (lv_at hl 0 rfl) ?_
  refine lv_bipush (v := 16) hx hb dX3_init_37 (by decide) ?_
  refine q_newa (N' := 16) hx hb hE hP hD hS hA (by decide) (by decide) (Nat.le_of_ble_eq_true rfl) (Nat.le_of_ble_eq_true rfl) (Nat.le_of_ble_eq_true rfl) dX3_init_39 (fun q39 H hP hD hS => ?_)
  have hP : va_P D vwCl [(a0, .inr (3, [.ref q7, .ref q15, .ref q23, .ref q31, .null, .int 0, .int 0])), (q7, .inl (cI, 16, .inl (fun _ => 0))), (q15, .inl (cI, 16, .inl (fun _ => 0))), (q23, .inl (cI, 16, .inl (fun _ => 0))), (q31, .inl (cI, 16, .inl (fun _ => 0))), (q39, .inl (cI, 16, .inl (fun _ => 0)))] H := hP
  have hD : va_D A [(a0, .inr (3, [.ref q7, .ref q15, .ref q23, .ref q31, .null, .int 0, .int 0])), (q7, .inl (cI, 16, .inl (fun _ => 0))), (q15, .inl (cI, 16, .inl (fun _ => 0))), (q23, .inl (cI, 16, .inl (fun _ => 0))), (q31, .inl (cI, 16, .inl (fun _ => 0))), (q39, .inl (cI, 16, .inl (fun _ => 0)))] := hD
  refine q_putF (ty0 := tyX3) (v := .ref q39) hx hb hown hE inT_X3 tyX3_ok nmX3 hP hD hS 0 rfl rfl 4 (by decide) w_100 rfl hin rfl rfl rfl (Nat.le_of_ble_eq_true rfl) dX3_init_41 (fun H locs hP hD hS => ?_)
  have hP : va_P D vwCl [(a0, .inr (3, [.ref q7, .ref q15, .ref q23, .ref q31, .ref q39, .int 0, .int 0])), (q7, .inl (cI, 16, .inl (fun _ => 0))), (q15, .inl (cI, 16, .inl (fun _ => 0))), (q23, .inl (cI, 16, .inl (fun _ => 0))), (q31, .inl (cI, 16, .inl (fun _ => 0))), (q39, .inl (cI, 16, .inl (fun _ => 0)))] H := hP
  have hD : va_D A [(a0, .inr (3, [.ref q7, .ref q15, .ref q23, .ref q31, .ref q39, .int 0, .int 0])), (q7, .inl (cI, 16, .inl (fun _ => 0))), (q15, .inl (cI, 16, .inl (fun _ => 0))), (q23, .inl (cI, 16, .inl (fun _ => 0))), (q31, .inl (cI, 16, .inl (fun _ => 0))), (q39, .inl (cI, 16, .inl (fun _ => 0)))] := hD
  exact W.vret hx hb hr (fun t ht hW => ⟨⟨(fun i => ([a0, q7, q15, q23, q31, q39] : List Nat).getD i 0), rfl, trivial, rfl, by rw [ht]; exact hP, hD⟩, hS.F ht⟩) hS.2.2 dX3_init_44
theorem dX0_init_0 : decode cX0_init 0 = .ok (.aload_n 0, 1) := by decide +kernel
theorem dX0_init_1 : decode cX0_init 1 = .ok (.invokespecial 3, 3) := by decide +kernel
theorem dX0_init_4 : decode cX0_init 4 = .ok (.aload_n 0, 1) := by decide +kernel
theorem dX0_init_5 : decode cX0_init 5 = .ok (.sipush 200, 3) := by decide +kernel
theorem dX0_init_8 : decode cX0_init 8 = .ok (.newarray .int, 2) := by decide +kernel
theorem dX0_init_10 : decode cX0_init 10 = .ok (.putfield 9, 3) := by decide +kernel
theorem dX0_init_13 : decode cX0_init 13 = .ok (.aload_n 0, 1) := by decide +kernel
theorem dX0_init_14 : decode cX0_init 14 = .ok (.sipush 200, 3) := by decide +kernel
theorem dX0_init_17 : decode cX0_init 17 = .ok (.newarray .int, 2) := by decide +kernel
theorem dX0_init_19 : decode cX0_init 19 = .ok (.putfield 15, 3) := by decide +kernel
theorem dX0_init_22 : decode cX0_init 22 = .ok (.aload_n 0, 1) := by decide +kernel
theorem dX0_init_23 : decode cX0_init 23 = .ok (.sipush 200, 3) := by decide +kernel
theorem dX0_init_26 : decode cX0_init 26 = .ok (.newarray .int, 2) := by decide +kernel
theorem dX0_init_28 : decode cX0_init 28 = .ok (.putfield 18, 3) := by decide +kernel
theorem dX0_init_31 : decode cX0_init 31 = .ok (.aload_n 0, 1) := by decide +kernel
theorem dX0_init_32 : decode cX0_init 32 = .ok (.sipush 200, 3) := by decide +kernel
theorem dX0_init_35 : decode cX0_init 35 = .ok (.newarray .int, 2) := by decide +kernel
theorem dX0_init_37 : decode cX0_init 37 = .ok (.putfield 21, 3) := by decide +kernel
theorem dX0_init_40 : decode cX0_init 40 = .ok (.return_, 1) := by decide +kernel
def nwX0 (cI cZ : ClassId) (ad : Nat → Nat) : va_W := [(ad 0, .inr (0, [.ref (ad 1), .ref (ad 2), .ref (ad 3), .ref (ad 4), .int 0])), (ad 1, .inl (cI, 200, .inl (fun _ => 0))), (ad 2, .inl (cI, 200, .inl (fun _ => 0))), (ad 3, .inl (cI, 200, .inl (fun _ => 0))), (ad 4, .inl (cI, 200, .inl (fun _ => 0)))]
set_option maxHeartbeats 4000000 in
set_option maxRecDepth 100000 in
theorem n_X0 (l : Launch) (D : va_G) (cI cZ cL : ClassId) (a0 sz : Nat) : NW l D cI cZ cL yX0_init cX0_init 1 1 4 800 a0 sz 0 [.null, .null, .null, .null, .int 0] (nwX0 cI cZ) := by
  refine NW.of (by decide) rfl (Nat.le_of_ble_eq_true rfl) ?_
  intro p e s m args below meth c ls A hx hb hr hml hown hin hlk hE hP hD hS hA hl
  have hl : lv_has ls 1 [(0, .ref a0)] := hl
  refine lv_aload_n hx hb dX0_init_0 rfl (lv_at hl 0 rfl) ?_
  refine W.objInit hx hb hown (hE.1 _ w_126 args) (hE.1 _ w_84 args) (hE.1 _ w_85 args) rfl (by rw [hml]; exact hl.1) rfl dX0_init_1 (Nat.le_of_ble_eq_true rfl) (Nat.le_of_ble_eq_true rfl) ?_
  refine W.eq (g2 := F0 m 4 ls []) rfl ?_
  refine lv_aload_n hx hb dX0_init_4 rfl (lv_at hl 0 rfl) ?_
  refine lv_sipush (v := 200) hx hb dX0_init_5 (by decide) ?_
  refine q_newa (N' := 200) hx hb hE hP hD hS hA (by decide) (by decide) (Nat.le_of_ble_eq_true rfl) (Nat.le_of_ble_eq_true rfl) (Nat.le_of_ble_eq_true rfl) dX0_init_8 (fun q8 H hP hD hS => ?_)
  have hP : va_P D vwCl [(a0, .inr (0, [.null, .null, .null, .null, .int 0])), (q8, .inl (cI, 200, .inl (fun _ => 0)))] H := hP
  have hD : va_D A [(a0, .inr (0, [.null, .null, .null, .null, .int 0])), (q8, .inl (cI, 200, .inl (fun _ => 0)))] := hD
  refine q_putF (ty0 := tyX0) (v := .ref q8) hx hb hown hE inT_X0 tyX0_ok nmX0 hP hD hS 0 rfl rfl 0 (by decide) w_127 rfl hin rfl rfl rfl (Nat.le_of_ble_eq_true rfl) dX0_init_10 (fun H locs hP hD hS => ?_)
  have hP : va_P D vwCl [(a0, .inr (0, [.ref q8, .null, .null, .null, .int 0])), (q8, .inl (cI, 200, .inl (fun _ => 0)))] H := hP
  have hD : va_D A [(a0, .inr (0, [.ref q8, .null, .null, .null, .int 0])), (q8, .inl (cI, 200, .inl (fun _ => 0)))] := hD
  refine lv_aload_n hx hb dX0_init_13 rfl (lv_at hl 0 rfl) ?_
  refine lv_sipush (v := 200) hx hb dX0_init_14 (by decide) ?_
  refine q_newa (N' := 200) hx hb hE hP hD hS hA (by decide) (by decide) (Nat.le_of_ble_eq_true rfl) (Nat.le_of_ble_eq_true rfl) (Nat.le_of_ble_eq_true rfl) dX0_init_17 (fun q17 H hP hD hS => ?_)
  have hP : va_P D vwCl [(a0, .inr (0, [.ref q8, .null, .null, .null, .int 0])), (q8, .inl (cI, 200, .inl (fun _ => 0))), (q17, .inl (cI, 200, .inl (fun _ => 0)))] H := hP
  have hD : va_D A [(a0, .inr (0, [.ref q8, .null, .null, .null, .int 0])), (q8, .inl (cI, 200, .inl (fun _ => 0))), (q17, .inl (cI, 200, .inl (fun _ => 0)))] := hD
  refine q_putF (ty0 := tyX0) (v := .ref q17) hx hb hown hE inT_X0 tyX0_ok nmX0 hP hD hS 0 rfl rfl 1 (by decide) w_129 rfl hin rfl rfl rfl (Nat.le_of_ble_eq_true rfl) dX0_init_19 (fun H locs hP hD hS => ?_)
  have hP : va_P D vwCl [(a0, .inr (0, [.ref q8, .ref q17, .null, .null, .int 0])), (q8, .inl (cI, 200, .inl (fun _ => 0))), (q17, .inl (cI, 200, .inl (fun _ => 0)))] H := hP
  have hD : va_D A [(a0, .inr (0, [.ref q8, .ref q17, .null, .null, .int 0])), (q8, .inl (cI, 200, .inl (fun _ => 0))), (q17, .inl (cI, 200, .inl (fun _ => 0)))] := hD
  refine lv_aload_n hx hb dX0_init_22 rfl (lv_at hl 0 rfl) ?_
  refine lv_sipush (v := 200) hx hb dX0_init_23 (by decide) ?_
  refine q_newa (N' := 200) hx hb hE hP hD hS hA (by decide) (by decide) (Nat.le_of_ble_eq_true rfl) (Nat.le_of_ble_eq_true rfl) (Nat.le_of_ble_eq_true rfl) dX0_init_26 (fun q26 H hP hD hS => ?_)
  have hP : va_P D vwCl [(a0, .inr (0, [.ref q8, .ref q17, .null, .null, .int 0])), (q8, .inl (cI, 200, .inl (fun _ => 0))), (q17, .inl (cI, 200, .inl (fun _ => 0))), (q26, .inl (cI, 200, .inl (fun _ => 0)))] H := hP
  have hD : va_D A [(a0, .inr (0, [.ref q8, .ref q17, .null, .null, .int 0])), (q8, .inl (cI, 200, .inl (fun _ => 0))), (q17, .inl (cI, 200, .inl (fun _ => 0))), (q26, .inl (cI, 200, .inl (fun _ => 0)))] := hD
  refine q_putF (ty0 := tyX0) (v := .ref q26) hx hb hown hE inT_X0 tyX0_ok nmX0 hP hD hS 0 rfl rfl 2 (by decide) w_131 rfl hin rfl rfl rfl (Nat.le_of_ble_eq_true rfl) dX0_init_28 (fun H locs hP hD hS => ?_)
  have hP : va_P D vwCl [(a0, .inr (0, [.ref q8, .ref q17, .ref q26, .null, .int 0])), (q8, .inl (cI, 200, .inl (fun _ => 0))), (q17, .inl (cI, 200, .inl (fun _ => 0))), (q26, .inl (cI, 200, .inl (fun _ => 0)))] H := hP
  have hD : va_D A [(a0, .inr (0, [.ref q8, .ref q17, .ref q26, .null, .int 0])), (q8, .inl (cI, 200, .inl (fun _ => 0))), (q17, .inl (cI, 200, .inl (fun _ => 0))), (q26, .inl (cI, 200, .inl (fun _ => 0)))] := hD
  refine lv_aload_n hx hb dX0_init_31 rfl (lv_at hl 0 rfl) ?_
  refine lv_sipush (v := 200) hx hb dX0_init_32 (by decide) ?_
  refine q_newa (N' := 200) hx hb hE hP hD hS hA (by decide) (by decide) (Nat.le_of_ble_eq_true rfl) (Nat.le_of_ble_eq_true rfl) (Nat.le_of_ble_eq_true rfl) dX0_init_35 (fun q35 H hP hD hS => ?_)
  have hP : va_P D vwCl [(a0, .inr (0, [.ref q8, .ref q17, .ref q26, .null, .int 0])), (q8, .inl (cI, 200, .inl (fun _ => 0))), (q17, .inl (cI, 200, .inl (fun _ => 0))), (q26, .inl (cI, 200, .inl (fun _ => 0))), (q35, .inl (cI, 200, .inl (fun _ => 0)))] H := hP
  have hD : va_D A [(a0, .inr (0, [.ref q8, .ref q17, .ref q26, .null, .int 0])), (q8, .inl (cI, 200, .inl (fun _ => 0))), (q17, .inl (cI, 200, .inl (fun _ => 0))), (q26, .inl (cI, 200, .inl (fun _ => 0))), (q35, .inl (cI, 200, .inl (fun _ => 0)))] := hD
  refine q_putF (ty0 := tyX0) (v := .ref q35) hx hb hown hE inT_X0 tyX0_ok nmX0 hP hD hS 0 rfl rfl 3 (by decide) w_133 rfl hin rfl rfl rfl (Nat.le_of_ble_eq_true rfl) dX0_init_37 (fun H locs hP hD hS => ?_)
  have hP : va_P D vwCl [(a0, .inr (0, [.ref q8, .ref q17, .ref q26, .ref q35, .int 0])), (q8, .inl (cI, 200, .inl (fun _ => 0))), (q17, .inl (cI, 200, .inl (fun _ => 0))), (q26, .inl (cI, 200, .inl (fun _ => 0))), (q35, .inl (cI, 200, .inl (fun _ => 0)))] H := hP
  have hD : va_D A [(a0, .inr (0, [.ref q8, .ref q17, .ref q26, .ref q35, .int 0])), (q8, .inl (cI, 200, .inl (fun _ => 0))), (q17, .inl (cI, 200, .inl (fun _ => 0))), (q26, .inl (cI, 200, .inl (fun _ => 0))), (q35, .inl (cI, 200, .inl (fun _ => 0)))] := hD
  exact W.vret hx hb hr (fun t ht hW => ⟨⟨(fun i => ([a0, q8, q17, q26, q35] : List Nat).getD i 0), rfl, trivial, rfl, by rw [ht]; exact hP, hD⟩, hS.F ht⟩) hS.2.2 dX0_init_40
theorem dX4_init_0 : decode cX4_init 0 = .ok (.aload_n 0, 1) := by decide +kernel
theorem dX4_init_1 : decode cX4_init 1 = .ok (.invokespecial 3, 3) := by decide +kernel
theorem dX4_init_4 : decode cX4_init 4 = .ok (.aload_n 0, 1) := by decide +kernel
theorem dX4_init_5 : decode cX4_init 5 = .ok (.sipush 128, 3) := by decide +kernel
theorem dX4_init_8 : decode cX4_init 8 = .ok (.newarray .int, 2) := by decide +kernel
theorem dX4_init_10 : decode cX4_init 10 = .ok (.putfield 9, 3) := by decide +kernel
theorem dX4_init_13 : decode cX4_init 13 = .ok (.aload_n 0, 1) := by decide +kernel
theorem dX4_init_14 : decode cX4_init 14 = .ok (.sipush 384, 3) := by decide +kernel
theorem dX4_init_17 : decode cX4_init 17 = .ok (.newarray .int, 2) := by decide +kernel
theorem dX4_init_19 : decode cX4_init 19 = .ok (.putfield 15, 3) := by decide +kernel
theorem dX4_init_22 : decode cX4_init 22 = .ok (.return_, 1) := by decide +kernel
def nwX4 (cI cZ : ClassId) (ad : Nat → Nat) : va_W := [(ad 0, .inr (4, [.ref (ad 1), .ref (ad 2)])), (ad 1, .inl (cI, 128, .inl (fun _ => 0))), (ad 2, .inl (cI, 384, .inl (fun _ => 0)))]
set_option maxHeartbeats 4000000 in
set_option maxRecDepth 100000 in
theorem n_X4 (l : Launch) (D : va_G) (cI cZ cL : ClassId) (a0 sz : Nat) : NW l D cI cZ cL yX4_init cX4_init 1 1 2 512 a0 sz 4 [.null, .null] (nwX4 cI cZ) := by
  refine NW.of (by decide) rfl (Nat.le_of_ble_eq_true rfl) ?_
  intro p e s m args below meth c ls A hx hb hr hml hown hin hlk hE hP hD hS hA hl
  have hl : lv_has ls 1 [(0, .ref a0)] := hl
  refine lv_aload_n hx hb dX4_init_0 rfl (lv_at hl 0 rfl) ?_
  refine W.objInit hx hb hown (hE.1 _ w_153 args) (hE.1 _ w_84 args) (hE.1 _ w_85 args) rfl (by rw [hml]; exact hl.1) rfl dX4_init_1 (Nat.le_of_ble_eq_true rfl) (Nat.le_of_ble_eq_true rfl) ?_
  refine W.eq (g2 := F0 m 4 ls []) rfl ?_
  refine lv_aload_n hx hb dX4_init_4 rfl (lv_at hl 0 rfl) ?_
  refine lv_sipush (v := 128) hx hb dX4_init_5 (by decide) ?_
  refine q_newa (N' := 128) hx hb hE hP hD hS hA (by decide) (by decide) (Nat.le_of_ble_eq_true rfl) (Nat.le_of_ble_eq_true rfl) (Nat.le_of_ble_eq_true rfl) dX4_init_8 (fun q8 H hP hD hS => ?_)
  have hP : va_P D vwCl [(a0, .inr (4, [.null, .null])), (q8, .inl (cI, 128, .inl (fun _ => 0)))] H := hP
  have hD : va_D A [(a0, .inr (4, [.null, .null])), (q8, .inl (cI, 128, .inl (fun _ => 0)))] := hD
  refine q_putF (ty0 := tyX4) (v := .ref q8) hx hb hown hE inT_X4 tyX4_ok nmX4 hP hD hS 0 rfl rfl 0 (by decide) w_154 rfl hin rfl rfl rfl (Nat.le_of_ble_eq_true rfl) dX4_init_10 (fun H locs hP hD hS => ?_)
  have hP : va_P D vwCl [(a0, .inr (4, [.ref q8, .null])), (q8, .inl (cI, 128, .inl (fun _ => 0)))] H := hP
  have hD : va_D A [(a0, .inr (4, [.ref q8, .null])), (q8, .inl (cI, 128, .inl (fun _ => 0)))] := hD
  refine lv_aload_n hx hb dX4_init_13 rfl (lv_at hl 0 rfl) ?_
  refine lv_sipush (v := 384) hx hb dX4_init_14 (by decide) ?_
  refine q_newa (N' := 384) hx hb hE hP hD hS hA (by decide) (by decide) (Nat.le_of_ble_eq_true rfl) (Nat.le_of_ble_eq_true rfl) (Nat.le_of_ble_eq_true rfl) dX4_init_17 (fun q17 H hP hD hS => ?_)
  have hP : va_P D vwCl [(a0, .inr (4, [.ref q8, .null])), (q8, .inl (cI, 128, .inl (fun _ => 0))), (q17, .inl (cI, 384, .inl (fun _ => 0)))] H := hP
  have hD : va_D A [(a0, .inr (4, [.ref q8, .null])), (q8, .inl (cI, 128, .inl (fun _ => 0))), (q17, .inl (cI, 384, .inl (fun _ => 0)))] := hD
  refine q_putF (ty0 := tyX4) (v := .ref q17) hx hb hown hE inT_X4 tyX4_ok nmX4 hP hD hS 0 rfl rfl 1 (by decide) w_156 rfl hin rfl rfl rfl (Nat.le_of_ble_eq_true rfl) dX4_init_19 (fun H locs hP hD hS => ?_)
  have hP : va_P D vwCl [(a0, .inr (4, [.ref q8, .ref q17])), (q8, .inl (cI, 128, .inl (fun _ => 0))), (q17, .inl (cI, 384, .inl (fun _ => 0)))] H := hP
  have hD : va_D A [(a0, .inr (4, [.ref q8, .ref q17])), (q8, .inl (cI, 128, .inl (fun _ => 0))), (q17, .inl (cI, 384, .inl (fun _ => 0)))] := hD
  exact W.vret hx hb hr (fun t ht hW => ⟨⟨(fun i => ([a0, q8, q17] : List Nat).getD i 0), rfl, trivial, rfl, by rw [ht]; exact hP, hD⟩, hS.F ht⟩) hS.2.2 dX4_init_22
theorem dX1_init_0 : decode cX1_init 0 = .ok (.aload_n 0, 1) := by decide +kernel
theorem dX1_init_1 : decode cX1_init 1 = .ok (.invokespecial 3, 3) := by decide +kernel
theorem dX1_init_4 : decode cX1_init 4 = .ok (.aload_n 0, 1) := by decide +kernel
theorem dX1_init_5 : decode cX1_init 5 = .ok (.bipush 8, 2) := by decide +kernel
theorem dX1_init_7 : decode cX1_init 7 = .ok (.newarray .int, 2) := by decide +kernel
theorem dX1_init_9 : decode cX1_init 9 = .ok (.putfield 9, 3) := by decide +kernel
theorem dX1_init_12 : decode cX1_init 12 = .ok (.aload_n 0, 1) := by decide +kernel
theorem dX1_init_13 : decode cX1_init 13 = .ok (.bipush 8, 2) := by decide +kernel
theorem dX1_init_15 : decode cX1_init 15 = .ok (.newarray .int, 2) := by decide +kernel
theorem dX1_init_17 : decode cX1_init 17 = .ok (.putfield 15, 3) := by decide +kernel
theorem dX1_init_20 : decode cX1_init 20 = .ok (.aload_n 0, 1) := by decide +kernel
theorem dX1_init_21 : decode cX1_init 21 = .ok (.iconst 3, 1) := by decide +kernel
theorem dX1_init_22 : decode cX1_init 22 = .ok (.putfield 18, 3) := by decide +kernel
theorem dX1_init_25 : decode cX1_init 25 = .ok (.return_, 1) := by decide +kernel
def nwX1 (cI cZ : ClassId) (ad : Nat → Nat) : va_W := [(ad 0, .inr (1, [.ref (ad 1), .ref (ad 2), .int 3])), (ad 1, .inl (cI, 8, .inl (fun _ => 0))), (ad 2, .inl (cI, 8, .inl (fun _ => 0)))]
set_option maxHeartbeats 4000000 in
set_option maxRecDepth 100000 in
theorem n_X1 (l : Launch) (D : va_G) (cI cZ cL : ClassId) (a0 sz : Nat) : NW l D cI cZ cL yX1_init cX1_init 1 1 2 16 a0 sz 1 [.null, .null, .int 0] (nwX1 cI cZ) := by
  refine NW.of (by decide) rfl (Nat.le_of_ble_eq_true rfl) ?_
  intro p e s m args below meth c ls A hx hb hr hml hown hin hlk hE hP hD hS hA hl
  have hl : lv_has ls 1 [(0, .ref a0)] := hl
  refine lv_aload_n hx hb dX1_init_0 rfl (lv_at hl 0 rfl) ?_
  refine W.objInit hx hb hown (hE.1 _ w_168 args) (hE.1 _ w_84 args) (hE.1 _ w_85 args) rfl (by rw [hml]; exact hl.1) rfl dX1_init_1 (Nat.le_of_ble_eq_true rfl) (Nat.le_of_ble_eq_true rfl) ?_
  refine W.eq (g2 := F0 m 4 ls []) rfl ?_
  refine lv_aload_n hx hb dX1_init_4 rfl (lv_at hl 0 rfl) ?_
  refine lv_bipush (v := 8) hx hb dX1_init_5 (by decide) ?_
  refine q_newa (N' := 8) hx hb hE hP hD hS hA (by decide) (by decide) (Nat.le_of_ble_eq_true rfl) (Nat.le_of_ble_eq_true rfl) (Nat.le_of_ble_eq_true rfl) dX1_init_7 (fun q7 H hP hD hS => ?_)
  have hP : va_P D vwCl [(a0, .inr (1, [.null, .null, .int 0])), (q7, .inl (cI, 8, .inl (fun _ => 0)))] H := hP
  have hD : va_D A [(a0, .inr (1, [.null, .null, .int 0])), (q7, .inl (cI, 8, .inl (fun _ => 0)))] := hD
  refine q_putF (ty0 := tyX1) (v := .ref q7) hx hb hown hE inT_X1 tyX1_ok nmX1 hP hD hS 0 rfl rfl 0 (by decide) w_169 rfl hin rfl rfl rfl (Nat.le_of_ble_eq_true rfl) dX1_init_9 (fun H locs hP hD hS => ?_)
  have hP : va_P D vwCl [(a0, .inr (1, [.ref q7, .null, .int 0])), (q7, .inl (cI, 8, .inl (fun _ => 0)))] H := hP
  have hD : va_D A [(a0, .inr (1, [.ref q7, .null, .int 0])), (q7, .inl (cI, 8, .inl (fun _ => 0)))] := hD
  refine lv_aload_n hx hb dX1_init_12 rfl (lv_at hl 0 rfl) ?_
  refine lv_bipush (v := 8) hx hb dX1_init_13 (by decide) ?_
  refine q_newa (N' := 8) hx hb hE hP hD hS hA (by decide) (by decide) (Nat.le_of_ble_eq_true rfl) (Nat.le_of_ble_eq_true rfl) (Nat.le_of_ble_eq_true rfl) dX1_init_15 (fun q15 H hP hD hS => ?_)
  have hP : va_P D vwCl [(a0, .inr (1, [.ref q7, .null, .int 0])), (q7, .inl (cI, 8, .inl (fun _ => 0))), (q15, .inl (cI, 8, .inl (fun _ => 0)))] H := hP
  have hD : va_D A [(a0, .inr (1, [.ref q7, .null, .int 0])), (q7, .inl (cI, 8, .inl (fun _ => 0))), (q15, .inl (cI, 8, .inl (fun _ => 0)))] := hD
  refine q_putF (ty0 := tyX1) (v := .ref q15) hx hb hown hE inT_X1 tyX1_ok nmX1 hP hD hS 0 rfl rfl 1 (by decide) w_171 rfl hin rfl rfl rfl (Nat.le_of_ble_eq_true rfl) dX1_init_17 (fun H locs hP hD hS => ?_)
  have hP : va_P D vwCl [(a0, .inr (1, [.ref q7, .ref q15, .int 0])), (q7, .inl (cI, 8, .inl (fun _ => 0))), (q15, .inl (cI, 8, .inl (fun _ => 0)))] H := hP
  have hD : va_D A [(a0, .inr (1, [.ref q7, .ref q15, .int 0])), (q7, .inl (cI, 8, .inl (fun _ => 0))), (q15, .inl (cI, 8, .inl (fun _ => 0)))] := hD
  refine lv_aload_n hx hb dX1_init_20 rfl (lv_at hl 0 rfl) ?_
  refine lv_iconst (v := 3) hx hb dX1_init_21 (by decide) ?_
  refine q_putC (ty0 := tyX1) (v := .int 3) hx hb hown hE inT_X1 tyX1_ok nmX1 hP hD hS 0 rfl rfl 2 (by decide) w_172 rfl rfl rfl (Nat.le_of_ble_eq_true rfl) dX1_init_22 (fun H locs hP hD hS => ?_)
  have hP : va_P D vwCl [(a0, .inr (1, [.ref q7, .ref q15, .int 3])), (q7, .inl (cI, 8, .inl (fun _ => 0))), (q15, .inl (cI, 8, .inl (fun _ => 0)))] H := hP
  have hD : va_D A [(a0, .inr (1, [.ref q7, .ref q15, .int 3])), (q7, .inl (cI, 8, .inl (fun _ => 0))), (q15, .inl (cI, 8, .inl (fun _ => 0)))] := hD
  exact W.vret hx hb hr (fun t ht hW => ⟨⟨(fun i => ([a0, q7, q15] : List Nat).getD i 0), rfl, trivial, rfl, by rw [ht]; exact hP, hD⟩, hS.F ht⟩) hS.2.2 dX1_init_25
theorem dX2_init_0 : decode cX2_init 0 = .ok (.aload_n 0, 1) := by decide +kernel
theorem dX2_init_1 : decode cX2_init 1 = .ok (.invokespecial 3, 3) := by decide +kernel
theorem dX2_init_4 : decode cX2_init 4 = .ok (.aload_n 0, 1) := by decide +kernel
theorem dX2_init_5 : decode cX2_init 5 = .ok (.bipush 8, 2) := by decide +kernel
theorem dX2_init_7 : decode cX2_init 7 = .ok (.newarray .int, 2) := by decide +kernel
theorem dX2_init_9 : decode cX2_init 9 = .ok (.putfield 9, 3) := by decide +kernel
theorem dX2_init_12 : decode cX2_init 12 = .ok (.aload_n 0, 1) := by decide +kernel
theorem dX2_init_13 : decode cX2_init 13 = .ok (.bipush 8, 2) := by decide +kernel
theorem dX2_init_15 : decode cX2_init 15 = .ok (.newarray .int, 2) := by decide +kernel
theorem dX2_init_17 : decode cX2_init 17 = .ok (.putfield 15, 3) := by decide +kernel
theorem dX2_init_20 : decode cX2_init 20 = .ok (.aload_n 0, 1) := by decide +kernel
theorem dX2_init_21 : decode cX2_init 21 = .ok (.sipush 128, 3) := by decide +kernel
theorem dX2_init_24 : decode cX2_init 24 = .ok (.newarray .int, 2) := by decide +kernel
theorem dX2_init_26 : decode cX2_init 26 = .ok (.putfield 18, 3) := by decide +kernel
theorem dX2_init_29 : decode cX2_init 29 = .ok (.aload_n 0, 1) := by decide +kernel
theorem dX2_init_30 : decode cX2_init 30 = .ok (.sipush 128, 3) := by decide +kernel
theorem dX2_init_33 : decode cX2_init 33 = .ok (.newarray .int, 2) := by decide +kernel
theorem dX2_init_35 : decode cX2_init 35 = .ok (.putfield 21, 3) := by decide +kernel
theorem dX2_init_38 : decode cX2_init 38 = .ok (.aload_n 0, 1) := by decide +kernel
theorem dX2_init_39 : decode cX2_init 39 = .ok (.bipush 64, 2) := by decide +kernel
theorem dX2_init_41 : decode cX2_init 41 = .ok (.newarray .int, 2) := by decide +kernel
theorem dX2_init_43 : decode cX2_init 43 = .ok (.putfield 24, 3) := by decide +kernel
theorem dX2_init_46 : decode cX2_init 46 = .ok (.aload_n 0, 1) := by decide +kernel
theorem dX2_init_47 : decode cX2_init 47 = .ok (.bipush 64, 2) := by decide +kernel
theorem dX2_init_49 : decode cX2_init 49 = .ok (.newarray .int, 2) := by decide +kernel
theorem dX2_init_51 : decode cX2_init 51 = .ok (.putfield 27, 3) := by decide +kernel
theorem dX2_init_54 : decode cX2_init 54 = .ok (.return_, 1) := by decide +kernel
def nwX2 (cI cZ : ClassId) (ad : Nat → Nat) : va_W := [(ad 0, .inr (2, [.ref (ad 1), .ref (ad 2), .ref (ad 3), .ref (ad 4), .ref (ad 5), .ref (ad 6)])), (ad 1, .inl (cI, 8, .inl (fun _ => 0))), (ad 2, .inl (cI, 8, .inl (fun _ => 0))), (ad 3, .inl (cI, 128, .inl (fun _ => 0))), (ad 4, .inl (cI, 128, .inl (fun _ => 0))), (ad 5, .inl (cI, 64, .inl (fun _ => 0))), (ad 6, .inl (cI, 64, .inl (fun _ => 0)))]
set_option maxHeartbeats 4000000 in
set_option maxRecDepth 100000 in
theorem n_X2 (l : Launch) (D : va_G) (cI cZ cL : ClassId) (a0 sz : Nat) : NW l D cI cZ cL yX2_init cX2_init 1 1 6 400 a0 sz 2 [.null, .null, .null, .null, .null, .null] (nwX2 cI cZ) := by
  refine NW.of (by decide) rfl (Nat.le_of_ble_eq_true rfl) ?_
  intro p e s m args below meth c ls A hx hb hr hml hown hin hlk hE hP hD hS hA hl
  have hl : lv_has ls 1 [(0, .ref a0)] := hl
  refine lv_aload_n hx hb dX2_init_0 rfl (lv_at hl 0 rfl) ?_
  refine W.objInit hx hb hown (hE.1 _ w_186 args) (hE.1 _ w_84 args) (hE.1 _ w_85 args) rfl (by rw [hml]; exact hl.1) rfl dX2_init_1 (Nat.le_of_ble_eq_true rfl) (Nat.le_of_ble_eq_true rfl) ?_
  refine W.eq (g2 := F0 m 4 ls []) rfl ?_
  refine lv_aload_n hx hb dX2_init_4 rfl (lv_at hl 0 rfl) ?_
  refine lv_bipush (v := 8) hx hb dX2_init_5 (by decide) ?_
  refine q_newa (N' := 8) hx hb hE hP hD hS hA (by decide) (by decide) (Nat.le_of_ble_eq_true rfl) (Nat.le_of_ble_eq_true rfl) (Nat.le_of_ble_eq_true rfl) dX2_init_7 (fun q7 H hP hD hS => ?_)
  have hP : va_P D vwCl [(a0, .inr (2, [.null, .null, .null, .null, .null, .null])), (q7, .inl (cI, 8, .inl (fun _ => 0)))] H := hP
  have hD : va_D A [(a0, .inr (2, [.null, .null, .null, .null, .null, .null])), (q7, .inl (cI, 8, .inl (fun _ => 0)))] := hD
  refine q_putF (ty0 := tyX2) (v := .ref q7) hx hb hown hE inT_X2 tyX2_ok nmX2 hP hD hS 0 rfl rfl 0 (by decide) w_187 rfl hin rfl rfl rfl (Nat.le_of_ble_eq_true rfl) dX2_init_9 (fun H locs hP hD hS => ?_)
  have hP : va_P D vwCl [(a0, .inr (2, [.ref q7, .null, .null, .null, .null, .null])), (q7, .inl (cI, 8, .inl (fun _ => 0)))] H := hP
  have hD : va_D A [(a0, .inr (2, [.ref q7, .null, .null, .null, .null, .null])), (q7, .inl (cI, 8, .inl (fun _ => 0)))] := hD
  refine lv_aload_n hx hb dX2_init_12 rfl (lv_at hl 0 rfl) ?_
  refine lv_bipush (v := 8) hx hb dX2_init_13 (by decide) ?_
  refine q_newa (N' := 8) hx hb hE hP hD hS hA (by decide) (by decide) (Nat.le_of_ble_eq_true rfl) (Nat.le_of_ble_eq_true rfl) (Nat.le_of_ble_eq_true rfl) dX2_init_15 (fun q15 H hP hD hS => ?_)
  have hP : va_P D vwCl [(a0, .inr (2, [.ref q7, .null, .null, .null, .null, .null])), (q7, .inl (cI, 8, .inl (fun _ => 0))), (q15, .inl (cI, 8, .inl (fun _ => 0)))] H := hP
  have hD : va_D A [(a0, .inr (2, [.ref q7, .null, .null, .null, .null, .null])), (q7, .inl (cI, 8, .inl (fun _ => 0))), (q15, .inl (cI, 8, .inl (fun _ => 0)))] := hD
  refine q_putF (ty0 := tyX2) (v := .ref q15) hx hb hown hE inT_X2 tyX2_ok nmX2 hP hD hS 0 rfl rfl 1 (by decide) w_189 rfl hin rfl rfl rfl (Nat.le_of_ble_eq_true rfl) dX2_init_17 (fun H locs hP hD hS => ?_)
  have hP : va_P D vwCl [(a0, .inr (2, [.ref q7, .ref q15, .null, .null, .null, .null])), (q7, .inl (cI, 8, .inl (fun _ => 0))), (q15, .inl (cI, 8, .inl (fun _ => 0)))] H := hP
  have hD : va_D A [(a0, .inr (2, [.ref q7, .ref q15, .null, .null, .null, .null])), (q7, .inl (cI, 8, .inl (fun _ => 0))), (q15, .inl (cI, 8, .inl (fun _ => 0)))] := hD
  refine lv_aload_n hx hb dX2_init_20 rfl (lv_at hl 0 rfl) ?_
  refine lv_sipush (v := 128) hx hb dX2_init_21 (by decide) ?_
  refine q_newa (N' := 128) hx hb hE hP hD hS hA (by decide) (by decide) (Nat.le_of_ble_eq_true rfl) (Nat.le_of_ble_eq_true rfl) (Nat.le_of_ble_eq_true rfl) dX2_init_24 (fun q24 H hP hD hS => ?_)
  have hP : va_P D vwCl [(a0, .inr (2, [.ref q7, .ref q15, .null, .null, .null, .null])), (q7, .inl (cI, 8, .inl (fun _ => 0))), (q15, .inl (cI, 8, .inl (fun _ => 0))), (q24, .inl (cI, 128, .inl (fun _ => 0)))] H := hP
  have hD : va_D A [(a0, .inr (2, [.ref q7, .ref q15, .null, .null, .null, .null])), (q7, .inl (cI, 8, .inl (fun _ => 0))), (q15, .inl (cI, 8, .inl (fun _ => 0))), (q24, .inl (cI, 128, .inl (fun _ => 0)))] := hD
  refine q_putF (ty0 := tyX2) (v := .ref q24) hx hb hown hE inT_X2 tyX2_ok nmX2 hP hD hS 0 rfl rfl 2 (by decide) w_191 rfl hin rfl rfl rfl (Nat.le_of_ble_eq_true rfl) dX2_init_26 (fun H locs hP hD hS => ?_)
  have hP : va_P D vwCl [(a0, .inr (2, [.ref q7, .ref q15, .ref q24, .null, .null, .null])), (q7, .inl (cI, 8, .inl (fun _ => 0))), (q15, .inl (cI, 8, .inl (fun _ => 0))), (q24, .inl (cI, 128, .inl (fun _ => 0)))] H := hP
  have hD : va_D A [(a0, .inr (2, [.ref q7, .ref q15, .ref q24, .null, .null, .null])), (q7, .inl (cI, 8, .inl (fun _ => 0))), (q15, .inl (cI, 8, .inl (fun _ => 0))), (q24, .inl (cI, 128, .inl (fun _ => 0)))] := hD
  refine lv_aload_n hx hb dX2_init_29 rfl (lv_at hl 0 rfl) ?_
  refine lv_sipush (v := 128) hx hb dX2_init_30 (by decide) ?_
  refine q_newa (N' := 128) hx hb hE hP hD hS hA (by decide) (by decide) (Nat.le_of_ble_eq_true rfl) (Nat.le_of_ble_eq_true rfl) (Nat.le_of_ble_eq_true rfl) dX2_init_33 (fun q33 H hP hD hS => ?_)
  have hP : va_P D vwCl [(a0, .inr (2, [.ref q7, .ref q15, .ref q24, .null, .null, .null])), (q7, .inl (cI, 8, .inl (fun _ => 0))), (q15, .inl (cI, 8, .inl (fun _ => 0))), (q24, .inl (cI, 128, .inl (fun _ => 0))), (q33, .inl (cI, 128, .inl (fun _ => 0)))] H := hP
  have hD : va_D A [(a0, .inr (2, [.ref q7, .ref q15, .ref q24, .null, .null, .null])), (q7, .inl (cI, 8, .inl (fun _ => 0))), (q15, .inl (cI, 8, .inl (fun _ => 0))), (q24, .inl (cI, 128, .inl (fun _ => 0))), (q33, .inl (cI, 128, .inl (fun _ => 0)))] := hD
  refine q_putF (ty0 := tyX2) (v := .ref q33) hx hb hown hE inT_X2 tyX2_ok nmX2 hP hD hS 0 rfl rfl 3 (by decide) w_193 rfl hin rfl rfl rfl (Nat.le_of_ble_eq_true rfl) dX2_init_35 (fun H locs hP hD hS => ?_)
  have hP : va_P D vwCl [(a0, .inr (2, [.ref q7, .ref q15, .ref q24, .ref q33, .null, .null])), (q7, .inl (cI, 8, .inl (fun _ => 0))), (q15, .inl (cI, 8, .inl (fun _ => 0))), (q24, .inl (cI, 128, .inl (fun _ => 0))), (q33, .inl (cI, 128, .inl (fun _ => 0)))] H := hP
  have hD : va_D A [(a0, .inr (2, [.ref q7, .ref q15, .ref q24, .ref q33, .null, .null])), (q7, .inl (cI, 8, .inl (fun _ => 0))), (q15, .inl (cI, 8, .inl (fun _ => 0))), (q24, .inl (cI, 128, .inl (fun _ => 0))), (q33, .inl (cI, 128, .inl (fun _ => 0)))] := hD
  refine lv_aload_n hx hb dX2_init_38 rfl (lv_at hl 0 rfl) ?_
  refine lv_bipush (v := 64) hx hb dX2_init_39 (by decide) ?_
  refine q_newa (N' := 64) hx hb hE hP hD hS hA (by decide) (by decide) (Nat.le_of_ble_eq_true rfl) (Nat.le_of_ble_eq_true rfl) (Nat.le_of_ble_eq_true rfl) dX2_init_41 (fun q41 H hP hD hS => ?_)
  have hP : va_P D vwCl [(a0, .inr (2, [.ref q7, .ref q15, .ref q24, .ref q33, .null, .null])), (q7, .inl (cI, 8, .inl (fun _ => 0))), (q15, .inl (cI, 8, .inl (fun _ => 0))), (q24, .inl (cI, 128, .inl (fun _ => 0))), (q33, .inl (cI, 128, .inl (fun _ => 0))), (q41, .inl (cI, 64, .inl (fun _ => 0)))] H := hP
  have hD : va_D A [(a0, .inr (2, [.ref q7, .ref q15, .ref q24, .ref q33, .null, .null])), (q7, .inl (cI, 8, .inl (fun _ => 0))), (q15, .inl (cI, 8, .inl (fun _ => 0))), (q24, .inl (cI, 128, .inl (fun _ => 0))), (q33, .inl (cI, 128, .inl (fun _ => 0))), (q41, .inl (cI, 64, .inl (fun _ => 0)))] := hD
  refine q_putF (ty0 := tyX2) (v := .ref q41) hx hb hown hE inT_X2 tyX2_ok nmX2 hP hD hS 0 rfl rfl 4 (by decide) w_195 rfl hin rfl rfl rfl (Nat.le_of_ble_eq_true rfl) dX2_init_43 (fun H locs hP hD hS => ?_)
  have hP : va_P D vwCl [(a0, .inr (2, [.ref q7, .ref q15, .ref q24, .ref q33, .ref q41, .null])), (q7, .inl (cI, 8, .inl (fun _ => 0))), (q15, .inl (cI, 8, .inl (fun _ => 0))), (q24, .inl (cI, 128, .inl (fun _ => 0))), (q33, .inl (cI, 128, .inl (fun _ => 0))), (q41, .inl (cI, 64, .inl (fun _ => 0)))] H := hP
  have hD : va_D A [(a0, .inr (2, [.ref q7, .ref q15, .ref q24, .ref q33, .ref q41, .null])), (q7, .inl (cI, 8, .inl (fun _ => 0))), (q15, .inl (cI, 8, .inl (fun _ => 0))), (q24, .inl (cI, 128, .inl (fun _ => 0))), (q33, .inl (cI, 128, .inl (fun _ => 0))), (q41, .inl (cI, 64, .inl (fun _ => 0)))] := hD
  refine lv_aload_n hx hb dX2_init_46 rfl (lv_at hl 0 rfl) ?_
  refine lv_bipush (v := 64) hx hb dX2_init_47 (by decide) ?_
  refine q_newa (N' := 64) hx hb hE hP hD hS hA (by decide) (by decide) (Nat.le_of_ble_eq_true rfl) (Nat.le_of_ble_eq_true rfl) (Nat.le_of_ble_eq_true rfl) dX2_init_49 (fun q49 H hP hD hS => ?_)
  have hP : va_P D vwCl [(a0, .inr (2, [.ref q7, .ref q15, .ref q24, .ref q33, .ref q41, .null])), (q7, .inl (cI, 8, .inl (fun _ => 0))), (q15, .inl (cI, 8, .inl (fun _ => 0))), (q24, .inl (cI, 128, .inl (fun _ => 0))), (q33, .inl (cI, 128, .inl (fun _ => 0))), (q41, .inl (cI, 64, .inl (fun _ => 0))), (q49, .inl (cI, 64, .inl (fun _ => 0)))] H := hP
  have hD : va_D A [(a0, .inr (2, [.ref q7, .ref q15, .ref q24, .ref q33, .ref q41, .null])), (q7, .inl (cI, 8, .inl (fun _ => 0))), (q15, .inl (cI, 8, .inl (fun _ => 0))), (q24, .inl (cI, 128, .inl (fun _ => 0))), (q33, .inl (cI, 128, .inl (fun _ => 0))), (q41, .inl (cI, 64, .inl (fun _ => 0))), (q49, .inl (cI, 64, .inl (fun _ => 0)))] := hD
  refine q_putF (ty0 := tyX2) (v := .ref q49) hx hb hown hE inT_X2 tyX2_ok nmX2 hP hD hS 0 rfl rfl 5 (by decide) w_197 rfl hin rfl rfl rfl (Nat.le_of_ble_eq_true rfl) dX2_init_51 (fun H locs hP hD hS => ?_)
  have hP : va_P D vwCl [(a0, .inr (2, [.ref q7, .ref q15, .ref q24, .ref q33, .ref q41, .ref q49])), (q7, .inl (cI, 8, .inl (fun _ => 0))), (q15, .inl (cI, 8, .inl (fun _ => 0))), (q24, .inl (cI, 128, .inl (fun _ => 0))), (q33, .inl (cI, 128, .inl (fun _ => 0))), (q41, .inl (cI, 64, .inl (fun _ => 0))), (q49, .inl (cI, 64, .inl (fun _ => 0)))] H := hP
  have hD : va_D A [(a0, .inr (2, [.ref q7, .ref q15, .ref q24, .ref q33, .ref q41, .ref q49])), (q7, .inl (cI, 8, .inl (fun _ => 0))), (q15, .inl (cI, 8, .inl (fun _ => 0))), (q24, .inl (cI, 128, .inl (fun _ => 0))), (q33, .inl (cI, 128, .inl (fun _ => 0))), (q41, .inl (cI, 64, .inl (fun _ => 0))), (q49, .inl (cI, 64, .inl (fun _ => 0)))] := hD
  exact W.vret hx hb hr (fun t ht hW => ⟨⟨(fun i => ([a0, q7, q15, q24, q33, q41, q49] : List Nat).getD i 0), rfl, trivial, rfl, by rw [ht]; exact hP, hD⟩, hS.F ht⟩) hS.2.2 dX2_init_54
theorem dX6_init_0 : decode cX6_init 0 = .ok (.aload_n 0, 1) := by decide +kernel
theorem dX6_init_1 : decode cX6_init 1 = .ok (.invokespecial 1, 3) := by decide +kernel
theorem dX6_init_4 : decode cX6_init 4 = .ok (.aload_n 0, 1) := by decide +kernel
theorem dX6_init_5 : decode cX6_init 5 = .ok (.bipush 16, 2) := by decide +kernel
theorem dX6_init_7 : decode cX6_init 7 = .ok (.newarray .int, 2) := by decide +kernel
theorem dX6_init_9 : decode cX6_init 9 = .ok (.putfield 7, 3) := by decide +kernel
theorem dX6_init_12 : decode cX6_init 12 = .ok (.aload_n 0, 1) := by decide +kernel
theorem dX6_init_13 : decode cX6_init 13 = .ok (.bipush 16, 2) := by decide +kernel
theorem dX6_init_15 : decode cX6_init 15 = .ok (.newarray .int, 2) := by decide +kernel
theorem dX6_init_17 : decode cX6_init 17 = .ok (.putfield 13, 3) := by decide +kernel
theorem dX6_init_20 : decode cX6_init 20 = .ok (.aload_n 0, 1) := by decide +kernel
theorem dX6_init_21 : decode cX6_init 21 = .ok (.bipush 16, 2) := by decide +kernel
theorem dX6_init_23 : decode cX6_init 23 = .ok (.newarray .int, 2) := by decide +kernel
theorem dX6_init_25 : decode cX6_init 25 = .ok (.putfield 16, 3) := by decide +kernel
theorem dX6_init_28 : decode cX6_init 28 = .ok (.aload_n 0, 1) := by decide +kernel
theorem dX6_init_29 : decode cX6_init 29 = .ok (.bipush 16, 2) := by decide +kernel
theorem dX6_init_31 : decode cX6_init 31 = .ok (.newarray .int, 2) := by decide +kernel
theorem dX6_init_33 : decode cX6_init 33 = .ok (.putfield 19, 3) := by decide +kernel
theorem dX6_init_36 : decode cX6_init 36 = .ok (.aload_n 0, 1) := by decide +kernel
theorem dX6_init_37 : decode cX6_init 37 = .ok (.bipush 16, 2) := by decide +kernel
theorem dX6_init_39 : decode cX6_init 39 = .ok (.newarray .int, 2) := by decide +kernel
theorem dX6_init_41 : decode cX6_init 41 = .ok (.putfield 22, 3) := by decide +kernel
theorem dX6_init_44 : decode cX6_init 44 = .ok (.aload_n 0, 1) := by decide +kernel
theorem dX6_init_45 : decode cX6_init 45 = .ok (.sipush 128, 3) := by decide +kernel
theorem dX6_init_48 : decode cX6_init 48 = .ok (.newarray .int, 2) := by decide +kernel
theorem dX6_init_50 : decode cX6_init 50 = .ok (.putfield 25, 3) := by decide +kernel
theorem dX6_init_53 : decode cX6_init 53 = .ok (.aload_n 0, 1) := by decide +kernel
theorem dX6_init_54 : decode cX6_init 54 = .ok (.sipush 128, 3) := by decide +kernel
theorem dX6_init_57 : decode cX6_init 57 = .ok (.newarray .boolean, 2) := by decide +kernel
theorem dX6_init_59 : decode cX6_init 59 = .ok (.putfield 28, 3) := by decide +kernel
theorem dX6_init_62 : decode cX6_init 62 = .ok (.aload_n 0, 1) := by decide +kernel
theorem dX6_init_63 : decode cX6_init 63 = .ok (.sipush 128, 3) := by decide +kernel
theorem dX6_init_66 : decode cX6_init 66 = .ok (.newarray .boolean, 2) := by decide +kernel
theorem dX6_init_68 : decode cX6_init 68 = .ok (.putfield 32, 3) := by decide +kernel
theorem dX6_init_71 : decode cX6_init 71 = .ok (.aload_n 0, 1) := by decide +kernel
theorem dX6_init_72 : decode cX6_init 72 = .ok (.sipush 128, 3) := by decide +kernel
theorem dX6_init_75 : decode cX6_init 75 = .ok (.newarray .int, 2) := by decide +kernel
theorem dX6_init_77 : decode cX6_init 77 = .ok (.putfield 35, 3) := by decide +kernel
theorem dX6_init_80 : decode cX6_init 80 = .ok (.aload_n 0, 1) := by decide +kernel
theorem dX6_init_81 : decode cX6_init 81 = .ok (.sipush 128, 3) := by decide +kernel
theorem dX6_init_84 : decode cX6_init 84 = .ok (.newarray .int, 2) := by decide +kernel
theorem dX6_init_86 : decode cX6_init 86 = .ok (.putfield 38, 3) := by decide +kernel
theorem dX6_init_89 : decode cX6_init 89 = .ok (.aload_n 0, 1) := by decide +kernel
theorem dX6_init_90 : decode cX6_init 90 = .ok (.sipush 200, 3) := by decide +kernel
theorem dX6_init_93 : decode cX6_init 93 = .ok (.newarray .int, 2) := by decide +kernel
theorem dX6_init_95 : decode cX6_init 95 = .ok (.putfield 41, 3) := by decide +kernel
theorem dX6_init_98 : decode cX6_init 98 = .ok (.aload_n 0, 1) := by decide +kernel
theorem dX6_init_99 : decode cX6_init 99 = .ok (.sipush 200, 3) := by decide +kernel
theorem dX6_init_102 : decode cX6_init 102 = .ok (.newarray .int, 2) := by decide +kernel
theorem dX6_init_104 : decode cX6_init 104 = .ok (.putfield 44, 3) := by decide +kernel
theorem dX6_init_107 : decode cX6_init 107 = .ok (.aload_n 0, 1) := by decide +kernel
theorem dX6_init_108 : decode cX6_init 108 = .ok (.sipush 200, 3) := by decide +kernel
theorem dX6_init_111 : decode cX6_init 111 = .ok (.newarray .int, 2) := by decide +kernel
theorem dX6_init_113 : decode cX6_init 113 = .ok (.putfield 47, 3) := by decide +kernel
theorem dX6_init_116 : decode cX6_init 116 = .ok (.aload_n 0, 1) := by decide +kernel
theorem dX6_init_117 : decode cX6_init 117 = .ok (.bipush 64, 2) := by decide +kernel
theorem dX6_init_119 : decode cX6_init 119 = .ok (.newarray .boolean, 2) := by decide +kernel
theorem dX6_init_121 : decode cX6_init 121 = .ok (.putfield 50, 3) := by decide +kernel
theorem dX6_init_124 : decode cX6_init 124 = .ok (.aload_n 0, 1) := by decide +kernel
theorem dX6_init_125 : decode cX6_init 125 = .ok (.iconst 3, 1) := by decide +kernel
theorem dX6_init_126 : decode cX6_init 126 = .ok (.putfield 53, 3) := by decide +kernel
theorem dX6_init_129 : decode cX6_init 129 = .ok (.aload_n 0, 1) := by decide +kernel
theorem dX6_init_130 : decode cX6_init 130 = .ok (.bipush 8, 2) := by decide +kernel
theorem dX6_init_132 : decode cX6_init 132 = .ok (.newarray .int, 2) := by decide +kernel
theorem dX6_init_134 : decode cX6_init 134 = .ok (.putfield 57, 3) := by decide +kernel
theorem dX6_init_137 : decode cX6_init 137 = .ok (.return_, 1) := by decide +kernel
def nwX6 (cI cZ : ClassId) (ad : Nat → Nat) : va_W := [(ad 0, .inr (6, [.int 0, .int 0, .int 0, .ref (ad 1), .ref (ad 2), .ref (ad 3), .ref (ad 4), .ref (ad 5), .int 0, .ref (ad 6), .ref (ad 7), .ref (ad 8), .ref (ad 9), .ref (ad 10), .int 0, .ref (ad 11), .ref (ad 12), .ref (ad 13), .ref (ad 14), .int 3, .ref (ad 15), .int 0])), (ad 1, .inl (cI, 16, .inl (fun _ => 0))), (ad 2, .inl (cI, 16, .inl (fun _ => 0))), (ad 3, .inl (cI, 16, .inl (fun _ => 0))), (ad 4, .inl (cI, 16, .inl (fun _ => 0))), (ad 5, .inl (cI, 16, .inl (fun _ => 0))), (ad 6, .inl (cI, 128, .inl (fun _ => 0))), (ad 7, .inl (cZ, 128, .inl (fun _ => 0))), (ad 8, .inl (cZ, 128, .inl (fun _ => 0))), (ad 9, .inl (cI, 128, .inl (fun _ => 0))), (ad 10, .inl (cI, 128, .inl (fun _ => 0))), (ad 11, .inl (cI, 200, .inl (fun _ => 0))), (ad 12, .inl (cI, 200, .inl (fun _ => 0))), (ad 13, .inl (cI, 200, .inl (fun _ => 0))), (ad 14, .inl (cZ, 64, .inl (fun _ => 0))), (ad 15, .inl (cI, 8, .inl (fun _ => 0)))]
set_option maxHeartbeats 4000000 in
set_option maxRecDepth 100000 in
theorem n_X6 (l : Launch) (D : va_G) (cI cZ cL : ClassId) (a0 sz : Nat) : NW l D cI cZ cL yX6_init cX6_init 1 1 15 1392 a0 sz 6 [.int 0, .int 0, .int 0, .null, .null, .null, .null, .null, .int 0, .null, .null, .null, .null, .null, .int 0, .null, .null, .null, .null, .int 0, .null, .int 0] (nwX6 cI cZ) := by
  refine NW.of (by decide) rfl (Nat.le_of_ble_eq_true rfl) ?_
  intro p e s m args below meth c ls A hx hb hr hml hown hin hlk hE hP hD hS hA hl
  have hl : lv_has ls 1 [(0, .ref a0)] := hl
  refine lv_aload_n hx hb dX6_init_0 rfl (lv_at hl 0 rfl) ?_
  refine W.objInit hx hb hown (hE.1 _ w_757 args) (hE.1 _ w_84 args) (hE.1 _ w_85 args) rfl (by rw [hml]; exact hl.1) rfl dX6_init_1 (Nat.le_of_ble_eq_true rfl) (Nat.le_of_ble_eq_true rfl) ?_
  refine W.eq (g2 := F0 m 4 ls []) rfl ?_
  refine lv_aload_n hx hb dX6_init_4 rfl (lv_at hl 0 rfl) ?_
  refine lv_bipush (v := 16) hx hb dX6_init_5 (by decide) ?_
  refine q_newa (N' := 16) hx hb hE hP hD hS hA (by decide) (by decide) (Nat.le_of_ble_eq_true rfl) (Nat.le_of_ble_eq_true rfl) (Nat.le_of_ble_eq_true rfl) dX6_init_7 (fun q7 H hP hD hS => ?_)
  have hP : va_P D vwCl [(a0, .inr (6, [.int 0, .int 0, .int 0, .null, .null, .null, .null, .null, .int 0, .null, .null, .null, .null, .null, .int 0, .null, .null, .null, .null, .int 0, .null, .int 0])), (q7, .inl (cI, 16, .inl (fun _ => 0)))] H := hP
  have hD : va_D A [(a0, .inr (6, [.int 0, .int 0, .int 0, .null, .null, .null, .null, .null, .int 0, .null, .null, .null, .null, .null, .int 0, .null, .null, .null, .null, .int 0, .null, .int 0])), (q7, .inl (cI, 16, .inl (fun _ => 0)))] := hD
  refine q_putF (ty0 := tyX6) (v := .ref q7) hx hb hown hE inT_X6 tyX6_ok nmX6 hP hD hS 0 rfl rfl 3 (by decide) w_761 rfl hin rfl rfl rfl (Nat.le_of_ble_eq_true rfl) dX6_init_9 (fun H locs hP hD hS => ?_)
  have hP : va_P D vwCl [(a0, .inr (6, [.int 0, .int 0, .int 0, .ref q7, .null, .null, .null, .null, .int 0, .null, .null, .null, .null, .null, .int 0, .null, .null, .null, .null, .int 0, .null, .int 0])), (q7, .inl (cI, 16, .inl (fun _ => 0)))] H := hP
  have hD : va_D A [(a0, .inr (6, [.int 0, .int 0, .int 0, .ref q7, .null, .null, .null, .null, .int 0, .null, .null, .null, .null, .null, .int 0, .null, .null, .null, .null, .int 0, .null, .int 0])), (q7, .inl (cI, 16, .inl (fun _ => 0)))] := hD
  refine lv_aload_n hx hb dX6_init_12 rfl (lv_at hl 0 rfl) ?_
  refine lv_bipush (v := 16) hx hb dX6_init_13 (by decide) ?_
  refine q_newa (N' := 16) hx hb hE hP hD hS hA (by decide) (by decide) (Nat.le_of_ble_eq_true rfl) (Nat.le_of_ble_eq_true rfl) (Nat.le_of_ble_eq_true rfl) dX6_init_15 (fun q15 H hP hD hS => ?_)
  have hP : va_P D vwCl [(a0, .inr (6, [.int 0, .int 0, .int 0, .ref q7, .null, .null, .null, .null, .int 0, .null, .null, .null, .null, .null, .int 0, .null, .null, .null, .null, .int 0, .null, .int 0])), (q7, .inl (cI, 16, .inl (fun _ => 0))), (q15, .inl (cI, 16, .inl (fun _ => 0)))] H := hP
  have hD : va_D A [(a0, .inr (6, [.int 0, .int 0, .int 0, .ref q7, .null, .null, .null, .null, .int 0, .null, .null, .null, .null, .null, .int 0, .null, .null, .null, .null, .int 0, .null, .int 0])), (q7, .inl (cI, 16, .inl (fun _ => 0))), (q15, .inl (cI, 16, .inl (fun _ => 0)))] := hD
  refine q_putF (ty0 := tyX6) (v := .ref q15) hx hb hown hE inT_X6 tyX6_ok nmX6 hP hD hS 0 rfl rfl 4 (by decide) w_762 rfl hin rfl rfl rfl (Nat.le_of_ble_eq_true rfl) dX6_init_17 (fun H locs hP hD hS => ?_)
  have hP : va_P D vwCl [(a0, .inr (6, [.int 0, .int 0, .int 0, .ref q7, .ref q15, .null, .null, .null, .int 0, .null, .null, .null, .null, .null, .int 0, .null, .null, .null, .null, .int 0, .null, .int 0])), (q7, .inl (cI, 16, .inl (fun _ => 0))), (q15, .inl (cI, 16, .inl (fun _ => 0)))] H := hP
  have hD : va_D A [(a0, .inr (6, [.int 0, .int 0, .int 0, .ref q7, .ref q15, .null, .null, .null, .int 0, .null, .null, .null, .null, .null, .int 0, .null, .null, .null, .null, .int 0, .null, .int 0])), (q7, .inl (cI, 16, .inl (fun _ => 0))), (q15, .inl (cI, 16, .inl (fun _ => 0)))] := hD
  refine lv_aload_n hx hb dX6_init_20 rfl (lv_at hl 0 rfl) ?_
  refine lv_bipush (v := 16) hx hb dX6_init_21 (by decide) ?_
  refine q_newa (N' := 16) hx hb hE hP hD hS hA (by decide) (by decide) (Nat.le_of_ble_eq_true rfl) (Nat.le_of_ble_eq_true rfl) (Nat.le_of_ble_eq_true rfl) dX6_init_23 (fun q23 H hP hD hS => ?_)
  have hP : va_P D vwCl [(a0, .inr (6, [.int 0, .int 0, .int 0, .ref q7, .ref q15, .null, .null, .null, .int 0, .null, .null, .null, .null, .null, .int 0, .null, .null, .null, .null, .int 0, .null, .int 0])), (q7, .inl (cI, 16, .inl (fun _ => 0))), (q15, .inl (cI, 16, .inl (fun _ => 0))), (q23, .inl (cI, 16, .inl (fun _ => 0)))] H := hP
  have hD : va_D A [(a0, .inr (6, [.int 0, .int 0, .int 0, .ref q7, .ref q15, .null, .null, .null, .int 0, .null, .null, .null, .null, .null, .int 0, .null, .null, .null, .null, .int 0, .null, .int 0])), (q7, .inl (cI, 16, .inl (fun _ => 0))), (q15, .inl (cI, 16, .inl (fun _ => 0))), (q23, .inl (cI, 16, .inl (fun _ => 0)))] := hD
  refine q_putF (ty0 := tyX6) (v := .ref q23) hx hb hown hE inT_X6 tyX6_ok nmX6 hP hD hS 0 rfl rfl 5 (by decide) w_763 rfl hin rfl rfl rfl (Nat.le_of_ble_eq_true rfl) dX6_init_25 (fun H locs hP hD hS => ?_)
  have hP : va_P D vwCl [(a0, .inr (6, [.int 0, .int 0, .int 0, .ref q7, .ref q15, .ref q23, .null, .null, .int 0, .null, .null, .null, .null, .null, .int 0, .null, .null, .null, .null, .int 0, .null, .int 0])), (q7, .inl (cI, 16, .inl (fun _ => 0))), (q15, .inl (cI, 16, .inl (fun _ => 0))), (q23, .inl (cI, 16, .inl (fun _ => 0)))] H := hP
  have hD : va_D A [(a0, .inr (6, [.int 0, .int 0, .int 0, .ref q7, .ref q15, .ref q23, .null, .null, .int 0, .null, .null, .null, .null, .null, .int 0, .null, .null, .null, .null, .int 0, .null, .int 0])), (q7, .inl (cI, 16, .inl (fun _ => 0))), (q15, .inl (cI, 16, .inl (fun _ => 0))), (q23, .inl (cI, 16, .inl (fun _ => 0)))] := hD
  refine lv_aload_n hx hb dX6_init_28 rfl (lv_at hl 0 rfl) ?_
  refine lv_bipush (v := 16) hx hb dX6_init_29 (by decide) ?_
  refine q_newa (N' := 16) hx hb hE hP hD hS hA (by decide) (by decide) (Nat.le_of_ble_eq_true rfl) (Nat.le_of_ble_eq_true rfl) (Nat.le_of_ble_eq_true rfl) dX6_init_31 (fun q31 H hP hD hS => ?_)
  have hP : va_P D vwCl [(a0, .inr (6, [.int 0, .int 0, .int 0, .ref q7, .ref q15, .ref q23, .null, .null, .int 0, .null, .null, .null, .null, .null, .int 0, .null, .null, .null, .null, .int 0, .null, .int 0])), (q7, .inl (cI, 16, .inl (fun _ => 0))), (q15, .inl (cI, 16, .inl (fun _ => 0))), (q23, .inl (cI, 16, .inl (fun _ => 0))), (q31, .inl (cI, 16, .inl (fun _ => 0)))] H := hP
  have hD : va_D A [(a0, .inr (6, [.int 0, .int 0, .int 0, .ref q7, .ref q15, .ref q23, .null, .null, .int 0, .null, .null, .null, .null, .null, .int 0, .null, .null, .null, .null, .int 0, .null, .int 0])), (q7, .inl (cI, 16, .inl (fun _ => 0))), (q15, .inl (cI, 16, .inl (fun _ => 0))), (q23, .inl (cI, 16, .inl (fun _ => 0))), (q31, .inl (cI, 16, .inl (fun _ => 0)))] := hD
  refine q_putF (ty0 := tyX6) (v := .ref q31) hx hb hown hE inT_X6 tyX6_ok nmX6 hP hD hS 0 rfl rfl 6 (by decide) w_764 rfl hin rfl rfl rfl (Nat.le_of_ble_eq_true rfl) dX6_init_33 (fun H locs hP hD hS => ?_)
  have hP : va_P D vwCl [(a0, .inr (6, [.int 0, .int 0, .int 0, .ref q7, .ref q15, .ref q23, .ref q31, .null, .int 0, .null, .null, .null, .null, .null, .int 0, .null, .null, .null, .null, .int 0, .null, .int 0])), (q7, .inl (cI, 16, .inl (fun _ => 0))), (q15, .inl (cI, 16, .inl (fun _ => 0))), (q23, .inl (cI, 16, .inl (fun _ => 0))), (q31, .inl (cI, 16, .inl (fun _ => 0)))] H := hP
  have hD : va_D A [(a0, .inr (6, [.int 0, .int 0, .int 0, .ref q7, .ref q15, .ref q23, .ref q31, .null, .int 0, .null, .null, .null, .null, .null, .int 0, .null, .null, .null, .null, .int 0, .null, .int 0])), (q7, .inl (cI, 16, .inl (fun _ => 0))), (q15, .inl (cI, 16, .inl (fun _ => 0))), (q23, .inl (cI, 16, .inl (fun _ => 0))), (q31, .inl (cI, 16, .inl (fun _ => 0)))] := hD
  refine lv_aload_n hx hb dX6_init_36 rfl (lv_at hl 0 rfl) ?_
  refine lv_bipush (v := 16) hx hb dX6_init_37 (by decide) ?_
  refine q_newa (N' := 16) hx hb hE hP hD hS hA (by decide) (by decide) (Nat.le_of_ble_eq_true rfl) (Nat.le_of_ble_eq_true rfl) (Nat.le_of_ble_eq_true rfl) dX6_init_39 (fun q39 H hP hD hS => ?_)
  have hP : va_P D vwCl [(a0, .inr (6, [.int 0, .int 0, .int 0, .ref q7, .ref q15, .ref q23, .ref q31, .null, .int 0, .null, .null, .null, .null, .null, .int 0, .null, .null, .null, .null, .int 0, .null, .int 0])), (q7, .inl (cI, 16, .inl (fun _ => 0))), (q15, .inl (cI, 16, .inl (fun _ => 0))), (q23, .inl (cI, 16, .inl (fun _ => 0))), (q31, .inl (cI, 16, .inl (fun _ => 0))), (q39, .inl (cI, 16, .inl (fun _ => 0)))] H := hP
  have hD : va_D A [(a0, .inr (6, [.int 0, .int 0, .int 0, .ref q7, .ref q15, .ref q23, .ref q31, .null, .int 0, .null, .null, .null, .null, .null, .int 0, .null, .null, .null, .null, .int 0, .null, .int 0])), (q7, .inl (cI, 16, .inl (fun _ => 0))), (q15, .inl (cI, 16, .inl (fun _ => 0))), (q23, .inl (cI, 16, .inl (fun _ => 0))), (q31, .inl (cI, 16, .inl (fun _ => 0))), (q39, .inl (cI, 16, .inl (fun _ => 0)))] := hD
  refine q_putF (ty0 := tyX6) (v := .ref q39) hx hb hown hE inT_X6 tyX6_ok nmX6 hP hD hS 0 rfl rfl 7 (by decide) w_765 rfl hin rfl rfl rfl (Nat.le_of_ble_eq_true rfl) dX6_init_41 (fun H locs hP hD hS => ?_)
  have hP : va_P D vwCl [(a0, .inr (6, [.int 0, .int 0, .int 0, .ref q7, .ref q15, .ref q23, .ref q31, .ref q39, .int 0, .null, .null, .null, .null, .null, .int 0, .null, .null, .null, .null, .int 0, .null, .int 0])), (q7, .inl (cI, 16, .inl (fun _ => 0))), (q15, .inl (cI, 16, .inl (fun _ => 0))), (q23, .inl (cI, 16, .inl (fun _ => 0))), (q31, .inl (cI, 16, .inl (fun _ => 0))), (q39, .inl (cI, 16, .inl (fun _ => 0)))] H := hP
  have hD : va_D A [(a0, .inr (6, [.int 0, .int 0, .int 0, .ref q7, .ref q15, .ref q23, .ref q31, .ref q39, .int 0, .null, .null, .null, .null, .null, .int 0, .null, .null, .null, .null, .int 0, .null, .int 0])), (q7, .inl (cI, 16, .inl (fun _ => 0))), (q15, .inl (cI, 16, .inl (fun _ => 0))), (q23, .inl (cI, 16, .inl (fun _ => 0))), (q31, .inl (cI, 16, .inl (fun _ => 0))), (q39, .inl (cI, 16, .inl (fun _ => 0)))] := hD
  refine lv_aload_n hx hb dX6_init_44 rfl (lv_at hl 0 rfl) ?_
  refine lv_sipush (v := 128) hx hb dX6_init_45 (by decide) ?_
  refine q_newa (N' := 128) hx hb hE hP hD hS hA (by decide) (by decide) (Nat.le_of_ble_eq_true rfl) (Nat.le_of_ble_eq_true rfl) (Nat.le_of_ble_eq_true rfl) dX6_init_48 (fun q48 H hP hD hS => ?_)
  have hP : va_P D vwCl [(a0, .inr (6, [.int 0, .int 0, .int 0, .ref q7, .ref q15, .ref q23, .ref q31, .ref q39, .int 0, .null, .null, .null, .null, .null, .int 0, .null, .null, .null, .null, .int 0, .null, .int 0])), (q7, .inl (cI, 16, .inl (fun _ => 0))), (q15, .inl (cI, 16, .inl (fun _ => 0))), (q23, .inl (cI, 16, .inl (fun _ => 0))), (q31, .inl (cI, 16, .inl (fun _ => 0))), (q39, .inl (cI, 16, .inl (fun _ => 0))), (q48, .inl (cI, 128, .inl (fun _ => 0)))] H := hP
  have hD : va_D A [(a0, .inr (6, [.int 0, .int 0, .int 0, .ref q7, .ref q15, .ref q23, .ref q31, .ref q39, .int 0, .null, .null, .null, .null, .null, .int 0, .null, .null, .null, .null, .int 0, .null, .int 0])), (q7, .inl (cI, 16, .inl (fun _ => 0))), (q15, .inl (cI, 16, .inl (fun _ => 0))), (q23, .inl (cI, 16, .inl (fun _ => 0))), (q31, .inl (cI, 16, .inl (fun _ => 0))), (q39, .inl (cI, 16, .inl (fun _ => 0))), (q48, .inl (cI, 128, .inl (fun _ => 0)))] := hD
  refine q_putF (ty0 := tyX6) (v := .ref q48) hx hb hown hE inT_X6 tyX6_ok nmX6 hP hD hS 0 rfl rfl 9 (by decide) w_767 rfl hin rfl rfl rfl (Nat.le_of_ble_eq_true rfl) dX6_init_50 (fun H locs hP hD hS => ?_)
  have hP : va_P D vwCl [(a0, .inr (6, [.int 0, .int 0, .int 0, .ref q7, .ref q15, .ref q23, .ref q31, .ref q39, .int 0, .ref q48, .null, .null, .null, .null, .int 0, .null, .null, .null, .null, .int 0, .null, .int 0])), (q7, .inl (cI, 16, .inl (fun _ => 0))), (q15, .inl (cI, 16, .inl (fun _ => 0))), (q23, .inl (cI, 16, .inl (fun _ => 0))), (q31, .inl (cI, 16, .inl (fun _ => 0))), (q39, .inl (cI, 16, .inl (fun _ => 0))), (q48, .inl (cI, 128, .inl (fun _ => 0)))] H := hP
  have hD : va_D A [(a0, .inr (6, [.int 0, .int 0, .int 0, .ref q7, .ref q15, .ref q23, .ref q31, .ref q39, .int 0, .ref q48, .null, .null, .null, .null, .int 0, .null, .null, .null, .null, .int 0, .null, .int 0])), (q7, .inl (cI, 16, .inl (fun _ => 0))), (q15, .inl (cI, 16, .inl (fun _ => 0))), (q23, .inl (cI, 16, .inl (fun _ => 0))), (q31, .inl (cI, 16, .inl (fun _ => 0))), (q39, .inl (cI, 16, .inl (fun _ => 0))), (q48, .inl (cI, 128, .inl (fun _ => 0)))] := hD
  refine lv_aload_n hx hb dX6_init_53 rfl (lv_at hl 0 rfl) ?_
  refine lv_sipush (v := 128) hx hb dX6_init_54 (by decide) ?_
  refine q_newz (N' := 128) hx hb hE hP hD hS hA (by decide) (by decide) (Nat.le_of_ble_eq_true rfl) (Nat.le_of_ble_eq_true rfl) (Nat.le_of_ble_eq_true rfl) dX6_init_57 (fun q57 H hP hD hS => ?_)
  have hP : va_P D vwCl [(a0, .inr (6, [.int 0, .int 0, .int 0, .ref q7, .ref q15, .ref q23, .ref q31, .ref q39, .int 0, .ref q48, .null, .null, .null, .null, .int 0, .null, .null, .null, .null, .int 0, .null, .int 0])), (q7, .inl (cI, 16, .inl (fun _ => 0))), (q15, .inl (cI, 16, .inl (fun _ => 0))), (q23, .inl (cI, 16, .inl (fun _ => 0))), (q31, .inl (cI, 16, .inl (fun _ => 0))), (q39, .inl (cI, 16, .inl (fun _ => 0))), (q48, .inl (cI, 128, .inl (fun _ => 0))), (q57, .inl (cZ, 128, .inl (fun _ => 0)))] H := hP
  have hD : va_D A [(a0, .inr (6, [.int 0, .int 0, .int 0, .ref q7, .ref q15, .ref q23, .ref q31, .ref q39, .int 0, .ref q48, .null, .null, .null, .null, .int 0, .null, .null, .null, .null, .int 0, .null, .int 0])), (q7, .inl (cI, 16, .inl (fun _ => 0))), (q15, .inl (cI, 16, .inl (fun _ => 0))), (q23, .inl (cI, 16, .inl (fun _ => 0))), (q31, .inl (cI, 16, .inl (fun _ => 0))), (q39, .inl (cI, 16, .inl (fun _ => 0))), (q48, .inl (cI, 128, .inl (fun _ => 0))), (q57, .inl (cZ, 128, .inl (fun _ => 0)))] := hD
  refine q_putF (ty0 := tyX6) (v := .ref q57) hx hb hown hE inT_X6 tyX6_ok nmX6 hP hD hS 0 rfl rfl 10 (by decide) w_768 rfl hin rfl rfl rfl (Nat.le_of_ble_eq_true rfl) dX6_init_59 (fun H locs hP hD hS => ?_)
  have hP : va_P D vwCl [(a0, .inr (6, [.int 0, .int 0, .int 0, .ref q7, .ref q15, .ref q23, .ref q31, .ref q39, .int 0, .ref q48, .ref q57, .null, .null, .null, .int 0, .null, .null, .null, .null, .int 0, .null, .int 0])), (q7, .inl (cI, 16, .inl (fun _ => 0))), (q15, .inl (cI, 16, .inl (fun _ => 0))), (q23, .inl (cI, 16, .inl (fun _ => 0))), (q31, .inl (cI, 16, .inl (fun _ => 0))), (q39, .inl (cI, 16, .inl (fun _ => 0))), (q48, .inl (cI, 128, .inl (fun _ => 0))), (q57, .inl (cZ, 128, .inl (fun _ => 0)))] H := hP
  have hD : va_D A [(a0, .inr (6, [.int 0, .int 0, .int 0, .ref q7, .ref q15, .ref q23, .ref q31, .ref q39, .int 0, .ref q48, .ref q57, .null, .null, .null, .int 0, .null, .null, .null, .null, .int 0, .null, .int 0])), (q7, .inl (cI, 16, .inl (fun _ => 0))), (q15, .inl (cI, 16, .inl (fun _ => 0))), (q23, .inl (cI, 16, .inl (fun _ => 0))), (q31, .inl (cI, 16, .inl (fun _ => 0))), (q39, .inl (cI, 16, .inl (fun _ => 0))), (q48, .inl (cI, 128, .inl (fun _ => 0))), (q57, .inl (cZ, 128, .inl (fun _ => 0)))] := hD
  refine lv_aload_n hx hb dX6_init_62 rfl (lv_at hl 0 rfl) ?_
  refine lv_sipush (v := 128) hx hb dX6_init_63 (by decide) ?_
  refine q_newz (N' := 128) hx hb hE hP hD hS hA (by decide) (by decide) (Nat.le_of_ble_eq_true rfl) (Nat.le_of_ble_eq_true rfl) (Nat.le_of_ble_eq_true rfl) dX6_init_66 (fun q66 H hP hD hS => ?_)
  have hP : va_P D vwCl [(a0, .inr (6, [.int 0, .int 0, .int 0, .ref q7, .ref q15, .ref q23, .ref q31, .ref q39, .int 0, .ref q48, .ref q57, .null, .null, .null, .int 0, .null, .null, .null, .null, .int 0, .null, .int 0])), (q7, .inl (cI, 16, .inl (fun _ => 0))), (q15, .inl (cI, 16, .inl (fun _ => 0))), (q23, .inl (cI, 16, .inl (fun _ => 0))), (q31, .inl (cI, 16, .inl (fun _ => 0))), (q39, .inl (cI, 16, .inl (fun _ => 0))), (q48, .inl (cI, 128, .inl (fun _ => 0))), (q57, .inl (cZ, 128, .inl (fun _ => 0))), (q66, .inl (cZ, 128, .inl (fun _ => 0)))] H := hP
  have hD : va_D A [(a0, .inr (6, [.int 0, .int 0, .int 0, .ref q7, .ref q15, .ref q23, .ref q31, .ref q39, .int 0, .ref q48, .ref q57, .null, .null, .null, .int 0, .null, .null, .null, .null, .int 0, .null, .int 0])), (q7, .inl (cI, 16, .inl (fun _ => 0))), (q15, .inl (cI, 16, .inl (fun _ => 0))), (q23, .inl (cI, 16, .inl (fun _ => 0))), (q31, .inl (cI, 16, .inl (fun _ => 0))), (q39, .inl (cI, 16, .inl (fun _ => 0))), (q48, .inl (cI, 128, .inl (fun _ => 0))), (q57, .inl (cZ, 128, .inl (fun _ => 0))), (q66, .inl (cZ, 128, .inl (fun _ => 0)))] := hD
  refine q_putF (ty0 := tyX6) (v := .ref q66) hx hb hown hE inT_X6 tyX6_ok nmX6 hP hD hS 0 rfl rfl 11 (by decide) w_769 rfl hin rfl rfl rfl (Nat.le_of_ble_eq_true rfl) dX6_init_68 (fun H locs hP hD hS => ?_)
  have hP : va_P D vwCl [(a0, .inr (6, [.int 0, .int 0, .int 0, .ref q7, .ref q15, .ref q23, .ref q31, .ref q39, .int 0, .ref q48, .ref q57, .ref q66, .null, .null, .int 0, .null, .null, .null, .null, .int 0, .null, .int 0])), (q7, .inl (cI, 16, .inl (fun _ => 0))), (q15, .inl (cI, 16, .inl (fun _ => 0))), (q23, .inl (cI, 16, .inl (fun _ => 0))), (q31, .inl (cI, 16, .inl (fun _ => 0))), (q39, .inl (cI, 16, .inl (fun _ => 0))), (q48, .inl (cI, 128, .inl (fun _ => 0))), (q57, .inl (cZ, 128, .inl (fun _ => 0))), (q66, .inl (cZ, 128, .inl (fun _ => 0)))] H := hP
  have hD : va_D A [(a0, .inr (6, [.int 0, .int 0, .int 0, .ref q7, .ref q15, .ref q23, .ref q31, .ref q39, .int 0, .ref q48, .ref q57, .ref q66, .null, .null, .int 0, .null, .null, .null, .null, .int 0, .null, .int 0])), (q7, .inl (cI, 16, .inl (fun _ => 0))), (q15, .inl (cI, 16, .inl (fun _ => 0))), (q23, .inl (cI, 16, .inl (fun _ => 0))), (q31, .inl (cI, 16, .inl (fun _ => 0))), (q39, .inl (cI, 16, .inl (fun _ => 0))), (q48, .inl (cI, 128, .inl (fun _ => 0))), (q57, .inl (cZ, 128, .inl (fun _ => 0))), (q66, .inl (cZ, 128, .inl (fun _ => 0)))] := hD
  refine lv_aload_n hx hb dX6_init_71 rfl (lv_at hl 0 rfl) ?_
  refine lv_sipush (v := 128) hx hb dX6_init_72 (by decide) ?_
  refine q_newa (N' := 128) hx hb hE hP hD hS hA (by decide) (by decide) (Nat.le_of_ble_eq_true rfl) (Nat.le_of_ble_eq_true rfl) (Nat.le_of_ble_eq_true rfl) dX6_init_75 (fun q75 H hP hD hS => ?_)
  have hP : va_P D vwCl [(a0, .inr (6, [.int 0, .int 0, .int 0, .ref q7, .ref q15, .ref q23, .ref q31, .ref q39, .int 0, .ref q48, .ref q57, .ref q66, .null, .null, .int 0, .null, .null, .null, .null, .int 0, .null, .int 0])), (q7, .inl (cI, 16, .inl (fun _ => 0))), (q15, .inl (cI, 16, .inl (fun _ => 0))), (q23, .inl (cI, 16, .inl (fun _ => 0))), (q31, .inl (cI, 16, .inl (fun _ => 0))), (q39, .inl (cI, 16, .inl (fun _ => 0))), (q48, .inl (cI, 128, .inl (fun _ => 0))), (q57, .inl (cZ, 128, .inl (fun _ => 0))), (q66, .inl (cZ, 128, .inl (fun _ => 0))), (q75, .inl (cI, 128, .inl (fun _ => 0)))] H := hP
  have hD : va_D A [(a0, .inr (6, [.int 0, .int 0, .int 0, .ref q7, .ref q15, .ref q23, .ref q31, .ref q39, .int 0, .ref q48, .ref q57, .ref q66, .null, .null, .int 0, .null, .null, .null, .null, .int 0, .null, .int 0])), (q7, .inl (cI, 16, .inl (fun _ => 0))), (q15, .inl (cI, 16, .inl (fun _ => 0))), (q23, .inl (cI, 16, .inl (fun _ => 0))), (q31, .inl (cI, 16, .inl (fun _ => 0))), (q39, .inl (cI, 16, .inl (fun _ => 0))), (q48, .inl (cI, 128, .inl (fun _ => 0))), (q57, .inl (cZ, 128, .inl (fun _ => 0))), (q66, .inl (cZ, 128, .inl (fun _ => 0))), (q75, .inl (cI, 128, .inl (fun _ => 0)))] := hD
  refine q_putF (ty0 := tyX6) (v := .ref q75) hx hb hown hE inT_X6 tyX6_ok nmX6 hP hD hS 0 rfl rfl 12 (by decide) w_770 rfl hin rfl rfl rfl (Nat.le_of_ble_eq_true rfl) dX6_init_77 (fun H locs hP hD hS => ?_)
  have hP : va_P D vwCl [(a0, .inr (6, [.int 0, .int 0, .int 0, .ref q7, .ref q15, .ref q23, .ref q31, .ref q39, .int 0, .ref q48, .ref q57, .ref q66, .ref q75, .null, .int 0, .null, .null, .null, .null, .int 0, .null, .int 0])), (q7, .inl (cI, 16, .inl (fun _ => 0))), (q15, .inl (cI, 16, .inl (fun _ => 0))), (q23, .inl (cI, 16, .inl (fun _ => 0))), (q31, .inl (cI, 16, .inl (fun _ => 0))), (q39, .inl (cI, 16, .inl (fun _ => 0))), (q48, .inl (cI, 128, .inl (fun _ => 0))), (q57, .inl (cZ, 128, .inl (fun _ => 0))), (q66, .inl (cZ, 128, .inl (fun _ => 0))), (q75, .inl (cI, 128, .inl (fun _ => 0)))] H := hP
  have hD : va_D A [(a0, .inr (6, [.int 0, .int 0, .int 0, .ref q7, .ref q15, .ref q23, .ref q31, .ref q39, .int 0, .ref q48, .ref q57, .ref q66, .ref q75, .null, .int 0, .null, .null, .null, .null, .int 0, .null, .int 0])), (q7, .inl (cI, 16, .inl (fun _ => 0))), (q15, .inl (cI, 16, .inl (fun _ => 0))), (q23, .inl (cI, 16, .inl (fun _ => 0))), (q31, .inl (cI, 16, .inl (fun _ => 0))), (q39, .inl (cI, 16, .inl (fun _ => 0))), (q48, .inl (cI, 128, .inl (fun _ => 0))), (q57, .inl (cZ, 128, .inl (fun _ => 0))), (q66, .inl (cZ, 128, .inl (fun _ => 0))), (q75, .inl (cI, 128, .inl (fun _ => 0)))] := hD
  refine lv_aload_n hx hb dX6_init_80 rfl (lv_at hl 0 rfl) ?_
  refine lv_sipush (v := 128) hx hb dX6_init_81 (by decide) ?_
  refine q_newa (N' := 128) hx hb hE hP hD hS hA (by decide) (by decide) (Nat.le_of_ble_eq_true rfl) (Nat.le_of_ble_eq_true rfl) (Nat.le_of_ble_eq_true rfl) dX6_init_84 (fun q84 H hP hD hS => ?_)
  have hP : va_P D vwCl [(a0, .inr (6, [.int 0, .int 0, .int 0, .ref q7, .ref q15, .ref q23, .ref q31, .ref q39, .int 0, .ref q48, .ref q57, .ref q66, .ref q75, .null, .int 0, .null, .null, .null, .null, .int 0, .null, .int 0])), (q7, .inl (cI, 16, .inl (fun _ => 0))), (q15, .inl (cI, 16, .inl (fun _ => 0))), (q23, .inl (cI, 16, .inl (fun _ => 0))), (q31, .inl (cI, 16, .inl (fun _ => 0))), (q39, .inl (cI, 16, .inl (fun _ => 0))), (q48, .inl (cI, 128, .inl (fun _ => 0))), (q57, .inl (cZ, 128, .inl (fun _ => 0))), (q66, .inl (cZ, 128, .inl (fun _ => 0))), (q75, .inl (cI, 128, .inl (fun _ => 0))), (q84, .inl (cI, 128, .inl (fun _ => 0)))] H := hP
  have hD : va_D A [(a0, .inr (6, [.int 0, .int 0, .int 0, .ref q7, .ref q15, .ref q23, .ref q31, .ref q39, .int 0, .ref q48, .ref q57, .ref q66, .ref q75, .null, .int 0, .null, .null, .null, .null, .int 0, .null, .int 0])), (q7, .inl (cI, 16, .inl (fun _ => 0))), (q15, .inl (cI, 16, .inl (fun _ => 0))), (q23, .inl (cI, 16, .inl (fun _ => 0))), (q31, .inl (cI, 16, .inl (fun _ => 0))), (q39, .inl (cI, 16, .inl (fun _ => 0))), (q48, .inl (cI, 128, .inl (fun _ => 0))), (q57, .inl (cZ, 128, .inl (fun _ => 0))), (q66, .inl (cZ, 128, .inl (fun _ => 0))), (q75, .inl (cI, 128, .inl (fun _ => 0))), (q84, .inl (cI, 128, .inl (fun _ => 0)))] := hD
  refine q_putF (ty0 := tyX6) (v := .ref q84) hx hb hown hE inT_X6 tyX6_ok nmX6 hP hD hS 0 rfl rfl 13 (by decide) w_771 rfl hin rfl rfl rfl (Nat.le_of_ble_eq_true rfl) dX6_init_86 (fun H locs hP hD hS => ?_)
  have hP : va_P D vwCl [(a0, .inr (6, [.int 0, .int 0, .int 0, .ref q7, .ref q15, .ref q23, .ref q31, .ref q39, .int 0, .ref q48, .ref q57, .ref q66, .ref q75, .ref q84, .int 0, .null, .null, .null, .null, .int 0, .null, .int 0])), (q7, .inl (cI, 16, .inl (fun _ => 0))), (q15, .inl (cI, 16, .inl (fun _ => 0))), (q23, .inl (cI, 16, .inl (fun _ => 0))), (q31, .inl (cI, 16, .inl (fun _ => 0))), (q39, .inl (cI, 16, .inl (fun _ => 0))), (q48, .inl (cI, 128, .inl (fun _ => 0))), (q57, .inl (cZ, 128, .inl (fun _ => 0))), (q66, .inl (cZ, 128, .inl (fun _ => 0))), (q75, .inl (cI, 128, .inl (fun _ => 0))), (q84, .inl (cI, 128, .inl (fun _ => 0)))] H := hP
  have hD : va_D A [(a0, .inr (6, [.int 0, .int 0, .int 0, .ref q7, .ref q15, .ref q23, .ref q31, .ref q39, .int 0, .ref q48, .ref q57, .ref q66, .ref q75, .ref q84, .int 0, .null, .null, .null, .null, .int 0, .null, .int 0])), (q7, .inl (cI, 16, .inl (fun _ => 0))), (q15, .inl (cI, 16, .inl (fun _ => 0))), (q23, .inl (cI, 16, .inl (fun _ => 0))), (q31, .inl (cI, 16, .inl (fun _ => 0))), (q39, .inl (cI, 16, .inl (fun _ => 0))), (q48, .inl (cI, 128, .inl (fun _ => 0))), (q57, .inl (cZ, 128, .inl (fun _ => 0))), (q66, .inl (cZ, 128, .inl (fun _ => 0))), (q75, .inl (cI, 128, .inl (fun _ => 0))), (q84, .inl (cI, 128, .inl (fun _ => 0)))] := hD
  refine lv_aload_n hx hb dX6_init_89 rfl (lv_at hl 0 rfl) ?_
  refine lv_sipush (v := 200) hx hb dX6_init_90 (by decide) ?_
  refine q_newa (N' := 200) hx hb hE hP hD hS hA (by decide) (by decide) (Nat.le_of_ble_eq_true rfl) (Nat.le_of_ble_eq_true rfl) (Nat.le_of_ble_eq_true rfl) dX6_init_93 (fun q93 H hP hD hS => ?_)
  have hP : va_P D vwCl [(a0, .inr (6, [.int 0, .int 0, .int 0, .ref q7, .ref q15, .ref q23, .ref q31, .ref q39, .int 0, .ref q48, .ref q57, .ref q66, .ref q75, .ref q84, .int 0, .null, .null, .null, .null, .int 0, .null, .int 0])), (q7, .inl (cI, 16, .inl (fun _ => 0))), (q15, .inl (cI, 16, .inl (fun _ => 0))), (q23, .inl (cI, 16, .inl (fun _ => 0))), (q31, .inl (cI, 16, .inl (fun _ => 0))), (q39, .inl (cI, 16, .inl (fun _ => 0))), (q48, .inl (cI, 128, .inl (fun _ => 0))), (q57, .inl (cZ, 128, .inl (fun _ => 0))), (q66, .inl (cZ, 128, .inl (fun _ => 0))), (q75, .inl (cI, 128, .inl (fun _ => 0))), (q84, .inl (cI, 128, .inl (fun _ => 0))), (q93, .inl (cI, 200, .inl (fun _ => 0)))] H := hP
  have hD : va_D A [(a0, .inr (6, [.int 0, .int 0, .int 0, .ref q7, .ref q15, .ref q23, .ref q31, .ref q39, .int 0, .ref q48, .ref q57, .ref q66, .ref q75, .ref q84, .int 0, .null, .null, .null, .null, .int 0, .null, .int 0])), (q7, .inl (cI, 16, .inl (fun _ => 0))), (q15, .inl (cI, 16, .inl (fun _ => 0))), (q23, .inl (cI, 16, .inl (fun _ => 0))), (q31, .inl (cI, 16, .inl (fun _ => 0))), (q39, .inl (cI, 16, .inl (fun _ => 0))), (q48, .inl (cI, 128, .inl (fun _ => 0))), (q57, .inl (cZ, 128, .inl (fun _ => 0))), (q66, .inl (cZ, 128, .inl (fun _ => 0))), (q75, .inl (cI, 128, .inl (fun _ => 0))), (q84, .inl (cI, 128, .inl (fun _ => 0))), (q93, .inl (cI, 200, .inl (fun _ => 0)))] := hD
  refine q_putF (ty0 := tyX6) (v := .ref q93) hx hb hown hE inT_X6 tyX6_ok nmX6 hP hD hS 0 rfl rfl 15 (by decide) w_773 rfl hin rfl rfl rfl (Nat.le_of_ble_eq_true rfl) dX6_init_95 (fun H locs hP hD hS => ?_)
  have hP : va_P D vwCl [(a0, .inr (6, [.int 0, .int 0, .int 0, .ref q7, .ref q15, .ref q23, .ref q31, .ref q39, .int 0, .ref q48, .ref q57, .ref q66, .ref q75, .ref q84, .int 0, .ref q93, .null, .null, .null, .int 0, .null, .int 0])), (q7, .inl (cI, 16, .inl (fun _ => 0))), (q15, .inl (cI, 16, .inl (fun _ => 0))), (q23, .inl (cI, 16, .inl (fun _ => 0))), (q31, .inl (cI, 16, .inl (fun _ => 0))), (q39, .inl (cI, 16, .inl (fun _ => 0))), (q48, .inl (cI, 128, .inl (fun _ => 0))), (q57, .inl (cZ, 128, .inl (fun _ => 0))), (q66, .inl (cZ, 128, .inl (fun _ => 0))), (q75, .inl (cI, 128, .inl (fun _ => 0))), (q84, .inl (cI, 128, .inl (fun _ => 0))), (q93, .inl (cI, 200, .inl (fun _ => 0)))] H := hP
  have hD : va_D A [(a0, .inr (6, [.int 0, .int 0, .int 0, .ref q7, .ref q15, .ref q23, .ref q31, .ref q39, .int 0, .ref q48, .ref q57, .ref q66, .ref q75, .ref q84, .int 0, .ref q93, .null, .null, .null, .int 0, .null, .int 0])), (q7, .inl (cI, 16, .inl (fun _ => 0))), (q15, .inl (cI, 16, .inl (fun _ => 0))), (q23, .inl (cI, 16, .inl (fun _ => 0))), (q31, .inl (cI, 16, .inl (fun _ => 0))), (q39, .inl (cI, 16, .inl (fun _ => 0))), (q48, .inl (cI, 128, .inl (fun _ => 0))), (q57, .inl (cZ, 128, .inl (fun _ => 0))), (q66, .inl (cZ, 128, .inl (fun _ => 0))), (q75, .inl (cI, 128, .inl (fun _ => 0))), (q84, .inl (cI, 128, .inl (fun _ => 0))), (q93, .inl (cI, 200, .inl (fun _ => 0)))] := hD
  refine lv_aload_n hx hb dX6_init_98 rfl (lv_at hl 0 rfl) ?_
  refine lv_sipush (v := 200) hx hb dX6_init_99 (by decide) ?_
  refine q_newa (N' := 200) hx hb hE hP hD hS hA (by decide) (by decide) (Nat.le_of_ble_eq_true rfl) (Nat.le_of_ble_eq_true rfl) (Nat.le_of_ble_eq_true rfl) dX6_init_102 (fun q102 H hP hD hS => ?_)
  have hP : va_P D vwCl [(a0, .inr (6, [.int 0, .int 0, .int 0, .ref q7, .ref q15, .ref q23, .ref q31, .ref q39, .int 0, .ref q48, .ref q57, .ref q66, .ref q75, .ref q84, .int 0, .ref q93, .null, .null, .null, .int 0, .null, .int 0])), (q7, .inl (cI, 16, .inl (fun _ => 0))), (q15, .inl (cI, 16, .inl (fun _ => 0))), (q23, .inl (cI, 16, .inl (fun _ => 0))), (q31, .inl (cI, 16, .inl (fun _ => 0))), (q39, .inl (cI, 16, .inl (fun _ => 0))), (q48, .inl (cI, 128, .inl (fun _ => 0))), (q57, .inl (cZ, 128, .inl (fun _ => 0))), (q66, .inl (cZ, 128, .inl (fun _ => 0))), (q75, .inl (cI, 128, .inl (fun _ => 0))), (q84, .inl (cI, 128, .inl (fun _ => 0))), (q93, .inl (cI, 200, .inl (fun _ => 0))), (q102, .inl (cI, 200, .inl (fun _ => 0)))] H := hP
  have hD : va_D A [(a0, .inr (6, [.int 0, .int 0, .int 0, .ref q7, .ref q15, .ref q23, .ref q31, .ref q39, .int 0, .ref q48, .ref q57, .ref q66, .ref q75, .ref q84, .int 0, .ref q93, .null, .null, .null, .int 0, .null, .int 0])), (q7, .inl (cI, 16, .inl (fun _ => 0))), (q15, .inl (cI, 16, .inl (fun _ => 0))), (q23, .inl (cI, 16, .inl (fun _ => 0))), (q31, .inl (cI, 16, .inl (fun _ => 0))), (q39, .inl (cI, 16, .inl (fun _ => 0))), (q48, .inl (cI, 128, .inl (fun _ => 0))), (q57, .inl (cZ, 128, .inl (fun _ => 0))), (q66, .inl (cZ, 128, .inl (fun _ => 0))), (q75, .inl (cI, 128, .inl (fun _ => 0))), (q84, .inl (cI, 128, .inl (fun _ => 0))), (q93, .inl (cI, 200, .inl (fun _ => 0))), (q102, .inl (cI, 200, .inl (fun _ => 0)))] := hD
  refine q_putF (ty0 := tyX6) (v := .ref q102) hx hb hown hE inT_X6 tyX6_ok nmX6 hP hD hS 0 rfl rfl 16 (by decide) w_774 rfl hin rfl rfl rfl (Nat.le_of_ble_eq_true rfl) dX6_init_104 (fun H locs hP hD hS => ?_)
  have hP : va_P D vwCl [(a0, .inr (6, [.int 0, .int 0, .int 0, .ref q7, .ref q15, .ref q23, .ref q31, .ref q39, .int 0, .ref q48, .ref q57, .ref q66, .ref q75, .ref q84, .int 0, .ref q93, .ref q102, .null, .null, .int 0, .null, .int 0])), (q7, .inl (cI, 16, .inl (fun _ => 0))), (q15, .inl (cI, 16, .inl (fun _ => 0))), (q23, .inl (cI, 16, .inl (fun _ => 0))), (q31, .inl (cI, 16, .inl (fun _ => 0))), (q39, .inl (cI, 16, .inl (fun _ => 0))), (q48, .inl (cI, 128, .inl (fun _ => 0))), (q57, .inl (cZ, 128, .inl (fun _ => 0))), (q66, .inl (cZ, 128, .inl (fun _ => 0))), (q75, .inl (cI, 128, .inl (fun _ => 0))), (q84, .inl (cI, 128, .inl (fun _ => 0))), (q93, .inl (cI, 200, .inl (fun _ => 0))), (q102, .inl (cI, 200, .inl (fun _ => 0)))] H := hP
  have hD : va_D A [(a0, .inr (6, [.int 0, .int 0, .int 0, .ref q7, .ref q15, .ref q23, .ref q31, .ref q39, .int 0, .ref q48, .ref q57, .ref q66, .ref q75, .ref q84, .int 0, .ref q93, .ref q102, .null, .null, .int 0, .null, .int 0])), (q7, .inl (cI, 16, .inl (fun _ => 0))), (q15, .inl (cI, 16, .inl (fun _ => 0))), (q23, .inl (cI, 16, .inl (fun _ => 0))), (q31, .inl (cI, 16, .inl (fun _ => 0))), (q39, .inl (cI, 16, .inl (fun _ => 0))), (q48, .inl (cI, 128, .inl (fun _ => 0))), (q57, .inl (cZ, 128, .inl (fun _ => 0))), (q66, .inl (cZ, 128, .inl (fun _ => 0))), (q75, .inl (cI, 128, .inl (fun _ => 0))), (q84, .inl (cI, 128, .inl (fun _ => 0))), (q93, .inl (cI, 200, .inl (fun _ => 0))), (q102, .inl (cI, 200, .inl (fun _ => 0)))] := hD
  refine lv_aload_n hx hb dX6_init_107 rfl (lv_at hl 0 rfl) ?_
  refine lv_sipush (v := 200) hx hb dX6_init_108 (by decide) ?_
  refine q_newa (N' := 200) hx hb hE hP hD hS hA (by decide) (by decide) (Nat.le_of_ble_eq_true rfl) (Nat.le_of_ble_eq_true rfl) (Nat.le_of_ble_eq_true rfl) dX6_init_111 (fun q111 H hP hD hS => ?_)
  have hP : va_P D vwCl [(a0, .inr (6, [.int 0, .int 0, .int 0, .ref q7, .ref q15, .ref q23, .ref q31, .ref q39, .int 0, .ref q48, .ref q57, .ref q66, .ref q75, .ref q84, .int 0, .ref q93, .ref q102, .null, .null, .int 0, .null, .int 0])), (q7, .inl (cI, 16, .inl (fun _ => 0))), (q15, .inl (cI, 16, .inl (fun _ => 0))), (q23, .inl (cI, 16, .inl (fun _ => 0))), (q31, .inl (cI, 16, .inl (fun _ => 0))), (q39, .inl (cI, 16, .inl (fun _ => 0))), (q48, .inl (cI, 128, .inl (fun _ => 0))), (q57, .inl (cZ, 128, .inl (fun _ => 0))), (q66, .inl (cZ, 128, .inl (fun _ => 0))), (q75, .inl (cI, 128, .inl (fun _ => 0))), (q84, .inl (cI, 128, .inl (fun _ => 0))), (q93, .inl (cI, 200, .inl (fun _ => 0))), (q102, .inl (cI, 200, .inl (fun _ => 0))), (q111, .inl (cI, 200, .inl (fun _ => 0)))] H := hP
  have hD : va_D A [(a0, .inr (6, [.int 0, .int 0, .int 0, .ref q7, .ref q15, .ref q23, .ref q31, .ref q39, .int 0, .ref q48, .ref q57, .ref q66, .ref q75, .ref q84, .int 0, .ref q93, .ref q102, .null, .null, .int 0, .null, .int 0])), (q7, .inl (cI, 16, .inl (fun _ => 0))), (q15, .inl (cI, 16, .inl (fun _ => 0))), (q23, .inl (cI, 16, .inl (fun _ => 0))), (q31, .inl (cI, 16, .inl (fun _ => 0))), (q39, .inl (cI, 16, .inl (fun _ => 0))), (q48, .inl (cI, 128, .inl (fun _ => 0))), (q57, .inl (cZ, 128, .inl (fun _ => 0))), (q66, .inl (cZ, 128, .inl (fun _ => 0))), (q75, .inl (cI, 128, .inl (fun _ => 0))), (q84, .inl (cI, 128, .inl (fun _ => 0))), (q93, .inl (cI, 200, .inl (fun _ => 0))), (q102, .inl (cI, 200, .inl (fun _ => 0))), (q111, .inl (cI, 200, .inl (fun _ => 0)))] := hD
  refine q_putF (ty0 := tyX6) (v := .ref q111) hx hb hown hE inT_X6 tyX6_ok nmX6 hP hD hS 0 rfl rfl 17 (by decide) w_775 rfl hin rfl rfl rfl (Nat.le_of_ble_eq_true rfl) dX6_init_113 (fun H locs hP hD hS => ?_)
  have hP : va_P D vwCl [(a0, .inr (6, [.int 0, .int 0, .int 0, .ref q7, .ref q15, .ref q23, .ref q31, .ref q39, .int 0, .ref q48, .ref q57, .ref q66, .ref q75, .ref q84, .int 0, .ref q93, .ref q102, .ref q111, .null, .int 0, .null, .int 0])), (q7, .inl (cI, 16, .inl (fun _ => 0))), (q15, .inl (cI, 16, .inl (fun _ => 0))), (q23, .inl (cI, 16, .inl (fun _ => 0))), (q31, .inl (cI, 16, .inl (fun _ => 0))), (q39, .inl (cI, 16, .inl (fun _ => 0))), (q48, .inl (cI, 128, .inl (fun _ => 0))), (q57, .inl (cZ, 128, .inl (fun _ => 0))), (q66, .inl (cZ, 128, .inl (fun _ => 0))), (q75, .inl (cI, 128, .inl (fun _ => 0))), (q84, .inl (cI, 128, .inl (fun _ => 0))), (q93, .inl (cI, 200, .inl (fun _ => 0))), (q102, .inl (cI, 200, .inl (fun _ => 0))), (q111, .inl (cI, 200, .inl (fun _ => 0)))] H := hP
  have hD : va_D A [(a0, .inr (6, [.int 0, .int 0, .int 0, .ref q7, .ref q15, .ref q23, .ref q31, .ref q39, .int 0, .ref q48, .ref q57, .ref q66, .ref q75, .ref q84, .int 0, .ref q93, .ref q102, .ref q111, .null, .int 0, .null, .int 0])), (q7, .inl (cI, 16, .inl (fun _ => 0))), (q15, .inl (cI, 16, .inl (fun _ => 0))), (q23, .inl (cI, 16, .inl (fun _ => 0))), (q31, .inl (cI, 16, .inl (fun _ => 0))), (q39, .inl (cI, 16, .inl (fun _ => 0))), (q48, .inl (cI, 128, .inl (fun _ => 0))), (q57, .inl (cZ, 128, .inl (fun _ => 0))), (q66, .inl (cZ, 128, .inl (fun _ => 0))), (q75, .inl (cI, 128, .inl (fun _ => 0))), (q84, .inl (cI, 128, .inl (fun _ => 0))), (q93, .inl (cI, 200, .inl (fun _ => 0))), (q102, .inl (cI, 200, .inl (fun _ => 0))), (q111, .inl (cI, 200, .inl (fun _ => 0)))] := hD
  refine lv_aload_n hx hb dX6_init_116 rfl (lv_at hl 0 rfl) ?_
  refine lv_bipush (v := 64) hx hb dX6_init_117 (by decide) ?_
  refine q_newz (N' := 64) hx hb hE hP hD hS hA (by decide) (by decide) (Nat.le_of_ble_eq_true rfl) (Nat.le_of_ble_eq_true rfl) (Nat.le_of_ble_eq_true rfl) dX6_init_119 (fun q119 H hP hD hS => ?_)
  have hP : va_P D vwCl [(a0, .inr (6, [.int 0, .int 0, .int 0, .ref q7, .ref q15, .ref q23, .ref q31, .ref q39, .int 0, .ref q48, .ref q57, .ref q66, .ref q75, .ref q84, .int 0, .ref q93, .ref q102, .ref q111, .null, .int 0, .null, .int 0])), (q7, .inl (cI, 16, .inl (fun _ => 0))), (q15, .inl (cI, 16, .inl (fun _ => 0))), (q23, .inl (cI, 16, .inl (fun _ => 0))), (q31, .inl (cI, 16, .inl (fun _ => 0))), (q39, .inl (cI, 16, .inl (fun _ => 0))), (q48, .inl (cI, 128, .inl (fun _ => 0))), (q57, .inl (cZ, 128, .inl (fun _ => 0))), (q66, .inl (cZ, 128, .inl (fun _ => 0))), (q75, .inl (cI, 128, .inl (fun _ => 0))), (q84, .inl (cI, 128, .inl (fun _ => 0))), (q93, .inl (cI, 200, .inl (fun _ => 0))), (q102, .inl (cI, 200, .inl (fun _ => 0))), (q111, .inl (cI, 200, .inl (fun _ => 0))), (q119, .inl (cZ, 64, .inl (fun _ => 0)))] H := hP
  have hD : va_D A [(a0, .inr (6, [.int 0, .int 0, .int 0, .ref q7, .ref q15, .ref q23, .ref q31, .ref q39, .int 0, .ref q48, .ref q57, .ref q66, .ref q75, .ref q84, .int 0, .ref q93, .ref q102, .ref q111, .null, .int 0, .null, .int 0])), (q7, .inl (cI, 16, .inl (fun _ => 0))), (q15, .inl (cI, 16, .inl (fun _ => 0))), (q23, .inl (cI, 16, .inl (fun _ => 0))), (q31, .inl (cI, 16, .inl (fun _ => 0))), (q39, .inl (cI, 16, .inl (fun _ => 0))), (q48, .inl (cI, 128, .inl (fun _ => 0))), (q57, .inl (cZ, 128, .inl (fun _ => 0))), (q66, .inl (cZ, 128, .inl (fun _ => 0))), (q75, .inl (cI, 128, .inl (fun _ => 0))), (q84, .inl (cI, 128, .inl (fun _ => 0))), (q93, .inl (cI, 200, .inl (fun _ => 0))), (q102, .inl (cI, 200, .inl (fun _ => 0))), (q111, .inl (cI, 200, .inl (fun _ => 0))), (q119, .inl (cZ, 64, .inl (fun _ => 0)))] := hD
  refine q_putF (ty0 := tyX6) (v := .ref q119) hx hb hown hE inT_X6 tyX6_ok nmX6 hP hD hS 0 rfl rfl 18 (by decide) w_776 rfl hin rfl rfl rfl (Nat.le_of_ble_eq_true rfl) dX6_init_121 (fun H locs hP hD hS => ?_)
  have hP : va_P D vwCl [(a0, .inr (6, [.int 0, .int 0, .int 0, .ref q7, .ref q15, .ref q23, .ref q31, .ref q39, .int 0, .ref q48, .ref q57, .ref q66, .ref q75, .ref q84, .int 0, .ref q93, .ref q102, .ref q111, .ref q119, .int 0, .null, .int 0])), (q7, .inl (cI, 16, .inl (fun _ => 0))), (q15, .inl (cI, 16, .inl (fun _ => 0))), (q23, .inl (cI, 16, .inl (fun _ => 0))), (q31, .inl (cI, 16, .inl (fun _ => 0))), (q39, .inl (cI, 16, .inl (fun _ => 0))), (q48, .inl (cI, 128, .inl (fun _ => 0))), (q57, .inl (cZ, 128, .inl (fun _ => 0))), (q66, .inl (cZ, 128, .inl (fun _ => 0))), (q75, .inl (cI, 128, .inl (fun _ => 0))), (q84, .inl (cI, 128, .inl (fun _ => 0))), (q93, .inl (cI, 200, .inl (fun _ => 0))), (q102, .inl (cI, 200, .inl (fun _ => 0))), (q111, .inl (cI, 200, .inl (fun _ => 0))), (q119, .inl (cZ, 64, .inl (fun _ => 0)))] H := hP
  have hD : va_D A [(a0, .inr (6, [.int 0, .int 0, .int 0, .ref q7, .ref q15, .ref q23, .ref q31, .ref q39, .int 0, .ref q48, .ref q57, .ref q66, .ref q75, .ref q84, .int 0, .ref q93, .ref q102, .ref q111, .ref q119, .int 0, .null, .int 0])), (q7, .inl (cI, 16, .inl (fun _ => 0))), (q15, .inl (cI, 16, .inl (fun _ => 0))), (q23, .inl (cI, 16, .inl (fun _ => 0))), (q31, .inl (cI, 16, .inl (fun _ => 0))), (q39, .inl (cI, 16, .inl (fun _ => 0))), (q48, .inl (cI, 128, .inl (fun _ => 0))), (q57, .inl (cZ, 128, .inl (fun _ => 0))), (q66, .inl (cZ, 128, .inl (fun _ => 0))), (q75, .inl (cI, 128, .inl (fun _ => 0))), (q84, .inl (cI, 128, .inl (fun _ => 0))), (q93, .inl (cI, 200, .inl (fun _ => 0))), (q102, .inl (cI, 200, .inl (fun _ => 0))), (q111, .inl (cI, 200, .inl (fun _ => 0))), (q119, .inl (cZ, 64, .inl (fun _ => 0)))] := hD
  refine lv_aload_n hx hb dX6_init_124 rfl (lv_at hl 0 rfl) ?_
  refine lv_iconst (v := 3) hx hb dX6_init_125 (by decide) ?_
  refine q_putC (ty0 := tyX6) (v := .int 3) hx hb hown hE inT_X6 tyX6_ok nmX6 hP hD hS 0 rfl rfl 19 (by decide) w_777 rfl rfl rfl (Nat.le_of_ble_eq_true rfl) dX6_init_126 (fun H locs hP hD hS => ?_)
  have hP : va_P D vwCl [(a0, .inr (6, [.int 0, .int 0, .int 0, .ref q7, .ref q15, .ref q23, .ref q31, .ref q39, .int 0, .ref q48, .ref q57, .ref q66, .ref q75, .ref q84, .int 0, .ref q93, .ref q102, .ref q111, .ref q119, .int 3, .null, .int 0])), (q7, .inl (cI, 16, .inl (fun _ => 0))), (q15, .inl (cI, 16, .inl (fun _ => 0))), (q23, .inl (cI, 16, .inl (fun _ => 0))), (q31, .inl (cI, 16, .inl (fun _ => 0))), (q39, .inl (cI, 16, .inl (fun _ => 0))), (q48, .inl (cI, 128, .inl (fun _ => 0))), (q57, .inl (cZ, 128, .inl (fun _ => 0))), (q66, .inl (cZ, 128, .inl (fun _ => 0))), (q75, .inl (cI, 128, .inl (fun _ => 0))), (q84, .inl (cI, 128, .inl (fun _ => 0))), (q93, .inl (cI, 200, .inl (fun _ => 0))), (q102, .inl (cI, 200, .inl (fun _ => 0))), (q111, .inl (cI, 200, .inl (fun _ => 0))), (q119, .inl (cZ, 64, .inl (fun _ => 0)))] H := hP
  have hD : va_D A [(a0, .inr (6, [.int 0, .int 0, .int 0, .ref q7, .ref q15, .ref q23, .ref q31, .ref q39, .int 0, .ref q48, .ref q57, .ref q66, .ref q75, .ref q84, .int 0, .ref q93, .ref q102, .ref q111, .ref q119, .int 3, .null, .int 0])), (q7, .inl (cI, 16, .inl (fun _ => 0))), (q15, .inl (cI, 16, .inl (fun _ => 0))), (q23, .inl (cI, 16, .inl (fun _ => 0))), (q31, .inl (cI, 16, .inl (fun _ => 0))), (q39, .inl (cI, 16, .inl (fun _ => 0))), (q48, .inl (cI, 128, .inl (fun _ => 0))), (q57, .inl (cZ, 128, .inl (fun _ => 0))), (q66, .inl (cZ, 128, .inl (fun _ => 0))), (q75, .inl (cI, 128, .inl (fun _ => 0))), (q84, .inl (cI, 128, .inl (fun _ => 0))), (q93, .inl (cI, 200, .inl (fun _ => 0))), (q102, .inl (cI, 200, .inl (fun _ => 0))), (q111, .inl (cI, 200, .inl (fun _ => 0))), (q119, .inl (cZ, 64, .inl (fun _ => 0)))] := hD
  refine lv_aload_n hx hb dX6_init_129 rfl (lv_at hl 0 rfl) ?_
  refine lv_bipush (v := 8) hx hb dX6_init_130 (by decide) ?_
  refine q_newa (N' := 8) hx hb hE hP hD hS hA (by decide) (by decide) (Nat.le_of_ble_eq_true rfl) (Nat.le_of_ble_eq_true rfl) (Nat.le_of_ble_eq_true rfl) dX6_init_132 (fun q132 H hP hD hS => ?_)
  have hP : va_P D vwCl [(a0, .inr (6, [.int 0, .int 0, .int 0, .ref q7, .ref q15, .ref q23, .ref q31, .ref q39, .int 0, .ref q48, .ref q57, .ref q66, .ref q75, .ref q84, .int 0, .ref q93, .ref q102, .ref q111, .ref q119, .int 3, .null, .int 0])), (q7, .inl (cI, 16, .inl (fun _ => 0))), (q15, .inl (cI, 16, .inl (fun _ => 0))), (q23, .inl (cI, 16, .inl (fun _ => 0))), (q31, .inl (cI, 16, .inl (fun _ => 0))), (q39, .inl (cI, 16, .inl (fun _ => 0))), (q48, .inl (cI, 128, .inl (fun _ => 0))), (q57, .inl (cZ, 128, .inl (fun _ => 0))), (q66, .inl (cZ, 128, .inl (fun _ => 0))), (q75, .inl (cI, 128, .inl (fun _ => 0))), (q84, .inl (cI, 128, .inl (fun _ => 0))), (q93, .inl (cI, 200, .inl (fun _ => 0))), (q102, .inl (cI, 200, .inl (fun _ => 0))), (q111, .inl (cI, 200, .inl (fun _ => 0))), (q119, .inl (cZ, 64, .inl (fun _ => 0))), (q132, .inl (cI, 8, .inl (fun _ => 0)))] H := hP
  have hD : va_D A [(a0, .inr (6, [.int 0, .int 0, .int 0, .ref q7, .ref q15, .ref q23, .ref q31, .ref q39, .int 0, .ref q48, .ref q57, .ref q66, .ref q75, .ref q84, .int 0, .ref q93, .ref q102, .ref q111, .ref q119, .int 3, .null, .int 0])), (q7, .inl (cI, 16, .inl (fun _ => 0))), (q15, .inl (cI, 16, .inl (fun _ => 0))), (q23, .inl (cI, 16, .inl (fun _ => 0))), (q31, .inl (cI, 16, .inl (fun _ => 0))), (q39, .inl (cI, 16, .inl (fun _ => 0))), (q48, .inl (cI, 128, .inl (fun _ => 0))), (q57, .inl (cZ, 128, .inl (fun _ => 0))), (q66, .inl (cZ, 128, .inl (fun _ => 0))), (q75, .inl (cI, 128, .inl (fun _ => 0))), (q84, .inl (cI, 128, .inl (fun _ => 0))), (q93, .inl (cI, 200, .inl (fun _ => 0))), (q102, .inl (cI, 200, .inl (fun _ => 0))), (q111, .inl (cI, 200, .inl (fun _ => 0))), (q119, .inl (cZ, 64, .inl (fun _ => 0))), (q132, .inl (cI, 8, .inl (fun _ => 0)))] := hD
  refine q_putF (ty0 := tyX6) (v := .ref q132) hx hb hown hE inT_X6 tyX6_ok nmX6 hP hD hS 0 rfl rfl 20 (by decide) w_778 rfl hin rfl rfl rfl (Nat.le_of_ble_eq_true rfl) dX6_init_134 (fun H locs hP hD hS => ?_)
  have hP : va_P D vwCl [(a0, .inr (6, [.int 0, .int 0, .int 0, .ref q7, .ref q15, .ref q23, .ref q31, .ref q39, .int 0, .ref q48, .ref q57, .ref q66, .ref q75, .ref q84, .int 0, .ref q93, .ref q102, .ref q111, .ref q119, .int 3, .ref q132, .int 0])), (q7, .inl (cI, 16, .inl (fun _ => 0))), (q15, .inl (cI, 16, .inl (fun _ => 0))), (q23, .inl (cI, 16, .inl (fun _ => 0))), (q31, .inl (cI, 16, .inl (fun _ => 0))), (q39, .inl (cI, 16, .inl (fun _ => 0))), (q48, .inl (cI, 128, .inl (fun _ => 0))), (q57, .inl (cZ, 128, .inl (fun _ => 0))), (q66, .inl (cZ, 128, .inl (fun _ => 0))), (q75, .inl (cI, 128, .inl (fun _ => 0))), (q84, .inl (cI, 128, .inl (fun _ => 0))), (q93, .inl (cI, 200, .inl (fun _ => 0))), (q102, .inl (cI, 200, .inl (fun _ => 0))), (q111, .inl (cI, 200, .inl (fun _ => 0))), (q119, .inl (cZ, 64, .inl (fun _ => 0))), (q132, .inl (cI, 8, .inl (fun _ => 0)))] H := hP
  have hD : va_D A [(a0, .inr (6, [.int 0, .int 0, .int 0, .ref q7, .ref q15, .ref q23, .ref q31, .ref q39, .int 0, .ref q48, .ref q57, .ref q66, .ref q75, .ref q84, .int 0, .ref q93, .ref q102, .ref q111, .ref q119, .int 3, .ref q132, .int 0])), (q7, .inl (cI, 16, .inl (fun _ => 0))), (q15, .inl (cI, 16, .inl (fun _ => 0))), (q23, .inl (cI, 16, .inl (fun _ => 0))), (q31, .inl (cI, 16, .inl (fun _ => 0))), (q39, .inl (cI, 16, .inl (fun _ => 0))), (q48, .inl (cI, 128, .inl (fun _ => 0))), (q57, .inl (cZ, 128, .inl (fun _ => 0))), (q66, .inl (cZ, 128, .inl (fun _ => 0))), (q75, .inl (cI, 128, .inl (fun _ => 0))), (q84, .inl (cI, 128, .inl (fun _ => 0))), (q93, .inl (cI, 200, .inl (fun _ => 0))), (q102, .inl (cI, 200, .inl (fun _ => 0))), (q111, .inl (cI, 200, .inl (fun _ => 0))), (q119, .inl (cZ, 64, .inl (fun _ => 0))), (q132, .inl (cI, 8, .inl (fun _ => 0)))] := hD
  exact W.vret hx hb hr (fun t ht hW => ⟨⟨(fun i => ([a0, q7, q15, q23, q31, q39, q48, q57, q66, q75, q84, q93, q102, q111, q119, q132] : List Nat).getD i 0), rfl, trivial, rfl, by rw [ht]; exact hP, hD⟩, hS.F ht⟩) hS.2.2 dX6_init_137
