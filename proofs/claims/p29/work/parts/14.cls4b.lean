
set_option maxHeartbeats 4000000 in
set_option maxRecDepth 100000 in
theorem c_X5_hint_T0 (l : Launch) (hfl : l.flags = flags0) (D : va_G) (cI cZ cL : ClassId) (ad : Nat → Nat) (S : Mem) (x1 : Int32) (x2 : Int32) (hI : I0 S) (hth : (oHint S x1 x2).1 = some "java/lang/IndexOutOfBoundsException") : TH l D cI cZ cL yX5_hint cX5_hint 4 (some .int) 7 [.ref (ad 0), .int x1, .int x2] (wC ad cI S) "java/lang/IndexOutOfBoundsException" := by
  refine TH.of (by decide) (Nat.le_of_ble_eq_true rfl) ?_
  intro p e s m args below meth c ls hx hb hr hml hown hlk hxt hE hT hZ hP hl
  have hl : lv_has ls 4 [(0, .ref (ad 0)), (1, .int x1), (2, .int x2)] := hl
  have hT8 := hI.T8
  have hR16 := hI.R16
  have hN200 := hI.N200
  refine lv_aload_n hx hb dX5_hint_0 rfl (lv_at hl 0 rfl) ?_
  refine lv_iload_n hx hb dX5_hint_1 rfl (lv_at hl 1 rfl) ?_
  by_cases c_1 : okn x1 (cT S) = true
  · skip
    obtain ⟨u1, hu1, eu1⟩ := okn_t c_1
    subst eu1
    have iu1 : iN (nI u1) = u1 := iN_nI (by omega)
    refine q_rdv (q_runV (rest := []) hx hb hml hown hE (c_X5_requireTeam l D cI cZ cL ad S u1 hI hu1) ck_X5_requireTeam w_488 hP 0 rfl rfl hl.1 rfl ⟨Nat.le_of_ble_eq_true rfl, Nat.le_of_ble_eq_true rfl⟩ (Nat.le_of_ble_eq_true rfl) dX5_hint_2 ⟨Nat.le_of_ble_eq_true rfl, Nat.le_of_ble_eq_true rfl⟩) ?_
    refine lv_aload_n hx hb dX5_hint_5 rfl (lv_at hl 0 rfl) ?_
    refine lv_iload_n hx hb dX5_hint_6 rfl (lv_at hl 2 rfl) ?_
    by_cases c_2 : okn x2 (cR S) = true
    · skip
      obtain ⟨u2, hu2, eu2⟩ := okn_t c_2
      subst eu2
      have iu2 : iN (nI u2) = u2 := iN_nI (by omega)
      refine q_rdv (q_runV (rest := []) hx hb hml hown hE (c_X5_requireRiddle l D cI cZ cL ad S u2 hI hu2) ck_X5_requireRiddle w_436 hP 0 rfl rfl hl.1 rfl ⟨Nat.le_of_ble_eq_true rfl, Nat.le_of_ble_eq_true rfl⟩ (Nat.le_of_ble_eq_true rfl) dX5_hint_7 ⟨Nat.le_of_ble_eq_true rfl, Nat.le_of_ble_eq_true rfl⟩) ?_
      refine lv_aload_n hx hb dX5_hint_10 rfl (lv_at hl 0 rfl) ?_
      refine lv_iload_n hx hb dX5_hint_11 rfl (lv_at hl 1 rfl) ?_
      refine lv_iload_n hx hb dX5_hint_12 rfl (lv_at hl 2 rfl) ?_
      refine q_rd (q_runV (rest := []) hx hb hml hown hE (c_X5_isUnderWay l D cI cZ cL ad S u1 u2 (by omega) (by omega)) ck_X5_isUnderWay w_493 hP 0 rfl rfl hl.1 rfl ⟨Nat.le_of_ble_eq_true rfl, Nat.le_of_ble_eq_true rfl⟩ (Nat.le_of_ble_eq_true rfl) dX5_hint_13 ⟨Nat.le_of_ble_eq_true rfl, Nat.le_of_ble_eq_true rfl⟩) ?_
      refine lv_if_eq (tgt := 28) hx hb dX5_hint_16 (by decide) (fun c_3 => ?_) (fun c_3 => ?_)
      · skip
        have c_3 : p_under S u1 u2 = false := b_f c_3
        simp [oHint, o2, hHint, hintM, xI, xA, xS, xN, c_1, iu1, c_2, iu2, c_3] at hth
      · skip
        have c_3 : p_under S u1 u2 = true := b_t c_3
        refine lv_aload_n hx hb dX5_hint_19 rfl (lv_at hl 0 rfl) ?_
        refine lv_iload_n hx hb dX5_hint_20 rfl (lv_at hl 1 rfl) ?_
        refine lv_iload_n hx hb dX5_hint_21 rfl (lv_at hl 2 rfl) ?_
        refine q_rd (q_runV (rest := []) hx hb hml hown hE (c_X5_hasHintsLeft l D cI cZ cL ad S u1 u2 (by omega) (by omega)) ck_X5_hasHintsLeft w_536 hP 0 rfl rfl hl.1 rfl ⟨Nat.le_of_ble_eq_true rfl, Nat.le_of_ble_eq_true rfl⟩ (Nat.le_of_ble_eq_true rfl) dX5_hint_22 ⟨Nat.le_of_ble_eq_true rfl, Nat.le_of_ble_eq_true rfl⟩) ?_
        refine lv_if_ne (tgt := 38) hx hb dX5_hint_25 (by decide) (fun c_4 => ?_) (fun c_4 => ?_)
        · skip
          have c_4 : p_left S u1 u2 = true := b_t c_4
          refine lv_aload_n hx hb dX5_hint_38 rfl (lv_at hl 0 rfl) ?_
          refine lv_iload_n hx hb dX5_hint_39 rfl (lv_at hl 1 rfl) ?_
          refine lv_iload_n hx hb dX5_hint_40 rfl (lv_at hl 2 rfl) ?_
          refine q_rd (q_runV (rest := []) hx hb hml hown hE (c_X5_nextPrice l D cI cZ cL ad S u1 u2 (by omega) (by omega)) ck_X5_nextPrice w_541 hP 0 rfl rfl hl.1 rfl ⟨Nat.le_of_ble_eq_true rfl, Nat.le_of_ble_eq_true rfl⟩ (Nat.le_of_ble_eq_true rfl) dX5_hint_41 ⟨Nat.le_of_ble_eq_true rfl, Nat.le_of_ble_eq_true rfl⟩) ?_
          refine lv_istore_n (lv' := [(3, .int (p_price S u1 u2)), (0, .ref (ad 0)), (1, .int (nI u1)), (2, .int (nI u2))]) hx hb dX5_hint_44 rfl hl (by decide) rfl (fun ls hl => ?_)
          refine lv_aload_n hx hb dX5_hint_45 rfl (lv_at hl 1 rfl) ?_
          refine q_get (v := .ref (ad 12)) hx hb hown hE inT_X5 hP 0 rfl rfl 2 (by decide) w_214 rfl dX5_hint_46 ?_
          refine lv_iload_n hx hb dX5_hint_49 rfl (lv_at hl 2 rfl) ?_
          refine lv_iload_n hx hb dX5_hint_50 rfl (lv_at hl 3 rfl) ?_
          refine lv_iload_n hx hb dX5_hint_51 rfl (lv_at hl 0 rfl) ?_
          simp [oHint, o2, hHint, hintM, xI, xA, xS, xN, c_1, iu1, c_2, iu2, c_3, c_4] at hth
        · skip
          have c_4 : p_left S u1 u2 = false := b_f c_4
          simp [oHint, o2, hHint, hintM, xI, xA, xS, xN, c_1, iu1, c_2, iu2, c_3, c_4] at hth
    · skip
      have c_2 := eq_false_of_ne_true c_2
      exact q_th (q_thV (n' := 2) (k' := 6) (y := yX5_requireRiddle) (rest := []) hx hb hml hown hE hT hZ (c_X5_requireRiddle_T l hfl D cI cZ cL ad S x2 hI c_2) ck_X5_requireRiddle w_436 hP 0 rfl rfl hl.1 rfl ⟨Nat.le_of_ble_eq_true rfl, Nat.le_of_ble_eq_true rfl⟩ (Nat.le_of_ble_eq_true rfl) dX5_hint_7 ⟨Nat.le_of_ble_eq_true rfl, Nat.le_of_ble_eq_true rfl⟩) hlk hxt (Nat.le_refl _) (Nat.le_refl _) (fun t h1 h2 => ⟨rfl, h2⟩)
  · skip
    have c_1 := eq_false_of_ne_true c_1
    exact q_th (q_thV (n' := 2) (k' := 6) (y := yX5_requireTeam) (rest := []) hx hb hml hown hE hT hZ (c_X5_requireTeam_T l hfl D cI cZ cL ad S x1 hI c_1) ck_X5_requireTeam w_488 hP 0 rfl rfl hl.1 rfl ⟨Nat.le_of_ble_eq_true rfl, Nat.le_of_ble_eq_true rfl⟩ (Nat.le_of_ble_eq_true rfl) dX5_hint_2 ⟨Nat.le_of_ble_eq_true rfl, Nat.le_of_ble_eq_true rfl⟩) hlk hxt (Nat.le_refl _) (Nat.le_refl _) (fun t h1 h2 => ⟨rfl, h2⟩)

theorem dX5_hint_31 : decode cX5_hint 31 = .ok (.dup, 1) := by decide +kernel
theorem dX5_hint_32 : decode cX5_hint 32 = .ok (.ldc 151, 2) := by decide +kernel
theorem dX5_hint_34 : decode cX5_hint 34 = .ok (.invokespecial 69, 3) := by decide +kernel
theorem dX5_hint_37 : decode cX5_hint 37 = .ok (.athrow, 1) := by decide +kernel
set_option maxHeartbeats 4000000 in
set_option maxRecDepth 100000 in
theorem c_X5_hint_T1 (l : Launch) (hfl : l.flags = flags0) (D : va_G) (cI cZ cL : ClassId) (ad : Nat → Nat) (S : Mem) (x1 : Int32) (x2 : Int32) (hI : I0 S) (hth : (oHint S x1 x2).1 = some "java/lang/IllegalStateException") : TH l D cI cZ cL yX5_hint cX5_hint 4 (some .int) 7 [.ref (ad 0), .int x1, .int x2] (wC ad cI S) "java/lang/IllegalStateException" := by
  refine TH.of (by decide) (Nat.le_of_ble_eq_true rfl) ?_
  intro p e s m args below meth c ls hx hb hr hml hown hlk hxt hE hT hZ hP hl
  have hl : lv_has ls 4 [(0, .ref (ad 0)), (1, .int x1), (2, .int x2)] := hl
  have hT8 := hI.T8
  have hR16 := hI.R16
  have hN200 := hI.N200
  refine lv_aload_n hx hb dX5_hint_0 rfl (lv_at hl 0 rfl) ?_
  refine lv_iload_n hx hb dX5_hint_1 rfl (lv_at hl 1 rfl) ?_
  by_cases c_1 : okn x1 (cT S) = true
  · skip
    obtain ⟨u1, hu1, eu1⟩ := okn_t c_1
    subst eu1
    have iu1 : iN (nI u1) = u1 := iN_nI (by omega)
    refine q_rdv (q_runV (rest := []) hx hb hml hown hE (c_X5_requireTeam l D cI cZ cL ad S u1 hI hu1) ck_X5_requireTeam w_488 hP 0 rfl rfl hl.1 rfl ⟨Nat.le_of_ble_eq_true rfl, Nat.le_of_ble_eq_true rfl⟩ (Nat.le_of_ble_eq_true rfl) dX5_hint_2 ⟨Nat.le_of_ble_eq_true rfl, Nat.le_of_ble_eq_true rfl⟩) ?_
    refine lv_aload_n hx hb dX5_hint_5 rfl (lv_at hl 0 rfl) ?_
    refine lv_iload_n hx hb dX5_hint_6 rfl (lv_at hl 2 rfl) ?_
    by_cases c_2 : okn x2 (cR S) = true
    · skip
      obtain ⟨u2, hu2, eu2⟩ := okn_t c_2
      subst eu2
      have iu2 : iN (nI u2) = u2 := iN_nI (by omega)
      refine q_rdv (q_runV (rest := []) hx hb hml hown hE (c_X5_requireRiddle l D cI cZ cL ad S u2 hI hu2) ck_X5_requireRiddle w_436 hP 0 rfl rfl hl.1 rfl ⟨Nat.le_of_ble_eq_true rfl, Nat.le_of_ble_eq_true rfl⟩ (Nat.le_of_ble_eq_true rfl) dX5_hint_7 ⟨Nat.le_of_ble_eq_true rfl, Nat.le_of_ble_eq_true rfl⟩) ?_
      refine lv_aload_n hx hb dX5_hint_10 rfl (lv_at hl 0 rfl) ?_
      refine lv_iload_n hx hb dX5_hint_11 rfl (lv_at hl 1 rfl) ?_
      refine lv_iload_n hx hb dX5_hint_12 rfl (lv_at hl 2 rfl) ?_
      refine q_rd (q_runV (rest := []) hx hb hml hown hE (c_X5_isUnderWay l D cI cZ cL ad S u1 u2 (by omega) (by omega)) ck_X5_isUnderWay w_493 hP 0 rfl rfl hl.1 rfl ⟨Nat.le_of_ble_eq_true rfl, Nat.le_of_ble_eq_true rfl⟩ (Nat.le_of_ble_eq_true rfl) dX5_hint_13 ⟨Nat.le_of_ble_eq_true rfl, Nat.le_of_ble_eq_true rfl⟩) ?_
      refine lv_if_eq (tgt := 28) hx hb dX5_hint_16 (by decide) (fun c_3 => ?_) (fun c_3 => ?_)
      · skip
        have c_3 : p_under S u1 u2 = false := b_f c_3
        obtain ⟨sa, hsa⟩ := hT "PuzzleRegistry" 151 "no hint is sold" (List.mem_of_getElem? (i := 470) (by decide +kernel))
        exact vx_throwS (rest := []) (A := q_no) (names := tw_names) hx hb (q_flags hfl) hown rfl tw_names_ok (hE.1 _ w_400 args) (hE.1 _ w_72 args) hsa (fun w h => hE.1 w (tw_X5_65_69 w h) args) tw_X5_65_69_g hZ.1 hZ.2 va_S.rf (hl.1.trans hml.symm) dX5_hint_28 dX5_hint_31 dX5_hint_32 dX5_hint_34 dX5_hint_37 (fun x hx => (hxt x hx).elim) (Nat.le_of_ble_eq_true rfl) (Nat.le_of_ble_eq_true rfl) (Nat.le_of_ble_eq_true rfl) (Nat.le_of_ble_eq_true rfl) hlk (fun t h1 h2 h3 => ⟨rfl, h2, fun q h4 _ => h3 q h4⟩) (fun _ h => nomatch h) (Nat.le_refl _) (Nat.le_refl _)
      · skip
        have c_3 : p_under S u1 u2 = true := b_t c_3
        refine lv_aload_n hx hb dX5_hint_19 rfl (lv_at hl 0 rfl) ?_
        refine lv_iload_n hx hb dX5_hint_20 rfl (lv_at hl 1 rfl) ?_
        refine lv_iload_n hx hb dX5_hint_21 rfl (lv_at hl 2 rfl) ?_
        refine q_rd (q_runV (rest := []) hx hb hml hown hE (c_X5_hasHintsLeft l D cI cZ cL ad S u1 u2 (by omega) (by omega)) ck_X5_hasHintsLeft w_536 hP 0 rfl rfl hl.1 rfl ⟨Nat.le_of_ble_eq_true rfl, Nat.le_of_ble_eq_true rfl⟩ (Nat.le_of_ble_eq_true rfl) dX5_hint_22 ⟨Nat.le_of_ble_eq_true rfl, Nat.le_of_ble_eq_true rfl⟩) ?_
        refine lv_if_ne (tgt := 38) hx hb dX5_hint_25 (by decide) (fun c_4 => ?_) (fun c_4 => ?_)
        · skip
          have c_4 : p_left S u1 u2 = true := b_t c_4
          refine lv_aload_n hx hb dX5_hint_38 rfl (lv_at hl 0 rfl) ?_
          refine lv_iload_n hx hb dX5_hint_39 rfl (lv_at hl 1 rfl) ?_
          refine lv_iload_n hx hb dX5_hint_40 rfl (lv_at hl 2 rfl) ?_
          refine q_rd (q_runV (rest := []) hx hb hml hown hE (c_X5_nextPrice l D cI cZ cL ad S u1 u2 (by omega) (by omega)) ck_X5_nextPrice w_541 hP 0 rfl rfl hl.1 rfl ⟨Nat.le_of_ble_eq_true rfl, Nat.le_of_ble_eq_true rfl⟩ (Nat.le_of_ble_eq_true rfl) dX5_hint_41 ⟨Nat.le_of_ble_eq_true rfl, Nat.le_of_ble_eq_true rfl⟩) ?_
          refine lv_istore_n (lv' := [(3, .int (p_price S u1 u2)), (0, .ref (ad 0)), (1, .int (nI u1)), (2, .int (nI u2))]) hx hb dX5_hint_44 rfl hl (by decide) rfl (fun ls hl => ?_)
          refine lv_aload_n hx hb dX5_hint_45 rfl (lv_at hl 1 rfl) ?_
          refine q_get (v := .ref (ad 12)) hx hb hown hE inT_X5 hP 0 rfl rfl 2 (by decide) w_214 rfl dX5_hint_46 ?_
          refine lv_iload_n hx hb dX5_hint_49 rfl (lv_at hl 2 rfl) ?_
          refine lv_iload_n hx hb dX5_hint_50 rfl (lv_at hl 3 rfl) ?_
          refine lv_iload_n hx hb dX5_hint_51 rfl (lv_at hl 0 rfl) ?_
          simp [oHint, o2, hHint, hintM, xI, xA, xS, xN, c_1, iu1, c_2, iu2, c_3, c_4] at hth
        · skip
          have c_4 : p_left S u1 u2 = false := b_f c_4
          obtain ⟨sa, hsa⟩ := hT "PuzzleRegistry" 151 "no hint is sold" (List.mem_of_getElem? (i := 470) (by decide +kernel))
          exact vx_throwS (rest := []) (A := q_no) (names := tw_names) hx hb (q_flags hfl) hown rfl tw_names_ok (hE.1 _ w_400 args) (hE.1 _ w_72 args) hsa (fun w h => hE.1 w (tw_X5_65_69 w h) args) tw_X5_65_69_g hZ.1 hZ.2 va_S.rf (hl.1.trans hml.symm) dX5_hint_28 dX5_hint_31 dX5_hint_32 dX5_hint_34 dX5_hint_37 (fun x hx => (hxt x hx).elim) (Nat.le_of_ble_eq_true rfl) (Nat.le_of_ble_eq_true rfl) (Nat.le_of_ble_eq_true rfl) (Nat.le_of_ble_eq_true rfl) hlk (fun t h1 h2 h3 => ⟨rfl, h2, fun q h4 _ => h3 q h4⟩) (fun _ h => nomatch h) (Nat.le_refl _) (Nat.le_refl _)
    · skip
      simp [oHint, o2, hHint, hintM, xI, xA, xS, xN, c_1, iu1, c_2] at hth
  · skip
    simp [oHint, o2, hHint, hintM, xI, xA, xS, xN, c_1] at hth

theorem dX5_price_0 : decode cX5_price 0 = .ok (.aload_n 0, 1) := by decide +kernel
theorem dX5_price_1 : decode cX5_price 1 = .ok (.iload_n 1, 1) := by decide +kernel
theorem dX5_price_2 : decode cX5_price 2 = .ok (.invokevirtual 126, 3) := by decide +kernel
theorem dX5_price_5 : decode cX5_price 5 = .ok (.aload_n 0, 1) := by decide +kernel
theorem dX5_price_6 : decode cX5_price 6 = .ok (.iload_n 2, 1) := by decide +kernel
theorem dX5_price_7 : decode cX5_price 7 = .ok (.invokevirtual 85, 3) := by decide +kernel
theorem dX5_price_10 : decode cX5_price 10 = .ok (.aload_n 0, 1) := by decide +kernel
theorem dX5_price_11 : decode cX5_price 11 = .ok (.aload_n 0, 1) := by decide +kernel
theorem dX5_price_12 : decode cX5_price 12 = .ok (.getfield 40, 3) := by decide +kernel
theorem dX5_price_15 : decode cX5_price 15 = .ok (.iload_n 1, 1) := by decide +kernel
theorem dX5_price_16 : decode cX5_price 16 = .ok (.iload_n 2, 1) := by decide +kernel
theorem dX5_price_17 : decode cX5_price 17 = .ok (.invokevirtual 162, 3) := by decide +kernel
theorem dX5_price_20 : decode cX5_price 20 = .ok (.iconst (-1), 1) := by decide +kernel
theorem dX5_price_21 : decode cX5_price 21 = .ok (.if_icmp .eq 12, 3) := by decide +kernel
theorem dX5_price_24 : decode cX5_price 24 = .ok (.aload_n 0, 1) := by decide +kernel
theorem dX5_price_25 : decode cX5_price 25 = .ok (.iload_n 1, 1) := by decide +kernel
theorem dX5_price_26 : decode cX5_price 26 = .ok (.iload_n 2, 1) := by decide +kernel
theorem dX5_price_27 : decode cX5_price 27 = .ok (.invokevirtual 148, 3) := by decide +kernel
theorem dX5_price_30 : decode cX5_price 30 = .ok (.ifCond .ne 13, 3) := by decide +kernel
theorem dX5_price_33 : decode cX5_price 33 = .ok (.new 166, 3) := by decide +kernel
theorem dX5_price_43 : decode cX5_price 43 = .ok (.aload_n 0, 1) := by decide +kernel
theorem dX5_price_44 : decode cX5_price 44 = .ok (.iload_n 1, 1) := by decide +kernel
theorem dX5_price_45 : decode cX5_price 45 = .ok (.iload_n 2, 1) := by decide +kernel
theorem dX5_price_46 : decode cX5_price 46 = .ok (.invokevirtual 153, 3) := by decide +kernel
theorem dX5_price_49 : decode cX5_price 49 = .ok (.ireturn, 1) := by decide +kernel
set_option maxHeartbeats 4000000 in
set_option maxRecDepth 100000 in
theorem c_X5_price (l : Launch) (D : va_G) (cI cZ cL : ClassId) (ad : Nat → Nat) (S : Mem) (x1 : Int32) (x2 : Int32) (hI : I0 S) (hth : (oPrice S x1 x2).1 = none) : RD l D cI cZ cL yX5_price cX5_price 3 (some .int) 7 [.ref (ad 0), .int x1, .int x2] (wC ad cI S) (some (.int ((oPrice S x1 x2).2.1))) := by
  refine RD.of (by decide) (Nat.le_of_ble_eq_true rfl) ?_
  intro p e s m args below meth c ls hx hb hr hml hown hlk hE hP hl
  have hl : lv_has ls 3 [(0, .ref (ad 0)), (1, .int x1), (2, .int x2)] := hl
  have hT8 := hI.T8
  have hR16 := hI.R16
  have hN200 := hI.N200
  refine lv_aload_n hx hb dX5_price_0 rfl (lv_at hl 0 rfl) ?_
  refine lv_iload_n hx hb dX5_price_1 rfl (lv_at hl 1 rfl) ?_
  by_cases c_1 : okn x1 (cT S) = true
  · skip
    obtain ⟨u1, hu1, eu1⟩ := okn_t c_1
    subst eu1
    have iu1 : iN (nI u1) = u1 := iN_nI (by omega)
    refine q_rdv (q_runV (rest := []) hx hb hml hown hE (c_X5_requireTeam l D cI cZ cL ad S u1 hI hu1) ck_X5_requireTeam w_488 hP 0 rfl rfl hl.1 rfl ⟨Nat.le_of_ble_eq_true rfl, Nat.le_of_ble_eq_true rfl⟩ (Nat.le_of_ble_eq_true rfl) dX5_price_2 ⟨Nat.le_of_ble_eq_true rfl, Nat.le_of_ble_eq_true rfl⟩) ?_
    refine lv_aload_n hx hb dX5_price_5 rfl (lv_at hl 0 rfl) ?_
    refine lv_iload_n hx hb dX5_price_6 rfl (lv_at hl 2 rfl) ?_
    by_cases c_2 : okn x2 (cR S) = true
    · skip
      obtain ⟨u2, hu2, eu2⟩ := okn_t c_2
      subst eu2
      have iu2 : iN (nI u2) = u2 := iN_nI (by omega)
      refine q_rdv (q_runV (rest := []) hx hb hml hown hE (c_X5_requireRiddle l D cI cZ cL ad S u2 hI hu2) ck_X5_requireRiddle w_436 hP 0 rfl rfl hl.1 rfl ⟨Nat.le_of_ble_eq_true rfl, Nat.le_of_ble_eq_true rfl⟩ (Nat.le_of_ble_eq_true rfl) dX5_price_7 ⟨Nat.le_of_ble_eq_true rfl, Nat.le_of_ble_eq_true rfl⟩) ?_
      refine lv_aload_n hx hb dX5_price_10 rfl (lv_at hl 0 rfl) ?_
      refine lv_aload_n hx hb dX5_price_11 rfl (lv_at hl 0 rfl) ?_
      refine q_get (v := .ref (ad 18)) hx hb hown hE inT_X5 hP 0 rfl rfl 4 (by decide) w_216 rfl dX5_price_12 ?_
      refine lv_iload_n hx hb dX5_price_15 rfl (lv_at hl 1 rfl) ?_
      refine lv_iload_n hx hb dX5_price_16 rfl (lv_at hl 2 rfl) ?_
      refine q_rd (q_runV (rest := []) hx hb hml hown hE (c_X5_openMinute_18 l D cI cZ cL ad S u1 u2 (by omega) (by omega)) ck_X5_openMinute w_497 hP 0 rfl rfl hl.1 rfl ⟨Nat.le_of_ble_eq_true rfl, Nat.le_of_ble_eq_true rfl⟩ (Nat.le_of_ble_eq_true rfl) dX5_price_17 ⟨Nat.le_of_ble_eq_true rfl, Nat.le_of_ble_eq_true rfl⟩) ?_
      refine lv_iconst (v := (-1)) hx hb dX5_price_20 (by decide) ?_
      refine lv_icmp_eq (tgt := 33) hx hb dX5_price_21 (by decide) (fun c_3 => ?_) (fun c_3 => ?_)
      · skip
        have e_3 := eq_true c_3
        simp [oPrice, o2, xI, xA, xS, xN, c_1, iu1, c_2, iu2, e_3] at hth
      · skip
        refine lv_aload_n hx hb dX5_price_24 rfl (lv_at hl 0 rfl) ?_
        refine lv_iload_n hx hb dX5_price_25 rfl (lv_at hl 1 rfl) ?_
        refine lv_iload_n hx hb dX5_price_26 rfl (lv_at hl 2 rfl) ?_
        refine q_rd (q_runV (rest := []) hx hb hml hown hE (c_X5_hasHintsLeft l D cI cZ cL ad S u1 u2 (by omega) (by omega)) ck_X5_hasHintsLeft w_536 hP 0 rfl rfl hl.1 rfl ⟨Nat.le_of_ble_eq_true rfl, Nat.le_of_ble_eq_true rfl⟩ (Nat.le_of_ble_eq_true rfl) dX5_price_27 ⟨Nat.le_of_ble_eq_true rfl, Nat.le_of_ble_eq_true rfl⟩) ?_
        refine lv_if_ne (tgt := 43) hx hb dX5_price_30 (by decide) (fun c_4 => ?_) (fun c_4 => ?_)
        · skip
          have c_4 : p_left S u1 u2 = true := b_t c_4
          refine lv_aload_n hx hb dX5_price_43 rfl (lv_at hl 0 rfl) ?_
          refine lv_iload_n hx hb dX5_price_44 rfl (lv_at hl 1 rfl) ?_
          refine lv_iload_n hx hb dX5_price_45 rfl (lv_at hl 2 rfl) ?_
          refine q_rd (q_runV (rest := []) hx hb hml hown hE (c_X5_nextPrice l D cI cZ cL ad S u1 u2 (by omega) (by omega)) ck_X5_nextPrice w_541 hP 0 rfl rfl hl.1 rfl ⟨Nat.le_of_ble_eq_true rfl, Nat.le_of_ble_eq_true rfl⟩ (Nat.le_of_ble_eq_true rfl) dX5_price_46 ⟨Nat.le_of_ble_eq_true rfl, Nat.le_of_ble_eq_true rfl⟩) ?_
          rw [show oPrice S (nI u1) (nI u2) = (none, p_price S u1 u2, S) from by first | (simp only [oPrice, o2, c_1, iu1, c_2, iu2, c_3, c_4, ↓reduceIte]; done) | (simp only [oPrice, o2, c_1, iu1, c_2, iu2, c_3, c_4, ↓reduceIte]; rfl) | (simp [oPrice, o2, c_1, iu1, c_2, iu2, c_3, c_4]; done) | (simp [oPrice, o2, c_1, iu1, c_2, iu2, c_3, c_4]; rfl)]
          exact e_ret hx hb hr hlk rfl dX5_price_49
        · skip
          have c_4 : p_left S u1 u2 = false := b_f c_4
          simp [oPrice, o2, xI, xA, xS, xN, c_1, iu1, c_2, iu2, c_3, c_4] at hth
    · skip
      simp [oPrice, o2, xI, xA, xS, xN, c_1, iu1, c_2] at hth
  · skip
    simp [oPrice, o2, xI, xA, xS, xN, c_1] at hth


set_option maxHeartbeats 4000000 in
set_option maxRecDepth 100000 in
theorem c_X5_price_T0 (l : Launch) (hfl : l.flags = flags0) (D : va_G) (cI cZ cL : ClassId) (ad : Nat → Nat) (S : Mem) (x1 : Int32) (x2 : Int32) (hI : I0 S) (hth : (oPrice S x1 x2).1 = some "java/lang/IndexOutOfBoundsException") : TH l D cI cZ cL yX5_price cX5_price 3 (some .int) 7 [.ref (ad 0), .int x1, .int x2] (wC ad cI S) "java/lang/IndexOutOfBoundsException" := by
  refine TH.of (by decide) (Nat.le_of_ble_eq_true rfl) ?_
  intro p e s m args below meth c ls hx hb hr hml hown hlk hxt hE hT hZ hP hl
  have hl : lv_has ls 3 [(0, .ref (ad 0)), (1, .int x1), (2, .int x2)] := hl
  have hT8 := hI.T8
  have hR16 := hI.R16
  have hN200 := hI.N200
  refine lv_aload_n hx hb dX5_price_0 rfl (lv_at hl 0 rfl) ?_
  refine lv_iload_n hx hb dX5_price_1 rfl (lv_at hl 1 rfl) ?_
  by_cases c_1 : okn x1 (cT S) = true
  · skip
    obtain ⟨u1, hu1, eu1⟩ := okn_t c_1
    subst eu1
    have iu1 : iN (nI u1) = u1 := iN_nI (by omega)
    refine q_rdv (q_runV (rest := []) hx hb hml hown hE (c_X5_requireTeam l D cI cZ cL ad S u1 hI hu1) ck_X5_requireTeam w_488 hP 0 rfl rfl hl.1 rfl ⟨Nat.le_of_ble_eq_true rfl, Nat.le_of_ble_eq_true rfl⟩ (Nat.le_of_ble_eq_true rfl) dX5_price_2 ⟨Nat.le_of_ble_eq_true rfl, Nat.le_of_ble_eq_true rfl⟩) ?_
    refine lv_aload_n hx hb dX5_price_5 rfl (lv_at hl 0 rfl) ?_
    refine lv_iload_n hx hb dX5_price_6 rfl (lv_at hl 2 rfl) ?_
    by_cases c_2 : okn x2 (cR S) = true
    · skip
      obtain ⟨u2, hu2, eu2⟩ := okn_t c_2
      subst eu2
      have iu2 : iN (nI u2) = u2 := iN_nI (by omega)
      refine q_rdv (q_runV (rest := []) hx hb hml hown hE (c_X5_requireRiddle l D cI cZ cL ad S u2 hI hu2) ck_X5_requireRiddle w_436 hP 0 rfl rfl hl.1 rfl ⟨Nat.le_of_ble_eq_true rfl, Nat.le_of_ble_eq_true rfl⟩ (Nat.le_of_ble_eq_true rfl) dX5_price_7 ⟨Nat.le_of_ble_eq_true rfl, Nat.le_of_ble_eq_true rfl⟩) ?_
      refine lv_aload_n hx hb dX5_price_10 rfl (lv_at hl 0 rfl) ?_
      refine lv_aload_n hx hb dX5_price_11 rfl (lv_at hl 0 rfl) ?_
      refine q_get (v := .ref (ad 18)) hx hb hown hE inT_X5 hP 0 rfl rfl 4 (by decide) w_216 rfl dX5_price_12 ?_
      refine lv_iload_n hx hb dX5_price_15 rfl (lv_at hl 1 rfl) ?_
      refine lv_iload_n hx hb dX5_price_16 rfl (lv_at hl 2 rfl) ?_
      refine q_rd (q_runV (rest := []) hx hb hml hown hE (c_X5_openMinute_18 l D cI cZ cL ad S u1 u2 (by omega) (by omega)) ck_X5_openMinute w_497 hP 0 rfl rfl hl.1 rfl ⟨Nat.le_of_ble_eq_true rfl, Nat.le_of_ble_eq_true rfl⟩ (Nat.le_of_ble_eq_true rfl) dX5_price_17 ⟨Nat.le_of_ble_eq_true rfl, Nat.le_of_ble_eq_true rfl⟩) ?_
      refine lv_iconst (v := (-1)) hx hb dX5_price_20 (by decide) ?_
      refine lv_icmp_eq (tgt := 33) hx hb dX5_price_21 (by decide) (fun c_3 => ?_) (fun c_3 => ?_)
      · skip
        have e_3 := eq_true c_3
        simp [oPrice, o2, xI, xA, xS, xN, c_1, iu1, c_2, iu2, e_3] at hth
      · skip
        refine lv_aload_n hx hb dX5_price_24 rfl (lv_at hl 0 rfl) ?_
        refine lv_iload_n hx hb dX5_price_25 rfl (lv_at hl 1 rfl) ?_
        refine lv_iload_n hx hb dX5_price_26 rfl (lv_at hl 2 rfl) ?_
        refine q_rd (q_runV (rest := []) hx hb hml hown hE (c_X5_hasHintsLeft l D cI cZ cL ad S u1 u2 (by omega) (by omega)) ck_X5_hasHintsLeft w_536 hP 0 rfl rfl hl.1 rfl ⟨Nat.le_of_ble_eq_true rfl, Nat.le_of_ble_eq_true rfl⟩ (Nat.le_of_ble_eq_true rfl) dX5_price_27 ⟨Nat.le_of_ble_eq_true rfl, Nat.le_of_ble_eq_true rfl⟩) ?_
        refine lv_if_ne (tgt := 43) hx hb dX5_price_30 (by decide) (fun c_4 => ?_) (fun c_4 => ?_)
        · skip
          have c_4 : p_left S u1 u2 = true := b_t c_4
          refine lv_aload_n hx hb dX5_price_43 rfl (lv_at hl 0 rfl) ?_
          refine lv_iload_n hx hb dX5_price_44 rfl (lv_at hl 1 rfl) ?_
          refine lv_iload_n hx hb dX5_price_45 rfl (lv_at hl 2 rfl) ?_
          refine q_rd (q_runV (rest := []) hx hb hml hown hE (c_X5_nextPrice l D cI cZ cL ad S u1 u2 (by omega) (by omega)) ck_X5_nextPrice w_541 hP 0 rfl rfl hl.1 rfl ⟨Nat.le_of_ble_eq_true rfl, Nat.le_of_ble_eq_true rfl⟩ (Nat.le_of_ble_eq_true rfl) dX5_price_46 ⟨Nat.le_of_ble_eq_true rfl, Nat.le_of_ble_eq_true rfl⟩) ?_
          simp [oPrice, o2, xI, xA, xS, xN, c_1, iu1, c_2, iu2, c_3, c_4] at hth
        · skip
          have c_4 : p_left S u1 u2 = false := b_f c_4
          simp [oPrice, o2, xI, xA, xS, xN, c_1, iu1, c_2, iu2, c_3, c_4] at hth
    · skip
      have c_2 := eq_false_of_ne_true c_2
      exact q_th (q_thV (n' := 2) (k' := 6) (y := yX5_requireRiddle) (rest := []) hx hb hml hown hE hT hZ (c_X5_requireRiddle_T l hfl D cI cZ cL ad S x2 hI c_2) ck_X5_requireRiddle w_436 hP 0 rfl rfl hl.1 rfl ⟨Nat.le_of_ble_eq_true rfl, Nat.le_of_ble_eq_true rfl⟩ (Nat.le_of_ble_eq_true rfl) dX5_price_7 ⟨Nat.le_of_ble_eq_true rfl, Nat.le_of_ble_eq_true rfl⟩) hlk hxt (Nat.le_refl _) (Nat.le_refl _) (fun t h1 h2 => ⟨rfl, h2⟩)
  · skip
    have c_1 := eq_false_of_ne_true c_1
    exact q_th (q_thV (n' := 2) (k' := 6) (y := yX5_requireTeam) (rest := []) hx hb hml hown hE hT hZ (c_X5_requireTeam_T l hfl D cI cZ cL ad S x1 hI c_1) ck_X5_requireTeam w_488 hP 0 rfl rfl hl.1 rfl ⟨Nat.le_of_ble_eq_true rfl, Nat.le_of_ble_eq_true rfl⟩ (Nat.le_of_ble_eq_true rfl) dX5_price_2 ⟨Nat.le_of_ble_eq_true rfl, Nat.le_of_ble_eq_true rfl⟩) hlk hxt (Nat.le_refl _) (Nat.le_refl _) (fun t h1 h2 => ⟨rfl, h2⟩)

theorem dX5_openedAt_0 : decode cX5_openedAt 0 = .ok (.aload_n 0, 1) := by decide +kernel
theorem dX5_openedAt_1 : decode cX5_openedAt 1 = .ok (.iload_n 1, 1) := by decide +kernel
theorem dX5_openedAt_2 : decode cX5_openedAt 2 = .ok (.invokevirtual 126, 3) := by decide +kernel
theorem dX5_openedAt_5 : decode cX5_openedAt 5 = .ok (.aload_n 0, 1) := by decide +kernel
theorem dX5_openedAt_6 : decode cX5_openedAt 6 = .ok (.iload_n 2, 1) := by decide +kernel
theorem dX5_openedAt_7 : decode cX5_openedAt 7 = .ok (.invokevirtual 85, 3) := by decide +kernel
theorem dX5_openedAt_10 : decode cX5_openedAt 10 = .ok (.aload_n 0, 1) := by decide +kernel
theorem dX5_openedAt_11 : decode cX5_openedAt 11 = .ok (.aload_n 0, 1) := by decide +kernel
theorem dX5_openedAt_12 : decode cX5_openedAt 12 = .ok (.getfield 40, 3) := by decide +kernel
theorem dX5_openedAt_15 : decode cX5_openedAt 15 = .ok (.iload_n 1, 1) := by decide +kernel
theorem dX5_openedAt_16 : decode cX5_openedAt 16 = .ok (.iload_n 2, 1) := by decide +kernel
theorem dX5_openedAt_17 : decode cX5_openedAt 17 = .ok (.invokevirtual 162, 3) := by decide +kernel
theorem dX5_openedAt_20 : decode cX5_openedAt 20 = .ok (.ireturn, 1) := by decide +kernel
set_option maxHeartbeats 4000000 in
set_option maxRecDepth 100000 in
theorem c_X5_openedAt (l : Launch) (D : va_G) (cI cZ cL : ClassId) (ad : Nat → Nat) (S : Mem) (x1 : Int32) (x2 : Int32) (hI : I0 S) (hth : (oOpened S x1 x2).1 = none) : RD l D cI cZ cL yX5_openedAt cX5_openedAt 3 (some .int) 7 [.ref (ad 0), .int x1, .int x2] (wC ad cI S) (some (.int ((oOpened S x1 x2).2.1))) := by
  refine RD.of (by decide) (Nat.le_of_ble_eq_true rfl) ?_
  intro p e s m args below meth c ls hx hb hr hml hown hlk hE hP hl
  have hl : lv_has ls 3 [(0, .ref (ad 0)), (1, .int x1), (2, .int x2)] := hl
  have hT8 := hI.T8
  have hR16 := hI.R16
  have hN200 := hI.N200
  refine lv_aload_n hx hb dX5_openedAt_0 rfl (lv_at hl 0 rfl) ?_
  refine lv_iload_n hx hb dX5_openedAt_1 rfl (lv_at hl 1 rfl) ?_
  by_cases c_1 : okn x1 (cT S) = true
  · skip
    obtain ⟨u1, hu1, eu1⟩ := okn_t c_1
    subst eu1
    have iu1 : iN (nI u1) = u1 := iN_nI (by omega)
    refine q_rdv (q_runV (rest := []) hx hb hml hown hE (c_X5_requireTeam l D cI cZ cL ad S u1 hI hu1) ck_X5_requireTeam w_488 hP 0 rfl rfl hl.1 rfl ⟨Nat.le_of_ble_eq_true rfl, Nat.le_of_ble_eq_true rfl⟩ (Nat.le_of_ble_eq_true rfl) dX5_openedAt_2 ⟨Nat.le_of_ble_eq_true rfl, Nat.le_of_ble_eq_true rfl⟩) ?_
    refine lv_aload_n hx hb dX5_openedAt_5 rfl (lv_at hl 0 rfl) ?_
    refine lv_iload_n hx hb dX5_openedAt_6 rfl (lv_at hl 2 rfl) ?_
    by_cases c_2 : okn x2 (cR S) = true
    · skip
      obtain ⟨u2, hu2, eu2⟩ := okn_t c_2
      subst eu2
      have iu2 : iN (nI u2) = u2 := iN_nI (by omega)
      refine q_rdv (q_runV (rest := []) hx hb hml hown hE (c_X5_requireRiddle l D cI cZ cL ad S u2 hI hu2) ck_X5_requireRiddle w_436 hP 0 rfl rfl hl.1 rfl ⟨Nat.le_of_ble_eq_true rfl, Nat.le_of_ble_eq_true rfl⟩ (Nat.le_of_ble_eq_true rfl) dX5_openedAt_7 ⟨Nat.le_of_ble_eq_true rfl, Nat.le_of_ble_eq_true rfl⟩) ?_
      refine lv_aload_n hx hb dX5_openedAt_10 rfl (lv_at hl 0 rfl) ?_
      refine lv_aload_n hx hb dX5_openedAt_11 rfl (lv_at hl 0 rfl) ?_
      refine q_get (v := .ref (ad 18)) hx hb hown hE inT_X5 hP 0 rfl rfl 4 (by decide) w_216 rfl dX5_openedAt_12 ?_
      refine lv_iload_n hx hb dX5_openedAt_15 rfl (lv_at hl 1 rfl) ?_
      refine lv_iload_n hx hb dX5_openedAt_16 rfl (lv_at hl 2 rfl) ?_
      refine q_rd (q_runV (rest := []) hx hb hml hown hE (c_X5_openMinute_18 l D cI cZ cL ad S u1 u2 (by omega) (by omega)) ck_X5_openMinute w_497 hP 0 rfl rfl hl.1 rfl ⟨Nat.le_of_ble_eq_true rfl, Nat.le_of_ble_eq_true rfl⟩ (Nat.le_of_ble_eq_true rfl) dX5_openedAt_17 ⟨Nat.le_of_ble_eq_true rfl, Nat.le_of_ble_eq_true rfl⟩) ?_
      rw [show oOpened S (nI u1) (nI u2) = (none, p_open S 18 u1 u2, S) from by first | (simp only [oOpened, o2, c_1, iu1, c_2, iu2, ↓reduceIte]; done) | (simp only [oOpened, o2, c_1, iu1, c_2, iu2, ↓reduceIte]; rfl) | (simp [oOpened, o2, c_1, iu1, c_2, iu2]; done) | (simp [oOpened, o2, c_1, iu1, c_2, iu2]; rfl)]
      exact e_ret hx hb hr hlk rfl dX5_openedAt_20
    · skip
      simp [oOpened, o2, xI, xA, xS, xN, c_1, iu1, c_2] at hth
  · skip
    simp [oOpened, o2, xI, xA, xS, xN, c_1] at hth


set_option maxHeartbeats 4000000 in
set_option maxRecDepth 100000 in
theorem c_X5_openedAt_T0 (l : Launch) (hfl : l.flags = flags0) (D : va_G) (cI cZ cL : ClassId) (ad : Nat → Nat) (S : Mem) (x1 : Int32) (x2 : Int32) (hI : I0 S) (hth : (oOpened S x1 x2).1 = some "java/lang/IndexOutOfBoundsException") : TH l D cI cZ cL yX5_openedAt cX5_openedAt 3 (some .int) 7 [.ref (ad 0), .int x1, .int x2] (wC ad cI S) "java/lang/IndexOutOfBoundsException" := by
  refine TH.of (by decide) (Nat.le_of_ble_eq_true rfl) ?_
  intro p e s m args below meth c ls hx hb hr hml hown hlk hxt hE hT hZ hP hl
  have hl : lv_has ls 3 [(0, .ref (ad 0)), (1, .int x1), (2, .int x2)] := hl
  have hT8 := hI.T8
  have hR16 := hI.R16
  have hN200 := hI.N200
  refine lv_aload_n hx hb dX5_openedAt_0 rfl (lv_at hl 0 rfl) ?_
  refine lv_iload_n hx hb dX5_openedAt_1 rfl (lv_at hl 1 rfl) ?_
  by_cases c_1 : okn x1 (cT S) = true
  · skip
    obtain ⟨u1, hu1, eu1⟩ := okn_t c_1
    subst eu1
    have iu1 : iN (nI u1) = u1 := iN_nI (by omega)
    refine q_rdv (q_runV (rest := []) hx hb hml hown hE (c_X5_requireTeam l D cI cZ cL ad S u1 hI hu1) ck_X5_requireTeam w_488 hP 0 rfl rfl hl.1 rfl ⟨Nat.le_of_ble_eq_true rfl, Nat.le_of_ble_eq_true rfl⟩ (Nat.le_of_ble_eq_true rfl) dX5_openedAt_2 ⟨Nat.le_of_ble_eq_true rfl, Nat.le_of_ble_eq_true rfl⟩) ?_
    refine lv_aload_n hx hb dX5_openedAt_5 rfl (lv_at hl 0 rfl) ?_
    refine lv_iload_n hx hb dX5_openedAt_6 rfl (lv_at hl 2 rfl) ?_
    by_cases c_2 : okn x2 (cR S) = true
    · skip
      obtain ⟨u2, hu2, eu2⟩ := okn_t c_2
      subst eu2
      have iu2 : iN (nI u2) = u2 := iN_nI (by omega)
      refine q_rdv (q_runV (rest := []) hx hb hml hown hE (c_X5_requireRiddle l D cI cZ cL ad S u2 hI hu2) ck_X5_requireRiddle w_436 hP 0 rfl rfl hl.1 rfl ⟨Nat.le_of_ble_eq_true rfl, Nat.le_of_ble_eq_true rfl⟩ (Nat.le_of_ble_eq_true rfl) dX5_openedAt_7 ⟨Nat.le_of_ble_eq_true rfl, Nat.le_of_ble_eq_true rfl⟩) ?_
      refine lv_aload_n hx hb dX5_openedAt_10 rfl (lv_at hl 0 rfl) ?_
      refine lv_aload_n hx hb dX5_openedAt_11 rfl (lv_at hl 0 rfl) ?_
      refine q_get (v := .ref (ad 18)) hx hb hown hE inT_X5 hP 0 rfl rfl 4 (by decide) w_216 rfl dX5_openedAt_12 ?_
      refine lv_iload_n hx hb dX5_openedAt_15 rfl (lv_at hl 1 rfl) ?_
      refine lv_iload_n hx hb dX5_openedAt_16 rfl (lv_at hl 2 rfl) ?_
      refine q_rd (q_runV (rest := []) hx hb hml hown hE (c_X5_openMinute_18 l D cI cZ cL ad S u1 u2 (by omega) (by omega)) ck_X5_openMinute w_497 hP 0 rfl rfl hl.1 rfl ⟨Nat.le_of_ble_eq_true rfl, Nat.le_of_ble_eq_true rfl⟩ (Nat.le_of_ble_eq_true rfl) dX5_openedAt_17 ⟨Nat.le_of_ble_eq_true rfl, Nat.le_of_ble_eq_true rfl⟩) ?_
      simp [oOpened, o2, xI, xA, xS, xN, c_1, iu1, c_2, iu2] at hth
    · skip
      have c_2 := eq_false_of_ne_true c_2
      exact q_th (q_thV (n' := 2) (k' := 6) (y := yX5_requireRiddle) (rest := []) hx hb hml hown hE hT hZ (c_X5_requireRiddle_T l hfl D cI cZ cL ad S x2 hI c_2) ck_X5_requireRiddle w_436 hP 0 rfl rfl hl.1 rfl ⟨Nat.le_of_ble_eq_true rfl, Nat.le_of_ble_eq_true rfl⟩ (Nat.le_of_ble_eq_true rfl) dX5_openedAt_7 ⟨Nat.le_of_ble_eq_true rfl, Nat.le_of_ble_eq_true rfl⟩) hlk hxt (Nat.le_refl _) (Nat.le_refl _) (fun t h1 h2 => ⟨rfl, h2⟩)
  · skip
    have c_1 := eq_false_of_ne_true c_1
    exact q_th (q_thV (n' := 2) (k' := 6) (y := yX5_requireTeam) (rest := []) hx hb hml hown hE hT hZ (c_X5_requireTeam_T l hfl D cI cZ cL ad S x1 hI c_1) ck_X5_requireTeam w_488 hP 0 rfl rfl hl.1 rfl ⟨Nat.le_of_ble_eq_true rfl, Nat.le_of_ble_eq_true rfl⟩ (Nat.le_of_ble_eq_true rfl) dX5_openedAt_2 ⟨Nat.le_of_ble_eq_true rfl, Nat.le_of_ble_eq_true rfl⟩) hlk hxt (Nat.le_refl _) (Nat.le_refl _) (fun t h1 h2 => ⟨rfl, h2⟩)

theorem dX5_solvedAt_0 : decode cX5_solvedAt 0 = .ok (.aload_n 0, 1) := by decide +kernel
theorem dX5_solvedAt_1 : decode cX5_solvedAt 1 = .ok (.iload_n 1, 1) := by decide +kernel
theorem dX5_solvedAt_2 : decode cX5_solvedAt 2 = .ok (.invokevirtual 126, 3) := by decide +kernel
theorem dX5_solvedAt_5 : decode cX5_solvedAt 5 = .ok (.aload_n 0, 1) := by decide +kernel
theorem dX5_solvedAt_6 : decode cX5_solvedAt 6 = .ok (.iload_n 2, 1) := by decide +kernel
theorem dX5_solvedAt_7 : decode cX5_solvedAt 7 = .ok (.invokevirtual 85, 3) := by decide +kernel
theorem dX5_solvedAt_10 : decode cX5_solvedAt 10 = .ok (.aload_n 0, 1) := by decide +kernel
theorem dX5_solvedAt_11 : decode cX5_solvedAt 11 = .ok (.getfield 40, 3) := by decide +kernel
theorem dX5_solvedAt_14 : decode cX5_solvedAt 14 = .ok (.getfield 171, 3) := by decide +kernel
theorem dX5_solvedAt_17 : decode cX5_solvedAt 17 = .ok (.iload_n 1, 1) := by decide +kernel
theorem dX5_solvedAt_18 : decode cX5_solvedAt 18 = .ok (.iaload, 1) := by decide +kernel
theorem dX5_solvedAt_19 : decode cX5_solvedAt 19 = .ok (.iload_n 2, 1) := by decide +kernel
theorem dX5_solvedAt_20 : decode cX5_solvedAt 20 = .ok (.invokestatic 97, 3) := by decide +kernel
theorem dX5_solvedAt_23 : decode cX5_solvedAt 23 = .ok (.ifCond .eq 19, 3) := by decide +kernel
theorem dX5_solvedAt_26 : decode cX5_solvedAt 26 = .ok (.aload_n 0, 1) := by decide +kernel
theorem dX5_solvedAt_27 : decode cX5_solvedAt 27 = .ok (.getfield 40, 3) := by decide +kernel
theorem dX5_solvedAt_30 : decode cX5_solvedAt 30 = .ok (.getfield 174, 3) := by decide +kernel
theorem dX5_solvedAt_33 : decode cX5_solvedAt 33 = .ok (.iload_n 1, 1) := by decide +kernel
theorem dX5_solvedAt_34 : decode cX5_solvedAt 34 = .ok (.iload_n 2, 1) := by decide +kernel
theorem dX5_solvedAt_35 : decode cX5_solvedAt 35 = .ok (.invokestatic 177, 3) := by decide +kernel
theorem dX5_solvedAt_38 : decode cX5_solvedAt 38 = .ok (.iaload, 1) := by decide +kernel
theorem dX5_solvedAt_39 : decode cX5_solvedAt 39 = .ok (.goto 4, 3) := by decide +kernel
theorem dX5_solvedAt_42 : decode cX5_solvedAt 42 = .ok (.iconst (-1), 1) := by decide +kernel
theorem dX5_solvedAt_43 : decode cX5_solvedAt 43 = .ok (.ireturn, 1) := by decide +kernel
set_option maxHeartbeats 4000000 in
set_option maxRecDepth 100000 in
theorem c_X5_solvedAt (l : Launch) (D : va_G) (cI cZ cL : ClassId) (ad : Nat → Nat) (S : Mem) (x1 : Int32) (x2 : Int32) (hI : I0 S) (hth : (oSolved S x1 x2).1 = none) : RD l D cI cZ cL yX5_solvedAt cX5_solvedAt 3 (some .int) 7 [.ref (ad 0), .int x1, .int x2] (wC ad cI S) (some (.int ((oSolved S x1 x2).2.1))) := by
  refine RD.of (by decide) (Nat.le_of_ble_eq_true rfl) ?_
  intro p e s m args below meth c ls hx hb hr hml hown hlk hE hP hl
  have hl : lv_has ls 3 [(0, .ref (ad 0)), (1, .int x1), (2, .int x2)] := hl
  have hT8 := hI.T8
  have hR16 := hI.R16
  have hN200 := hI.N200
  refine lv_aload_n hx hb dX5_solvedAt_0 rfl (lv_at hl 0 rfl) ?_
  refine lv_iload_n hx hb dX5_solvedAt_1 rfl (lv_at hl 1 rfl) ?_
  by_cases c_1 : okn x1 (cT S) = true
  · skip
    obtain ⟨u1, hu1, eu1⟩ := okn_t c_1
    subst eu1
    have iu1 : iN (nI u1) = u1 := iN_nI (by omega)
    refine q_rdv (q_runV (rest := []) hx hb hml hown hE (c_X5_requireTeam l D cI cZ cL ad S u1 hI hu1) ck_X5_requireTeam w_488 hP 0 rfl rfl hl.1 rfl ⟨Nat.le_of_ble_eq_true rfl, Nat.le_of_ble_eq_true rfl⟩ (Nat.le_of_ble_eq_true rfl) dX5_solvedAt_2 ⟨Nat.le_of_ble_eq_true rfl, Nat.le_of_ble_eq_true rfl⟩) ?_
    refine lv_aload_n hx hb dX5_solvedAt_5 rfl (lv_at hl 0 rfl) ?_
    refine lv_iload_n hx hb dX5_solvedAt_6 rfl (lv_at hl 2 rfl) ?_
    by_cases c_2 : okn x2 (cR S) = true
    · skip
      obtain ⟨u2, hu2, eu2⟩ := okn_t c_2
      subst eu2
      have iu2 : iN (nI u2) = u2 := iN_nI (by omega)
      refine q_rdv (q_runV (rest := []) hx hb hml hown hE (c_X5_requireRiddle l D cI cZ cL ad S u2 hI hu2) ck_X5_requireRiddle w_436 hP 0 rfl rfl hl.1 rfl ⟨Nat.le_of_ble_eq_true rfl, Nat.le_of_ble_eq_true rfl⟩ (Nat.le_of_ble_eq_true rfl) dX5_solvedAt_7 ⟨Nat.le_of_ble_eq_true rfl, Nat.le_of_ble_eq_true rfl⟩) ?_
      refine lv_aload_n hx hb dX5_solvedAt_10 rfl (lv_at hl 0 rfl) ?_
      refine q_get (v := .ref (ad 18)) hx hb hown hE inT_X5 hP 0 rfl rfl 4 (by decide) w_216 rfl dX5_solvedAt_11 ?_
      refine q_getN (v := .ref (ad 19)) hx hb hown hE inT_X2 hP 18 rfl rfl 0 (by decide) w_188 rfl dX5_solvedAt_14 ?_
      refine lv_iload_n hx hb dX5_solvedAt_17 rfl (lv_at hl 1 rfl) ?_
      refine q_iald (f := S 19) (i := u1) hx hb hE hP 19 rfl (by omega) (Nat.le_of_ble_eq_true rfl) dX5_solvedAt_18 ?_
      refine lv_iload_n hx hb dX5_solvedAt_19 rfl (lv_at hl 2 rfl) ?_
      refine q_rd (q_runS (rest := []) hx hb hml hown hE (c_X5_has l D cI cZ cL _ (S 19 u1) (nI u2)) ck_X5_has w_298 hP hl.1 rfl ⟨Nat.le_of_ble_eq_true rfl, Nat.le_of_ble_eq_true rfl⟩ (Nat.le_of_ble_eq_true rfl) dX5_solvedAt_20 ⟨Nat.le_of_ble_eq_true rfl, Nat.le_of_ble_eq_true rfl⟩) ?_
      refine lv_if_eq (tgt := 42) hx hb dX5_solvedAt_23 (by decide) (fun c_3 => ?_) (fun c_3 => ?_)
      · skip
        have c_3 : hs (S 19 u1) (nI u2) = false := b_f c_3
        refine lv_iconst (v := (-1)) hx hb dX5_solvedAt_42 (by decide) ?_
        rw [show oSolved S (nI u1) (nI u2) = (none, (-1), S) from by first | (simp only [oSolved, o2, c_1, iu1, c_2, iu2, c_3, ↓reduceIte]; done) | (simp only [oSolved, o2, c_1, iu1, c_2, iu2, c_3, ↓reduceIte]; rfl) | (simp [oSolved, o2, c_1, iu1, c_2, iu2, c_3]; done) | (simp [oSolved, o2, c_1, iu1, c_2, iu2, c_3]; rfl)]
        exact e_ret hx hb hr hlk rfl dX5_solvedAt_43
      · skip
        have c_3 : hs (S 19 u1) (nI u2) = true := b_t c_3
        refine lv_aload_n hx hb dX5_solvedAt_26 rfl (lv_at hl 0 rfl) ?_
        refine q_get (v := .ref (ad 18)) hx hb hown hE inT_X5 hP 0 rfl rfl 4 (by decide) w_216 rfl dX5_solvedAt_27 ?_
        refine q_getN (v := .ref (ad 21)) hx hb hown hE inT_X2 hP 18 rfl rfl 2 (by decide) w_192 rfl dX5_solvedAt_30 ?_
        refine lv_iload_n hx hb dX5_solvedAt_33 rfl (lv_at hl 1 rfl) ?_
        refine lv_iload_n hx hb dX5_solvedAt_34 rfl (lv_at hl 2 rfl) ?_
        refine q_rd (q_runS (rest := [.ref (ad 21)]) hx hb hml hown hE (c_X5_cell l D cI cZ cL _ u1 u2) ck_X5_cell w_299 hP hl.1 rfl ⟨Nat.le_of_ble_eq_true rfl, Nat.le_of_ble_eq_true rfl⟩ (Nat.le_of_ble_eq_true rfl) dX5_solvedAt_35 ⟨Nat.le_of_ble_eq_true rfl, Nat.le_of_ble_eq_true rfl⟩) ?_
        refine q_iald (f := S 21) (i := (u1 * 16 + u2)) hx hb hE hP 21 rfl (by omega) (Nat.le_of_ble_eq_true rfl) dX5_solvedAt_38 ?_
        refine lv_goto (tgt := 43) hx hb dX5_solvedAt_39 (by decide) ?_
        rw [show oSolved S (nI u1) (nI u2) = (none, S 21 (u1 * 16 + u2), S) from by first | (simp only [oSolved, o2, c_1, iu1, c_2, iu2, c_3, ↓reduceIte]; done) | (simp only [oSolved, o2, c_1, iu1, c_2, iu2, c_3, ↓reduceIte]; rfl) | (simp [oSolved, o2, c_1, iu1, c_2, iu2, c_3]; done) | (simp [oSolved, o2, c_1, iu1, c_2, iu2, c_3]; rfl)]
        exact e_ret hx hb hr hlk rfl dX5_solvedAt_43
    · skip
      simp [oSolved, o2, xI, xA, xS, xN, c_1, iu1, c_2] at hth
  · skip
    simp [oSolved, o2, xI, xA, xS, xN, c_1] at hth


set_option maxHeartbeats 4000000 in
set_option maxRecDepth 100000 in
theorem c_X5_solvedAt_T0 (l : Launch) (hfl : l.flags = flags0) (D : va_G) (cI cZ cL : ClassId) (ad : Nat → Nat) (S : Mem) (x1 : Int32) (x2 : Int32) (hI : I0 S) (hth : (oSolved S x1 x2).1 = some "java/lang/IndexOutOfBoundsException") : TH l D cI cZ cL yX5_solvedAt cX5_solvedAt 3 (some .int) 7 [.ref (ad 0), .int x1, .int x2] (wC ad cI S) "java/lang/IndexOutOfBoundsException" := by
  refine TH.of (by decide) (Nat.le_of_ble_eq_true rfl) ?_
  intro p e s m args below meth c ls hx hb hr hml hown hlk hxt hE hT hZ hP hl
  have hl : lv_has ls 3 [(0, .ref (ad 0)), (1, .int x1), (2, .int x2)] := hl
  have hT8 := hI.T8
  have hR16 := hI.R16
  have hN200 := hI.N200
  refine lv_aload_n hx hb dX5_solvedAt_0 rfl (lv_at hl 0 rfl) ?_
  refine lv_iload_n hx hb dX5_solvedAt_1 rfl (lv_at hl 1 rfl) ?_
  by_cases c_1 : okn x1 (cT S) = true
  · skip
    obtain ⟨u1, hu1, eu1⟩ := okn_t c_1
    subst eu1
    have iu1 : iN (nI u1) = u1 := iN_nI (by omega)
    refine q_rdv (q_runV (rest := []) hx hb hml hown hE (c_X5_requireTeam l D cI cZ cL ad S u1 hI hu1) ck_X5_requireTeam w_488 hP 0 rfl rfl hl.1 rfl ⟨Nat.le_of_ble_eq_true rfl, Nat.le_of_ble_eq_true rfl⟩ (Nat.le_of_ble_eq_true rfl) dX5_solvedAt_2 ⟨Nat.le_of_ble_eq_true rfl, Nat.le_of_ble_eq_true rfl⟩) ?_
    refine lv_aload_n hx hb dX5_solvedAt_5 rfl (lv_at hl 0 rfl) ?_
    refine lv_iload_n hx hb dX5_solvedAt_6 rfl (lv_at hl 2 rfl) ?_
    by_cases c_2 : okn x2 (cR S) = true
    · skip
      obtain ⟨u2, hu2, eu2⟩ := okn_t c_2
      subst eu2
      have iu2 : iN (nI u2) = u2 := iN_nI (by omega)
      refine q_rdv (q_runV (rest := []) hx hb hml hown hE (c_X5_requireRiddle l D cI cZ cL ad S u2 hI hu2) ck_X5_requireRiddle w_436 hP 0 rfl rfl hl.1 rfl ⟨Nat.le_of_ble_eq_true rfl, Nat.le_of_ble_eq_true rfl⟩ (Nat.le_of_ble_eq_true rfl) dX5_solvedAt_7 ⟨Nat.le_of_ble_eq_true rfl, Nat.le_of_ble_eq_true rfl⟩) ?_
      refine lv_aload_n hx hb dX5_solvedAt_10 rfl (lv_at hl 0 rfl) ?_
      refine q_get (v := .ref (ad 18)) hx hb hown hE inT_X5 hP 0 rfl rfl 4 (by decide) w_216 rfl dX5_solvedAt_11 ?_
      refine q_getN (v := .ref (ad 19)) hx hb hown hE inT_X2 hP 18 rfl rfl 0 (by decide) w_188 rfl dX5_solvedAt_14 ?_
      refine lv_iload_n hx hb dX5_solvedAt_17 rfl (lv_at hl 1 rfl) ?_
      refine q_iald (f := S 19) (i := u1) hx hb hE hP 19 rfl (by omega) (Nat.le_of_ble_eq_true rfl) dX5_solvedAt_18 ?_
      refine lv_iload_n hx hb dX5_solvedAt_19 rfl (lv_at hl 2 rfl) ?_
      refine q_rd (q_runS (rest := []) hx hb hml hown hE (c_X5_has l D cI cZ cL _ (S 19 u1) (nI u2)) ck_X5_has w_298 hP hl.1 rfl ⟨Nat.le_of_ble_eq_true rfl, Nat.le_of_ble_eq_true rfl⟩ (Nat.le_of_ble_eq_true rfl) dX5_solvedAt_20 ⟨Nat.le_of_ble_eq_true rfl, Nat.le_of_ble_eq_true rfl⟩) ?_
      refine lv_if_eq (tgt := 42) hx hb dX5_solvedAt_23 (by decide) (fun c_3 => ?_) (fun c_3 => ?_)
      · skip
        have c_3 : hs (S 19 u1) (nI u2) = false := b_f c_3
        refine lv_iconst (v := (-1)) hx hb dX5_solvedAt_42 (by decide) ?_
        simp [oSolved, o2, xI, xA, xS, xN, c_1, iu1, c_2, iu2, c_3] at hth
      · skip
        have c_3 : hs (S 19 u1) (nI u2) = true := b_t c_3
        refine lv_aload_n hx hb dX5_solvedAt_26 rfl (lv_at hl 0 rfl) ?_
        refine q_get (v := .ref (ad 18)) hx hb hown hE inT_X5 hP 0 rfl rfl 4 (by decide) w_216 rfl dX5_solvedAt_27 ?_
        refine q_getN (v := .ref (ad 21)) hx hb hown hE inT_X2 hP 18 rfl rfl 2 (by decide) w_192 rfl dX5_solvedAt_30 ?_
        refine lv_iload_n hx hb dX5_solvedAt_33 rfl (lv_at hl 1 rfl) ?_
        refine lv_iload_n hx hb dX5_solvedAt_34 rfl (lv_at hl 2 rfl) ?_
        refine q_rd (q_runS (rest := [.ref (ad 21)]) hx hb hml hown hE (c_X5_cell l D cI cZ cL _ u1 u2) ck_X5_cell w_299 hP hl.1 rfl ⟨Nat.le_of_ble_eq_true rfl, Nat.le_of_ble_eq_true rfl⟩ (Nat.le_of_ble_eq_true rfl) dX5_solvedAt_35 ⟨Nat.le_of_ble_eq_true rfl, Nat.le_of_ble_eq_true rfl⟩) ?_
        refine q_iald (f := S 21) (i := (u1 * 16 + u2)) hx hb hE hP 21 rfl (by omega) (Nat.le_of_ble_eq_true rfl) dX5_solvedAt_38 ?_
        refine lv_goto (tgt := 43) hx hb dX5_solvedAt_39 (by decide) ?_
        simp [oSolved, o2, xI, xA, xS, xN, c_1, iu1, c_2, iu2, c_3] at hth
    · skip
      have c_2 := eq_false_of_ne_true c_2
      exact q_th (q_thV (n' := 2) (k' := 6) (y := yX5_requireRiddle) (rest := []) hx hb hml hown hE hT hZ (c_X5_requireRiddle_T l hfl D cI cZ cL ad S x2 hI c_2) ck_X5_requireRiddle w_436 hP 0 rfl rfl hl.1 rfl ⟨Nat.le_of_ble_eq_true rfl, Nat.le_of_ble_eq_true rfl⟩ (Nat.le_of_ble_eq_true rfl) dX5_solvedAt_7 ⟨Nat.le_of_ble_eq_true rfl, Nat.le_of_ble_eq_true rfl⟩) hlk hxt (Nat.le_refl _) (Nat.le_refl _) (fun t h1 h2 => ⟨rfl, h2⟩)
  · skip
    have c_1 := eq_false_of_ne_true c_1
    exact q_th (q_thV (n' := 2) (k' := 6) (y := yX5_requireTeam) (rest := []) hx hb hml hown hE hT hZ (c_X5_requireTeam_T l hfl D cI cZ cL ad S x1 hI c_1) ck_X5_requireTeam w_488 hP 0 rfl rfl hl.1 rfl ⟨Nat.le_of_ble_eq_true rfl, Nat.le_of_ble_eq_true rfl⟩ (Nat.le_of_ble_eq_true rfl) dX5_solvedAt_2 ⟨Nat.le_of_ble_eq_true rfl, Nat.le_of_ble_eq_true rfl⟩) hlk hxt (Nat.le_refl _) (Nat.le_refl _) (fun t h1 h2 => ⟨rfl, h2⟩)

theorem dX5_clear_0 : decode cX5_clear 0 = .ok (.aload_n 0, 1) := by decide +kernel
theorem dX5_clear_1 : decode cX5_clear 1 = .ok (.iload_n 1, 1) := by decide +kernel
theorem dX5_clear_2 : decode cX5_clear 2 = .ok (.invokevirtual 126, 3) := by decide +kernel
theorem dX5_clear_5 : decode cX5_clear 5 = .ok (.aload_n 0, 1) := by decide +kernel
theorem dX5_clear_6 : decode cX5_clear 6 = .ok (.iload_n 2, 1) := by decide +kernel
theorem dX5_clear_7 : decode cX5_clear 7 = .ok (.invokevirtual 85, 3) := by decide +kernel
theorem dX5_clear_10 : decode cX5_clear 10 = .ok (.aload_n 0, 1) := by decide +kernel
theorem dX5_clear_11 : decode cX5_clear 11 = .ok (.getfield 40, 3) := by decide +kernel
theorem dX5_clear_14 : decode cX5_clear 14 = .ok (.getfield 180, 3) := by decide +kernel
theorem dX5_clear_17 : decode cX5_clear 17 = .ok (.iload_n 1, 1) := by decide +kernel
theorem dX5_clear_18 : decode cX5_clear 18 = .ok (.iaload, 1) := by decide +kernel
theorem dX5_clear_19 : decode cX5_clear 19 = .ok (.iload_n 2, 1) := by decide +kernel
theorem dX5_clear_20 : decode cX5_clear 20 = .ok (.invokestatic 97, 3) := by decide +kernel
theorem dX5_clear_23 : decode cX5_clear 23 = .ok (.ifCond .eq 19, 3) := by decide +kernel
theorem dX5_clear_26 : decode cX5_clear 26 = .ok (.aload_n 0, 1) := by decide +kernel
theorem dX5_clear_27 : decode cX5_clear 27 = .ok (.getfield 33, 3) := by decide +kernel
theorem dX5_clear_30 : decode cX5_clear 30 = .ok (.getfield 183, 3) := by decide +kernel
theorem dX5_clear_33 : decode cX5_clear 33 = .ok (.iload_n 1, 1) := by decide +kernel
theorem dX5_clear_34 : decode cX5_clear 34 = .ok (.iaload, 1) := by decide +kernel
theorem dX5_clear_35 : decode cX5_clear 35 = .ok (.iload_n 2, 1) := by decide +kernel
theorem dX5_clear_36 : decode cX5_clear 36 = .ok (.invokestatic 97, 3) := by decide +kernel
theorem dX5_clear_39 : decode cX5_clear 39 = .ok (.ifCond .eq 13, 3) := by decide +kernel
theorem dX5_clear_42 : decode cX5_clear 42 = .ok (.new 65, 3) := by decide +kernel
theorem dX5_clear_52 : decode cX5_clear 52 = .ok (.aload_n 0, 1) := by decide +kernel
theorem dX5_clear_53 : decode cX5_clear 53 = .ok (.getfield 33, 3) := by decide +kernel
theorem dX5_clear_56 : decode cX5_clear 56 = .ok (.getfield 183, 3) := by decide +kernel
theorem dX5_clear_59 : decode cX5_clear 59 = .ok (.iload_n 1, 1) := by decide +kernel
theorem dX5_clear_60 : decode cX5_clear 60 = .ok (.dup2, 1) := by decide +kernel
theorem dX5_clear_61 : decode cX5_clear 61 = .ok (.iaload, 1) := by decide +kernel
theorem dX5_clear_62 : decode cX5_clear 62 = .ok (.iload_n 2, 1) := by decide +kernel
theorem dX5_clear_63 : decode cX5_clear 63 = .ok (.invokestatic 106, 3) := by decide +kernel
theorem dX5_clear_66 : decode cX5_clear 66 = .ok (.ior, 1) := by decide +kernel
theorem dX5_clear_67 : decode cX5_clear 67 = .ok (.iastore, 1) := by decide +kernel
theorem dX5_clear_68 : decode cX5_clear 68 = .ok (.aload_n 0, 1) := by decide +kernel
theorem dX5_clear_69 : decode cX5_clear 69 = .ok (.aload_n 0, 1) := by decide +kernel
theorem dX5_clear_70 : decode cX5_clear 70 = .ok (.getfield 40, 3) := by decide +kernel
theorem dX5_clear_73 : decode cX5_clear 73 = .ok (.invokevirtual 122, 3) := by decide +kernel
theorem dX5_clear_76 : decode cX5_clear 76 = .ok (.iload_n 2, 1) := by decide +kernel
theorem dX5_clear_77 : decode cX5_clear 77 = .ok (.invokestatic 97, 3) := by decide +kernel
theorem dX5_clear_80 : decode cX5_clear 80 = .ok (.ireturn, 1) := by decide +kernel
set_option maxHeartbeats 4000000 in
set_option maxRecDepth 100000 in
theorem c_X5_clear (l : Launch) (D : va_G) (cI cZ cL : ClassId) (ad : Nat → Nat) (S : Mem) (A : Nat → Prop) (hD : va_D A (wC ad cI S)) (x1 : Int32) (x2 : Int32) (hI : I0 S) (hth : (oClear S x1 x2).1 = none) : WR l D cI cZ cL yX5_clear cX5_clear 3 (some .boolean) 7 [.ref (ad 0), .int x1, .int x2] A (wC ad cI S) (wC ad cI ((oClear S x1 x2).2.2)) (some (.int ((oClear S x1 x2).2.1))) := by
  refine WR.of (by decide) (Nat.le_of_ble_eq_true rfl) ?_
  intro p e s m args below meth c ls hx hb hr hml hown hlk hE hP hS hl
  have hl : lv_has ls 3 [(0, .ref (ad 0)), (1, .int x1), (2, .int x2)] := hl
  have hT8 := hI.T8
  have hR16 := hI.R16
  have hN200 := hI.N200
  refine lv_aload_n hx hb dX5_clear_0 rfl (lv_at hl 0 rfl) ?_
  refine lv_iload_n hx hb dX5_clear_1 rfl (lv_at hl 1 rfl) ?_
  by_cases c_1 : okn x1 (cT S) = true
  · skip
    obtain ⟨u1, hu1, eu1⟩ := okn_t c_1
    subst eu1
    have iu1 : iN (nI u1) = u1 := iN_nI (by omega)
    refine q_rdv (q_runV (rest := []) hx hb hml hown hE (c_X5_requireTeam l D cI cZ cL ad S u1 hI hu1) ck_X5_requireTeam w_488 hP 0 rfl rfl hl.1 rfl ⟨Nat.le_of_ble_eq_true rfl, Nat.le_of_ble_eq_true rfl⟩ (Nat.le_of_ble_eq_true rfl) dX5_clear_2 ⟨Nat.le_of_ble_eq_true rfl, Nat.le_of_ble_eq_true rfl⟩) ?_
    refine lv_aload_n hx hb dX5_clear_5 rfl (lv_at hl 0 rfl) ?_
    refine lv_iload_n hx hb dX5_clear_6 rfl (lv_at hl 2 rfl) ?_
    by_cases c_2 : okn x2 (cR S) = true
    · skip
      obtain ⟨u2, hu2, eu2⟩ := okn_t c_2
      subst eu2
      have iu2 : iN (nI u2) = u2 := iN_nI (by omega)
      refine q_rdv (q_runV (rest := []) hx hb hml hown hE (c_X5_requireRiddle l D cI cZ cL ad S u2 hI hu2) ck_X5_requireRiddle w_436 hP 0 rfl rfl hl.1 rfl ⟨Nat.le_of_ble_eq_true rfl, Nat.le_of_ble_eq_true rfl⟩ (Nat.le_of_ble_eq_true rfl) dX5_clear_7 ⟨Nat.le_of_ble_eq_true rfl, Nat.le_of_ble_eq_true rfl⟩) ?_
      refine lv_aload_n hx hb dX5_clear_10 rfl (lv_at hl 0 rfl) ?_
      refine q_get (v := .ref (ad 18)) hx hb hown hE inT_X5 hP 0 rfl rfl 4 (by decide) w_216 rfl dX5_clear_11 ?_
      refine q_getN (v := .ref (ad 20)) hx hb hown hE inT_X2 hP 18 rfl rfl 1 (by decide) w_190 rfl dX5_clear_14 ?_
      refine lv_iload_n hx hb dX5_clear_17 rfl (lv_at hl 1 rfl) ?_
      refine q_iald (f := S 20) (i := u1) hx hb hE hP 20 rfl (by omega) (Nat.le_of_ble_eq_true rfl) dX5_clear_18 ?_
      refine lv_iload_n hx hb dX5_clear_19 rfl (lv_at hl 2 rfl) ?_
      refine q_rd (q_runS (rest := []) hx hb hml hown hE (c_X5_has l D cI cZ cL _ (S 20 u1) (nI u2)) ck_X5_has w_298 hP hl.1 rfl ⟨Nat.le_of_ble_eq_true rfl, Nat.le_of_ble_eq_true rfl⟩ (Nat.le_of_ble_eq_true rfl) dX5_clear_20 ⟨Nat.le_of_ble_eq_true rfl, Nat.le_of_ble_eq_true rfl⟩) ?_
      refine lv_if_eq (tgt := 42) hx hb dX5_clear_23 (by decide) (fun c_3 => ?_) (fun c_3 => ?_)
      · skip
        have c_3 : hs (S 20 u1) (nI u2) = false := b_f c_3
        simp [oClear, o2, clrM, xI, xA, xS, xN, c_1, iu1, c_2, iu2, c_3] at hth
      · skip
        have c_3 : hs (S 20 u1) (nI u2) = true := b_t c_3
        refine lv_aload_n hx hb dX5_clear_26 rfl (lv_at hl 0 rfl) ?_
        refine q_get (v := .ref (ad 15)) hx hb hown hE inT_X5 hP 0 rfl rfl 3 (by decide) w_215 rfl dX5_clear_27 ?_
        refine q_getN (v := .ref (ad 16)) hx hb hown hE inT_X1 hP 15 rfl rfl 0 (by decide) w_170 rfl dX5_clear_30 ?_
        refine lv_iload_n hx hb dX5_clear_33 rfl (lv_at hl 1 rfl) ?_
        refine q_iald (f := S 16) (i := u1) hx hb hE hP 16 rfl (by omega) (Nat.le_of_ble_eq_true rfl) dX5_clear_34 ?_
        refine lv_iload_n hx hb dX5_clear_35 rfl (lv_at hl 2 rfl) ?_
        refine q_rd (q_runS (rest := []) hx hb hml hown hE (c_X5_has l D cI cZ cL _ (S 16 u1) (nI u2)) ck_X5_has w_298 hP hl.1 rfl ⟨Nat.le_of_ble_eq_true rfl, Nat.le_of_ble_eq_true rfl⟩ (Nat.le_of_ble_eq_true rfl) dX5_clear_36 ⟨Nat.le_of_ble_eq_true rfl, Nat.le_of_ble_eq_true rfl⟩) ?_
        refine lv_if_eq (tgt := 52) hx hb dX5_clear_39 (by decide) (fun c_4 => ?_) (fun c_4 => ?_)
        · skip
          have c_4 : hs (S 16 u1) (nI u2) = false := b_f c_4
          refine lv_aload_n hx hb dX5_clear_52 rfl (lv_at hl 0 rfl) ?_
          refine q_get (v := .ref (ad 15)) hx hb hown hE inT_X5 hP 0 rfl rfl 3 (by decide) w_215 rfl dX5_clear_53 ?_
          refine q_getN (v := .ref (ad 16)) hx hb hown hE inT_X1 hP 15 rfl rfl 0 (by decide) w_170 rfl dX5_clear_56 ?_
          refine lv_iload_n hx hb dX5_clear_59 rfl (lv_at hl 1 rfl) ?_
          refine lv_dup2_11 hx hb dX5_clear_60 rfl rfl ?_
          refine q_iald (f := S 16) (i := u1) hx hb hE hP 16 rfl (by omega) (Nat.le_of_ble_eq_true rfl) dX5_clear_61 ?_
          refine lv_iload_n hx hb dX5_clear_62 rfl (lv_at hl 2 rfl) ?_
          refine q_rd (q_runS (rest := [.int (S 16 u1), .int (nI u1), .ref (ad 16)]) hx hb hml hown hE (c_X5_bit l D cI cZ cL _ (nI u2)) ck_X5_bit w_458 hP hl.1 rfl ⟨Nat.le_of_ble_eq_true rfl, Nat.le_of_ble_eq_true rfl⟩ (Nat.le_of_ble_eq_true rfl) dX5_clear_63 ⟨Nat.le_of_ble_eq_true rfl, Nat.le_of_ble_eq_true rfl⟩) ?_
          refine lv_ior hx hb dX5_clear_66 ?_
          refine q_iast (f := S 16) (i := u1) (x := (S 16 u1) ||| (bt (nI u2))) (ws' := (wC ad cI (st S 16 u1 ((S 16 u1) ||| (bt (nI u2)))))) hx hb hE hP (wC_D hD) hS 16 rfl (by omega) (Nat.le_of_ble_eq_true rfl) (wC_st_16) dX5_clear_67 (fun H locs hP hS => ?_)
          have hI_e : I0 (st S 16 u1 ((S 16 u1) ||| (bt (nI u2)))) := I0_2 (by omega) hI
          refine lv_aload_n hx hb dX5_clear_68 rfl (lv_at hl 0 rfl) ?_
          refine lv_aload_n hx hb dX5_clear_69 rfl (lv_at hl 0 rfl) ?_
          refine q_get (v := .ref (ad 18)) hx hb hown hE inT_X5 hP 0 rfl rfl 4 (by decide) w_216 rfl dX5_clear_70 ?_
          refine q_rd (q_runV (rest := []) hx hb hml hown hE (c_X5_freeSet_18 l D cI cZ cL ad (st S 16 u1 ((S 16 u1) ||| (bt (nI u2)))) hI_e) ck_X5_freeSet w_290 hP 0 rfl rfl hl.1 rfl ⟨Nat.le_of_ble_eq_true rfl, Nat.le_of_ble_eq_true rfl⟩ (Nat.le_of_ble_eq_true rfl) dX5_clear_73 ⟨Nat.le_of_ble_eq_true rfl, Nat.le_of_ble_eq_true rfl⟩) ?_
          refine lv_iload_n hx hb dX5_clear_76 rfl (lv_at hl 2 rfl) ?_
          refine q_rd (q_runS (rest := []) hx hb hml hown hE (c_X5_has l D cI cZ cL _ (p_free (st S 16 u1 ((S 16 u1) ||| (bt (nI u2)))) 18 (cT (st S 16 u1 ((S 16 u1) ||| (bt (nI u2)))))) (nI u2)) ck_X5_has w_298 hP hl.1 rfl ⟨Nat.le_of_ble_eq_true rfl, Nat.le_of_ble_eq_true rfl⟩ (Nat.le_of_ble_eq_true rfl) dX5_clear_77 ⟨Nat.le_of_ble_eq_true rfl, Nat.le_of_ble_eq_true rfl⟩) ?_
          rw [show oClear S (nI u1) (nI u2) = (none, bI (hs (p_free (st S 16 u1 ((S 16 u1) ||| (bt (nI u2)))) 18 (cT (st S 16 u1 ((S 16 u1) ||| (bt (nI u2)))))) (nI u2)), st S 16 u1 ((S 16 u1) ||| (bt (nI u2)))) from by first | (simp only [oClear, o2, clrM, c_1, iu1, c_2, iu2, c_3, c_4, ↓reduceIte]; done) | (simp only [oClear, o2, clrM, c_1, iu1, c_2, iu2, c_3, c_4, ↓reduceIte]; rfl) | (simp [oClear, o2, clrM, c_1, iu1, c_2, iu2, c_3, c_4]; done) | (simp [oClear, o2, clrM, c_1, iu1, c_2, iu2, c_3, c_4]; rfl)]
          exact e_wret hx hb hr hlk (n_bI _) hP hS dX5_clear_80
        · skip
          have c_4 : hs (S 16 u1) (nI u2) = true := b_t c_4
          simp [oClear, o2, clrM, xI, xA, xS, xN, c_1, iu1, c_2, iu2, c_3, c_4] at hth
    · skip
      simp [oClear, o2, clrM, xI, xA, xS, xN, c_1, iu1, c_2] at hth
  · skip
    simp [oClear, o2, clrM, xI, xA, xS, xN, c_1] at hth


set_option maxHeartbeats 4000000 in
set_option maxRecDepth 100000 in
theorem c_X5_clear_T0 (l : Launch) (hfl : l.flags = flags0) (D : va_G) (cI cZ cL : ClassId) (ad : Nat → Nat) (S : Mem) (x1 : Int32) (x2 : Int32) (hI : I0 S) (hth : (oClear S x1 x2).1 = some "java/lang/IndexOutOfBoundsException") : TH l D cI cZ cL yX5_clear cX5_clear 3 (some .boolean) 7 [.ref (ad 0), .int x1, .int x2] (wC ad cI S) "java/lang/IndexOutOfBoundsException" := by
  refine TH.of (by decide) (Nat.le_of_ble_eq_true rfl) ?_
  intro p e s m args below meth c ls hx hb hr hml hown hlk hxt hE hT hZ hP hl
  have hl : lv_has ls 3 [(0, .ref (ad 0)), (1, .int x1), (2, .int x2)] := hl
  have hT8 := hI.T8
  have hR16 := hI.R16
  have hN200 := hI.N200
  refine lv_aload_n hx hb dX5_clear_0 rfl (lv_at hl 0 rfl) ?_
  refine lv_iload_n hx hb dX5_clear_1 rfl (lv_at hl 1 rfl) ?_
  by_cases c_1 : okn x1 (cT S) = true
  · skip
    obtain ⟨u1, hu1, eu1⟩ := okn_t c_1
    subst eu1
    have iu1 : iN (nI u1) = u1 := iN_nI (by omega)
    refine q_rdv (q_runV (rest := []) hx hb hml hown hE (c_X5_requireTeam l D cI cZ cL ad S u1 hI hu1) ck_X5_requireTeam w_488 hP 0 rfl rfl hl.1 rfl ⟨Nat.le_of_ble_eq_true rfl, Nat.le_of_ble_eq_true rfl⟩ (Nat.le_of_ble_eq_true rfl) dX5_clear_2 ⟨Nat.le_of_ble_eq_true rfl, Nat.le_of_ble_eq_true rfl⟩) ?_
    refine lv_aload_n hx hb dX5_clear_5 rfl (lv_at hl 0 rfl) ?_
    refine lv_iload_n hx hb dX5_clear_6 rfl (lv_at hl 2 rfl) ?_
    by_cases c_2 : okn x2 (cR S) = true
    · skip
      obtain ⟨u2, hu2, eu2⟩ := okn_t c_2
      subst eu2
      have iu2 : iN (nI u2) = u2 := iN_nI (by omega)
      refine q_rdv (q_runV (rest := []) hx hb hml hown hE (c_X5_requireRiddle l D cI cZ cL ad S u2 hI hu2) ck_X5_requireRiddle w_436 hP 0 rfl rfl hl.1 rfl ⟨Nat.le_of_ble_eq_true rfl, Nat.le_of_ble_eq_true rfl⟩ (Nat.le_of_ble_eq_true rfl) dX5_clear_7 ⟨Nat.le_of_ble_eq_true rfl, Nat.le_of_ble_eq_true rfl⟩) ?_
      refine lv_aload_n hx hb dX5_clear_10 rfl (lv_at hl 0 rfl) ?_
      refine q_get (v := .ref (ad 18)) hx hb hown hE inT_X5 hP 0 rfl rfl 4 (by decide) w_216 rfl dX5_clear_11 ?_
      refine q_getN (v := .ref (ad 20)) hx hb hown hE inT_X2 hP 18 rfl rfl 1 (by decide) w_190 rfl dX5_clear_14 ?_
      refine lv_iload_n hx hb dX5_clear_17 rfl (lv_at hl 1 rfl) ?_
      refine q_iald (f := S 20) (i := u1) hx hb hE hP 20 rfl (by omega) (Nat.le_of_ble_eq_true rfl) dX5_clear_18 ?_
      refine lv_iload_n hx hb dX5_clear_19 rfl (lv_at hl 2 rfl) ?_
      refine q_rd (q_runS (rest := []) hx hb hml hown hE (c_X5_has l D cI cZ cL _ (S 20 u1) (nI u2)) ck_X5_has w_298 hP hl.1 rfl ⟨Nat.le_of_ble_eq_true rfl, Nat.le_of_ble_eq_true rfl⟩ (Nat.le_of_ble_eq_true rfl) dX5_clear_20 ⟨Nat.le_of_ble_eq_true rfl, Nat.le_of_ble_eq_true rfl⟩) ?_
      refine lv_if_eq (tgt := 42) hx hb dX5_clear_23 (by decide) (fun c_3 => ?_) (fun c_3 => ?_)
      · skip
        have c_3 : hs (S 20 u1) (nI u2) = false := b_f c_3
        simp [oClear, o2, clrM, xI, xA, xS, xN, c_1, iu1, c_2, iu2, c_3] at hth
      · skip
        have c_3 : hs (S 20 u1) (nI u2) = true := b_t c_3
        refine lv_aload_n hx hb dX5_clear_26 rfl (lv_at hl 0 rfl) ?_
        refine q_get (v := .ref (ad 15)) hx hb hown hE inT_X5 hP 0 rfl rfl 3 (by decide) w_215 rfl dX5_clear_27 ?_
        refine q_getN (v := .ref (ad 16)) hx hb hown hE inT_X1 hP 15 rfl rfl 0 (by decide) w_170 rfl dX5_clear_30 ?_
        refine lv_iload_n hx hb dX5_clear_33 rfl (lv_at hl 1 rfl) ?_
        refine q_iald (f := S 16) (i := u1) hx hb hE hP 16 rfl (by omega) (Nat.le_of_ble_eq_true rfl) dX5_clear_34 ?_
        refine lv_iload_n hx hb dX5_clear_35 rfl (lv_at hl 2 rfl) ?_
        refine q_rd (q_runS (rest := []) hx hb hml hown hE (c_X5_has l D cI cZ cL _ (S 16 u1) (nI u2)) ck_X5_has w_298 hP hl.1 rfl ⟨Nat.le_of_ble_eq_true rfl, Nat.le_of_ble_eq_true rfl⟩ (Nat.le_of_ble_eq_true rfl) dX5_clear_36 ⟨Nat.le_of_ble_eq_true rfl, Nat.le_of_ble_eq_true rfl⟩) ?_
        refine lv_if_eq (tgt := 52) hx hb dX5_clear_39 (by decide) (fun c_4 => ?_) (fun c_4 => ?_)
        · skip
          have c_4 : hs (S 16 u1) (nI u2) = false := b_f c_4
          refine lv_aload_n hx hb dX5_clear_52 rfl (lv_at hl 0 rfl) ?_
          refine q_get (v := .ref (ad 15)) hx hb hown hE inT_X5 hP 0 rfl rfl 3 (by decide) w_215 rfl dX5_clear_53 ?_
          refine q_getN (v := .ref (ad 16)) hx hb hown hE inT_X1 hP 15 rfl rfl 0 (by decide) w_170 rfl dX5_clear_56 ?_
          refine lv_iload_n hx hb dX5_clear_59 rfl (lv_at hl 1 rfl) ?_
          refine lv_dup2_11 hx hb dX5_clear_60 rfl rfl ?_
          refine q_iald (f := S 16) (i := u1) hx hb hE hP 16 rfl (by omega) (Nat.le_of_ble_eq_true rfl) dX5_clear_61 ?_
          refine lv_iload_n hx hb dX5_clear_62 rfl (lv_at hl 2 rfl) ?_
          refine q_rd (q_runS (rest := [.int (S 16 u1), .int (nI u1), .ref (ad 16)]) hx hb hml hown hE (c_X5_bit l D cI cZ cL _ (nI u2)) ck_X5_bit w_458 hP hl.1 rfl ⟨Nat.le_of_ble_eq_true rfl, Nat.le_of_ble_eq_true rfl⟩ (Nat.le_of_ble_eq_true rfl) dX5_clear_63 ⟨Nat.le_of_ble_eq_true rfl, Nat.le_of_ble_eq_true rfl⟩) ?_
          refine lv_ior hx hb dX5_clear_66 ?_
          simp [oClear, o2, clrM, xI, xA, xS, xN, c_1, iu1, c_2, iu2, c_3, c_4] at hth
        · skip
          have c_4 : hs (S 16 u1) (nI u2) = true := b_t c_4
          simp [oClear, o2, clrM, xI, xA, xS, xN, c_1, iu1, c_2, iu2, c_3, c_4] at hth
    · skip
      have c_2 := eq_false_of_ne_true c_2
      exact q_th (q_thV (n' := 2) (k' := 6) (y := yX5_requireRiddle) (rest := []) hx hb hml hown hE hT hZ (c_X5_requireRiddle_T l hfl D cI cZ cL ad S x2 hI c_2) ck_X5_requireRiddle w_436 hP 0 rfl rfl hl.1 rfl ⟨Nat.le_of_ble_eq_true rfl, Nat.le_of_ble_eq_true rfl⟩ (Nat.le_of_ble_eq_true rfl) dX5_clear_7 ⟨Nat.le_of_ble_eq_true rfl, Nat.le_of_ble_eq_true rfl⟩) hlk hxt (Nat.le_refl _) (Nat.le_refl _) (fun t h1 h2 => ⟨rfl, h2⟩)
  · skip
    have c_1 := eq_false_of_ne_true c_1
    exact q_th (q_thV (n' := 2) (k' := 6) (y := yX5_requireTeam) (rest := []) hx hb hml hown hE hT hZ (c_X5_requireTeam_T l hfl D cI cZ cL ad S x1 hI c_1) ck_X5_requireTeam w_488 hP 0 rfl rfl hl.1 rfl ⟨Nat.le_of_ble_eq_true rfl, Nat.le_of_ble_eq_true rfl⟩ (Nat.le_of_ble_eq_true rfl) dX5_clear_2 ⟨Nat.le_of_ble_eq_true rfl, Nat.le_of_ble_eq_true rfl⟩) hlk hxt (Nat.le_refl _) (Nat.le_refl _) (fun t h1 h2 => ⟨rfl, h2⟩)

theorem dX5_clear_45 : decode cX5_clear 45 = .ok (.dup, 1) := by decide +kernel
theorem dX5_clear_46 : decode cX5_clear 46 = .ok (.ldc 186, 2) := by decide +kernel
theorem dX5_clear_48 : decode cX5_clear 48 = .ok (.invokespecial 69, 3) := by decide +kernel
theorem dX5_clear_51 : decode cX5_clear 51 = .ok (.athrow, 1) := by decide +kernel
set_option maxHeartbeats 4000000 in
set_option maxRecDepth 100000 in
theorem c_X5_clear_T1 (l : Launch) (hfl : l.flags = flags0) (D : va_G) (cI cZ cL : ClassId) (ad : Nat → Nat) (S : Mem) (x1 : Int32) (x2 : Int32) (hI : I0 S) (hth : (oClear S x1 x2).1 = some "java/lang/IllegalStateException") : TH l D cI cZ cL yX5_clear cX5_clear 3 (some .boolean) 7 [.ref (ad 0), .int x1, .int x2] (wC ad cI S) "java/lang/IllegalStateException" := by
  refine TH.of (by decide) (Nat.le_of_ble_eq_true rfl) ?_
  intro p e s m args below meth c ls hx hb hr hml hown hlk hxt hE hT hZ hP hl
  have hl : lv_has ls 3 [(0, .ref (ad 0)), (1, .int x1), (2, .int x2)] := hl
  have hT8 := hI.T8
  have hR16 := hI.R16
  have hN200 := hI.N200
  refine lv_aload_n hx hb dX5_clear_0 rfl (lv_at hl 0 rfl) ?_
  refine lv_iload_n hx hb dX5_clear_1 rfl (lv_at hl 1 rfl) ?_
  by_cases c_1 : okn x1 (cT S) = true
  · skip
    obtain ⟨u1, hu1, eu1⟩ := okn_t c_1
    subst eu1
    have iu1 : iN (nI u1) = u1 := iN_nI (by omega)
    refine q_rdv (q_runV (rest := []) hx hb hml hown hE (c_X5_requireTeam l D cI cZ cL ad S u1 hI hu1) ck_X5_requireTeam w_488 hP 0 rfl rfl hl.1 rfl ⟨Nat.le_of_ble_eq_true rfl, Nat.le_of_ble_eq_true rfl⟩ (Nat.le_of_ble_eq_true rfl) dX5_clear_2 ⟨Nat.le_of_ble_eq_true rfl, Nat.le_of_ble_eq_true rfl⟩) ?_
    refine lv_aload_n hx hb dX5_clear_5 rfl (lv_at hl 0 rfl) ?_
    refine lv_iload_n hx hb dX5_clear_6 rfl (lv_at hl 2 rfl) ?_
    by_cases c_2 : okn x2 (cR S) = true
    · skip
      obtain ⟨u2, hu2, eu2⟩ := okn_t c_2
      subst eu2
      have iu2 : iN (nI u2) = u2 := iN_nI (by omega)
      refine q_rdv (q_runV (rest := []) hx hb hml hown hE (c_X5_requireRiddle l D cI cZ cL ad S u2 hI hu2) ck_X5_requireRiddle w_436 hP 0 rfl rfl hl.1 rfl ⟨Nat.le_of_ble_eq_true rfl, Nat.le_of_ble_eq_true rfl⟩ (Nat.le_of_ble_eq_true rfl) dX5_clear_7 ⟨Nat.le_of_ble_eq_true rfl, Nat.le_of_ble_eq_true rfl⟩) ?_
      refine lv_aload_n hx hb dX5_clear_10 rfl (lv_at hl 0 rfl) ?_
      refine q_get (v := .ref (ad 18)) hx hb hown hE inT_X5 hP 0 rfl rfl 4 (by decide) w_216 rfl dX5_clear_11 ?_
      refine q_getN (v := .ref (ad 20)) hx hb hown hE inT_X2 hP 18 rfl rfl 1 (by decide) w_190 rfl dX5_clear_14 ?_
      refine lv_iload_n hx hb dX5_clear_17 rfl (lv_at hl 1 rfl) ?_
      refine q_iald (f := S 20) (i := u1) hx hb hE hP 20 rfl (by omega) (Nat.le_of_ble_eq_true rfl) dX5_clear_18 ?_
      refine lv_iload_n hx hb dX5_clear_19 rfl (lv_at hl 2 rfl) ?_
      refine q_rd (q_runS (rest := []) hx hb hml hown hE (c_X5_has l D cI cZ cL _ (S 20 u1) (nI u2)) ck_X5_has w_298 hP hl.1 rfl ⟨Nat.le_of_ble_eq_true rfl, Nat.le_of_ble_eq_true rfl⟩ (Nat.le_of_ble_eq_true rfl) dX5_clear_20 ⟨Nat.le_of_ble_eq_true rfl, Nat.le_of_ble_eq_true rfl⟩) ?_
      refine lv_if_eq (tgt := 42) hx hb dX5_clear_23 (by decide) (fun c_3 => ?_) (fun c_3 => ?_)
      · skip
        have c_3 : hs (S 20 u1) (nI u2) = false := b_f c_3
        obtain ⟨sa, hsa⟩ := hT "PuzzleRegistry" 186 "there is nothing to clear the team of" (List.mem_of_getElem? (i := 496) (by decide +kernel))
        exact vx_throwS (rest := []) (A := q_no) (names := tw_names) hx hb (q_flags hfl) hown rfl tw_names_ok (hE.1 _ w_400 args) (hE.1 _ w_72 args) hsa (fun w h => hE.1 w (tw_X5_65_69 w h) args) tw_X5_65_69_g hZ.1 hZ.2 va_S.rf (hl.1.trans hml.symm) dX5_clear_42 dX5_clear_45 dX5_clear_46 dX5_clear_48 dX5_clear_51 (fun x hx => (hxt x hx).elim) (Nat.le_of_ble_eq_true rfl) (Nat.le_of_ble_eq_true rfl) (Nat.le_of_ble_eq_true rfl) (Nat.le_of_ble_eq_true rfl) hlk (fun t h1 h2 h3 => ⟨rfl, h2, fun q h4 _ => h3 q h4⟩) (fun _ h => nomatch h) (Nat.le_refl _) (Nat.le_refl _)
      · skip
        have c_3 : hs (S 20 u1) (nI u2) = true := b_t c_3
        refine lv_aload_n hx hb dX5_clear_26 rfl (lv_at hl 0 rfl) ?_
        refine q_get (v := .ref (ad 15)) hx hb hown hE inT_X5 hP 0 rfl rfl 3 (by decide) w_215 rfl dX5_clear_27 ?_
        refine q_getN (v := .ref (ad 16)) hx hb hown hE inT_X1 hP 15 rfl rfl 0 (by decide) w_170 rfl dX5_clear_30 ?_
        refine lv_iload_n hx hb dX5_clear_33 rfl (lv_at hl 1 rfl) ?_
        refine q_iald (f := S 16) (i := u1) hx hb hE hP 16 rfl (by omega) (Nat.le_of_ble_eq_true rfl) dX5_clear_34 ?_
        refine lv_iload_n hx hb dX5_clear_35 rfl (lv_at hl 2 rfl) ?_
        refine q_rd (q_runS (rest := []) hx hb hml hown hE (c_X5_has l D cI cZ cL _ (S 16 u1) (nI u2)) ck_X5_has w_298 hP hl.1 rfl ⟨Nat.le_of_ble_eq_true rfl, Nat.le_of_ble_eq_true rfl⟩ (Nat.le_of_ble_eq_true rfl) dX5_clear_36 ⟨Nat.le_of_ble_eq_true rfl, Nat.le_of_ble_eq_true rfl⟩) ?_
        refine lv_if_eq (tgt := 52) hx hb dX5_clear_39 (by decide) (fun c_4 => ?_) (fun c_4 => ?_)
        · skip
          have c_4 : hs (S 16 u1) (nI u2) = false := b_f c_4
          refine lv_aload_n hx hb dX5_clear_52 rfl (lv_at hl 0 rfl) ?_
          refine q_get (v := .ref (ad 15)) hx hb hown hE inT_X5 hP 0 rfl rfl 3 (by decide) w_215 rfl dX5_clear_53 ?_
          refine q_getN (v := .ref (ad 16)) hx hb hown hE inT_X1 hP 15 rfl rfl 0 (by decide) w_170 rfl dX5_clear_56 ?_
          refine lv_iload_n hx hb dX5_clear_59 rfl (lv_at hl 1 rfl) ?_
          refine lv_dup2_11 hx hb dX5_clear_60 rfl rfl ?_
          refine q_iald (f := S 16) (i := u1) hx hb hE hP 16 rfl (by omega) (Nat.le_of_ble_eq_true rfl) dX5_clear_61 ?_
          refine lv_iload_n hx hb dX5_clear_62 rfl (lv_at hl 2 rfl) ?_
          refine q_rd (q_runS (rest := [.int (S 16 u1), .int (nI u1), .ref (ad 16)]) hx hb hml hown hE (c_X5_bit l D cI cZ cL _ (nI u2)) ck_X5_bit w_458 hP hl.1 rfl ⟨Nat.le_of_ble_eq_true rfl, Nat.le_of_ble_eq_true rfl⟩ (Nat.le_of_ble_eq_true rfl) dX5_clear_63 ⟨Nat.le_of_ble_eq_true rfl, Nat.le_of_ble_eq_true rfl⟩) ?_
          refine lv_ior hx hb dX5_clear_66 ?_
          simp [oClear, o2, clrM, xI, xA, xS, xN, c_1, iu1, c_2, iu2, c_3, c_4] at hth
        · skip
          have c_4 : hs (S 16 u1) (nI u2) = true := b_t c_4
          obtain ⟨sa, hsa⟩ := hT "PuzzleRegistry" 186 "there is nothing to clear the team of" (List.mem_of_getElem? (i := 496) (by decide +kernel))
          exact vx_throwS (rest := []) (A := q_no) (names := tw_names) hx hb (q_flags hfl) hown rfl tw_names_ok (hE.1 _ w_400 args) (hE.1 _ w_72 args) hsa (fun w h => hE.1 w (tw_X5_65_69 w h) args) tw_X5_65_69_g hZ.1 hZ.2 va_S.rf (hl.1.trans hml.symm) dX5_clear_42 dX5_clear_45 dX5_clear_46 dX5_clear_48 dX5_clear_51 (fun x hx => (hxt x hx).elim) (Nat.le_of_ble_eq_true rfl) (Nat.le_of_ble_eq_true rfl) (Nat.le_of_ble_eq_true rfl) (Nat.le_of_ble_eq_true rfl) hlk (fun t h1 h2 h3 => ⟨rfl, h2, fun q h4 _ => h3 q h4⟩) (fun _ h => nomatch h) (Nat.le_refl _) (Nat.le_refl _)
    · skip
      simp [oClear, o2, clrM, xI, xA, xS, xN, c_1, iu1, c_2] at hth
  · skip
    simp [oClear, o2, clrM, xI, xA, xS, xN, c_1] at hth

theorem dX5_pardon_0 : decode cX5_pardon 0 = .ok (.aload_n 0, 1) := by decide +kernel
theorem dX5_pardon_1 : decode cX5_pardon 1 = .ok (.iload_n 1, 1) := by decide +kernel
theorem dX5_pardon_2 : decode cX5_pardon 2 = .ok (.invokevirtual 126, 3) := by decide +kernel
theorem dX5_pardon_5 : decode cX5_pardon 5 = .ok (.aload_n 0, 1) := by decide +kernel
theorem dX5_pardon_6 : decode cX5_pardon 6 = .ok (.iload_n 2, 1) := by decide +kernel
theorem dX5_pardon_7 : decode cX5_pardon 7 = .ok (.invokevirtual 126, 3) := by decide +kernel
theorem dX5_pardon_10 : decode cX5_pardon 10 = .ok (.iload_n 1, 1) := by decide +kernel
theorem dX5_pardon_11 : decode cX5_pardon 11 = .ok (.iload_n 2, 1) := by decide +kernel
theorem dX5_pardon_12 : decode cX5_pardon 12 = .ok (.if_icmp .ne 13, 3) := by decide +kernel
theorem dX5_pardon_15 : decode cX5_pardon 15 = .ok (.new 89, 3) := by decide +kernel
theorem dX5_pardon_25 : decode cX5_pardon 25 = .ok (.aload_n 0, 1) := by decide +kernel
theorem dX5_pardon_26 : decode cX5_pardon 26 = .ok (.getfield 33, 3) := by decide +kernel
theorem dX5_pardon_29 : decode cX5_pardon 29 = .ok (.iload_n 1, 1) := by decide +kernel
theorem dX5_pardon_30 : decode cX5_pardon 30 = .ok (.iload_n 2, 1) := by decide +kernel
theorem dX5_pardon_31 : decode cX5_pardon 31 = .ok (.invokevirtual 190, 3) := by decide +kernel
theorem dX5_pardon_34 : decode cX5_pardon 34 = .ok (.ireturn, 1) := by decide +kernel
set_option maxHeartbeats 4000000 in
set_option maxRecDepth 100000 in
theorem c_X5_pardon (l : Launch) (D : va_G) (cI cZ cL : ClassId) (ad : Nat → Nat) (S : Mem) (A : Nat → Prop) (hD : va_D A (wC ad cI S)) (x1 : Int32) (x2 : Int32) (hI : I0 S) (hth : (oPardon S x1 x2).1 = none) : WR l D cI cZ cL yX5_pardon cX5_pardon 3 (some .boolean) 7 [.ref (ad 0), .int x1, .int x2] A (wC ad cI S) (wC ad cI ((oPardon S x1 x2).2.2)) (some (.int ((oPardon S x1 x2).2.1))) := by
  refine WR.of (by decide) (Nat.le_of_ble_eq_true rfl) ?_
  intro p e s m args below meth c ls hx hb hr hml hown hlk hE hP hS hl
  have hl : lv_has ls 3 [(0, .ref (ad 0)), (1, .int x1), (2, .int x2)] := hl
  have hT8 := hI.T8
  have hR16 := hI.R16
  have hN200 := hI.N200
  refine lv_aload_n hx hb dX5_pardon_0 rfl (lv_at hl 0 rfl) ?_
  refine lv_iload_n hx hb dX5_pardon_1 rfl (lv_at hl 1 rfl) ?_
  by_cases c_1 : okn x1 (cT S) = true
  · skip
    obtain ⟨u1, hu1, eu1⟩ := okn_t c_1
    subst eu1
    have iu1 : iN (nI u1) = u1 := iN_nI (by omega)
    refine q_rdv (q_runV (rest := []) hx hb hml hown hE (c_X5_requireTeam l D cI cZ cL ad S u1 hI hu1) ck_X5_requireTeam w_488 hP 0 rfl rfl hl.1 rfl ⟨Nat.le_of_ble_eq_true rfl, Nat.le_of_ble_eq_true rfl⟩ (Nat.le_of_ble_eq_true rfl) dX5_pardon_2 ⟨Nat.le_of_ble_eq_true rfl, Nat.le_of_ble_eq_true rfl⟩) ?_
    refine lv_aload_n hx hb dX5_pardon_5 rfl (lv_at hl 0 rfl) ?_
    refine lv_iload_n hx hb dX5_pardon_6 rfl (lv_at hl 2 rfl) ?_
    by_cases c_2 : okn x2 (cT S) = true
    · skip
      obtain ⟨u2, hu2, eu2⟩ := okn_t c_2
      subst eu2
      have iu2 : iN (nI u2) = u2 := iN_nI (by omega)
      refine q_rdv (q_runV (rest := []) hx hb hml hown hE (c_X5_requireTeam l D cI cZ cL ad S u2 hI hu2) ck_X5_requireTeam w_488 hP 0 rfl rfl hl.1 rfl ⟨Nat.le_of_ble_eq_true rfl, Nat.le_of_ble_eq_true rfl⟩ (Nat.le_of_ble_eq_true rfl) dX5_pardon_7 ⟨Nat.le_of_ble_eq_true rfl, Nat.le_of_ble_eq_true rfl⟩) ?_
      refine lv_iload_n hx hb dX5_pardon_10 rfl (lv_at hl 1 rfl) ?_
      refine lv_iload_n hx hb dX5_pardon_11 rfl (lv_at hl 2 rfl) ?_
      refine lv_icmp_ne (tgt := 25) hx hb dX5_pardon_12 (by decide) (fun c_3 => ?_) (fun c_3 => ?_)
      · skip
        have c_3 : ¬ u1 = u2 := n_ne (a := u1) (b := u2) (by omega) (by omega) c_3
        refine lv_aload_n hx hb dX5_pardon_25 rfl (lv_at hl 0 rfl) ?_
        refine q_get (v := .ref (ad 15)) hx hb hown hE inT_X5 hP 0 rfl rfl 3 (by decide) w_215 rfl dX5_pardon_26 ?_
        refine lv_iload_n hx hb dX5_pardon_29 rfl (lv_at hl 1 rfl) ?_
        refine lv_iload_n hx hb dX5_pardon_30 rfl (lv_at hl 2 rfl) ?_
        refine q_w0 (q_runVN (rest := []) hx hb hml hown hE (c_X1_switchPardon l D cI cZ cL ad S A (wC_D hD) u1 u2 (by omega) (by omega)) ck_X1_switchPardon w_616 hP 15 rfl rfl hl.1 rfl ⟨Nat.le_of_ble_eq_true rfl, Nat.le_of_ble_eq_true rfl⟩ (Nat.le_of_ble_eq_true rfl) dX5_pardon_31 ⟨Nat.le_of_ble_eq_true rfl, Nat.le_of_ble_eq_true rfl⟩) hS (fun H locs hP hS => ?_)
        rw [show oPardon S (nI u1) (nI u2) = (none, bI (hs (p_swi S u1 u2 17 u1) (nI u2)), p_swi S u1 u2) from by first | (simp only [oPardon, oTT, c_1, iu1, c_2, iu2, c_3, ↓reduceIte]; done) | (simp only [oPardon, oTT, c_1, iu1, c_2, iu2, c_3, ↓reduceIte]; rfl) | (simp [oPardon, oTT, c_1, iu1, c_2, iu2, c_3]; done) | (simp [oPardon, oTT, c_1, iu1, c_2, iu2, c_3]; rfl)]
        exact e_wret hx hb hr hlk (n_bI _) hP hS dX5_pardon_34
      · skip
        have c_3 : u1 = u2 := n_eq (a := u1) (b := u2) (by omega) (by omega) c_3
        simp [oPardon, oTT, xI, xA, xS, xN, c_1, iu1, c_2, iu2, c_3] at hth
    · skip
      simp [oPardon, oTT, xI, xA, xS, xN, c_1, iu1, c_2] at hth
  · skip
    simp [oPardon, oTT, xI, xA, xS, xN, c_1] at hth


set_option maxHeartbeats 4000000 in
set_option maxRecDepth 100000 in
theorem c_X5_pardon_T0 (l : Launch) (hfl : l.flags = flags0) (D : va_G) (cI cZ cL : ClassId) (ad : Nat → Nat) (S : Mem) (x1 : Int32) (x2 : Int32) (hI : I0 S) (hth : (oPardon S x1 x2).1 = some "java/lang/IndexOutOfBoundsException") : TH l D cI cZ cL yX5_pardon cX5_pardon 3 (some .boolean) 7 [.ref (ad 0), .int x1, .int x2] (wC ad cI S) "java/lang/IndexOutOfBoundsException" := by
  refine TH.of (by decide) (Nat.le_of_ble_eq_true rfl) ?_
  intro p e s m args below meth c ls hx hb hr hml hown hlk hxt hE hT hZ hP hl
  have hl : lv_has ls 3 [(0, .ref (ad 0)), (1, .int x1), (2, .int x2)] := hl
  have hT8 := hI.T8
  have hR16 := hI.R16
  have hN200 := hI.N200
  refine lv_aload_n hx hb dX5_pardon_0 rfl (lv_at hl 0 rfl) ?_
  refine lv_iload_n hx hb dX5_pardon_1 rfl (lv_at hl 1 rfl) ?_
  by_cases c_1 : okn x1 (cT S) = true
  · skip
    obtain ⟨u1, hu1, eu1⟩ := okn_t c_1
    subst eu1
    have iu1 : iN (nI u1) = u1 := iN_nI (by omega)
    refine q_rdv (q_runV (rest := []) hx hb hml hown hE (c_X5_requireTeam l D cI cZ cL ad S u1 hI hu1) ck_X5_requireTeam w_488 hP 0 rfl rfl hl.1 rfl ⟨Nat.le_of_ble_eq_true rfl, Nat.le_of_ble_eq_true rfl⟩ (Nat.le_of_ble_eq_true rfl) dX5_pardon_2 ⟨Nat.le_of_ble_eq_true rfl, Nat.le_of_ble_eq_true rfl⟩) ?_
    refine lv_aload_n hx hb dX5_pardon_5 rfl (lv_at hl 0 rfl) ?_
    refine lv_iload_n hx hb dX5_pardon_6 rfl (lv_at hl 2 rfl) ?_
    by_cases c_2 : okn x2 (cT S) = true
    · skip
      obtain ⟨u2, hu2, eu2⟩ := okn_t c_2
      subst eu2
      have iu2 : iN (nI u2) = u2 := iN_nI (by omega)
      refine q_rdv (q_runV (rest := []) hx hb hml hown hE (c_X5_requireTeam l D cI cZ cL ad S u2 hI hu2) ck_X5_requireTeam w_488 hP 0 rfl rfl hl.1 rfl ⟨Nat.le_of_ble_eq_true rfl, Nat.le_of_ble_eq_true rfl⟩ (Nat.le_of_ble_eq_true rfl) dX5_pardon_7 ⟨Nat.le_of_ble_eq_true rfl, Nat.le_of_ble_eq_true rfl⟩) ?_
      refine lv_iload_n hx hb dX5_pardon_10 rfl (lv_at hl 1 rfl) ?_
      refine lv_iload_n hx hb dX5_pardon_11 rfl (lv_at hl 2 rfl) ?_
      refine lv_icmp_ne (tgt := 25) hx hb dX5_pardon_12 (by decide) (fun c_3 => ?_) (fun c_3 => ?_)
      · skip
        have c_3 : ¬ u1 = u2 := n_ne (a := u1) (b := u2) (by omega) (by omega) c_3
        refine lv_aload_n hx hb dX5_pardon_25 rfl (lv_at hl 0 rfl) ?_
        refine q_get (v := .ref (ad 15)) hx hb hown hE inT_X5 hP 0 rfl rfl 3 (by decide) w_215 rfl dX5_pardon_26 ?_
        refine lv_iload_n hx hb dX5_pardon_29 rfl (lv_at hl 1 rfl) ?_
        refine lv_iload_n hx hb dX5_pardon_30 rfl (lv_at hl 2 rfl) ?_
        simp [oPardon, oTT, xI, xA, xS, xN, c_1, iu1, c_2, iu2, c_3] at hth
      · skip
        have c_3 : u1 = u2 := n_eq (a := u1) (b := u2) (by omega) (by omega) c_3
        simp [oPardon, oTT, xI, xA, xS, xN, c_1, iu1, c_2, iu2, c_3] at hth
    · skip
      have c_2 := eq_false_of_ne_true c_2
      exact q_th (q_thV (n' := 2) (k' := 6) (y := yX5_requireTeam) (rest := []) hx hb hml hown hE hT hZ (c_X5_requireTeam_T l hfl D cI cZ cL ad S x2 hI c_2) ck_X5_requireTeam w_488 hP 0 rfl rfl hl.1 rfl ⟨Nat.le_of_ble_eq_true rfl, Nat.le_of_ble_eq_true rfl⟩ (Nat.le_of_ble_eq_true rfl) dX5_pardon_7 ⟨Nat.le_of_ble_eq_true rfl, Nat.le_of_ble_eq_true rfl⟩) hlk hxt (Nat.le_refl _) (Nat.le_refl _) (fun t h1 h2 => ⟨rfl, h2⟩)
  · skip
    have c_1 := eq_false_of_ne_true c_1
    exact q_th (q_thV (n' := 2) (k' := 6) (y := yX5_requireTeam) (rest := []) hx hb hml hown hE hT hZ (c_X5_requireTeam_T l hfl D cI cZ cL ad S x1 hI c_1) ck_X5_requireTeam w_488 hP 0 rfl rfl hl.1 rfl ⟨Nat.le_of_ble_eq_true rfl, Nat.le_of_ble_eq_true rfl⟩ (Nat.le_of_ble_eq_true rfl) dX5_pardon_2 ⟨Nat.le_of_ble_eq_true rfl, Nat.le_of_ble_eq_true rfl⟩) hlk hxt (Nat.le_refl _) (Nat.le_refl _) (fun t h1 h2 => ⟨rfl, h2⟩)

theorem dX5_pardon_18 : decode cX5_pardon 18 = .ok (.dup, 1) := by decide +kernel
theorem dX5_pardon_19 : decode cX5_pardon 19 = .ok (.ldc 188, 2) := by decide +kernel
theorem dX5_pardon_21 : decode cX5_pardon 21 = .ok (.invokespecial 93, 3) := by decide +kernel
theorem dX5_pardon_24 : decode cX5_pardon 24 = .ok (.athrow, 1) := by decide +kernel
set_option maxHeartbeats 4000000 in
set_option maxRecDepth 100000 in
theorem c_X5_pardon_T1 (l : Launch) (hfl : l.flags = flags0) (D : va_G) (cI cZ cL : ClassId) (ad : Nat → Nat) (S : Mem) (x1 : Int32) (x2 : Int32) (hI : I0 S) (hth : (oPardon S x1 x2).1 = some "java/lang/IllegalArgumentException") : TH l D cI cZ cL yX5_pardon cX5_pardon 3 (some .boolean) 7 [.ref (ad 0), .int x1, .int x2] (wC ad cI S) "java/lang/IllegalArgumentException" := by
  refine TH.of (by decide) (Nat.le_of_ble_eq_true rfl) ?_
  intro p e s m args below meth c ls hx hb hr hml hown hlk hxt hE hT hZ hP hl
  have hl : lv_has ls 3 [(0, .ref (ad 0)), (1, .int x1), (2, .int x2)] := hl
  have hT8 := hI.T8
  have hR16 := hI.R16
  have hN200 := hI.N200
  refine lv_aload_n hx hb dX5_pardon_0 rfl (lv_at hl 0 rfl) ?_
  refine lv_iload_n hx hb dX5_pardon_1 rfl (lv_at hl 1 rfl) ?_
  by_cases c_1 : okn x1 (cT S) = true
  · skip
    obtain ⟨u1, hu1, eu1⟩ := okn_t c_1
    subst eu1
    have iu1 : iN (nI u1) = u1 := iN_nI (by omega)
    refine q_rdv (q_runV (rest := []) hx hb hml hown hE (c_X5_requireTeam l D cI cZ cL ad S u1 hI hu1) ck_X5_requireTeam w_488 hP 0 rfl rfl hl.1 rfl ⟨Nat.le_of_ble_eq_true rfl, Nat.le_of_ble_eq_true rfl⟩ (Nat.le_of_ble_eq_true rfl) dX5_pardon_2 ⟨Nat.le_of_ble_eq_true rfl, Nat.le_of_ble_eq_true rfl⟩) ?_
    refine lv_aload_n hx hb dX5_pardon_5 rfl (lv_at hl 0 rfl) ?_
    refine lv_iload_n hx hb dX5_pardon_6 rfl (lv_at hl 2 rfl) ?_
    by_cases c_2 : okn x2 (cT S) = true
    · skip
      obtain ⟨u2, hu2, eu2⟩ := okn_t c_2
      subst eu2
      have iu2 : iN (nI u2) = u2 := iN_nI (by omega)
      refine q_rdv (q_runV (rest := []) hx hb hml hown hE (c_X5_requireTeam l D cI cZ cL ad S u2 hI hu2) ck_X5_requireTeam w_488 hP 0 rfl rfl hl.1 rfl ⟨Nat.le_of_ble_eq_true rfl, Nat.le_of_ble_eq_true rfl⟩ (Nat.le_of_ble_eq_true rfl) dX5_pardon_7 ⟨Nat.le_of_ble_eq_true rfl, Nat.le_of_ble_eq_true rfl⟩) ?_
      refine lv_iload_n hx hb dX5_pardon_10 rfl (lv_at hl 1 rfl) ?_
      refine lv_iload_n hx hb dX5_pardon_11 rfl (lv_at hl 2 rfl) ?_
      refine lv_icmp_ne (tgt := 25) hx hb dX5_pardon_12 (by decide) (fun c_3 => ?_) (fun c_3 => ?_)
      · skip
        have c_3 : ¬ u1 = u2 := n_ne (a := u1) (b := u2) (by omega) (by omega) c_3
        refine lv_aload_n hx hb dX5_pardon_25 rfl (lv_at hl 0 rfl) ?_
        refine q_get (v := .ref (ad 15)) hx hb hown hE inT_X5 hP 0 rfl rfl 3 (by decide) w_215 rfl dX5_pardon_26 ?_
        refine lv_iload_n hx hb dX5_pardon_29 rfl (lv_at hl 1 rfl) ?_
        refine lv_iload_n hx hb dX5_pardon_30 rfl (lv_at hl 2 rfl) ?_
        simp [oPardon, oTT, xI, xA, xS, xN, c_1, iu1, c_2, iu2, c_3] at hth
      · skip
        have c_3 : u1 = u2 := n_eq (a := u1) (b := u2) (by omega) (by omega) c_3
        obtain ⟨sa, hsa⟩ := hT "PuzzleRegistry" 188 "a team is pardoned with another one" (List.mem_of_getElem? (i := 501) (by decide +kernel))
        exact vx_throwS (rest := []) (A := q_no) (names := tw_names) hx hb (q_flags hfl) hown rfl tw_names_ok (hE.1 _ w_331 args) (hE.1 _ w_71 args) hsa (fun w h => hE.1 w (tw_X5_89_93 w h) args) tw_X5_89_93_g hZ.1 hZ.2 va_S.rf (hl.1.trans hml.symm) dX5_pardon_15 dX5_pardon_18 dX5_pardon_19 dX5_pardon_21 dX5_pardon_24 (fun x hx => (hxt x hx).elim) (Nat.le_of_ble_eq_true rfl) (Nat.le_of_ble_eq_true rfl) (Nat.le_of_ble_eq_true rfl) (Nat.le_of_ble_eq_true rfl) hlk (fun t h1 h2 h3 => ⟨rfl, h2, fun q h4 _ => h3 q h4⟩) (fun _ h => nomatch h) (Nat.le_refl _) (Nat.le_refl _)
    · skip
      simp [oPardon, oTT, xI, xA, xS, xN, c_1, iu1, c_2] at hth
  · skip
    simp [oPardon, oTT, xI, xA, xS, xN, c_1] at hth

theorem dX5_setBound_0 : decode cX5_setBound 0 = .ok (.iload_n 1, 1) := by decide +kernel
theorem dX5_setBound_1 : decode cX5_setBound 1 = .ok (.iconst 1, 1) := by decide +kernel
theorem dX5_setBound_2 : decode cX5_setBound 2 = .ok (.bipush 20, 2) := by decide +kernel
theorem dX5_setBound_4 : decode cX5_setBound 4 = .ok (.invokestatic 57, 3) := by decide +kernel
theorem dX5_setBound_7 : decode cX5_setBound 7 = .ok (.aload_n 0, 1) := by decide +kernel
theorem dX5_setBound_8 : decode cX5_setBound 8 = .ok (.getfield 33, 3) := by decide +kernel
theorem dX5_setBound_11 : decode cX5_setBound 11 = .ok (.getfield 193, 3) := by decide +kernel
theorem dX5_setBound_14 : decode cX5_setBound 14 = .ok (.istore_n 2, 1) := by decide +kernel
theorem dX5_setBound_15 : decode cX5_setBound 15 = .ok (.aload_n 0, 1) := by decide +kernel
theorem dX5_setBound_16 : decode cX5_setBound 16 = .ok (.getfield 33, 3) := by decide +kernel
theorem dX5_setBound_19 : decode cX5_setBound 19 = .ok (.iload_n 1, 1) := by decide +kernel
theorem dX5_setBound_20 : decode cX5_setBound 20 = .ok (.putfield 193, 3) := by decide +kernel
theorem dX5_setBound_23 : decode cX5_setBound 23 = .ok (.iload_n 2, 1) := by decide +kernel
theorem dX5_setBound_24 : decode cX5_setBound 24 = .ok (.ireturn, 1) := by decide +kernel
set_option maxHeartbeats 4000000 in
set_option maxRecDepth 100000 in
theorem c_X5_setBound (l : Launch) (D : va_G) (cI cZ cL : ClassId) (ad : Nat → Nat) (S : Mem) (A : Nat → Prop) (hD : va_D A (wC ad cI S)) (x1 : Int32) (hI : I0 S) (hth : (oBound S x1).1 = none) : WR l D cI cZ cL yX5_setBound cX5_setBound 3 (some .int) 7 [.ref (ad 0), .int x1] A (wC ad cI S) (wC ad cI ((oBound S x1).2.2)) (some (.int ((oBound S x1).2.1))) := by
  refine WR.of (by decide) (Nat.le_of_ble_eq_true rfl) ?_
  intro p e s m args below meth c ls hx hb hr hml hown hlk hE hP hS hl
  have hl : lv_has ls 3 [(0, .ref (ad 0)), (1, .int x1)] := hl
  have hT8 := hI.T8
  have hR16 := hI.R16
  have hN200 := hI.N200
  refine lv_iload_n hx hb dX5_setBound_0 rfl (lv_at hl 1 rfl) ?_
  refine lv_iconst (v := 1) hx hb dX5_setBound_1 (by decide) ?_
  refine lv_bipush (v := 20) hx hb dX5_setBound_2 (by decide) ?_
  by_cases c_1 : okr x1 1 20 = true
  · skip
    refine q_rdv (q_runS (rest := []) hx hb hml hown hE (c_X5_requireRange l D cI cZ cL _ x1 1 20 c_1) ck_X5_requireRange w_328 hP hl.1 rfl ⟨Nat.le_of_ble_eq_true rfl, Nat.le_of_ble_eq_true rfl⟩ (Nat.le_of_ble_eq_true rfl) dX5_setBound_4 ⟨Nat.le_of_ble_eq_true rfl, Nat.le_of_ble_eq_true rfl⟩) ?_
    refine lv_aload_n hx hb dX5_setBound_7 rfl (lv_at hl 0 rfl) ?_
    refine q_get (v := .ref (ad 15)) hx hb hown hE inT_X5 hP 0 rfl rfl 3 (by decide) w_215 rfl dX5_setBound_8 ?_
    refine q_getN (v := .int (S 15 2)) hx hb hown hE inT_X1 hP 15 rfl rfl 2 (by decide) w_173 rfl dX5_setBound_11 ?_
    refine lv_istore_n (lv' := [(2, .int (S 15 2)), (0, .ref (ad 0)), (1, .int x1)]) hx hb dX5_setBound_14 rfl hl (by decide) rfl (fun ls hl => ?_)
    refine lv_aload_n hx hb dX5_setBound_15 rfl (lv_at hl 1 rfl) ?_
    refine q_get (v := .ref (ad 15)) hx hb hown hE inT_X5 hP 0 rfl rfl 3 (by decide) w_215 rfl dX5_setBound_16 ?_
    refine lv_iload_n hx hb dX5_setBound_19 rfl (lv_at hl 2 rfl) ?_
    refine q_putN (ty0 := tyX1) (ws' := (wC ad cI (st S 15 2 x1))) (v := .int x1) hx hb hown hE inT_X1 tyX1_ok nmX1 hP (wC_D hD) hS 15 rfl rfl 2 (by decide) w_173 rfl rfl rfl (Nat.le_of_ble_eq_true rfl) rfl dX5_setBound_20 (fun H locs hP hS => ?_)
    refine lv_iload_n hx hb dX5_setBound_23 rfl (lv_at hl 0 rfl) ?_
    rw [show oBound S x1 = (none, S 15 2, st S 15 2 x1) from by first | (simp only [oBound, c_1, ↓reduceIte]; done) | (simp only [oBound, c_1, ↓reduceIte]; rfl) | (simp [oBound, c_1]; done) | (simp [oBound, c_1]; rfl)]
    exact e_wret hx hb hr hlk rfl hP hS dX5_setBound_24
  · skip
    simp [oBound, xI, xA, xS, xN, c_1] at hth


set_option maxHeartbeats 4000000 in
set_option maxRecDepth 100000 in
theorem c_X5_setBound_T0 (l : Launch) (hfl : l.flags = flags0) (D : va_G) (cI cZ cL : ClassId) (ad : Nat → Nat) (S : Mem) (x1 : Int32) (hI : I0 S) (hth : (oBound S x1).1 = some "java/lang/IllegalArgumentException") : TH l D cI cZ cL yX5_setBound cX5_setBound 3 (some .int) 7 [.ref (ad 0), .int x1] (wC ad cI S) "java/lang/IllegalArgumentException" := by
  refine TH.of (by decide) (Nat.le_of_ble_eq_true rfl) ?_
  intro p e s m args below meth c ls hx hb hr hml hown hlk hxt hE hT hZ hP hl
  have hl : lv_has ls 3 [(0, .ref (ad 0)), (1, .int x1)] := hl
  have hT8 := hI.T8
  have hR16 := hI.R16
  have hN200 := hI.N200
  refine lv_iload_n hx hb dX5_setBound_0 rfl (lv_at hl 1 rfl) ?_
  refine lv_iconst (v := 1) hx hb dX5_setBound_1 (by decide) ?_
  refine lv_bipush (v := 20) hx hb dX5_setBound_2 (by decide) ?_
  by_cases c_1 : okr x1 1 20 = true
  · skip
    refine q_rdv (q_runS (rest := []) hx hb hml hown hE (c_X5_requireRange l D cI cZ cL _ x1 1 20 c_1) ck_X5_requireRange w_328 hP hl.1 rfl ⟨Nat.le_of_ble_eq_true rfl, Nat.le_of_ble_eq_true rfl⟩ (Nat.le_of_ble_eq_true rfl) dX5_setBound_4 ⟨Nat.le_of_ble_eq_true rfl, Nat.le_of_ble_eq_true rfl⟩) ?_
    refine lv_aload_n hx hb dX5_setBound_7 rfl (lv_at hl 0 rfl) ?_
    refine q_get (v := .ref (ad 15)) hx hb hown hE inT_X5 hP 0 rfl rfl 3 (by decide) w_215 rfl dX5_setBound_8 ?_
    refine q_getN (v := .int (S 15 2)) hx hb hown hE inT_X1 hP 15 rfl rfl 2 (by decide) w_173 rfl dX5_setBound_11 ?_
    refine lv_istore_n (lv' := [(2, .int (S 15 2)), (0, .ref (ad 0)), (1, .int x1)]) hx hb dX5_setBound_14 rfl hl (by decide) rfl (fun ls hl => ?_)
    refine lv_aload_n hx hb dX5_setBound_15 rfl (lv_at hl 1 rfl) ?_
    refine q_get (v := .ref (ad 15)) hx hb hown hE inT_X5 hP 0 rfl rfl 3 (by decide) w_215 rfl dX5_setBound_16 ?_
    refine lv_iload_n hx hb dX5_setBound_19 rfl (lv_at hl 2 rfl) ?_
    simp [oBound, xI, xA, xS, xN, c_1] at hth
  · skip
    have c_1 := eq_false_of_ne_true c_1
    exact q_th (q_thS (n' := 3) (k' := 6) (y := yX5_requireRange) (rest := []) hx hb hml hown hE hT hZ (c_X5_requireRange_T l hfl D cI cZ cL _ x1 1 20 c_1) ck_X5_requireRange w_328 hP hl.1 rfl ⟨Nat.le_of_ble_eq_true rfl, Nat.le_of_ble_eq_true rfl⟩ (Nat.le_of_ble_eq_true rfl) dX5_setBound_4 ⟨Nat.le_of_ble_eq_true rfl, Nat.le_of_ble_eq_true rfl⟩) hlk hxt (Nat.le_refl _) (Nat.le_refl _) (fun t h1 h2 => ⟨rfl, h2⟩)

theorem dX5_isFree_0 : decode cX5_isFree 0 = .ok (.aload_n 0, 1) := by decide +kernel
theorem dX5_isFree_1 : decode cX5_isFree 1 = .ok (.iload_n 1, 1) := by decide +kernel
theorem dX5_isFree_2 : decode cX5_isFree 2 = .ok (.invokevirtual 85, 3) := by decide +kernel
theorem dX5_isFree_5 : decode cX5_isFree 5 = .ok (.aload_n 0, 1) := by decide +kernel
theorem dX5_isFree_6 : decode cX5_isFree 6 = .ok (.aload_n 0, 1) := by decide +kernel
theorem dX5_isFree_7 : decode cX5_isFree 7 = .ok (.getfield 40, 3) := by decide +kernel
theorem dX5_isFree_10 : decode cX5_isFree 10 = .ok (.invokevirtual 122, 3) := by decide +kernel
theorem dX5_isFree_13 : decode cX5_isFree 13 = .ok (.iload_n 1, 1) := by decide +kernel
theorem dX5_isFree_14 : decode cX5_isFree 14 = .ok (.invokestatic 97, 3) := by decide +kernel
theorem dX5_isFree_17 : decode cX5_isFree 17 = .ok (.ireturn, 1) := by decide +kernel
set_option maxHeartbeats 4000000 in
set_option maxRecDepth 100000 in
theorem c_X5_isFree (l : Launch) (D : va_G) (cI cZ cL : ClassId) (ad : Nat → Nat) (S : Mem) (x1 : Int32) (hI : I0 S) (hth : (oFree S x1).1 = none) : RD l D cI cZ cL yX5_isFree cX5_isFree 2 (some .boolean) 7 [.ref (ad 0), .int x1] (wC ad cI S) (some (.int ((oFree S x1).2.1))) := by
  refine RD.of (by decide) (Nat.le_of_ble_eq_true rfl) ?_
  intro p e s m args below meth c ls hx hb hr hml hown hlk hE hP hl
  have hl : lv_has ls 2 [(0, .ref (ad 0)), (1, .int x1)] := hl
  have hT8 := hI.T8
  have hR16 := hI.R16
  have hN200 := hI.N200
  refine lv_aload_n hx hb dX5_isFree_0 rfl (lv_at hl 0 rfl) ?_
  refine lv_iload_n hx hb dX5_isFree_1 rfl (lv_at hl 1 rfl) ?_
  by_cases c_1 : okn x1 (cR S) = true
  · skip
    obtain ⟨u1, hu1, eu1⟩ := okn_t c_1
    subst eu1
    have iu1 : iN (nI u1) = u1 := iN_nI (by omega)
    refine q_rdv (q_runV (rest := []) hx hb hml hown hE (c_X5_requireRiddle l D cI cZ cL ad S u1 hI hu1) ck_X5_requireRiddle w_436 hP 0 rfl rfl hl.1 rfl ⟨Nat.le_of_ble_eq_true rfl, Nat.le_of_ble_eq_true rfl⟩ (Nat.le_of_ble_eq_true rfl) dX5_isFree_2 ⟨Nat.le_of_ble_eq_true rfl, Nat.le_of_ble_eq_true rfl⟩) ?_
    refine lv_aload_n hx hb dX5_isFree_5 rfl (lv_at hl 0 rfl) ?_
    refine lv_aload_n hx hb dX5_isFree_6 rfl (lv_at hl 0 rfl) ?_
    refine q_get (v := .ref (ad 18)) hx hb hown hE inT_X5 hP 0 rfl rfl 4 (by decide) w_216 rfl dX5_isFree_7 ?_
    refine q_rd (q_runV (rest := []) hx hb hml hown hE (c_X5_freeSet_18 l D cI cZ cL ad S hI) ck_X5_freeSet w_290 hP 0 rfl rfl hl.1 rfl ⟨Nat.le_of_ble_eq_true rfl, Nat.le_of_ble_eq_true rfl⟩ (Nat.le_of_ble_eq_true rfl) dX5_isFree_10 ⟨Nat.le_of_ble_eq_true rfl, Nat.le_of_ble_eq_true rfl⟩) ?_
    refine lv_iload_n hx hb dX5_isFree_13 rfl (lv_at hl 1 rfl) ?_
    refine q_rd (q_runS (rest := []) hx hb hml hown hE (c_X5_has l D cI cZ cL _ (p_free S 18 (cT S)) (nI u1)) ck_X5_has w_298 hP hl.1 rfl ⟨Nat.le_of_ble_eq_true rfl, Nat.le_of_ble_eq_true rfl⟩ (Nat.le_of_ble_eq_true rfl) dX5_isFree_14 ⟨Nat.le_of_ble_eq_true rfl, Nat.le_of_ble_eq_true rfl⟩) ?_
    rw [show oFree S (nI u1) = (none, bI (hs (p_free S 18 (cT S)) (nI u1)), S) from by first | (simp only [oFree, c_1, iu1, ↓reduceIte]; done) | (simp only [oFree, c_1, iu1, ↓reduceIte]; rfl) | (simp [oFree, c_1, iu1]; done) | (simp [oFree, c_1, iu1]; rfl)]
    exact e_ret hx hb hr hlk (n_bI _) dX5_isFree_17
  · skip
    simp [oFree, xI, xA, xS, xN, c_1] at hth


set_option maxHeartbeats 4000000 in
set_option maxRecDepth 100000 in
theorem c_X5_isFree_T0 (l : Launch) (hfl : l.flags = flags0) (D : va_G) (cI cZ cL : ClassId) (ad : Nat → Nat) (S : Mem) (x1 : Int32) (hI : I0 S) (hth : (oFree S x1).1 = some "java/lang/IndexOutOfBoundsException") : TH l D cI cZ cL yX5_isFree cX5_isFree 2 (some .boolean) 7 [.ref (ad 0), .int x1] (wC ad cI S) "java/lang/IndexOutOfBoundsException" := by
  refine TH.of (by decide) (Nat.le_of_ble_eq_true rfl) ?_
  intro p e s m args below meth c ls hx hb hr hml hown hlk hxt hE hT hZ hP hl
  have hl : lv_has ls 2 [(0, .ref (ad 0)), (1, .int x1)] := hl
  have hT8 := hI.T8
  have hR16 := hI.R16
  have hN200 := hI.N200
  refine lv_aload_n hx hb dX5_isFree_0 rfl (lv_at hl 0 rfl) ?_
  refine lv_iload_n hx hb dX5_isFree_1 rfl (lv_at hl 1 rfl) ?_
  by_cases c_1 : okn x1 (cR S) = true
  · skip
    obtain ⟨u1, hu1, eu1⟩ := okn_t c_1
    subst eu1
    have iu1 : iN (nI u1) = u1 := iN_nI (by omega)
    refine q_rdv (q_runV (rest := []) hx hb hml hown hE (c_X5_requireRiddle l D cI cZ cL ad S u1 hI hu1) ck_X5_requireRiddle w_436 hP 0 rfl rfl hl.1 rfl ⟨Nat.le_of_ble_eq_true rfl, Nat.le_of_ble_eq_true rfl⟩ (Nat.le_of_ble_eq_true rfl) dX5_isFree_2 ⟨Nat.le_of_ble_eq_true rfl, Nat.le_of_ble_eq_true rfl⟩) ?_
    refine lv_aload_n hx hb dX5_isFree_5 rfl (lv_at hl 0 rfl) ?_
    refine lv_aload_n hx hb dX5_isFree_6 rfl (lv_at hl 0 rfl) ?_
    refine q_get (v := .ref (ad 18)) hx hb hown hE inT_X5 hP 0 rfl rfl 4 (by decide) w_216 rfl dX5_isFree_7 ?_
    refine q_rd (q_runV (rest := []) hx hb hml hown hE (c_X5_freeSet_18 l D cI cZ cL ad S hI) ck_X5_freeSet w_290 hP 0 rfl rfl hl.1 rfl ⟨Nat.le_of_ble_eq_true rfl, Nat.le_of_ble_eq_true rfl⟩ (Nat.le_of_ble_eq_true rfl) dX5_isFree_10 ⟨Nat.le_of_ble_eq_true rfl, Nat.le_of_ble_eq_true rfl⟩) ?_
    refine lv_iload_n hx hb dX5_isFree_13 rfl (lv_at hl 1 rfl) ?_
    refine q_rd (q_runS (rest := []) hx hb hml hown hE (c_X5_has l D cI cZ cL _ (p_free S 18 (cT S)) (nI u1)) ck_X5_has w_298 hP hl.1 rfl ⟨Nat.le_of_ble_eq_true rfl, Nat.le_of_ble_eq_true rfl⟩ (Nat.le_of_ble_eq_true rfl) dX5_isFree_14 ⟨Nat.le_of_ble_eq_true rfl, Nat.le_of_ble_eq_true rfl⟩) ?_
    simp [oFree, xI, xA, xS, xN, c_1, iu1] at hth
  · skip
    have c_1 := eq_false_of_ne_true c_1
    exact q_th (q_thV (n' := 2) (k' := 6) (y := yX5_requireRiddle) (rest := []) hx hb hml hown hE hT hZ (c_X5_requireRiddle_T l hfl D cI cZ cL ad S x1 hI c_1) ck_X5_requireRiddle w_436 hP 0 rfl rfl hl.1 rfl ⟨Nat.le_of_ble_eq_true rfl, Nat.le_of_ble_eq_true rfl⟩ (Nat.le_of_ble_eq_true rfl) dX5_isFree_2 ⟨Nat.le_of_ble_eq_true rfl, Nat.le_of_ble_eq_true rfl⟩) hlk hxt (Nat.le_refl _) (Nat.le_refl _) (fun t h1 h2 => ⟨rfl, h2⟩)

theorem dX5_likeness_0 : decode cX5_likeness 0 = .ok (.aload_n 0, 1) := by decide +kernel
theorem dX5_likeness_1 : decode cX5_likeness 1 = .ok (.iload_n 1, 1) := by decide +kernel
theorem dX5_likeness_2 : decode cX5_likeness 2 = .ok (.invokevirtual 126, 3) := by decide +kernel
theorem dX5_likeness_5 : decode cX5_likeness 5 = .ok (.aload_n 0, 1) := by decide +kernel
theorem dX5_likeness_6 : decode cX5_likeness 6 = .ok (.iload_n 2, 1) := by decide +kernel
theorem dX5_likeness_7 : decode cX5_likeness 7 = .ok (.invokevirtual 126, 3) := by decide +kernel
theorem dX5_likeness_10 : decode cX5_likeness 10 = .ok (.aload_n 0, 1) := by decide +kernel
theorem dX5_likeness_11 : decode cX5_likeness 11 = .ok (.getfield 40, 3) := by decide +kernel
theorem dX5_likeness_14 : decode cX5_likeness 14 = .ok (.getfield 196, 3) := by decide +kernel
theorem dX5_likeness_17 : decode cX5_likeness 17 = .ok (.iload_n 1, 1) := by decide +kernel
theorem dX5_likeness_18 : decode cX5_likeness 18 = .ok (.iload_n 2, 1) := by decide +kernel
theorem dX5_likeness_19 : decode cX5_likeness 19 = .ok (.invokestatic 199, 3) := by decide +kernel
theorem dX5_likeness_22 : decode cX5_likeness 22 = .ok (.iaload, 1) := by decide +kernel
theorem dX5_likeness_23 : decode cX5_likeness 23 = .ok (.ireturn, 1) := by decide +kernel
set_option maxHeartbeats 4000000 in
set_option maxRecDepth 100000 in
theorem c_X5_likeness (l : Launch) (D : va_G) (cI cZ cL : ClassId) (ad : Nat → Nat) (S : Mem) (x1 : Int32) (x2 : Int32) (hI : I0 S) (hth : (oLike S x1 x2).1 = none) : RD l D cI cZ cL yX5_likeness cX5_likeness 3 (some .int) 7 [.ref (ad 0), .int x1, .int x2] (wC ad cI S) (some (.int ((oLike S x1 x2).2.1))) := by
  refine RD.of (by decide) (Nat.le_of_ble_eq_true rfl) ?_
  intro p e s m args below meth c ls hx hb hr hml hown hlk hE hP hl
  have hl : lv_has ls 3 [(0, .ref (ad 0)), (1, .int x1), (2, .int x2)] := hl
  have hT8 := hI.T8
  have hR16 := hI.R16
  have hN200 := hI.N200
  refine lv_aload_n hx hb dX5_likeness_0 rfl (lv_at hl 0 rfl) ?_
  refine lv_iload_n hx hb dX5_likeness_1 rfl (lv_at hl 1 rfl) ?_
  by_cases c_1 : okn x1 (cT S) = true
  · skip
    obtain ⟨u1, hu1, eu1⟩ := okn_t c_1
    subst eu1
    have iu1 : iN (nI u1) = u1 := iN_nI (by omega)
    refine q_rdv (q_runV (rest := []) hx hb hml hown hE (c_X5_requireTeam l D cI cZ cL ad S u1 hI hu1) ck_X5_requireTeam w_488 hP 0 rfl rfl hl.1 rfl ⟨Nat.le_of_ble_eq_true rfl, Nat.le_of_ble_eq_true rfl⟩ (Nat.le_of_ble_eq_true rfl) dX5_likeness_2 ⟨Nat.le_of_ble_eq_true rfl, Nat.le_of_ble_eq_true rfl⟩) ?_
    refine lv_aload_n hx hb dX5_likeness_5 rfl (lv_at hl 0 rfl) ?_
    refine lv_iload_n hx hb dX5_likeness_6 rfl (lv_at hl 2 rfl) ?_
    by_cases c_2 : okn x2 (cT S) = true
    · skip
      obtain ⟨u2, hu2, eu2⟩ := okn_t c_2
      subst eu2
      have iu2 : iN (nI u2) = u2 := iN_nI (by omega)
      refine q_rdv (q_runV (rest := []) hx hb hml hown hE (c_X5_requireTeam l D cI cZ cL ad S u2 hI hu2) ck_X5_requireTeam w_488 hP 0 rfl rfl hl.1 rfl ⟨Nat.le_of_ble_eq_true rfl, Nat.le_of_ble_eq_true rfl⟩ (Nat.le_of_ble_eq_true rfl) dX5_likeness_7 ⟨Nat.le_of_ble_eq_true rfl, Nat.le_of_ble_eq_true rfl⟩) ?_
      refine lv_aload_n hx hb dX5_likeness_10 rfl (lv_at hl 0 rfl) ?_
      refine q_get (v := .ref (ad 18)) hx hb hown hE inT_X5 hP 0 rfl rfl 4 (by decide) w_216 rfl dX5_likeness_11 ?_
      refine q_getN (v := .ref (ad 23)) hx hb hown hE inT_X2 hP 18 rfl rfl 4 (by decide) w_196 rfl dX5_likeness_14 ?_
      refine lv_iload_n hx hb dX5_likeness_17 rfl (lv_at hl 1 rfl) ?_
      refine lv_iload_n hx hb dX5_likeness_18 rfl (lv_at hl 2 rfl) ?_
      refine q_rd (q_runS (rest := [.ref (ad 23)]) hx hb hml hown hE (c_X5_pair l D cI cZ cL _ u1 u2) ck_X5_pair w_273 hP hl.1 rfl ⟨Nat.le_of_ble_eq_true rfl, Nat.le_of_ble_eq_true rfl⟩ (Nat.le_of_ble_eq_true rfl) dX5_likeness_19 ⟨Nat.le_of_ble_eq_true rfl, Nat.le_of_ble_eq_true rfl⟩) ?_
      refine q_iald (f := S 23) (i := (u1 * 8 + u2)) hx hb hE hP 23 rfl (by omega) (Nat.le_of_ble_eq_true rfl) dX5_likeness_22 ?_
      rw [show oLike S (nI u1) (nI u2) = (none, S 23 (u1 * 8 + u2), S) from by first | (simp only [oLike, oTT, c_1, iu1, c_2, iu2, ↓reduceIte]; done) | (simp only [oLike, oTT, c_1, iu1, c_2, iu2, ↓reduceIte]; rfl) | (simp [oLike, oTT, c_1, iu1, c_2, iu2]; done) | (simp [oLike, oTT, c_1, iu1, c_2, iu2]; rfl)]
      exact e_ret hx hb hr hlk rfl dX5_likeness_23
    · skip
      simp [oLike, oTT, xI, xA, xS, xN, c_1, iu1, c_2] at hth
  · skip
    simp [oLike, oTT, xI, xA, xS, xN, c_1] at hth


set_option maxHeartbeats 4000000 in
set_option maxRecDepth 100000 in
theorem c_X5_likeness_T0 (l : Launch) (hfl : l.flags = flags0) (D : va_G) (cI cZ cL : ClassId) (ad : Nat → Nat) (S : Mem) (x1 : Int32) (x2 : Int32) (hI : I0 S) (hth : (oLike S x1 x2).1 = some "java/lang/IndexOutOfBoundsException") : TH l D cI cZ cL yX5_likeness cX5_likeness 3 (some .int) 7 [.ref (ad 0), .int x1, .int x2] (wC ad cI S) "java/lang/IndexOutOfBoundsException" := by
  refine TH.of (by decide) (Nat.le_of_ble_eq_true rfl) ?_
  intro p e s m args below meth c ls hx hb hr hml hown hlk hxt hE hT hZ hP hl
  have hl : lv_has ls 3 [(0, .ref (ad 0)), (1, .int x1), (2, .int x2)] := hl
  have hT8 := hI.T8
  have hR16 := hI.R16
  have hN200 := hI.N200
  refine lv_aload_n hx hb dX5_likeness_0 rfl (lv_at hl 0 rfl) ?_
  refine lv_iload_n hx hb dX5_likeness_1 rfl (lv_at hl 1 rfl) ?_
  by_cases c_1 : okn x1 (cT S) = true
  · skip
    obtain ⟨u1, hu1, eu1⟩ := okn_t c_1
    subst eu1
    have iu1 : iN (nI u1) = u1 := iN_nI (by omega)
    refine q_rdv (q_runV (rest := []) hx hb hml hown hE (c_X5_requireTeam l D cI cZ cL ad S u1 hI hu1) ck_X5_requireTeam w_488 hP 0 rfl rfl hl.1 rfl ⟨Nat.le_of_ble_eq_true rfl, Nat.le_of_ble_eq_true rfl⟩ (Nat.le_of_ble_eq_true rfl) dX5_likeness_2 ⟨Nat.le_of_ble_eq_true rfl, Nat.le_of_ble_eq_true rfl⟩) ?_
    refine lv_aload_n hx hb dX5_likeness_5 rfl (lv_at hl 0 rfl) ?_
    refine lv_iload_n hx hb dX5_likeness_6 rfl (lv_at hl 2 rfl) ?_
    by_cases c_2 : okn x2 (cT S) = true
    · skip
      obtain ⟨u2, hu2, eu2⟩ := okn_t c_2
      subst eu2
      have iu2 : iN (nI u2) = u2 := iN_nI (by omega)
      refine q_rdv (q_runV (rest := []) hx hb hml hown hE (c_X5_requireTeam l D cI cZ cL ad S u2 hI hu2) ck_X5_requireTeam w_488 hP 0 rfl rfl hl.1 rfl ⟨Nat.le_of_ble_eq_true rfl, Nat.le_of_ble_eq_true rfl⟩ (Nat.le_of_ble_eq_true rfl) dX5_likeness_7 ⟨Nat.le_of_ble_eq_true rfl, Nat.le_of_ble_eq_true rfl⟩) ?_
      refine lv_aload_n hx hb dX5_likeness_10 rfl (lv_at hl 0 rfl) ?_
      refine q_get (v := .ref (ad 18)) hx hb hown hE inT_X5 hP 0 rfl rfl 4 (by decide) w_216 rfl dX5_likeness_11 ?_
      refine q_getN (v := .ref (ad 23)) hx hb hown hE inT_X2 hP 18 rfl rfl 4 (by decide) w_196 rfl dX5_likeness_14 ?_
      refine lv_iload_n hx hb dX5_likeness_17 rfl (lv_at hl 1 rfl) ?_
      refine lv_iload_n hx hb dX5_likeness_18 rfl (lv_at hl 2 rfl) ?_
      refine q_rd (q_runS (rest := [.ref (ad 23)]) hx hb hml hown hE (c_X5_pair l D cI cZ cL _ u1 u2) ck_X5_pair w_273 hP hl.1 rfl ⟨Nat.le_of_ble_eq_true rfl, Nat.le_of_ble_eq_true rfl⟩ (Nat.le_of_ble_eq_true rfl) dX5_likeness_19 ⟨Nat.le_of_ble_eq_true rfl, Nat.le_of_ble_eq_true rfl⟩) ?_
      refine q_iald (f := S 23) (i := (u1 * 8 + u2)) hx hb hE hP 23 rfl (by omega) (Nat.le_of_ble_eq_true rfl) dX5_likeness_22 ?_
      simp [oLike, oTT, xI, xA, xS, xN, c_1, iu1, c_2, iu2] at hth
    · skip
      have c_2 := eq_false_of_ne_true c_2
      exact q_th (q_thV (n' := 2) (k' := 6) (y := yX5_requireTeam) (rest := []) hx hb hml hown hE hT hZ (c_X5_requireTeam_T l hfl D cI cZ cL ad S x2 hI c_2) ck_X5_requireTeam w_488 hP 0 rfl rfl hl.1 rfl ⟨Nat.le_of_ble_eq_true rfl, Nat.le_of_ble_eq_true rfl⟩ (Nat.le_of_ble_eq_true rfl) dX5_likeness_7 ⟨Nat.le_of_ble_eq_true rfl, Nat.le_of_ble_eq_true rfl⟩) hlk hxt (Nat.le_refl _) (Nat.le_refl _) (fun t h1 h2 => ⟨rfl, h2⟩)
  · skip
    have c_1 := eq_false_of_ne_true c_1
    exact q_th (q_thV (n' := 2) (k' := 6) (y := yX5_requireTeam) (rest := []) hx hb hml hown hE hT hZ (c_X5_requireTeam_T l hfl D cI cZ cL ad S x1 hI c_1) ck_X5_requireTeam w_488 hP 0 rfl rfl hl.1 rfl ⟨Nat.le_of_ble_eq_true rfl, Nat.le_of_ble_eq_true rfl⟩ (Nat.le_of_ble_eq_true rfl) dX5_likeness_2 ⟨Nat.le_of_ble_eq_true rfl, Nat.le_of_ble_eq_true rfl⟩) hlk hxt (Nat.le_refl _) (Nat.le_refl _) (fun t h1 h2 => ⟨rfl, h2⟩)

theorem dX5_areLinked_0 : decode cX5_areLinked 0 = .ok (.aload_n 0, 1) := by decide +kernel
theorem dX5_areLinked_1 : decode cX5_areLinked 1 = .ok (.iload_n 1, 1) := by decide +kernel
theorem dX5_areLinked_2 : decode cX5_areLinked 2 = .ok (.invokevirtual 126, 3) := by decide +kernel
theorem dX5_areLinked_5 : decode cX5_areLinked 5 = .ok (.aload_n 0, 1) := by decide +kernel
theorem dX5_areLinked_6 : decode cX5_areLinked 6 = .ok (.iload_n 2, 1) := by decide +kernel
theorem dX5_areLinked_7 : decode cX5_areLinked 7 = .ok (.invokevirtual 126, 3) := by decide +kernel
theorem dX5_areLinked_10 : decode cX5_areLinked 10 = .ok (.aload_n 0, 1) := by decide +kernel
theorem dX5_areLinked_11 : decode cX5_areLinked 11 = .ok (.getfield 33, 3) := by decide +kernel
theorem dX5_areLinked_14 : decode cX5_areLinked 14 = .ok (.iload_n 1, 1) := by decide +kernel
theorem dX5_areLinked_15 : decode cX5_areLinked 15 = .ok (.iload_n 2, 1) := by decide +kernel
theorem dX5_areLinked_16 : decode cX5_areLinked 16 = .ok (.aload_n 0, 1) := by decide +kernel
theorem dX5_areLinked_17 : decode cX5_areLinked 17 = .ok (.getfield 40, 3) := by decide +kernel
theorem dX5_areLinked_20 : decode cX5_areLinked 20 = .ok (.getfield 196, 3) := by decide +kernel
theorem dX5_areLinked_23 : decode cX5_areLinked 23 = .ok (.iload_n 1, 1) := by decide +kernel
theorem dX5_areLinked_24 : decode cX5_areLinked 24 = .ok (.iload_n 2, 1) := by decide +kernel
theorem dX5_areLinked_25 : decode cX5_areLinked 25 = .ok (.invokestatic 199, 3) := by decide +kernel
theorem dX5_areLinked_28 : decode cX5_areLinked 28 = .ok (.iaload, 1) := by decide +kernel
theorem dX5_areLinked_29 : decode cX5_areLinked 29 = .ok (.invokevirtual 202, 3) := by decide +kernel
theorem dX5_areLinked_32 : decode cX5_areLinked 32 = .ok (.ireturn, 1) := by decide +kernel
set_option maxHeartbeats 4000000 in
set_option maxRecDepth 100000 in
theorem c_X5_areLinked (l : Launch) (D : va_G) (cI cZ cL : ClassId) (ad : Nat → Nat) (S : Mem) (x1 : Int32) (x2 : Int32) (hI : I0 S) (hth : (oLinked S x1 x2).1 = none) : RD l D cI cZ cL yX5_areLinked cX5_areLinked 3 (some .boolean) 7 [.ref (ad 0), .int x1, .int x2] (wC ad cI S) (some (.int ((oLinked S x1 x2).2.1))) := by
  refine RD.of (by decide) (Nat.le_of_ble_eq_true rfl) ?_
  intro p e s m args below meth c ls hx hb hr hml hown hlk hE hP hl
  have hl : lv_has ls 3 [(0, .ref (ad 0)), (1, .int x1), (2, .int x2)] := hl
  have hT8 := hI.T8
  have hR16 := hI.R16
  have hN200 := hI.N200
  refine lv_aload_n hx hb dX5_areLinked_0 rfl (lv_at hl 0 rfl) ?_
  refine lv_iload_n hx hb dX5_areLinked_1 rfl (lv_at hl 1 rfl) ?_
  by_cases c_1 : okn x1 (cT S) = true
  · skip
    obtain ⟨u1, hu1, eu1⟩ := okn_t c_1
    subst eu1
    have iu1 : iN (nI u1) = u1 := iN_nI (by omega)
    refine q_rdv (q_runV (rest := []) hx hb hml hown hE (c_X5_requireTeam l D cI cZ cL ad S u1 hI hu1) ck_X5_requireTeam w_488 hP 0 rfl rfl hl.1 rfl ⟨Nat.le_of_ble_eq_true rfl, Nat.le_of_ble_eq_true rfl⟩ (Nat.le_of_ble_eq_true rfl) dX5_areLinked_2 ⟨Nat.le_of_ble_eq_true rfl, Nat.le_of_ble_eq_true rfl⟩) ?_
    refine lv_aload_n hx hb dX5_areLinked_5 rfl (lv_at hl 0 rfl) ?_
    refine lv_iload_n hx hb dX5_areLinked_6 rfl (lv_at hl 2 rfl) ?_
    by_cases c_2 : okn x2 (cT S) = true
    · skip
      obtain ⟨u2, hu2, eu2⟩ := okn_t c_2
      subst eu2
      have iu2 : iN (nI u2) = u2 := iN_nI (by omega)
      refine q_rdv (q_runV (rest := []) hx hb hml hown hE (c_X5_requireTeam l D cI cZ cL ad S u2 hI hu2) ck_X5_requireTeam w_488 hP 0 rfl rfl hl.1 rfl ⟨Nat.le_of_ble_eq_true rfl, Nat.le_of_ble_eq_true rfl⟩ (Nat.le_of_ble_eq_true rfl) dX5_areLinked_7 ⟨Nat.le_of_ble_eq_true rfl, Nat.le_of_ble_eq_true rfl⟩) ?_
      refine lv_aload_n hx hb dX5_areLinked_10 rfl (lv_at hl 0 rfl) ?_
      refine q_get (v := .ref (ad 15)) hx hb hown hE inT_X5 hP 0 rfl rfl 3 (by decide) w_215 rfl dX5_areLinked_11 ?_
      refine lv_iload_n hx hb dX5_areLinked_14 rfl (lv_at hl 1 rfl) ?_
      refine lv_iload_n hx hb dX5_areLinked_15 rfl (lv_at hl 2 rfl) ?_
      refine lv_aload_n hx hb dX5_areLinked_16 rfl (lv_at hl 0 rfl) ?_
      refine q_get (v := .ref (ad 18)) hx hb hown hE inT_X5 hP 0 rfl rfl 4 (by decide) w_216 rfl dX5_areLinked_17 ?_
      refine q_getN (v := .ref (ad 23)) hx hb hown hE inT_X2 hP 18 rfl rfl 4 (by decide) w_196 rfl dX5_areLinked_20 ?_
      refine lv_iload_n hx hb dX5_areLinked_23 rfl (lv_at hl 1 rfl) ?_
      refine lv_iload_n hx hb dX5_areLinked_24 rfl (lv_at hl 2 rfl) ?_
      refine q_rd (q_runS (rest := [.ref (ad 23), .int (nI u2), .int (nI u1), .ref (ad 15)]) hx hb hml hown hE (c_X5_pair l D cI cZ cL _ u1 u2) ck_X5_pair w_273 hP hl.1 rfl ⟨Nat.le_of_ble_eq_true rfl, Nat.le_of_ble_eq_true rfl⟩ (Nat.le_of_ble_eq_true rfl) dX5_areLinked_25 ⟨Nat.le_of_ble_eq_true rfl, Nat.le_of_ble_eq_true rfl⟩) ?_
      refine q_iald (f := S 23) (i := (u1 * 8 + u2)) hx hb hE hP 23 rfl (by omega) (Nat.le_of_ble_eq_true rfl) dX5_areLinked_28 ?_
      refine q_rd (q_runVN (rest := []) hx hb hml hown hE (c_X1_links l D cI cZ cL ad S u1 u2 (S 23 (u1 * 8 + u2)) (by omega) (by omega)) ck_X1_links w_276 hP 15 rfl rfl hl.1 rfl ⟨Nat.le_of_ble_eq_true rfl, Nat.le_of_ble_eq_true rfl⟩ (Nat.le_of_ble_eq_true rfl) dX5_areLinked_29 ⟨Nat.le_of_ble_eq_true rfl, Nat.le_of_ble_eq_true rfl⟩) ?_
      rw [show oLinked S (nI u1) (nI u2) = (none, bI (p_links S u1 u2 (S 23 (u1 * 8 + u2))), S) from by first | (simp only [oLinked, oTT, c_1, iu1, c_2, iu2, ↓reduceIte]; done) | (simp only [oLinked, oTT, c_1, iu1, c_2, iu2, ↓reduceIte]; rfl) | (simp [oLinked, oTT, c_1, iu1, c_2, iu2]; done) | (simp [oLinked, oTT, c_1, iu1, c_2, iu2]; rfl)]
      exact e_ret hx hb hr hlk (n_bI _) dX5_areLinked_32
    · skip
      simp [oLinked, oTT, xI, xA, xS, xN, c_1, iu1, c_2] at hth
  · skip
    simp [oLinked, oTT, xI, xA, xS, xN, c_1] at hth
