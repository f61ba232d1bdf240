theorem dX5_price_36 : decode cX5_price 36 = .ok (.dup, 1) := by decide +kernel
theorem dX5_price_37 : decode cX5_price 37 = .ok (.ldc 168, 2) := by decide +kernel
theorem dX5_price_39 : decode cX5_price 39 = .ok (.invokespecial 170, 3) := by decide +kernel
theorem dX5_price_42 : decode cX5_price 42 = .ok (.athrow, 1) := by decide +kernel
set_option maxHeartbeats 4000000 in
set_option maxRecDepth 100000 in
theorem c_X5_price_T1 (l : Launch) (hfl : l.flags = flags0) (D : va_G) (cI cZ cL : ClassId) (ad : Nat → Nat) (S : Mem) (x1 : Int32) (x2 : Int32) (hI : I0 S) (hth : (oPrice S x1 x2).1 = some "java/util/NoSuchElementException") : TH l D cI cZ cL yX5_price cX5_price 3 (some .int) 7 [.ref (ad 0), .int x1, .int x2] (wC ad cI S) "java/util/NoSuchElementException" := by
  refine TH.of (by decide) (Nat.le_of_ble_eq_true rfl) ?_
  intro p e s m args below meth c ls hx hb hr hml hown hlk hxt hE hT hZ hP hl
  have hl : lv_has ls 3 [(0, .ref (ad 0)), (1, .int x1), (2, .int x2)] := hl
  have hT8 := hI.T8
  have hR16 := hI.R16
  have hN200 := hI.N200
  refine lv_aload_n hx hb dX5_price_0 rfl (lv_at hl 0 rfl) ?_
  refine lv_iload_n hx hb dX5_price_1 rfl (lv_at hl 1 rfl) ?_
  by_cases c_1 : okn x1 (cT S) = true
  · skip
    obtain ⟨u1, hu1, eu1⟩ := okn_t c_1
    subst eu1
    have iu1 : iN (nI u1) = u1 := iN_nI (by omega)
    refine q_rdv (q_runV (rest := []) hx hb hml hown hE (c_X5_requireTeam l D cI cZ cL ad S u1 hI hu1) ck_X5_requireTeam w_488 hP 0 rfl rfl hl.1 rfl ⟨Nat.le_of_ble_eq_true rfl, Nat.le_of_ble_eq_true rfl⟩ (Nat.le_of_ble_eq_true rfl) dX5_price_2 ⟨Nat.le_of_ble_eq_true rfl, Nat.le_of_ble_eq_true rfl⟩) ?_
    refine lv_aload_n hx hb dX5_price_5 rfl (lv_at hl 0 rfl) ?_
    refine lv_iload_n hx hb dX5_price_6 rfl (lv_at hl 2 rfl) ?_
    by_cases c_2 : okn x2 (cR S) = true
    · skip
      obtain ⟨u2, hu2, eu2⟩ := okn_t c_2
      subst eu2
      have iu2 : iN (nI u2) = u2 := iN_nI (by omega)
      refine q_rdv (q_runV (rest := []) hx hb hml hown hE (c_X5_requireRiddle l D cI cZ cL ad S u2 hI hu2) ck_X5_requireRiddle w_436 hP 0 rfl rfl hl.1 rfl ⟨Nat.le_of_ble_eq_true rfl, Nat.le_of_ble_eq_true rfl⟩ (Nat.le_of_ble_eq_true rfl) dX5_price_7 ⟨Nat.le_of_ble_eq_true rfl, Nat.le_of_ble_eq_true rfl⟩) ?_
      refine lv_aload_n hx hb dX5_price_10 rfl (lv_at hl 0 rfl) ?_
      refine lv_aload_n hx hb dX5_price_11 rfl (lv_at hl 0 rfl) ?_
      refine q_get (v := .ref (ad 18)) hx hb hown hE inT_X5 hP 0 rfl rfl 4 (by decide) w_216 rfl dX5_price_12 ?_
      refine lv_iload_n hx hb dX5_price_15 rfl (lv_at hl 1 rfl) ?_
      refine lv_iload_n hx hb dX5_price_16 rfl (lv_at hl 2 rfl) ?_
      refine q_rd (q_runV (rest := []) hx hb hml hown hE (c_X5_openMinute_18 l D cI cZ cL ad S u1 u2 (by omega) (by omega)) ck_X5_openMinute w_497 hP 0 rfl rfl hl.1 rfl ⟨Nat.le_of_ble_eq_true rfl, Nat.le_of_ble_eq_true rfl⟩ (Nat.le_of_ble_eq_true rfl) dX5_price_17 ⟨Nat.le_of_ble_eq_true rfl, Nat.le_of_ble_eq_true rfl⟩) ?_
      refine lv_iconst (v := (-1)) hx hb dX5_price_20 (by decide) ?_
      refine lv_icmp_eq (tgt := 33) hx hb dX5_price_21 (by decide) (fun c_3 => ?_) (fun c_3 => ?_)
      · skip
        have e_3 := eq_true c_3
        obtain ⟨sa, hsa⟩ := hT "PuzzleRegistry" 168 "there is no next hint" (List.mem_of_getElem? (i := 533) (by decide +kernel))
        exact zx_throwS (rest := []) (A := q_no) (names := tn_names) hx hb (q_flags hfl) tn_0 tn_1 tn_2 tn_5 hown rfl rfl tn_names_ok (hE.1 _ w_570 args) (hE.1 _ w_76 args) hsa (fun w h => hE.1 w (tn_w w h) args) tn_g hZ.1 hZ.2 va_S.rf (hl.1.trans hml.symm) dX5_price_33 dX5_price_36 dX5_price_37 dX5_price_39 dX5_price_42 (fun x hx => (hxt x hx).elim) (Nat.le_of_ble_eq_true rfl) (Nat.le_of_ble_eq_true rfl) (Nat.le_of_ble_eq_true rfl) (Nat.le_of_ble_eq_true rfl) hlk (fun t h1 h2 h3 => ⟨rfl, h2, fun q h4 _ => h3 q h4⟩) (fun _ h => nomatch h) (Nat.le_refl _) (Nat.le_refl _)
      · skip
        refine lv_aload_n hx hb dX5_price_24 rfl (lv_at hl 0 rfl) ?_
        refine lv_iload_n hx hb dX5_price_25 rfl (lv_at hl 1 rfl) ?_
        refine lv_iload_n hx hb dX5_price_26 rfl (lv_at hl 2 rfl) ?_
        refine q_rd (q_runV (rest := []) hx hb hml hown hE (c_X5_hasHintsLeft l D cI cZ cL ad S u1 u2 (by omega) (by omega)) ck_X5_hasHintsLeft w_536 hP 0 rfl rfl hl.1 rfl ⟨Nat.le_of_ble_eq_true rfl, Nat.le_of_ble_eq_true rfl⟩ (Nat.le_of_ble_eq_true rfl) dX5_price_27 ⟨Nat.le_of_ble_eq_true rfl, Nat.le_of_ble_eq_true rfl⟩) ?_
        refine lv_if_ne (tgt := 43) hx hb dX5_price_30 (by decide) (fun c_4 => ?_) (fun c_4 => ?_)
        · skip
          have c_4 : p_left S u1 u2 = true := b_t c_4
          refine lv_aload_n hx hb dX5_price_43 rfl (lv_at hl 0 rfl) ?_
          refine lv_iload_n hx hb dX5_price_44 rfl (lv_at hl 1 rfl) ?_
          refine lv_iload_n hx hb dX5_price_45 rfl (lv_at hl 2 rfl) ?_
          refine q_rd (q_runV (rest := []) hx hb hml hown hE (c_X5_nextPrice l D cI cZ cL ad S u1 u2 (by omega) (by omega)) ck_X5_nextPrice w_541 hP 0 rfl rfl hl.1 rfl ⟨Nat.le_of_ble_eq_true rfl, Nat.le_of_ble_eq_true rfl⟩ (Nat.le_of_ble_eq_true rfl) dX5_price_46 ⟨Nat.le_of_ble_eq_true rfl, Nat.le_of_ble_eq_true rfl⟩) ?_
          simp [oPrice, o2, xI, xA, xS, xN, c_1, iu1, c_2, iu2, c_3, c_4] at hth
        · skip
          have c_4 : p_left S u1 u2 = false := b_f c_4
          obtain ⟨sa, hsa⟩ := hT "PuzzleRegistry" 168 "there is no next hint" (List.mem_of_getElem? (i := 533) (by decide +kernel))
          exact zx_throwS (rest := []) (A := q_no) (names := tn_names) hx hb (q_flags hfl) tn_0 tn_1 tn_2 tn_5 hown rfl rfl tn_names_ok (hE.1 _ w_570 args) (hE.1 _ w_76 args) hsa (fun w h => hE.1 w (tn_w w h) args) tn_g hZ.1 hZ.2 va_S.rf (hl.1.trans hml.symm) dX5_price_33 dX5_price_36 dX5_price_37 dX5_price_39 dX5_price_42 (fun x hx => (hxt x hx).elim) (Nat.le_of_ble_eq_true rfl) (Nat.le_of_ble_eq_true rfl) (Nat.le_of_ble_eq_true rfl) (Nat.le_of_ble_eq_true rfl) hlk (fun t h1 h2 h3 => ⟨rfl, h2, fun q h4 _ => h3 q h4⟩) (fun _ h => nomatch h) (Nat.le_refl _) (Nat.le_refl _)
    · skip
      simp [oPrice, o2, xI, xA, xS, xN, c_1, iu1, c_2] at hth
  · skip
    simp [oPrice, o2, xI, xA, xS, xN, c_1] at hth
