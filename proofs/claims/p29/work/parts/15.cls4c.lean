
set_option maxHeartbeats 4000000 in
set_option maxRecDepth 100000 in
theorem c_X5_areLinked_T0 (l : Launch) (hfl : l.flags = flags0) (D : va_G) (cI cZ cL : ClassId) (ad : Nat → Nat) (S : Mem) (x1 : Int32) (x2 : Int32) (hI : I0 S) (hth : (oLinked S x1 x2).1 = some "java/lang/IndexOutOfBoundsException") : TH l D cI cZ cL yX5_areLinked cX5_areLinked 3 (some .boolean) 7 [.ref (ad 0), .int x1, .int x2] (wC ad cI S) "java/lang/IndexOutOfBoundsException" := by
  refine TH.of (by decide) (Nat.le_of_ble_eq_true rfl) ?_
  intro p e s m args below meth c ls hx hb hr hml hown hlk hxt hE hT hZ hP hl
  have hl : lv_has ls 3 [(0, .ref (ad 0)), (1, .int x1), (2, .int x2)] := hl
  have hT8 := hI.T8
  have hR16 := hI.R16
  have hN200 := hI.N200
  refine lv_aload_n hx hb dX5_areLinked_0 rfl (lv_at hl 0 rfl) ?_
  refine lv_iload_n hx hb dX5_areLinked_1 rfl (lv_at hl 1 rfl) ?_
  by_cases c_1 : okn x1 (cT S) = true
  · skip
    obtain ⟨u1, hu1, eu1⟩ := okn_t c_1
    subst eu1
    have iu1 : iN (nI u1) = u1 := iN_nI (by omega)
    refine q_rdv (q_runV (rest := []) hx hb hml hown hE (c_X5_requireTeam l D cI cZ cL ad S u1 hI hu1) ck_X5_requireTeam w_488 hP 0 rfl rfl hl.1 rfl ⟨Nat.le_of_ble_eq_true rfl, Nat.le_of_ble_eq_true rfl⟩ (Nat.le_of_ble_eq_true rfl) dX5_areLinked_2 ⟨Nat.le_of_ble_eq_true rfl, Nat.le_of_ble_eq_true rfl⟩) ?_
    refine lv_aload_n hx hb dX5_areLinked_5 rfl (lv_at hl 0 rfl) ?_
    refine lv_iload_n hx hb dX5_areLinked_6 rfl (lv_at hl 2 rfl) ?_
    by_cases c_2 : okn x2 (cT S) = true
    · skip
      obtain ⟨u2, hu2, eu2⟩ := okn_t c_2
      subst eu2
      have iu2 : iN (nI u2) = u2 := iN_nI (by omega)
      refine q_rdv (q_runV (rest := []) hx hb hml hown hE (c_X5_requireTeam l D cI cZ cL ad S u2 hI hu2) ck_X5_requireTeam w_488 hP 0 rfl rfl hl.1 rfl ⟨Nat.le_of_ble_eq_true rfl, Nat.le_of_ble_eq_true rfl⟩ (Nat.le_of_ble_eq_true rfl) dX5_areLinked_7 ⟨Nat.le_of_ble_eq_true rfl, Nat.le_of_ble_eq_true rfl⟩) ?_
      refine lv_aload_n hx hb dX5_areLinked_10 rfl (lv_at hl 0 rfl) ?_
      refine q_get (v := .ref (ad 15)) hx hb hown hE inT_X5 hP 0 rfl rfl 3 (by decide) w_215 rfl dX5_areLinked_11 ?_
      refine lv_iload_n hx hb dX5_areLinked_14 rfl (lv_at hl 1 rfl) ?_
      refine lv_iload_n hx hb dX5_areLinked_15 rfl (lv_at hl 2 rfl) ?_
      refine lv_aload_n hx hb dX5_areLinked_16 rfl (lv_at hl 0 rfl) ?_
      refine q_get (v := .ref (ad 18)) hx hb hown hE inT_X5 hP 0 rfl rfl 4 (by decide) w_216 rfl dX5_areLinked_17 ?_
      refine q_getN (v := .ref (ad 23)) hx hb hown hE inT_X2 hP 18 rfl rfl 4 (by decide) w_196 rfl dX5_areLinked_20 ?_
      refine lv_iload_n hx hb dX5_areLinked_23 rfl (lv_at hl 1 rfl) ?_
      refine lv_iload_n hx hb dX5_areLinked_24 rfl (lv_at hl 2 rfl) ?_
      refine q_rd (q_runS (rest := [.ref (ad 23), .int (nI u2), .int (nI u1), .ref (ad 15)]) hx hb hml hown hE (c_X5_pair l D cI cZ cL _ u1 u2) ck_X5_pair w_273 hP hl.1 rfl ⟨Nat.le_of_ble_eq_true rfl, Nat.le_of_ble_eq_true rfl⟩ (Nat.le_of_ble_eq_true rfl) dX5_areLinked_25 ⟨Nat.le_of_ble_eq_true rfl, Nat.le_of_ble_eq_true rfl⟩) ?_
      refine q_iald (f := S 23) (i := (u1 * 8 + u2)) hx hb hE hP 23 rfl (by omega) (Nat.le_of_ble_eq_true rfl) dX5_areLinked_28 ?_
      refine q_rd (q_runVN (rest := []) hx hb hml hown hE (c_X1_links l D cI cZ cL ad S u1 u2 (S 23 (u1 * 8 + u2)) (by omega) (by omega)) ck_X1_links w_276 hP 15 rfl rfl hl.1 rfl ⟨Nat.le_of_ble_eq_true rfl, Nat.le_of_ble_eq_true rfl⟩ (Nat.le_of_ble_eq_true rfl) dX5_areLinked_29 ⟨Nat.le_of_ble_eq_true rfl, Nat.le_of_ble_eq_true rfl⟩) ?_
      simp [oLinked, oTT, xI, xA, xS, xN, c_1, iu1, c_2, iu2] at hth
    · skip
      have c_2 := eq_false_of_ne_true c_2
      exact q_th (q_thV (n' := 2) (k' := 6) (y := yX5_requireTeam) (rest := []) hx hb hml hown hE hT hZ (c_X5_requireTeam_T l hfl D cI cZ cL ad S x2 hI c_2) ck_X5_requireTeam w_488 hP 0 rfl rfl hl.1 rfl ⟨Nat.le_of_ble_eq_true rfl, Nat.le_of_ble_eq_true rfl⟩ (Nat.le_of_ble_eq_true rfl) dX5_areLinked_7 ⟨Nat.le_of_ble_eq_true rfl, Nat.le_of_ble_eq_true rfl⟩) hlk hxt (Nat.le_refl _) (Nat.le_refl _) (fun t h1 h2 => ⟨rfl, h2⟩)
  · skip
    have c_1 := eq_false_of_ne_true c_1
    exact q_th (q_thV (n' := 2) (k' := 6) (y := yX5_requireTeam) (rest := []) hx hb hml hown hE hT hZ (c_X5_requireTeam_T l hfl D cI cZ cL ad S x1 hI c_1) ck_X5_requireTeam w_488 hP 0 rfl rfl hl.1 rfl ⟨Nat.le_of_ble_eq_true rfl, Nat.le_of_ble_eq_true rfl⟩ (Nat.le_of_ble_eq_true rfl) dX5_areLinked_2 ⟨Nat.le_of_ble_eq_true rfl, Nat.le_of_ble_eq_true rfl⟩) hlk hxt (Nat.le_refl _) (Nat.le_refl _) (fun t h1 h2 => ⟨rfl, h2⟩)

theorem dX5_isCheated_0 : decode cX5_isCheated 0 = .ok (.aload_n 0, 1) := by decide +kernel
theorem dX5_isCheated_1 : decode cX5_isCheated 1 = .ok (.iload_n 1, 1) := by decide +kernel
theorem dX5_isCheated_2 : decode cX5_isCheated 2 = .ok (.invokevirtual 126, 3) := by decide +kernel
theorem dX5_isCheated_5 : decode cX5_isCheated 5 = .ok (.aload_n 0, 1) := by decide +kernel
theorem dX5_isCheated_6 : decode cX5_isCheated 6 = .ok (.iload_n 2, 1) := by decide +kernel
theorem dX5_isCheated_7 : decode cX5_isCheated 7 = .ok (.invokevirtual 85, 3) := by decide +kernel
theorem dX5_isCheated_10 : decode cX5_isCheated 10 = .ok (.aload_n 0, 1) := by decide +kernel
theorem dX5_isCheated_11 : decode cX5_isCheated 11 = .ok (.aload_n 0, 1) := by decide +kernel
theorem dX5_isCheated_12 : decode cX5_isCheated 12 = .ok (.getfield 40, 3) := by decide +kernel
theorem dX5_isCheated_15 : decode cX5_isCheated 15 = .ok (.iload_n 1, 1) := by decide +kernel
theorem dX5_isCheated_16 : decode cX5_isCheated 16 = .ok (.invokevirtual 206, 3) := by decide +kernel
theorem dX5_isCheated_19 : decode cX5_isCheated 19 = .ok (.iload_n 2, 1) := by decide +kernel
theorem dX5_isCheated_20 : decode cX5_isCheated 20 = .ok (.invokestatic 97, 3) := by decide +kernel
theorem dX5_isCheated_23 : decode cX5_isCheated 23 = .ok (.ireturn, 1) := by decide +kernel
set_option maxHeartbeats 4000000 in
set_option maxRecDepth 100000 in
theorem c_X5_isCheated (l : Launch) (D : va_G) (cI cZ cL : ClassId) (ad : Nat → Nat) (S : Mem) (x1 : Int32) (x2 : Int32) (hI : I0 S) (hth : (oCheat S x1 x2).1 = none) : RD l D cI cZ cL yX5_isCheated cX5_isCheated 3 (some .boolean) 7 [.ref (ad 0), .int x1, .int x2] (wC ad cI S) (some (.int ((oCheat S x1 x2).2.1))) := by
  refine RD.of (by decide) (Nat.le_of_ble_eq_true rfl) ?_
  intro p e s m args below meth c ls hx hb hr hml hown hlk hE hP hl
  have hl : lv_has ls 3 [(0, .ref (ad 0)), (1, .int x1), (2, .int x2)] := hl
  have hT8 := hI.T8
  have hR16 := hI.R16
  have hN200 := hI.N200
  refine lv_aload_n hx hb dX5_isCheated_0 rfl (lv_at hl 0 rfl) ?_
  refine lv_iload_n hx hb dX5_isCheated_1 rfl (lv_at hl 1 rfl) ?_
  by_cases c_1 : okn x1 (cT S) = true
  · skip
    obtain ⟨u1, hu1, eu1⟩ := okn_t c_1
    subst eu1
    have iu1 : iN (nI u1) = u1 := iN_nI (by omega)
    refine q_rdv (q_runV (rest := []) hx hb hml hown hE (c_X5_requireTeam l D cI cZ cL ad S u1 hI hu1) ck_X5_requireTeam w_488 hP 0 rfl rfl hl.1 rfl ⟨Nat.le_of_ble_eq_true rfl, Nat.le_of_ble_eq_true rfl⟩ (Nat.le_of_ble_eq_true rfl) dX5_isCheated_2 ⟨Nat.le_of_ble_eq_true rfl, Nat.le_of_ble_eq_true rfl⟩) ?_
    refine lv_aload_n hx hb dX5_isCheated_5 rfl (lv_at hl 0 rfl) ?_
    refine lv_iload_n hx hb dX5_isCheated_6 rfl (lv_at hl 2 rfl) ?_
    by_cases c_2 : okn x2 (cR S) = true
    · skip
      obtain ⟨u2, hu2, eu2⟩ := okn_t c_2
      subst eu2
      have iu2 : iN (nI u2) = u2 := iN_nI (by omega)
      refine q_rdv (q_runV (rest := []) hx hb hml hown hE (c_X5_requireRiddle l D cI cZ cL ad S u2 hI hu2) ck_X5_requireRiddle w_436 hP 0 rfl rfl hl.1 rfl ⟨Nat.le_of_ble_eq_true rfl, Nat.le_of_ble_eq_true rfl⟩ (Nat.le_of_ble_eq_true rfl) dX5_isCheated_7 ⟨Nat.le_of_ble_eq_true rfl, Nat.le_of_ble_eq_true rfl⟩) ?_
      refine lv_aload_n hx hb dX5_isCheated_10 rfl (lv_at hl 0 rfl) ?_
      refine lv_aload_n hx hb dX5_isCheated_11 rfl (lv_at hl 0 rfl) ?_
      refine q_get (v := .ref (ad 18)) hx hb hown hE inT_X5 hP 0 rfl rfl 4 (by decide) w_216 rfl dX5_isCheated_12 ?_
      refine lv_iload_n hx hb dX5_isCheated_15 rfl (lv_at hl 1 rfl) ?_
      refine q_rd (q_runV (rest := []) hx hb hml hown hE (c_X5_cheatedSet_18 l D cI cZ cL ad S u1 hI (by omega)) ck_X5_cheatedSet w_269 hP 0 rfl rfl hl.1 rfl ⟨Nat.le_of_ble_eq_true rfl, Nat.le_of_ble_eq_true rfl⟩ (Nat.le_of_ble_eq_true rfl) dX5_isCheated_16 ⟨Nat.le_of_ble_eq_true rfl, Nat.le_of_ble_eq_true rfl⟩) ?_
      refine lv_iload_n hx hb dX5_isCheated_19 rfl (lv_at hl 2 rfl) ?_
      refine q_rd (q_runS (rest := []) hx hb hml hown hE (c_X5_has l D cI cZ cL _ (p_cheat S 18 u1 (cT S)) (nI u2)) ck_X5_has w_298 hP hl.1 rfl ⟨Nat.le_of_ble_eq_true rfl, Nat.le_of_ble_eq_true rfl⟩ (Nat.le_of_ble_eq_true rfl) dX5_isCheated_20 ⟨Nat.le_of_ble_eq_true rfl, Nat.le_of_ble_eq_true rfl⟩) ?_
      rw [show oCheat S (nI u1) (nI u2) = (none, bI (hs (p_cheat S 18 u1 (cT S)) (nI u2)), S) from by first | (simp only [oCheat, o2, c_1, iu1, c_2, iu2, ↓reduceIte]; done) | (simp only [oCheat, o2, c_1, iu1, c_2, iu2, ↓reduceIte]; rfl) | (simp [oCheat, o2, c_1, iu1, c_2, iu2]; done) | (simp [oCheat, o2, c_1, iu1, c_2, iu2]; rfl)]
      exact e_ret hx hb hr hlk (n_bI _) dX5_isCheated_23
    · skip
      simp [oCheat, o2, xI, xA, xS, xN, c_1, iu1, c_2] at hth
  · skip
    simp [oCheat, o2, xI, xA, xS, xN, c_1] at hth


set_option maxHeartbeats 4000000 in
set_option maxRecDepth 100000 in
theorem c_X5_isCheated_T0 (l : Launch) (hfl : l.flags = flags0) (D : va_G) (cI cZ cL : ClassId) (ad : Nat → Nat) (S : Mem) (x1 : Int32) (x2 : Int32) (hI : I0 S) (hth : (oCheat S x1 x2).1 = some "java/lang/IndexOutOfBoundsException") : TH l D cI cZ cL yX5_isCheated cX5_isCheated 3 (some .boolean) 7 [.ref (ad 0), .int x1, .int x2] (wC ad cI S) "java/lang/IndexOutOfBoundsException" := by
  refine TH.of (by decide) (Nat.le_of_ble_eq_true rfl) ?_
  intro p e s m args below meth c ls hx hb hr hml hown hlk hxt hE hT hZ hP hl
  have hl : lv_has ls 3 [(0, .ref (ad 0)), (1, .int x1), (2, .int x2)] := hl
  have hT8 := hI.T8
  have hR16 := hI.R16
  have hN200 := hI.N200
  refine lv_aload_n hx hb dX5_isCheated_0 rfl (lv_at hl 0 rfl) ?_
  refine lv_iload_n hx hb dX5_isCheated_1 rfl (lv_at hl 1 rfl) ?_
  by_cases c_1 : okn x1 (cT S) = true
  · skip
    obtain ⟨u1, hu1, eu1⟩ := okn_t c_1
    subst eu1
    have iu1 : iN (nI u1) = u1 := iN_nI (by omega)
    refine q_rdv (q_runV (rest := []) hx hb hml hown hE (c_X5_requireTeam l D cI cZ cL ad S u1 hI hu1) ck_X5_requireTeam w_488 hP 0 rfl rfl hl.1 rfl ⟨Nat.le_of_ble_eq_true rfl, Nat.le_of_ble_eq_true rfl⟩ (Nat.le_of_ble_eq_true rfl) dX5_isCheated_2 ⟨Nat.le_of_ble_eq_true rfl, Nat.le_of_ble_eq_true rfl⟩) ?_
    refine lv_aload_n hx hb dX5_isCheated_5 rfl (lv_at hl 0 rfl) ?_
    refine lv_iload_n hx hb dX5_isCheated_6 rfl (lv_at hl 2 rfl) ?_
    by_cases c_2 : okn x2 (cR S) = true
    · skip
      obtain ⟨u2, hu2, eu2⟩ := okn_t c_2
      subst eu2
      have iu2 : iN (nI u2) = u2 := iN_nI (by omega)
      refine q_rdv (q_runV (rest := []) hx hb hml hown hE (c_X5_requireRiddle l D cI cZ cL ad S u2 hI hu2) ck_X5_requireRiddle w_436 hP 0 rfl rfl hl.1 rfl ⟨Nat.le_of_ble_eq_true rfl, Nat.le_of_ble_eq_true rfl⟩ (Nat.le_of_ble_eq_true rfl) dX5_isCheated_7 ⟨Nat.le_of_ble_eq_true rfl, Nat.le_of_ble_eq_true rfl⟩) ?_
      refine lv_aload_n hx hb dX5_isCheated_10 rfl (lv_at hl 0 rfl) ?_
      refine lv_aload_n hx hb dX5_isCheated_11 rfl (lv_at hl 0 rfl) ?_
      refine q_get (v := .ref (ad 18)) hx hb hown hE inT_X5 hP 0 rfl rfl 4 (by decide) w_216 rfl dX5_isCheated_12 ?_
      refine lv_iload_n hx hb dX5_isCheated_15 rfl (lv_at hl 1 rfl) ?_
      refine q_rd (q_runV (rest := []) hx hb hml hown hE (c_X5_cheatedSet_18 l D cI cZ cL ad S u1 hI (by omega)) ck_X5_cheatedSet w_269 hP 0 rfl rfl hl.1 rfl ⟨Nat.le_of_ble_eq_true rfl, Nat.le_of_ble_eq_true rfl⟩ (Nat.le_of_ble_eq_true rfl) dX5_isCheated_16 ⟨Nat.le_of_ble_eq_true rfl, Nat.le_of_ble_eq_true rfl⟩) ?_
      refine lv_iload_n hx hb dX5_isCheated_19 rfl (lv_at hl 2 rfl) ?_
      refine q_rd (q_runS (rest := []) hx hb hml hown hE (c_X5_has l D cI cZ cL _ (p_cheat S 18 u1 (cT S)) (nI u2)) ck_X5_has w_298 hP hl.1 rfl ⟨Nat.le_of_ble_eq_true rfl, Nat.le_of_ble_eq_true rfl⟩ (Nat.le_of_ble_eq_true rfl) dX5_isCheated_20 ⟨Nat.le_of_ble_eq_true rfl, Nat.le_of_ble_eq_true rfl⟩) ?_
      simp [oCheat, o2, xI, xA, xS, xN, c_1, iu1, c_2, iu2] at hth
    · skip
      have c_2 := eq_false_of_ne_true c_2
      exact q_th (q_thV (n' := 2) (k' := 6) (y := yX5_requireRiddle) (rest := []) hx hb hml hown hE hT hZ (c_X5_requireRiddle_T l hfl D cI cZ cL ad S x2 hI c_2) ck_X5_requireRiddle w_436 hP 0 rfl rfl hl.1 rfl ⟨Nat.le_of_ble_eq_true rfl, Nat.le_of_ble_eq_true rfl⟩ (Nat.le_of_ble_eq_true rfl) dX5_isCheated_7 ⟨Nat.le_of_ble_eq_true rfl, Nat.le_of_ble_eq_true rfl⟩) hlk hxt (Nat.le_refl _) (Nat.le_refl _) (fun t h1 h2 => ⟨rfl, h2⟩)
  · skip
    have c_1 := eq_false_of_ne_true c_1
    exact q_th (q_thV (n' := 2) (k' := 6) (y := yX5_requireTeam) (rest := []) hx hb hml hown hE hT hZ (c_X5_requireTeam_T l hfl D cI cZ cL ad S x1 hI c_1) ck_X5_requireTeam w_488 hP 0 rfl rfl hl.1 rfl ⟨Nat.le_of_ble_eq_true rfl, Nat.le_of_ble_eq_true rfl⟩ (Nat.le_of_ble_eq_true rfl) dX5_isCheated_2 ⟨Nat.le_of_ble_eq_true rfl, Nat.le_of_ble_eq_true rfl⟩) hlk hxt (Nat.le_refl _) (Nat.le_refl _) (fun t h1 h2 => ⟨rfl, h2⟩)

theorem dX5_isVoid_0 : decode cX5_isVoid 0 = .ok (.aload_n 0, 1) := by decide +kernel
theorem dX5_isVoid_1 : decode cX5_isVoid 1 = .ok (.iload_n 1, 1) := by decide +kernel
theorem dX5_isVoid_2 : decode cX5_isVoid 2 = .ok (.invokevirtual 126, 3) := by decide +kernel
theorem dX5_isVoid_5 : decode cX5_isVoid 5 = .ok (.aload_n 0, 1) := by decide +kernel
theorem dX5_isVoid_6 : decode cX5_isVoid 6 = .ok (.iload_n 2, 1) := by decide +kernel
theorem dX5_isVoid_7 : decode cX5_isVoid 7 = .ok (.invokevirtual 85, 3) := by decide +kernel
theorem dX5_isVoid_10 : decode cX5_isVoid 10 = .ok (.aload_n 0, 1) := by decide +kernel
theorem dX5_isVoid_11 : decode cX5_isVoid 11 = .ok (.aload_n 0, 1) := by decide +kernel
theorem dX5_isVoid_12 : decode cX5_isVoid 12 = .ok (.getfield 40, 3) := by decide +kernel
theorem dX5_isVoid_15 : decode cX5_isVoid 15 = .ok (.iload_n 1, 1) := by decide +kernel
theorem dX5_isVoid_16 : decode cX5_isVoid 16 = .ok (.invokevirtual 210, 3) := by decide +kernel
theorem dX5_isVoid_19 : decode cX5_isVoid 19 = .ok (.iload_n 2, 1) := by decide +kernel
theorem dX5_isVoid_20 : decode cX5_isVoid 20 = .ok (.invokestatic 97, 3) := by decide +kernel
theorem dX5_isVoid_23 : decode cX5_isVoid 23 = .ok (.ireturn, 1) := by decide +kernel
set_option maxHeartbeats 4000000 in
set_option maxRecDepth 100000 in
theorem c_X5_isVoid (l : Launch) (D : va_G) (cI cZ cL : ClassId) (ad : Nat → Nat) (S : Mem) (x1 : Int32) (x2 : Int32) (hI : I0 S) (hth : (oVoid S x1 x2).1 = none) : RD l D cI cZ cL yX5_isVoid cX5_isVoid 3 (some .boolean) 7 [.ref (ad 0), .int x1, .int x2] (wC ad cI S) (some (.int ((oVoid S x1 x2).2.1))) := by
  refine RD.of (by decide) (Nat.le_of_ble_eq_true rfl) ?_
  intro p e s m args below meth c ls hx hb hr hml hown hlk hE hP hl
  have hl : lv_has ls 3 [(0, .ref (ad 0)), (1, .int x1), (2, .int x2)] := hl
  have hT8 := hI.T8
  have hR16 := hI.R16
  have hN200 := hI.N200
  refine lv_aload_n hx hb dX5_isVoid_0 rfl (lv_at hl 0 rfl) ?_
  refine lv_iload_n hx hb dX5_isVoid_1 rfl (lv_at hl 1 rfl) ?_
  by_cases c_1 : okn x1 (cT S) = true
  · skip
    obtain ⟨u1, hu1, eu1⟩ := okn_t c_1
    subst eu1
    have iu1 : iN (nI u1) = u1 := iN_nI (by omega)
    refine q_rdv (q_runV (rest := []) hx hb hml hown hE (c_X5_requireTeam l D cI cZ cL ad S u1 hI hu1) ck_X5_requireTeam w_488 hP 0 rfl rfl hl.1 rfl ⟨Nat.le_of_ble_eq_true rfl, Nat.le_of_ble_eq_true rfl⟩ (Nat.le_of_ble_eq_true rfl) dX5_isVoid_2 ⟨Nat.le_of_ble_eq_true rfl, Nat.le_of_ble_eq_true rfl⟩) ?_
    refine lv_aload_n hx hb dX5_isVoid_5 rfl (lv_at hl 0 rfl) ?_
    refine lv_iload_n hx hb dX5_isVoid_6 rfl (lv_at hl 2 rfl) ?_
    by_cases c_2 : okn x2 (cR S) = true
    · skip
      obtain ⟨u2, hu2, eu2⟩ := okn_t c_2
      subst eu2
      have iu2 : iN (nI u2) = u2 := iN_nI (by omega)
      refine q_rdv (q_runV (rest := []) hx hb hml hown hE (c_X5_requireRiddle l D cI cZ cL ad S u2 hI hu2) ck_X5_requireRiddle w_436 hP 0 rfl rfl hl.1 rfl ⟨Nat.le_of_ble_eq_true rfl, Nat.le_of_ble_eq_true rfl⟩ (Nat.le_of_ble_eq_true rfl) dX5_isVoid_7 ⟨Nat.le_of_ble_eq_true rfl, Nat.le_of_ble_eq_true rfl⟩) ?_
      refine lv_aload_n hx hb dX5_isVoid_10 rfl (lv_at hl 0 rfl) ?_
      refine lv_aload_n hx hb dX5_isVoid_11 rfl (lv_at hl 0 rfl) ?_
      refine q_get (v := .ref (ad 18)) hx hb hown hE inT_X5 hP 0 rfl rfl 4 (by decide) w_216 rfl dX5_isVoid_12 ?_
      refine lv_iload_n hx hb dX5_isVoid_15 rfl (lv_at hl 1 rfl) ?_
      refine q_rd (q_runV (rest := []) hx hb hml hown hE (c_X5_voidSet_18 l D cI cZ cL ad S u1 hI (by omega)) ck_X5_voidSet w_265 hP 0 rfl rfl hl.1 rfl ⟨Nat.le_of_ble_eq_true rfl, Nat.le_of_ble_eq_true rfl⟩ (Nat.le_of_ble_eq_true rfl) dX5_isVoid_16 ⟨Nat.le_of_ble_eq_true rfl, Nat.le_of_ble_eq_true rfl⟩) ?_
      refine lv_iload_n hx hb dX5_isVoid_19 rfl (lv_at hl 2 rfl) ?_
      refine q_rd (q_runS (rest := []) hx hb hml hown hE (c_X5_has l D cI cZ cL _ (p_void S 18 u1) (nI u2)) ck_X5_has w_298 hP hl.1 rfl ⟨Nat.le_of_ble_eq_true rfl, Nat.le_of_ble_eq_true rfl⟩ (Nat.le_of_ble_eq_true rfl) dX5_isVoid_20 ⟨Nat.le_of_ble_eq_true rfl, Nat.le_of_ble_eq_true rfl⟩) ?_
      rw [show oVoid S (nI u1) (nI u2) = (none, bI (hs (p_void S 18 u1) (nI u2)), S) from by first | (simp only [oVoid, o2, c_1, iu1, c_2, iu2, ↓reduceIte]; done) | (simp only [oVoid, o2, c_1, iu1, c_2, iu2, ↓reduceIte]; rfl) | (simp [oVoid, o2, c_1, iu1, c_2, iu2]; done) | (simp [oVoid, o2, c_1, iu1, c_2, iu2]; rfl)]
      exact e_ret hx hb hr hlk (n_bI _) dX5_isVoid_23
    · skip
      simp [oVoid, o2, xI, xA, xS, xN, c_1, iu1, c_2] at hth
  · skip
    simp [oVoid, o2, xI, xA, xS, xN, c_1] at hth


set_option maxHeartbeats 4000000 in
set_option maxRecDepth 100000 in
theorem c_X5_isVoid_T0 (l : Launch) (hfl : l.flags = flags0) (D : va_G) (cI cZ cL : ClassId) (ad : Nat → Nat) (S : Mem) (x1 : Int32) (x2 : Int32) (hI : I0 S) (hth : (oVoid S x1 x2).1 = some "java/lang/IndexOutOfBoundsException") : TH l D cI cZ cL yX5_isVoid cX5_isVoid 3 (some .boolean) 7 [.ref (ad 0), .int x1, .int x2] (wC ad cI S) "java/lang/IndexOutOfBoundsException" := by
  refine TH.of (by decide) (Nat.le_of_ble_eq_true rfl) ?_
  intro p e s m args below meth c ls hx hb hr hml hown hlk hxt hE hT hZ hP hl
  have hl : lv_has ls 3 [(0, .ref (ad 0)), (1, .int x1), (2, .int x2)] := hl
  have hT8 := hI.T8
  have hR16 := hI.R16
  have hN200 := hI.N200
  refine lv_aload_n hx hb dX5_isVoid_0 rfl (lv_at hl 0 rfl) ?_
  refine lv_iload_n hx hb dX5_isVoid_1 rfl (lv_at hl 1 rfl) ?_
  by_cases c_1 : okn x1 (cT S) = true
  · skip
    obtain ⟨u1, hu1, eu1⟩ := okn_t c_1
    subst eu1
    have iu1 : iN (nI u1) = u1 := iN_nI (by omega)
    refine q_rdv (q_runV (rest := []) hx hb hml hown hE (c_X5_requireTeam l D cI cZ cL ad S u1 hI hu1) ck_X5_requireTeam w_488 hP 0 rfl rfl hl.1 rfl ⟨Nat.le_of_ble_eq_true rfl, Nat.le_of_ble_eq_true rfl⟩ (Nat.le_of_ble_eq_true rfl) dX5_isVoid_2 ⟨Nat.le_of_ble_eq_true rfl, Nat.le_of_ble_eq_true rfl⟩) ?_
    refine lv_aload_n hx hb dX5_isVoid_5 rfl (lv_at hl 0 rfl) ?_
    refine lv_iload_n hx hb dX5_isVoid_6 rfl (lv_at hl 2 rfl) ?_
    by_cases c_2 : okn x2 (cR S) = true
    · skip
      obtain ⟨u2, hu2, eu2⟩ := okn_t c_2
      subst eu2
      have iu2 : iN (nI u2) = u2 := iN_nI (by omega)
      refine q_rdv (q_runV (rest := []) hx hb hml hown hE (c_X5_requireRiddle l D cI cZ cL ad S u2 hI hu2) ck_X5_requireRiddle w_436 hP 0 rfl rfl hl.1 rfl ⟨Nat.le_of_ble_eq_true rfl, Nat.le_of_ble_eq_true rfl⟩ (Nat.le_of_ble_eq_true rfl) dX5_isVoid_7 ⟨Nat.le_of_ble_eq_true rfl, Nat.le_of_ble_eq_true rfl⟩) ?_
      refine lv_aload_n hx hb dX5_isVoid_10 rfl (lv_at hl 0 rfl) ?_
      refine lv_aload_n hx hb dX5_isVoid_11 rfl (lv_at hl 0 rfl) ?_
      refine q_get (v := .ref (ad 18)) hx hb hown hE inT_X5 hP 0 rfl rfl 4 (by decide) w_216 rfl dX5_isVoid_12 ?_
      refine lv_iload_n hx hb dX5_isVoid_15 rfl (lv_at hl 1 rfl) ?_
      refine q_rd (q_runV (rest := []) hx hb hml hown hE (c_X5_voidSet_18 l D cI cZ cL ad S u1 hI (by omega)) ck_X5_voidSet w_265 hP 0 rfl rfl hl.1 rfl ⟨Nat.le_of_ble_eq_true rfl, Nat.le_of_ble_eq_true rfl⟩ (Nat.le_of_ble_eq_true rfl) dX5_isVoid_16 ⟨Nat.le_of_ble_eq_true rfl, Nat.le_of_ble_eq_true rfl⟩) ?_
      refine lv_iload_n hx hb dX5_isVoid_19 rfl (lv_at hl 2 rfl) ?_
      refine q_rd (q_runS (rest := []) hx hb hml hown hE (c_X5_has l D cI cZ cL _ (p_void S 18 u1) (nI u2)) ck_X5_has w_298 hP hl.1 rfl ⟨Nat.le_of_ble_eq_true rfl, Nat.le_of_ble_eq_true rfl⟩ (Nat.le_of_ble_eq_true rfl) dX5_isVoid_20 ⟨Nat.le_of_ble_eq_true rfl, Nat.le_of_ble_eq_true rfl⟩) ?_
      simp [oVoid, o2, xI, xA, xS, xN, c_1, iu1, c_2, iu2] at hth
    · skip
      have c_2 := eq_false_of_ne_true c_2
      exact q_th (q_thV (n' := 2) (k' := 6) (y := yX5_requireRiddle) (rest := []) hx hb hml hown hE hT hZ (c_X5_requireRiddle_T l hfl D cI cZ cL ad S x2 hI c_2) ck_X5_requireRiddle w_436 hP 0 rfl rfl hl.1 rfl ⟨Nat.le_of_ble_eq_true rfl, Nat.le_of_ble_eq_true rfl⟩ (Nat.le_of_ble_eq_true rfl) dX5_isVoid_7 ⟨Nat.le_of_ble_eq_true rfl, Nat.le_of_ble_eq_true rfl⟩) hlk hxt (Nat.le_refl _) (Nat.le_refl _) (fun t h1 h2 => ⟨rfl, h2⟩)
  · skip
    have c_1 := eq_false_of_ne_true c_1
    exact q_th (q_thV (n' := 2) (k' := 6) (y := yX5_requireTeam) (rest := []) hx hb hml hown hE hT hZ (c_X5_requireTeam_T l hfl D cI cZ cL ad S x1 hI c_1) ck_X5_requireTeam w_488 hP 0 rfl rfl hl.1 rfl ⟨Nat.le_of_ble_eq_true rfl, Nat.le_of_ble_eq_true rfl⟩ (Nat.le_of_ble_eq_true rfl) dX5_isVoid_2 ⟨Nat.le_of_ble_eq_true rfl, Nat.le_of_ble_eq_true rfl⟩) hlk hxt (Nat.le_refl _) (Nat.le_refl _) (fun t h1 h2 => ⟨rfl, h2⟩)

theorem dX5_hanging_0 : decode cX5_hanging 0 = .ok (.aload_n 0, 1) := by decide +kernel
theorem dX5_hanging_1 : decode cX5_hanging 1 = .ok (.iload_n 1, 1) := by decide +kernel
theorem dX5_hanging_2 : decode cX5_hanging 2 = .ok (.invokevirtual 85, 3) := by decide +kernel
theorem dX5_hanging_5 : decode cX5_hanging 5 = .ok (.aload_n 0, 1) := by decide +kernel
theorem dX5_hanging_6 : decode cX5_hanging 6 = .ok (.getfield 10, 3) := by decide +kernel
theorem dX5_hanging_9 : decode cX5_hanging 9 = .ok (.iload_n 1, 1) := by decide +kernel
theorem dX5_hanging_10 : decode cX5_hanging 10 = .ok (.invokevirtual 213, 3) := by decide +kernel
theorem dX5_hanging_13 : decode cX5_hanging 13 = .ok (.ireturn, 1) := by decide +kernel
set_option maxHeartbeats 4000000 in
set_option maxRecDepth 100000 in
theorem c_X5_hanging (l : Launch) (D : va_G) (cI cZ cL : ClassId) (ad : Nat → Nat) (S : Mem) (x1 : Int32) (hI : I0 S) (hth : (oHang S x1).1 = none) : RD l D cI cZ cL yX5_hanging cX5_hanging 2 (some .int) 7 [.ref (ad 0), .int x1] (wC ad cI S) (some (.int ((oHang S x1).2.1))) := by
  refine RD.of (by decide) (Nat.le_of_ble_eq_true rfl) ?_
  intro p e s m args below meth c ls hx hb hr hml hown hlk hE hP hl
  have hl : lv_has ls 2 [(0, .ref (ad 0)), (1, .int x1)] := hl
  have hT8 := hI.T8
  have hR16 := hI.R16
  have hN200 := hI.N200
  refine lv_aload_n hx hb dX5_hanging_0 rfl (lv_at hl 0 rfl) ?_
  refine lv_iload_n hx hb dX5_hanging_1 rfl (lv_at hl 1 rfl) ?_
  by_cases c_1 : okn x1 (cR S) = true
  · skip
    obtain ⟨u1, hu1, eu1⟩ := okn_t c_1
    subst eu1
    have iu1 : iN (nI u1) = u1 := iN_nI (by omega)
    refine q_rdv (q_runV (rest := []) hx hb hml hown hE (c_X5_requireRiddle l D cI cZ cL ad S u1 hI hu1) ck_X5_requireRiddle w_436 hP 0 rfl rfl hl.1 rfl ⟨Nat.le_of_ble_eq_true rfl, Nat.le_of_ble_eq_true rfl⟩ (Nat.le_of_ble_eq_true rfl) dX5_hanging_2 ⟨Nat.le_of_ble_eq_true rfl, Nat.le_of_ble_eq_true rfl⟩) ?_
    refine lv_aload_n hx hb dX5_hanging_5 rfl (lv_at hl 0 rfl) ?_
    refine q_get (v := .ref (ad 1)) hx hb hown hE inT_X5 hP 0 rfl rfl 0 (by decide) w_212 rfl dX5_hanging_6 ?_
    refine lv_iload_n hx hb dX5_hanging_9 rfl (lv_at hl 1 rfl) ?_
    refine q_rd (q_runVN (rest := []) hx hb hml hown hE (c_X3_hangingOn l D cI cZ cL ad S u1 hI) ck_X3_hangingOn w_670 hP 1 rfl rfl hl.1 rfl ⟨Nat.le_of_ble_eq_true rfl, Nat.le_of_ble_eq_true rfl⟩ (Nat.le_of_ble_eq_true rfl) dX5_hanging_10 ⟨Nat.le_of_ble_eq_true rfl, Nat.le_of_ble_eq_true rfl⟩) ?_
    rw [show oHang S (nI u1) = (none, p_hang S u1, S) from by first | (simp only [oHang, c_1, iu1, ↓reduceIte]; done) | (simp only [oHang, c_1, iu1, ↓reduceIte]; rfl) | (simp [oHang, c_1, iu1]; done) | (simp [oHang, c_1, iu1]; rfl)]
    exact e_ret hx hb hr hlk rfl dX5_hanging_13
  · skip
    simp [oHang, xI, xA, xS, xN, c_1] at hth


set_option maxHeartbeats 4000000 in
set_option maxRecDepth 100000 in
theorem c_X5_hanging_T0 (l : Launch) (hfl : l.flags = flags0) (D : va_G) (cI cZ cL : ClassId) (ad : Nat → Nat) (S : Mem) (x1 : Int32) (hI : I0 S) (hth : (oHang S x1).1 = some "java/lang/IndexOutOfBoundsException") : TH l D cI cZ cL yX5_hanging cX5_hanging 2 (some .int) 7 [.ref (ad 0), .int x1] (wC ad cI S) "java/lang/IndexOutOfBoundsException" := by
  refine TH.of (by decide) (Nat.le_of_ble_eq_true rfl) ?_
  intro p e s m args below meth c ls hx hb hr hml hown hlk hxt hE hT hZ hP hl
  have hl : lv_has ls 2 [(0, .ref (ad 0)), (1, .int x1)] := hl
  have hT8 := hI.T8
  have hR16 := hI.R16
  have hN200 := hI.N200
  refine lv_aload_n hx hb dX5_hanging_0 rfl (lv_at hl 0 rfl) ?_
  refine lv_iload_n hx hb dX5_hanging_1 rfl (lv_at hl 1 rfl) ?_
  by_cases c_1 : okn x1 (cR S) = true
  · skip
    obtain ⟨u1, hu1, eu1⟩ := okn_t c_1
    subst eu1
    have iu1 : iN (nI u1) = u1 := iN_nI (by omega)
    refine q_rdv (q_runV (rest := []) hx hb hml hown hE (c_X5_requireRiddle l D cI cZ cL ad S u1 hI hu1) ck_X5_requireRiddle w_436 hP 0 rfl rfl hl.1 rfl ⟨Nat.le_of_ble_eq_true rfl, Nat.le_of_ble_eq_true rfl⟩ (Nat.le_of_ble_eq_true rfl) dX5_hanging_2 ⟨Nat.le_of_ble_eq_true rfl, Nat.le_of_ble_eq_true rfl⟩) ?_
    refine lv_aload_n hx hb dX5_hanging_5 rfl (lv_at hl 0 rfl) ?_
    refine q_get (v := .ref (ad 1)) hx hb hown hE inT_X5 hP 0 rfl rfl 0 (by decide) w_212 rfl dX5_hanging_6 ?_
    refine lv_iload_n hx hb dX5_hanging_9 rfl (lv_at hl 1 rfl) ?_
    refine q_rd (q_runVN (rest := []) hx hb hml hown hE (c_X3_hangingOn l D cI cZ cL ad S u1 hI) ck_X3_hangingOn w_670 hP 1 rfl rfl hl.1 rfl ⟨Nat.le_of_ble_eq_true rfl, Nat.le_of_ble_eq_true rfl⟩ (Nat.le_of_ble_eq_true rfl) dX5_hanging_10 ⟨Nat.le_of_ble_eq_true rfl, Nat.le_of_ble_eq_true rfl⟩) ?_
    simp [oHang, xI, xA, xS, xN, c_1, iu1] at hth
  · skip
    have c_1 := eq_false_of_ne_true c_1
    exact q_th (q_thV (n' := 2) (k' := 6) (y := yX5_requireRiddle) (rest := []) hx hb hml hown hE hT hZ (c_X5_requireRiddle_T l hfl D cI cZ cL ad S x1 hI c_1) ck_X5_requireRiddle w_436 hP 0 rfl rfl hl.1 rfl ⟨Nat.le_of_ble_eq_true rfl, Nat.le_of_ble_eq_true rfl⟩ (Nat.le_of_ble_eq_true rfl) dX5_hanging_2 ⟨Nat.le_of_ble_eq_true rfl, Nat.le_of_ble_eq_true rfl⟩) hlk hxt (Nat.le_refl _) (Nat.le_refl _) (fun t h1 h2 => ⟨rfl, h2⟩)

theorem dX5_score_0 : decode cX5_score 0 = .ok (.aload_n 0, 1) := by decide +kernel
theorem dX5_score_1 : decode cX5_score 1 = .ok (.iload_n 1, 1) := by decide +kernel
theorem dX5_score_2 : decode cX5_score 2 = .ok (.invokevirtual 126, 3) := by decide +kernel
theorem dX5_score_5 : decode cX5_score 5 = .ok (.aload_n 0, 1) := by decide +kernel
theorem dX5_score_6 : decode cX5_score 6 = .ok (.aload_n 0, 1) := by decide +kernel
theorem dX5_score_7 : decode cX5_score 7 = .ok (.getfield 40, 3) := by decide +kernel
theorem dX5_score_10 : decode cX5_score 10 = .ok (.iload_n 1, 1) := by decide +kernel
theorem dX5_score_11 : decode cX5_score 11 = .ok (.aload_n 0, 1) := by decide +kernel
theorem dX5_score_12 : decode cX5_score 12 = .ok (.aload_n 0, 1) := by decide +kernel
theorem dX5_score_13 : decode cX5_score 13 = .ok (.getfield 40, 3) := by decide +kernel
theorem dX5_score_16 : decode cX5_score 16 = .ok (.iload_n 1, 1) := by decide +kernel
theorem dX5_score_17 : decode cX5_score 17 = .ok (.invokevirtual 216, 3) := by decide +kernel
theorem dX5_score_20 : decode cX5_score 20 = .ok (.invokevirtual 219, 3) := by decide +kernel
theorem dX5_score_23 : decode cX5_score 23 = .ok (.ireturn, 1) := by decide +kernel
set_option maxHeartbeats 4000000 in
set_option maxRecDepth 100000 in
theorem c_X5_score (l : Launch) (D : va_G) (cI cZ cL : ClassId) (ad : Nat → Nat) (S : Mem) (x1 : Int32) (hI : I0 S) (hth : (oScore S x1).1 = none) : RD l D cI cZ cL yX5_score cX5_score 2 (some .int) 7 [.ref (ad 0), .int x1] (wC ad cI S) (some (.int ((oScore S x1).2.1))) := by
  refine RD.of (by decide) (Nat.le_of_ble_eq_true rfl) ?_
  intro p e s m args below meth c ls hx hb hr hml hown hlk hE hP hl
  have hl : lv_has ls 2 [(0, .ref (ad 0)), (1, .int x1)] := hl
  have hT8 := hI.T8
  have hR16 := hI.R16
  have hN200 := hI.N200
  refine lv_aload_n hx hb dX5_score_0 rfl (lv_at hl 0 rfl) ?_
  refine lv_iload_n hx hb dX5_score_1 rfl (lv_at hl 1 rfl) ?_
  by_cases c_1 : okn x1 (cT S) = true
  · skip
    obtain ⟨u1, hu1, eu1⟩ := okn_t c_1
    subst eu1
    have iu1 : iN (nI u1) = u1 := iN_nI (by omega)
    refine q_rdv (q_runV (rest := []) hx hb hml hown hE (c_X5_requireTeam l D cI cZ cL ad S u1 hI hu1) ck_X5_requireTeam w_488 hP 0 rfl rfl hl.1 rfl ⟨Nat.le_of_ble_eq_true rfl, Nat.le_of_ble_eq_true rfl⟩ (Nat.le_of_ble_eq_true rfl) dX5_score_2 ⟨Nat.le_of_ble_eq_true rfl, Nat.le_of_ble_eq_true rfl⟩) ?_
    refine lv_aload_n hx hb dX5_score_5 rfl (lv_at hl 0 rfl) ?_
    refine lv_aload_n hx hb dX5_score_6 rfl (lv_at hl 0 rfl) ?_
    refine q_get (v := .ref (ad 18)) hx hb hown hE inT_X5 hP 0 rfl rfl 4 (by decide) w_216 rfl dX5_score_7 ?_
    refine lv_iload_n hx hb dX5_score_10 rfl (lv_at hl 1 rfl) ?_
    refine lv_aload_n hx hb dX5_score_11 rfl (lv_at hl 0 rfl) ?_
    refine lv_aload_n hx hb dX5_score_12 rfl (lv_at hl 0 rfl) ?_
    refine q_get (v := .ref (ad 18)) hx hb hown hE inT_X5 hP 0 rfl rfl 4 (by decide) w_216 rfl dX5_score_13 ?_
    refine lv_iload_n hx hb dX5_score_16 rfl (lv_at hl 1 rfl) ?_
    refine q_rd (q_runV (rest := [.int (nI u1), .ref (ad 18), .ref (ad 0)]) hx hb hml hown hE (c_X5_countingSet_18 l D cI cZ cL ad S u1 hI (by omega)) ck_X5_countingSet w_261 hP 0 rfl rfl hl.1 rfl ⟨Nat.le_of_ble_eq_true rfl, Nat.le_of_ble_eq_true rfl⟩ (Nat.le_of_ble_eq_true rfl) dX5_score_17 ⟨Nat.le_of_ble_eq_true rfl, Nat.le_of_ble_eq_true rfl⟩) ?_
    refine q_rd (q_runV (rest := []) hx hb hml hown hE (c_X5_sumUp_18 l D cI cZ cL ad S u1 (p_count S 18 u1) hI (by omega)) ck_X5_sumUp w_294 hP 0 rfl rfl hl.1 rfl ⟨Nat.le_of_ble_eq_true rfl, Nat.le_of_ble_eq_true rfl⟩ (Nat.le_of_ble_eq_true rfl) dX5_score_20 ⟨Nat.le_of_ble_eq_true rfl, Nat.le_of_ble_eq_true rfl⟩) ?_
    rw [show oScore S (nI u1) = (none, p_sumUp S 18 u1 (p_count S 18 u1), S) from by first | (simp only [oScore, o1, c_1, iu1, ↓reduceIte]; done) | (simp only [oScore, o1, c_1, iu1, ↓reduceIte]; rfl) | (simp [oScore, o1, c_1, iu1]; done) | (simp [oScore, o1, c_1, iu1]; rfl)]
    exact e_ret hx hb hr hlk rfl dX5_score_23
  · skip
    simp [oScore, o1, xI, xA, xS, xN, c_1] at hth


set_option maxHeartbeats 4000000 in
set_option maxRecDepth 100000 in
theorem c_X5_score_T0 (l : Launch) (hfl : l.flags = flags0) (D : va_G) (cI cZ cL : ClassId) (ad : Nat → Nat) (S : Mem) (x1 : Int32) (hI : I0 S) (hth : (oScore S x1).1 = some "java/lang/IndexOutOfBoundsException") : TH l D cI cZ cL yX5_score cX5_score 2 (some .int) 7 [.ref (ad 0), .int x1] (wC ad cI S) "java/lang/IndexOutOfBoundsException" := by
  refine TH.of (by decide) (Nat.le_of_ble_eq_true rfl) ?_
  intro p e s m args below meth c ls hx hb hr hml hown hlk hxt hE hT hZ hP hl
  have hl : lv_has ls 2 [(0, .ref (ad 0)), (1, .int x1)] := hl
  have hT8 := hI.T8
  have hR16 := hI.R16
  have hN200 := hI.N200
  refine lv_aload_n hx hb dX5_score_0 rfl (lv_at hl 0 rfl) ?_
  refine lv_iload_n hx hb dX5_score_1 rfl (lv_at hl 1 rfl) ?_
  by_cases c_1 : okn x1 (cT S) = true
  · skip
    obtain ⟨u1, hu1, eu1⟩ := okn_t c_1
    subst eu1
    have iu1 : iN (nI u1) = u1 := iN_nI (by omega)
    refine q_rdv (q_runV (rest := []) hx hb hml hown hE (c_X5_requireTeam l D cI cZ cL ad S u1 hI hu1) ck_X5_requireTeam w_488 hP 0 rfl rfl hl.1 rfl ⟨Nat.le_of_ble_eq_true rfl, Nat.le_of_ble_eq_true rfl⟩ (Nat.le_of_ble_eq_true rfl) dX5_score_2 ⟨Nat.le_of_ble_eq_true rfl, Nat.le_of_ble_eq_true rfl⟩) ?_
    refine lv_aload_n hx hb dX5_score_5 rfl (lv_at hl 0 rfl) ?_
    refine lv_aload_n hx hb dX5_score_6 rfl (lv_at hl 0 rfl) ?_
    refine q_get (v := .ref (ad 18)) hx hb hown hE inT_X5 hP 0 rfl rfl 4 (by decide) w_216 rfl dX5_score_7 ?_
    refine lv_iload_n hx hb dX5_score_10 rfl (lv_at hl 1 rfl) ?_
    refine lv_aload_n hx hb dX5_score_11 rfl (lv_at hl 0 rfl) ?_
    refine lv_aload_n hx hb dX5_score_12 rfl (lv_at hl 0 rfl) ?_
    refine q_get (v := .ref (ad 18)) hx hb hown hE inT_X5 hP 0 rfl rfl 4 (by decide) w_216 rfl dX5_score_13 ?_
    refine lv_iload_n hx hb dX5_score_16 rfl (lv_at hl 1 rfl) ?_
    refine q_rd (q_runV (rest := [.int (nI u1), .ref (ad 18), .ref (ad 0)]) hx hb hml hown hE (c_X5_countingSet_18 l D cI cZ cL ad S u1 hI (by omega)) ck_X5_countingSet w_261 hP 0 rfl rfl hl.1 rfl ⟨Nat.le_of_ble_eq_true rfl, Nat.le_of_ble_eq_true rfl⟩ (Nat.le_of_ble_eq_true rfl) dX5_score_17 ⟨Nat.le_of_ble_eq_true rfl, Nat.le_of_ble_eq_true rfl⟩) ?_
    refine q_rd (q_runV (rest := []) hx hb hml hown hE (c_X5_sumUp_18 l D cI cZ cL ad S u1 (p_count S 18 u1) hI (by omega)) ck_X5_sumUp w_294 hP 0 rfl rfl hl.1 rfl ⟨Nat.le_of_ble_eq_true rfl, Nat.le_of_ble_eq_true rfl⟩ (Nat.le_of_ble_eq_true rfl) dX5_score_20 ⟨Nat.le_of_ble_eq_true rfl, Nat.le_of_ble_eq_true rfl⟩) ?_
    simp [oScore, o1, xI, xA, xS, xN, c_1, iu1] at hth
  · skip
    have c_1 := eq_false_of_ne_true c_1
    exact q_th (q_thV (n' := 2) (k' := 6) (y := yX5_requireTeam) (rest := []) hx hb hml hown hE hT hZ (c_X5_requireTeam_T l hfl D cI cZ cL ad S x1 hI c_1) ck_X5_requireTeam w_488 hP 0 rfl rfl hl.1 rfl ⟨Nat.le_of_ble_eq_true rfl, Nat.le_of_ble_eq_true rfl⟩ (Nat.le_of_ble_eq_true rfl) dX5_score_2 ⟨Nat.le_of_ble_eq_true rfl, Nat.le_of_ble_eq_true rfl⟩) hlk hxt (Nat.le_refl _) (Nat.le_refl _) (fun t h1 h2 => ⟨rfl, h2⟩)

theorem dX5_scoreAnew_0 : decode cX5_scoreAnew 0 = .ok (.aload_n 0, 1) := by decide +kernel
theorem dX5_scoreAnew_1 : decode cX5_scoreAnew 1 = .ok (.iload_n 1, 1) := by decide +kernel
theorem dX5_scoreAnew_2 : decode cX5_scoreAnew 2 = .ok (.invokevirtual 126, 3) := by decide +kernel
theorem dX5_scoreAnew_5 : decode cX5_scoreAnew 5 = .ok (.aload_n 0, 1) := by decide +kernel
theorem dX5_scoreAnew_6 : decode cX5_scoreAnew 6 = .ok (.getfield 44, 3) := by decide +kernel
theorem dX5_scoreAnew_9 : decode cX5_scoreAnew 9 = .ok (.invokevirtual 222, 3) := by decide +kernel
theorem dX5_scoreAnew_12 : decode cX5_scoreAnew 12 = .ok (.aload_n 0, 1) := by decide +kernel
theorem dX5_scoreAnew_13 : decode cX5_scoreAnew 13 = .ok (.invokevirtual 225, 3) := by decide +kernel
theorem dX5_scoreAnew_16 : decode cX5_scoreAnew 16 = .ok (.aload_n 0, 1) := by decide +kernel
theorem dX5_scoreAnew_17 : decode cX5_scoreAnew 17 = .ok (.iload_n 1, 1) := by decide +kernel
theorem dX5_scoreAnew_18 : decode cX5_scoreAnew 18 = .ok (.invokevirtual 228, 3) := by decide +kernel
theorem dX5_scoreAnew_21 : decode cX5_scoreAnew 21 = .ok (.aload_n 0, 1) := by decide +kernel
theorem dX5_scoreAnew_22 : decode cX5_scoreAnew 22 = .ok (.iload_n 1, 1) := by decide +kernel
theorem dX5_scoreAnew_23 : decode cX5_scoreAnew 23 = .ok (.invokevirtual 231, 3) := by decide +kernel
theorem dX5_scoreAnew_26 : decode cX5_scoreAnew 26 = .ok (.aload_n 0, 1) := by decide +kernel
theorem dX5_scoreAnew_27 : decode cX5_scoreAnew 27 = .ok (.aload_n 0, 1) := by decide +kernel
theorem dX5_scoreAnew_28 : decode cX5_scoreAnew 28 = .ok (.getfield 44, 3) := by decide +kernel
theorem dX5_scoreAnew_31 : decode cX5_scoreAnew 31 = .ok (.iload_n 1, 1) := by decide +kernel
theorem dX5_scoreAnew_32 : decode cX5_scoreAnew 32 = .ok (.aload_n 0, 1) := by decide +kernel
theorem dX5_scoreAnew_33 : decode cX5_scoreAnew 33 = .ok (.aload_n 0, 1) := by decide +kernel
theorem dX5_scoreAnew_34 : decode cX5_scoreAnew 34 = .ok (.getfield 44, 3) := by decide +kernel
theorem dX5_scoreAnew_37 : decode cX5_scoreAnew 37 = .ok (.iload_n 1, 1) := by decide +kernel
theorem dX5_scoreAnew_38 : decode cX5_scoreAnew 38 = .ok (.invokevirtual 216, 3) := by decide +kernel
theorem dX5_scoreAnew_41 : decode cX5_scoreAnew 41 = .ok (.invokevirtual 219, 3) := by decide +kernel
theorem dX5_scoreAnew_44 : decode cX5_scoreAnew 44 = .ok (.ireturn, 1) := by decide +kernel
set_option maxHeartbeats 4000000 in
set_option maxRecDepth 100000 in
theorem c_X5_scoreAnew (l : Launch) (D : va_G) (cI cZ cL : ClassId) (ad : Nat → Nat) (S : Mem) (A : Nat → Prop) (hD : va_D A (wC ad cI S)) (x1 : Int32) (hI : I0 S) (hth : (oAnew S x1).1 = none) : WR l D cI cZ cL yX5_scoreAnew cX5_scoreAnew 2 (some .int) 7 [.ref (ad 0), .int x1] A (wC ad cI S) (wC ad cI ((oAnew S x1).2.2)) (some (.int ((oAnew S x1).2.1))) := by
  refine WR.of (by decide) (Nat.le_of_ble_eq_true rfl) ?_
  intro p e s m args below meth c ls hx hb hr hml hown hlk hE hP hS hl
  have hl : lv_has ls 2 [(0, .ref (ad 0)), (1, .int x1)] := hl
  have hT8 := hI.T8
  have hR16 := hI.R16
  have hN200 := hI.N200
  refine lv_aload_n hx hb dX5_scoreAnew_0 rfl (lv_at hl 0 rfl) ?_
  refine lv_iload_n hx hb dX5_scoreAnew_1 rfl (lv_at hl 1 rfl) ?_
  by_cases c_1 : okn x1 (cT S) = true
  · skip
    obtain ⟨u1, hu1, eu1⟩ := okn_t c_1
    subst eu1
    have iu1 : iN (nI u1) = u1 := iN_nI (by omega)
    refine q_rdv (q_runV (rest := []) hx hb hml hown hE (c_X5_requireTeam l D cI cZ cL ad S u1 hI hu1) ck_X5_requireTeam w_488 hP 0 rfl rfl hl.1 rfl ⟨Nat.le_of_ble_eq_true rfl, Nat.le_of_ble_eq_true rfl⟩ (Nat.le_of_ble_eq_true rfl) dX5_scoreAnew_2 ⟨Nat.le_of_ble_eq_true rfl, Nat.le_of_ble_eq_true rfl⟩) ?_
    refine lv_aload_n hx hb dX5_scoreAnew_5 rfl (lv_at hl 0 rfl) ?_
    refine q_get (v := .ref (ad 25)) hx hb hown hE inT_X5 hP 0 rfl rfl 5 (by decide) w_217 rfl dX5_scoreAnew_6 ?_
    refine q_w0v (q_runVN (rest := []) hx hb hml hown hE (c_X2_wipe l D cI cZ cL ad S A (wC_D hD)) ck_X2_wipe w_689 hP 25 rfl rfl hl.1 rfl ⟨Nat.le_of_ble_eq_true rfl, Nat.le_of_ble_eq_true rfl⟩ (Nat.le_of_ble_eq_true rfl) dX5_scoreAnew_9 ⟨Nat.le_of_ble_eq_true rfl, Nat.le_of_ble_eq_true rfl⟩) hS (fun H locs hP hS => ?_)
    have hI_c2 : I0 (p_wipe S) := I0_congr (fun c hc => fr_wipe (by omega)) hI
    refine lv_aload_n hx hb dX5_scoreAnew_12 rfl (lv_at hl 0 rfl) ?_
    refine q_w0v (q_runV (rest := []) hx hb hml hown hE (c_X5_replaySolutions l D cI cZ cL ad (p_wipe S) A (wC_D hD) hI_c2) ck_X5_replaySolutions w_696 hP 0 rfl rfl hl.1 rfl ⟨Nat.le_of_ble_eq_true rfl, Nat.le_of_ble_eq_true rfl⟩ (Nat.le_of_ble_eq_true rfl) dX5_scoreAnew_13 ⟨Nat.le_of_ble_eq_true rfl, Nat.le_of_ble_eq_true rfl⟩) hS (fun H locs hP hS => ?_)
    have hI_c3 : I0 (p_replay (p_wipe S) (cN (p_wipe S))) := I0_congr (fun c hc => fr_replay (by omega) _) hI_c2
    refine lv_aload_n hx hb dX5_scoreAnew_16 rfl (lv_at hl 0 rfl) ?_
    refine lv_iload_n hx hb dX5_scoreAnew_17 rfl (lv_at hl 1 rfl) ?_
    refine q_w0v (q_runV (rest := []) hx hb hml hown hE (c_X5_comparePairs l D cI cZ cL ad (p_replay (p_wipe S) (cN (p_wipe S))) A (wC_D hD) u1 hI_c3 (by omega)) ck_X5_comparePairs w_704 hP 0 rfl rfl hl.1 rfl ⟨Nat.le_of_ble_eq_true rfl, Nat.le_of_ble_eq_true rfl⟩ (Nat.le_of_ble_eq_true rfl) dX5_scoreAnew_18 ⟨Nat.le_of_ble_eq_true rfl, Nat.le_of_ble_eq_true rfl⟩) hS (fun H locs hP hS => ?_)
    have hI_c4 : I0 (p_cmpP (p_replay (p_wipe S) (cN (p_wipe S))) u1 (cN (p_replay (p_wipe S) (cN (p_wipe S))))) := I0_congr (fun c hc => fr_cmpP (by omega) _) hI_c3
    refine lv_aload_n hx hb dX5_scoreAnew_21 rfl (lv_at hl 0 rfl) ?_
    refine lv_iload_n hx hb dX5_scoreAnew_22 rfl (lv_at hl 1 rfl) ?_
    refine q_w0v (q_runV (rest := []) hx hb hml hown hE (c_X5_replaySales l D cI cZ cL ad (p_cmpP (p_replay (p_wipe S) (cN (p_wipe S))) u1 (cN (p_replay (p_wipe S) (cN (p_wipe S))))) A (wC_D hD) u1 hI_c4 (by omega)) ck_X5_replaySales w_721 hP 0 rfl rfl hl.1 rfl ⟨Nat.le_of_ble_eq_true rfl, Nat.le_of_ble_eq_true rfl⟩ (Nat.le_of_ble_eq_true rfl) dX5_scoreAnew_23 ⟨Nat.le_of_ble_eq_true rfl, Nat.le_of_ble_eq_true rfl⟩) hS (fun H locs hP hS => ?_)
    have hI_c5 : I0 (p_sals (p_cmpP (p_replay (p_wipe S) (cN (p_wipe S))) u1 (cN (p_replay (p_wipe S) (cN (p_wipe S))))) u1 (cR (p_cmpP (p_replay (p_wipe S) (cN (p_wipe S))) u1 (cN (p_replay (p_wipe S) (cN (p_wipe S))))))) := I0_congr (fun c hc => fr_sals (by omega) _) hI_c4
    refine lv_aload_n hx hb dX5_scoreAnew_26 rfl (lv_at hl 0 rfl) ?_
    refine lv_aload_n hx hb dX5_scoreAnew_27 rfl (lv_at hl 0 rfl) ?_
    refine q_get (v := .ref (ad 25)) hx hb hown hE inT_X5 hP 0 rfl rfl 5 (by decide) w_217 rfl dX5_scoreAnew_28 ?_
    refine lv_iload_n hx hb dX5_scoreAnew_31 rfl (lv_at hl 1 rfl) ?_
    refine lv_aload_n hx hb dX5_scoreAnew_32 rfl (lv_at hl 0 rfl) ?_
    refine lv_aload_n hx hb dX5_scoreAnew_33 rfl (lv_at hl 0 rfl) ?_
    refine q_get (v := .ref (ad 25)) hx hb hown hE inT_X5 hP 0 rfl rfl 5 (by decide) w_217 rfl dX5_scoreAnew_34 ?_
    refine lv_iload_n hx hb dX5_scoreAnew_37 rfl (lv_at hl 1 rfl) ?_
    refine q_rd (q_runV (rest := [.int (nI u1), .ref (ad 25), .ref (ad 0)]) hx hb hml hown hE (c_X5_countingSet_25 l D cI cZ cL ad (p_sals (p_cmpP (p_replay (p_wipe S) (cN (p_wipe S))) u1 (cN (p_replay (p_wipe S) (cN (p_wipe S))))) u1 (cR (p_cmpP (p_replay (p_wipe S) (cN (p_wipe S))) u1 (cN (p_replay (p_wipe S) (cN (p_wipe S))))))) u1 hI_c5 (by omega)) ck_X5_countingSet w_261 hP 0 rfl rfl hl.1 rfl ⟨Nat.le_of_ble_eq_true rfl, Nat.le_of_ble_eq_true rfl⟩ (Nat.le_of_ble_eq_true rfl) dX5_scoreAnew_38 ⟨Nat.le_of_ble_eq_true rfl, Nat.le_of_ble_eq_true rfl⟩) ?_
    refine q_rd (q_runV (rest := []) hx hb hml hown hE (c_X5_sumUp_25 l D cI cZ cL ad (p_sals (p_cmpP (p_replay (p_wipe S) (cN (p_wipe S))) u1 (cN (p_replay (p_wipe S) (cN (p_wipe S))))) u1 (cR (p_cmpP (p_replay (p_wipe S) (cN (p_wipe S))) u1 (cN (p_replay (p_wipe S) (cN (p_wipe S))))))) u1 (p_count (p_sals (p_cmpP (p_replay (p_wipe S) (cN (p_wipe S))) u1 (cN (p_replay (p_wipe S) (cN (p_wipe S))))) u1 (cR (p_cmpP (p_replay (p_wipe S) (cN (p_wipe S))) u1 (cN (p_replay (p_wipe S) (cN (p_wipe S))))))) 25 u1) hI_c5 (by omega)) ck_X5_sumUp w_294 hP 0 rfl rfl hl.1 rfl ⟨Nat.le_of_ble_eq_true rfl, Nat.le_of_ble_eq_true rfl⟩ (Nat.le_of_ble_eq_true rfl) dX5_scoreAnew_41 ⟨Nat.le_of_ble_eq_true rfl, Nat.le_of_ble_eq_true rfl⟩) ?_
    rw [show oAnew S (nI u1) = (none, p_sumUp (p_sals (p_cmpP (p_replay (p_wipe S) (cN (p_wipe S))) u1 (cN (p_replay (p_wipe S) (cN (p_wipe S))))) u1 (cR (p_cmpP (p_replay (p_wipe S) (cN (p_wipe S))) u1 (cN (p_replay (p_wipe S) (cN (p_wipe S))))))) 25 u1 (p_count (p_sals (p_cmpP (p_replay (p_wipe S) (cN (p_wipe S))) u1 (cN (p_replay (p_wipe S) (cN (p_wipe S))))) u1 (cR (p_cmpP (p_replay (p_wipe S) (cN (p_wipe S))) u1 (cN (p_replay (p_wipe S) (cN (p_wipe S))))))) 25 u1), p_sals (p_cmpP (p_replay (p_wipe S) (cN (p_wipe S))) u1 (cN (p_replay (p_wipe S) (cN (p_wipe S))))) u1 (cR (p_cmpP (p_replay (p_wipe S) (cN (p_wipe S))) u1 (cN (p_replay (p_wipe S) (cN (p_wipe S))))))) from by first | (simp only [oAnew, o1, p_anewM, c_1, iu1, ↓reduceIte]; done) | (simp only [oAnew, o1, p_anewM, c_1, iu1, ↓reduceIte]; rfl) | (simp [oAnew, o1, p_anewM, c_1, iu1]; done) | (simp [oAnew, o1, p_anewM, c_1, iu1]; rfl)]
    exact e_wret hx hb hr hlk rfl hP hS dX5_scoreAnew_44
  · skip
    simp [oAnew, o1, p_anewM, xI, xA, xS, xN, c_1] at hth


set_option maxHeartbeats 4000000 in
set_option maxRecDepth 100000 in
theorem c_X5_scoreAnew_T0 (l : Launch) (hfl : l.flags = flags0) (D : va_G) (cI cZ cL : ClassId) (ad : Nat → Nat) (S : Mem) (x1 : Int32) (hI : I0 S) (hth : (oAnew S x1).1 = some "java/lang/IndexOutOfBoundsException") : TH l D cI cZ cL yX5_scoreAnew cX5_scoreAnew 2 (some .int) 7 [.ref (ad 0), .int x1] (wC ad cI S) "java/lang/IndexOutOfBoundsException" := by
  refine TH.of (by decide) (Nat.le_of_ble_eq_true rfl) ?_
  intro p e s m args below meth c ls hx hb hr hml hown hlk hxt hE hT hZ hP hl
  have hl : lv_has ls 2 [(0, .ref (ad 0)), (1, .int x1)] := hl
  have hT8 := hI.T8
  have hR16 := hI.R16
  have hN200 := hI.N200
  refine lv_aload_n hx hb dX5_scoreAnew_0 rfl (lv_at hl 0 rfl) ?_
  refine lv_iload_n hx hb dX5_scoreAnew_1 rfl (lv_at hl 1 rfl) ?_
  by_cases c_1 : okn x1 (cT S) = true
  · skip
    obtain ⟨u1, hu1, eu1⟩ := okn_t c_1
    subst eu1
    have iu1 : iN (nI u1) = u1 := iN_nI (by omega)
    refine q_rdv (q_runV (rest := []) hx hb hml hown hE (c_X5_requireTeam l D cI cZ cL ad S u1 hI hu1) ck_X5_requireTeam w_488 hP 0 rfl rfl hl.1 rfl ⟨Nat.le_of_ble_eq_true rfl, Nat.le_of_ble_eq_true rfl⟩ (Nat.le_of_ble_eq_true rfl) dX5_scoreAnew_2 ⟨Nat.le_of_ble_eq_true rfl, Nat.le_of_ble_eq_true rfl⟩) ?_
    refine lv_aload_n hx hb dX5_scoreAnew_5 rfl (lv_at hl 0 rfl) ?_
    refine q_get (v := .ref (ad 25)) hx hb hown hE inT_X5 hP 0 rfl rfl 5 (by decide) w_217 rfl dX5_scoreAnew_6 ?_
    simp [oAnew, o1, p_anewM, xI, xA, xS, xN, c_1, iu1] at hth
  · skip
    have c_1 := eq_false_of_ne_true c_1
    exact q_th (q_thV (n' := 2) (k' := 6) (y := yX5_requireTeam) (rest := []) hx hb hml hown hE hT hZ (c_X5_requireTeam_T l hfl D cI cZ cL ad S x1 hI c_1) ck_X5_requireTeam w_488 hP 0 rfl rfl hl.1 rfl ⟨Nat.le_of_ble_eq_true rfl, Nat.le_of_ble_eq_true rfl⟩ (Nat.le_of_ble_eq_true rfl) dX5_scoreAnew_2 ⟨Nat.le_of_ble_eq_true rfl, Nat.le_of_ble_eq_true rfl⟩) hlk hxt (Nat.le_refl _) (Nat.le_refl _) (fun t h1 h2 => ⟨rfl, h2⟩)

theorem dX5_place_0 : decode cX5_place 0 = .ok (.aload_n 0, 1) := by decide +kernel
theorem dX5_place_1 : decode cX5_place 1 = .ok (.iload_n 1, 1) := by decide +kernel
theorem dX5_place_2 : decode cX5_place 2 = .ok (.invokevirtual 126, 3) := by decide +kernel
theorem dX5_place_5 : decode cX5_place 5 = .ok (.aload_n 0, 1) := by decide +kernel
theorem dX5_place_6 : decode cX5_place 6 = .ok (.invokevirtual 234, 3) := by decide +kernel
theorem dX5_place_9 : decode cX5_place 9 = .ok (.iconst 1, 1) := by decide +kernel
theorem dX5_place_10 : decode cX5_place 10 = .ok (.aload_n 0, 1) := by decide +kernel
theorem dX5_place_11 : decode cX5_place 11 = .ok (.iload_n 1, 1) := by decide +kernel
theorem dX5_place_12 : decode cX5_place 12 = .ok (.invokevirtual 237, 3) := by decide +kernel
theorem dX5_place_15 : decode cX5_place 15 = .ok (.iadd, 1) := by decide +kernel
theorem dX5_place_16 : decode cX5_place 16 = .ok (.ireturn, 1) := by decide +kernel
set_option maxHeartbeats 4000000 in
set_option maxRecDepth 100000 in
theorem c_X5_place (l : Launch) (D : va_G) (cI cZ cL : ClassId) (ad : Nat → Nat) (S : Mem) (A : Nat → Prop) (hD : va_D A (wC ad cI S)) (x1 : Int32) (hI : I0 S) (hth : (oPlace S x1).1 = none) : WR l D cI cZ cL yX5_place cX5_place 2 (some .int) 7 [.ref (ad 0), .int x1] A (wC ad cI S) (wC ad cI ((oPlace S x1).2.2)) (some (.int ((oPlace S x1).2.1))) := by
  refine WR.of (by decide) (Nat.le_of_ble_eq_true rfl) ?_
  intro p e s m args below meth c ls hx hb hr hml hown hlk hE hP hS hl
  have hl : lv_has ls 2 [(0, .ref (ad 0)), (1, .int x1)] := hl
  have hT8 := hI.T8
  have hR16 := hI.R16
  have hN200 := hI.N200
  refine lv_aload_n hx hb dX5_place_0 rfl (lv_at hl 0 rfl) ?_
  refine lv_iload_n hx hb dX5_place_1 rfl (lv_at hl 1 rfl) ?_
  by_cases c_1 : okn x1 (cT S) = true
  · skip
    obtain ⟨u1, hu1, eu1⟩ := okn_t c_1
    subst eu1
    have iu1 : iN (nI u1) = u1 := iN_nI (by omega)
    refine q_rdv (q_runV (rest := []) hx hb hml hown hE (c_X5_requireTeam l D cI cZ cL ad S u1 hI hu1) ck_X5_requireTeam w_488 hP 0 rfl rfl hl.1 rfl ⟨Nat.le_of_ble_eq_true rfl, Nat.le_of_ble_eq_true rfl⟩ (Nat.le_of_ble_eq_true rfl) dX5_place_2 ⟨Nat.le_of_ble_eq_true rfl, Nat.le_of_ble_eq_true rfl⟩) ?_
    refine lv_aload_n hx hb dX5_place_5 rfl (lv_at hl 0 rfl) ?_
    refine q_w0v (q_runV (rest := []) hx hb hml hown hE (c_X5_rateTeams l D cI cZ cL ad S A (wC_D hD) hI) ck_X5_rateTeams w_257 hP 0 rfl rfl hl.1 rfl ⟨Nat.le_of_ble_eq_true rfl, Nat.le_of_ble_eq_true rfl⟩ (Nat.le_of_ble_eq_true rfl) dX5_place_6 ⟨Nat.le_of_ble_eq_true rfl, Nat.le_of_ble_eq_true rfl⟩) hS (fun H locs hP hS => ?_)
    have hI_c2 : I0 (p_rate S (cT S)) := I0_congr (fun c hc => fr_rate (by omega) _) hI
    refine lv_iconst (v := 1) hx hb dX5_place_9 (by decide) ?_
    refine lv_aload_n hx hb dX5_place_10 rfl (lv_at hl 0 rfl) ?_
    refine lv_iload_n hx hb dX5_place_11 rfl (lv_at hl 1 rfl) ?_
    refine q_rd (q_runV (rest := [.int 1]) hx hb hml hown hE (c_X5_countBetter l D cI cZ cL ad (p_rate S (cT S)) u1 hI_c2 (by omega)) ck_X5_countBetter w_311 hP 0 rfl rfl hl.1 rfl ⟨Nat.le_of_ble_eq_true rfl, Nat.le_of_ble_eq_true rfl⟩ (Nat.le_of_ble_eq_true rfl) dX5_place_12 ⟨Nat.le_of_ble_eq_true rfl, Nat.le_of_ble_eq_true rfl⟩) ?_
    refine lv_iadd hx hb dX5_place_15 ?_
    refine q_top (y := nI (1 + (p_better (p_rate S (cT S)) u1 (cT (p_rate S (cT S)))))) (nI_add 1 (p_better (p_rate S (cT S)) u1 (cT (p_rate S (cT S))))) ?_
    rw [show oPlace S (nI u1) = (none, nI (1 + (p_better (p_rate S (cT S)) u1 (cT (p_rate S (cT S))))), p_rate S (cT S)) from by first | (simp only [oPlace, o1, c_1, iu1, ↓reduceIte]; done) | (simp only [oPlace, o1, c_1, iu1, ↓reduceIte]; rfl) | (simp [oPlace, o1, c_1, iu1]; done) | (simp [oPlace, o1, c_1, iu1]; rfl)]
    exact e_wret hx hb hr hlk rfl hP hS dX5_place_16
  · skip
    simp [oPlace, o1, xI, xA, xS, xN, c_1] at hth


set_option maxHeartbeats 4000000 in
set_option maxRecDepth 100000 in
theorem c_X5_place_T0 (l : Launch) (hfl : l.flags = flags0) (D : va_G) (cI cZ cL : ClassId) (ad : Nat → Nat) (S : Mem) (x1 : Int32) (hI : I0 S) (hth : (oPlace S x1).1 = some "java/lang/IndexOutOfBoundsException") : TH l D cI cZ cL yX5_place cX5_place 2 (some .int) 7 [.ref (ad 0), .int x1] (wC ad cI S) "java/lang/IndexOutOfBoundsException" := by
  refine TH.of (by decide) (Nat.le_of_ble_eq_true rfl) ?_
  intro p e s m args below meth c ls hx hb hr hml hown hlk hxt hE hT hZ hP hl
  have hl : lv_has ls 2 [(0, .ref (ad 0)), (1, .int x1)] := hl
  have hT8 := hI.T8
  have hR16 := hI.R16
  have hN200 := hI.N200
  refine lv_aload_n hx hb dX5_place_0 rfl (lv_at hl 0 rfl) ?_
  refine lv_iload_n hx hb dX5_place_1 rfl (lv_at hl 1 rfl) ?_
  by_cases c_1 : okn x1 (cT S) = true
  · skip
    obtain ⟨u1, hu1, eu1⟩ := okn_t c_1
    subst eu1
    have iu1 : iN (nI u1) = u1 := iN_nI (by omega)
    refine q_rdv (q_runV (rest := []) hx hb hml hown hE (c_X5_requireTeam l D cI cZ cL ad S u1 hI hu1) ck_X5_requireTeam w_488 hP 0 rfl rfl hl.1 rfl ⟨Nat.le_of_ble_eq_true rfl, Nat.le_of_ble_eq_true rfl⟩ (Nat.le_of_ble_eq_true rfl) dX5_place_2 ⟨Nat.le_of_ble_eq_true rfl, Nat.le_of_ble_eq_true rfl⟩) ?_
    refine lv_aload_n hx hb dX5_place_5 rfl (lv_at hl 0 rfl) ?_
    simp [oPlace, o1, xI, xA, xS, xN, c_1, iu1] at hth
  · skip
    have c_1 := eq_false_of_ne_true c_1
    exact q_th (q_thV (n' := 2) (k' := 6) (y := yX5_requireTeam) (rest := []) hx hb hml hown hE hT hZ (c_X5_requireTeam_T l hfl D cI cZ cL ad S x1 hI c_1) ck_X5_requireTeam w_488 hP 0 rfl rfl hl.1 rfl ⟨Nat.le_of_ble_eq_true rfl, Nat.le_of_ble_eq_true rfl⟩ (Nat.le_of_ble_eq_true rfl) dX5_place_2 ⟨Nat.le_of_ble_eq_true rfl, Nat.le_of_ble_eq_true rfl⟩) hlk hxt (Nat.le_refl _) (Nat.le_refl _) (fun t h1 h2 => ⟨rfl, h2⟩)

theorem dX5_setPrize_0 : decode cX5_setPrize 0 = .ok (.iload_n 1, 1) := by decide +kernel
theorem dX5_setPrize_1 : decode cX5_setPrize 1 = .ok (.iconst 1, 1) := by decide +kernel
theorem dX5_setPrize_2 : decode cX5_setPrize 2 = .ok (.bipush 8, 2) := by decide +kernel
theorem dX5_setPrize_4 : decode cX5_setPrize 4 = .ok (.invokestatic 57, 3) := by decide +kernel
theorem dX5_setPrize_7 : decode cX5_setPrize 7 = .ok (.iload_n 2, 1) := by decide +kernel
theorem dX5_setPrize_8 : decode cX5_setPrize 8 = .ok (.iconst 0, 1) := by decide +kernel
theorem dX5_setPrize_9 : decode cX5_setPrize 9 = .ok (.sipush 1000, 3) := by decide +kernel
theorem dX5_setPrize_12 : decode cX5_setPrize 12 = .ok (.invokestatic 57, 3) := by decide +kernel
theorem dX5_setPrize_15 : decode cX5_setPrize 15 = .ok (.aload_n 0, 1) := by decide +kernel
theorem dX5_setPrize_16 : decode cX5_setPrize 16 = .ok (.getfield 54, 3) := by decide +kernel
theorem dX5_setPrize_19 : decode cX5_setPrize 19 = .ok (.iload_n 1, 1) := by decide +kernel
theorem dX5_setPrize_20 : decode cX5_setPrize 20 = .ok (.iconst 1, 1) := by decide +kernel
theorem dX5_setPrize_21 : decode cX5_setPrize 21 = .ok (.isub, 1) := by decide +kernel
theorem dX5_setPrize_22 : decode cX5_setPrize 22 = .ok (.iaload, 1) := by decide +kernel
theorem dX5_setPrize_23 : decode cX5_setPrize 23 = .ok (.istore_n 3, 1) := by decide +kernel
theorem dX5_setPrize_24 : decode cX5_setPrize 24 = .ok (.aload_n 0, 1) := by decide +kernel
theorem dX5_setPrize_25 : decode cX5_setPrize 25 = .ok (.getfield 54, 3) := by decide +kernel
theorem dX5_setPrize_28 : decode cX5_setPrize 28 = .ok (.iload_n 1, 1) := by decide +kernel
theorem dX5_setPrize_29 : decode cX5_setPrize 29 = .ok (.iconst 1, 1) := by decide +kernel
theorem dX5_setPrize_30 : decode cX5_setPrize 30 = .ok (.isub, 1) := by decide +kernel
theorem dX5_setPrize_31 : decode cX5_setPrize 31 = .ok (.iload_n 2, 1) := by decide +kernel
theorem dX5_setPrize_32 : decode cX5_setPrize 32 = .ok (.iastore, 1) := by decide +kernel
theorem dX5_setPrize_33 : decode cX5_setPrize 33 = .ok (.iload_n 3, 1) := by decide +kernel
theorem dX5_setPrize_34 : decode cX5_setPrize 34 = .ok (.ireturn, 1) := by decide +kernel
set_option maxHeartbeats 4000000 in
set_option maxRecDepth 100000 in
theorem c_X5_setPrize (l : Launch) (D : va_G) (cI cZ cL : ClassId) (ad : Nat → Nat) (S : Mem) (A : Nat → Prop) (hD : va_D A (wC ad cI S)) (x1 : Int32) (x2 : Int32) (hI : I0 S) (hth : (oSetP S x1 x2).1 = none) : WR l D cI cZ cL yX5_setPrize cX5_setPrize 4 (some .int) 7 [.ref (ad 0), .int x1, .int x2] A (wC ad cI S) (wC ad cI ((oSetP S x1 x2).2.2)) (some (.int ((oSetP S x1 x2).2.1))) := by
  refine WR.of (by decide) (Nat.le_of_ble_eq_true rfl) ?_
  intro p e s m args below meth c ls hx hb hr hml hown hlk hE hP hS hl
  have hl : lv_has ls 4 [(0, .ref (ad 0)), (1, .int x1), (2, .int x2)] := hl
  have hT8 := hI.T8
  have hR16 := hI.R16
  have hN200 := hI.N200
  refine lv_iload_n hx hb dX5_setPrize_0 rfl (lv_at hl 1 rfl) ?_
  refine lv_iconst (v := 1) hx hb dX5_setPrize_1 (by decide) ?_
  refine lv_bipush (v := 8) hx hb dX5_setPrize_2 (by decide) ?_
  by_cases c_1 : okr x1 1 8 = true
  · skip
    refine q_rdv (q_runS (rest := []) hx hb hml hown hE (c_X5_requireRange l D cI cZ cL _ x1 1 8 c_1) ck_X5_requireRange w_328 hP hl.1 rfl ⟨Nat.le_of_ble_eq_true rfl, Nat.le_of_ble_eq_true rfl⟩ (Nat.le_of_ble_eq_true rfl) dX5_setPrize_4 ⟨Nat.le_of_ble_eq_true rfl, Nat.le_of_ble_eq_true rfl⟩) ?_
    refine lv_iload_n hx hb dX5_setPrize_7 rfl (lv_at hl 2 rfl) ?_
    refine lv_iconst (v := 0) hx hb dX5_setPrize_8 (by decide) ?_
    refine lv_sipush (v := 1000) hx hb dX5_setPrize_9 (by decide) ?_
    by_cases c_2 : okr x2 0 1000 = true
    · skip
      refine q_rdv (q_runS (rest := []) hx hb hml hown hE (c_X5_requireRange l D cI cZ cL _ x2 0 1000 c_2) ck_X5_requireRange w_328 hP hl.1 rfl ⟨Nat.le_of_ble_eq_true rfl, Nat.le_of_ble_eq_true rfl⟩ (Nat.le_of_ble_eq_true rfl) dX5_setPrize_12 ⟨Nat.le_of_ble_eq_true rfl, Nat.le_of_ble_eq_true rfl⟩) ?_
      refine lv_aload_n hx hb dX5_setPrize_15 rfl (lv_at hl 0 rfl) ?_
      refine q_get (v := .ref (ad 34)) hx hb hown hE inT_X5 hP 0 rfl rfl 8 (by decide) w_220 rfl dX5_setPrize_16 ?_
      refine lv_iload_n hx hb dX5_setPrize_19 rfl (lv_at hl 1 rfl) ?_
      refine lv_iconst (v := 1) hx hb dX5_setPrize_20 (by decide) ?_
      refine lv_isub hx hb dX5_setPrize_21 ?_
      refine q_top (y := nI (iN (x1 - 1))) ((okr_m1 c_1).1) ?_
      have hm8 := (okr_m1 c_1).2
      refine q_iald (f := S 34) (i := (iN (x1 - 1))) hx hb hE hP 34 rfl (by omega) (Nat.le_of_ble_eq_true rfl) dX5_setPrize_22 ?_
      refine lv_istore_n (lv' := [(3, .int (S 34 (iN (x1 - 1)))), (0, .ref (ad 0)), (1, .int x1), (2, .int x2)]) hx hb dX5_setPrize_23 rfl hl (by decide) rfl (fun ls hl => ?_)
      refine lv_aload_n hx hb dX5_setPrize_24 rfl (lv_at hl 1 rfl) ?_
      refine q_get (v := .ref (ad 34)) hx hb hown hE inT_X5 hP 0 rfl rfl 8 (by decide) w_220 rfl dX5_setPrize_25 ?_
      refine lv_iload_n hx hb dX5_setPrize_28 rfl (lv_at hl 2 rfl) ?_
      refine lv_iconst (v := 1) hx hb dX5_setPrize_29 (by decide) ?_
      refine lv_isub hx hb dX5_setPrize_30 ?_
      refine q_top (y := nI (iN (x1 - 1))) ((okr_m1 c_1).1) ?_
      refine lv_iload_n hx hb dX5_setPrize_31 rfl (lv_at hl 3 rfl) ?_
      refine q_iast (f := S 34) (i := (iN (x1 - 1))) (x := x2) (ws' := (wC ad cI (st S 34 (iN (x1 - 1)) x2))) hx hb hE hP (wC_D hD) hS 34 rfl (by omega) (Nat.le_of_ble_eq_true rfl) (wC_st_34) dX5_setPrize_32 (fun H locs hP hS => ?_)
      refine lv_iload_n hx hb dX5_setPrize_33 rfl (lv_at hl 0 rfl) ?_
      rw [show oSetP S x1 x2 = (none, S 34 (iN (x1 - 1)), st S 34 (iN (x1 - 1)) x2) from by first | (simp only [oSetP, c_1, c_2, ↓reduceIte]; done) | (simp only [oSetP, c_1, c_2, ↓reduceIte]; rfl) | (simp [oSetP, c_1, c_2]; done) | (simp [oSetP, c_1, c_2]; rfl)]
      exact e_wret hx hb hr hlk rfl hP hS dX5_setPrize_34
    · skip
      simp [oSetP, xI, xA, xS, xN, c_1, c_2] at hth
  · skip
    simp [oSetP, xI, xA, xS, xN, c_1] at hth


set_option maxHeartbeats 4000000 in
set_option maxRecDepth 100000 in
theorem c_X5_setPrize_T0 (l : Launch) (hfl : l.flags = flags0) (D : va_G) (cI cZ cL : ClassId) (ad : Nat → Nat) (S : Mem) (x1 : Int32) (x2 : Int32) (hI : I0 S) (hth : (oSetP S x1 x2).1 = some "java/lang/IllegalArgumentException") : TH l D cI cZ cL yX5_setPrize cX5_setPrize 4 (some .int) 7 [.ref (ad 0), .int x1, .int x2] (wC ad cI S) "java/lang/IllegalArgumentException" := by
  refine TH.of (by decide) (Nat.le_of_ble_eq_true rfl) ?_
  intro p e s m args below meth c ls hx hb hr hml hown hlk hxt hE hT hZ hP hl
  have hl : lv_has ls 4 [(0, .ref (ad 0)), (1, .int x1), (2, .int x2)] := hl
  have hT8 := hI.T8
  have hR16 := hI.R16
  have hN200 := hI.N200
  refine lv_iload_n hx hb dX5_setPrize_0 rfl (lv_at hl 1 rfl) ?_
  refine lv_iconst (v := 1) hx hb dX5_setPrize_1 (by decide) ?_
  refine lv_bipush (v := 8) hx hb dX5_setPrize_2 (by decide) ?_
  by_cases c_1 : okr x1 1 8 = true
  · skip
    refine q_rdv (q_runS (rest := []) hx hb hml hown hE (c_X5_requireRange l D cI cZ cL _ x1 1 8 c_1) ck_X5_requireRange w_328 hP hl.1 rfl ⟨Nat.le_of_ble_eq_true rfl, Nat.le_of_ble_eq_true rfl⟩ (Nat.le_of_ble_eq_true rfl) dX5_setPrize_4 ⟨Nat.le_of_ble_eq_true rfl, Nat.le_of_ble_eq_true rfl⟩) ?_
    refine lv_iload_n hx hb dX5_setPrize_7 rfl (lv_at hl 2 rfl) ?_
    refine lv_iconst (v := 0) hx hb dX5_setPrize_8 (by decide) ?_
    refine lv_sipush (v := 1000) hx hb dX5_setPrize_9 (by decide) ?_
    by_cases c_2 : okr x2 0 1000 = true
    · skip
      refine q_rdv (q_runS (rest := []) hx hb hml hown hE (c_X5_requireRange l D cI cZ cL _ x2 0 1000 c_2) ck_X5_requireRange w_328 hP hl.1 rfl ⟨Nat.le_of_ble_eq_true rfl, Nat.le_of_ble_eq_true rfl⟩ (Nat.le_of_ble_eq_true rfl) dX5_setPrize_12 ⟨Nat.le_of_ble_eq_true rfl, Nat.le_of_ble_eq_true rfl⟩) ?_
      refine lv_aload_n hx hb dX5_setPrize_15 rfl (lv_at hl 0 rfl) ?_
      refine q_get (v := .ref (ad 34)) hx hb hown hE inT_X5 hP 0 rfl rfl 8 (by decide) w_220 rfl dX5_setPrize_16 ?_
      refine lv_iload_n hx hb dX5_setPrize_19 rfl (lv_at hl 1 rfl) ?_
      refine lv_iconst (v := 1) hx hb dX5_setPrize_20 (by decide) ?_
      refine lv_isub hx hb dX5_setPrize_21 ?_
      refine q_top (y := nI (iN (x1 - 1))) ((okr_m1 c_1).1) ?_
      have hm8 := (okr_m1 c_1).2
      refine q_iald (f := S 34) (i := (iN (x1 - 1))) hx hb hE hP 34 rfl (by omega) (Nat.le_of_ble_eq_true rfl) dX5_setPrize_22 ?_
      refine lv_istore_n (lv' := [(3, .int (S 34 (iN (x1 - 1)))), (0, .ref (ad 0)), (1, .int x1), (2, .int x2)]) hx hb dX5_setPrize_23 rfl hl (by decide) rfl (fun ls hl => ?_)
      refine lv_aload_n hx hb dX5_setPrize_24 rfl (lv_at hl 1 rfl) ?_
      refine q_get (v := .ref (ad 34)) hx hb hown hE inT_X5 hP 0 rfl rfl 8 (by decide) w_220 rfl dX5_setPrize_25 ?_
      refine lv_iload_n hx hb dX5_setPrize_28 rfl (lv_at hl 2 rfl) ?_
      refine lv_iconst (v := 1) hx hb dX5_setPrize_29 (by decide) ?_
      refine lv_isub hx hb dX5_setPrize_30 ?_
      refine q_top (y := nI (iN (x1 - 1))) ((okr_m1 c_1).1) ?_
      refine lv_iload_n hx hb dX5_setPrize_31 rfl (lv_at hl 3 rfl) ?_
      simp [oSetP, xI, xA, xS, xN, c_1, c_2] at hth
    · skip
      have c_2 := eq_false_of_ne_true c_2
      exact q_th (q_thS (n' := 3) (k' := 6) (y := yX5_requireRange) (rest := []) hx hb hml hown hE hT hZ (c_X5_requireRange_T l hfl D cI cZ cL _ x2 0 1000 c_2) ck_X5_requireRange w_328 hP hl.1 rfl ⟨Nat.le_of_ble_eq_true rfl, Nat.le_of_ble_eq_true rfl⟩ (Nat.le_of_ble_eq_true rfl) dX5_setPrize_12 ⟨Nat.le_of_ble_eq_true rfl, Nat.le_of_ble_eq_true rfl⟩) hlk hxt (Nat.le_refl _) (Nat.le_refl _) (fun t h1 h2 => ⟨rfl, h2⟩)
  · skip
    have c_1 := eq_false_of_ne_true c_1
    exact q_th (q_thS (n' := 3) (k' := 6) (y := yX5_requireRange) (rest := []) hx hb hml hown hE hT hZ (c_X5_requireRange_T l hfl D cI cZ cL _ x1 1 8 c_1) ck_X5_requireRange w_328 hP hl.1 rfl ⟨Nat.le_of_ble_eq_true rfl, Nat.le_of_ble_eq_true rfl⟩ (Nat.le_of_ble_eq_true rfl) dX5_setPrize_4 ⟨Nat.le_of_ble_eq_true rfl, Nat.le_of_ble_eq_true rfl⟩) hlk hxt (Nat.le_refl _) (Nat.le_refl _) (fun t h1 h2 => ⟨rfl, h2⟩)

theorem dX5_prize_0 : decode cX5_prize 0 = .ok (.aload_n 0, 1) := by decide +kernel
theorem dX5_prize_1 : decode cX5_prize 1 = .ok (.iload_n 1, 1) := by decide +kernel
theorem dX5_prize_2 : decode cX5_prize 2 = .ok (.invokevirtual 126, 3) := by decide +kernel
theorem dX5_prize_5 : decode cX5_prize 5 = .ok (.aload_n 0, 1) := by decide +kernel
theorem dX5_prize_6 : decode cX5_prize 6 = .ok (.getfield 72, 3) := by decide +kernel
theorem dX5_prize_9 : decode cX5_prize 9 = .ok (.ifCond .ne 13, 3) := by decide +kernel
theorem dX5_prize_12 : decode cX5_prize 12 = .ok (.new 65, 3) := by decide +kernel
theorem dX5_prize_22 : decode cX5_prize 22 = .ok (.aload_n 0, 1) := by decide +kernel
theorem dX5_prize_23 : decode cX5_prize 23 = .ok (.invokevirtual 234, 3) := by decide +kernel
theorem dX5_prize_26 : decode cX5_prize 26 = .ok (.aload_n 0, 1) := by decide +kernel
theorem dX5_prize_27 : decode cX5_prize 27 = .ok (.iload_n 1, 1) := by decide +kernel
theorem dX5_prize_28 : decode cX5_prize 28 = .ok (.aload_n 0, 1) := by decide +kernel
theorem dX5_prize_29 : decode cX5_prize 29 = .ok (.getfield 115, 3) := by decide +kernel
theorem dX5_prize_32 : decode cX5_prize 32 = .ok (.invokevirtual 240, 3) := by decide +kernel
theorem dX5_prize_35 : decode cX5_prize 35 = .ok (.istore_n 2, 1) := by decide +kernel
theorem dX5_prize_36 : decode cX5_prize 36 = .ok (.iload_n 2, 1) := by decide +kernel
theorem dX5_prize_37 : decode cX5_prize 37 = .ok (.ifCond .le 18, 3) := by decide +kernel
theorem dX5_prize_40 : decode cX5_prize 40 = .ok (.aload_n 0, 1) := by decide +kernel
theorem dX5_prize_41 : decode cX5_prize 41 = .ok (.aload_n 0, 1) := by decide +kernel
theorem dX5_prize_42 : decode cX5_prize 42 = .ok (.iload_n 1, 1) := by decide +kernel
theorem dX5_prize_43 : decode cX5_prize 43 = .ok (.invokevirtual 237, 3) := by decide +kernel
theorem dX5_prize_46 : decode cX5_prize 46 = .ok (.iload_n 2, 1) := by decide +kernel
theorem dX5_prize_47 : decode cX5_prize 47 = .ok (.invokevirtual 245, 3) := by decide +kernel
theorem dX5_prize_50 : decode cX5_prize 50 = .ok (.iload_n 2, 1) := by decide +kernel
theorem dX5_prize_51 : decode cX5_prize 51 = .ok (.idiv, 1) := by decide +kernel
theorem dX5_prize_52 : decode cX5_prize 52 = .ok (.goto 4, 3) := by decide +kernel
theorem dX5_prize_55 : decode cX5_prize 55 = .ok (.iconst 0, 1) := by decide +kernel
theorem dX5_prize_56 : decode cX5_prize 56 = .ok (.ireturn, 1) := by decide +kernel
set_option maxHeartbeats 4000000 in
set_option maxRecDepth 100000 in
theorem c_X5_prize (l : Launch) (D : va_G) (cI cZ cL : ClassId) (ad : Nat → Nat) (S : Mem) (A : Nat → Prop) (hD : va_D A (wC ad cI S)) (x1 : Int32) (hI : I0 S) (hth : (oPrize S x1).1 = none) : WR l D cI cZ cL yX5_prize cX5_prize 3 (some .int) 7 [.ref (ad 0), .int x1] A (wC ad cI S) (wC ad cI ((oPrize S x1).2.2)) (some (.int ((oPrize S x1).2.1))) := by
  refine WR.of (by decide) (Nat.le_of_ble_eq_true rfl) ?_
  intro p e s m args below meth c ls hx hb hr hml hown hlk hE hP hS hl
  have hl : lv_has ls 3 [(0, .ref (ad 0)), (1, .int x1)] := hl
  have hT8 := hI.T8
  have hR16 := hI.R16
  have hN200 := hI.N200
  refine lv_aload_n hx hb dX5_prize_0 rfl (lv_at hl 0 rfl) ?_
  refine lv_iload_n hx hb dX5_prize_1 rfl (lv_at hl 1 rfl) ?_
  by_cases c_1 : okn x1 (cT S) = true
  · skip
    obtain ⟨u1, hu1, eu1⟩ := okn_t c_1
    subst eu1
    have iu1 : iN (nI u1) = u1 := iN_nI (by omega)
    refine q_rdv (q_runV (rest := []) hx hb hml hown hE (c_X5_requireTeam l D cI cZ cL ad S u1 hI hu1) ck_X5_requireTeam w_488 hP 0 rfl rfl hl.1 rfl ⟨Nat.le_of_ble_eq_true rfl, Nat.le_of_ble_eq_true rfl⟩ (Nat.le_of_ble_eq_true rfl) dX5_prize_2 ⟨Nat.le_of_ble_eq_true rfl, Nat.le_of_ble_eq_true rfl⟩) ?_
    refine lv_aload_n hx hb dX5_prize_5 rfl (lv_at hl 0 rfl) ?_
    refine q_get (v := .int (S 0 11)) hx hb hown hE inT_X5 hP 0 rfl rfl 11 (by decide) w_223 rfl dX5_prize_6 ?_
    refine lv_if_ne (tgt := 22) hx hb dX5_prize_9 (by decide) (fun c_2 => ?_) (fun c_2 => ?_)
    · skip
      refine lv_aload_n hx hb dX5_prize_22 rfl (lv_at hl 0 rfl) ?_
      refine q_w0v (q_runV (rest := []) hx hb hml hown hE (c_X5_rateTeams l D cI cZ cL ad S A (wC_D hD) hI) ck_X5_rateTeams w_257 hP 0 rfl rfl hl.1 rfl ⟨Nat.le_of_ble_eq_true rfl, Nat.le_of_ble_eq_true rfl⟩ (Nat.le_of_ble_eq_true rfl) dX5_prize_23 ⟨Nat.le_of_ble_eq_true rfl, Nat.le_of_ble_eq_true rfl⟩) hS (fun H locs hP hS => ?_)
      have hI_c3 : I0 (p_rate S (cT S)) := I0_congr (fun c hc => fr_rate (by omega) _) hI
      have hT8b := hI_c3.T8
      have hba := p_ba_le (p_rate S (cT S)) u1 (cT (p_rate S (cT S)))
      refine lv_aload_n hx hb dX5_prize_26 rfl (lv_at hl 0 rfl) ?_
      refine lv_iload_n hx hb dX5_prize_27 rfl (lv_at hl 1 rfl) ?_
      refine lv_aload_n hx hb dX5_prize_28 rfl (lv_at hl 0 rfl) ?_
      refine q_get (v := .int ((p_rate S (cT S)) 0 9)) hx hb hown hE inT_X5 hP 0 rfl rfl 9 (by decide) w_221 rfl dX5_prize_29 ?_
      refine q_top (y := nI (cT (p_rate S (cT S)))) (I0.T hI_c3) ?_
      refine q_rd (q_runV (rest := []) hx hb hml hown hE (c_X5_countAlike l D cI cZ cL ad (p_rate S (cT S)) u1 (cT (p_rate S (cT S))) (by omega) (by omega)) ck_X5_countAlike w_315 hP 0 rfl rfl hl.1 rfl ⟨Nat.le_of_ble_eq_true rfl, Nat.le_of_ble_eq_true rfl⟩ (Nat.le_of_ble_eq_true rfl) dX5_prize_32 ⟨Nat.le_of_ble_eq_true rfl, Nat.le_of_ble_eq_true rfl⟩) ?_
      refine lv_istore_n (lv' := [(2, .int (nI (p_alike (p_rate S (cT S)) u1 (cT (p_rate S (cT S)))))), (0, .ref (ad 0)), (1, .int (nI u1))]) hx hb dX5_prize_35 rfl hl (by decide) rfl (fun ls hl => ?_)
      refine lv_iload_n hx hb dX5_prize_36 rfl (lv_at hl 0 rfl) ?_
      refine lv_if_le (tgt := 55) hx hb dX5_prize_37 (by decide) (fun c_4 => ?_) (fun c_4 => ?_)
      · skip
        have c_4 : (p_alike (p_rate S (cT S)) u1 (cT (p_rate S (cT S)))) ≤ 0 := n_le (a := p_alike (p_rate S (cT S)) u1 (cT (p_rate S (cT S)))) (b := 0) (by omega) (by omega) c_4
        have d_4 : ¬ 0 < (p_alike (p_rate S (cT S)) u1 (cT (p_rate S (cT S)))) := Nat.not_lt.mpr c_4
        refine lv_iconst (v := 0) hx hb dX5_prize_55 (by decide) ?_
        rw [show oPrize S (nI u1) = (none, 0, p_rate S (cT S)) from by first | (simp only [oPrize, o1, hPrize, c_1, iu1, c_2, c_4, d_4, ↓reduceIte]; done) | (simp only [oPrize, o1, hPrize, c_1, iu1, c_2, c_4, d_4, ↓reduceIte]; rfl) | (simp [oPrize, o1, hPrize, c_1, iu1, c_2, c_4, d_4]; done) | (simp [oPrize, o1, hPrize, c_1, iu1, c_2, c_4, d_4]; rfl)]
        exact e_wret hx hb hr hlk rfl hP hS dX5_prize_56
      · skip
        have c_4 : 0 < (p_alike (p_rate S (cT S)) u1 (cT (p_rate S (cT S)))) := n_nle (a := p_alike (p_rate S (cT S)) u1 (cT (p_rate S (cT S)))) (b := 0) (by omega) (by omega) c_4
        refine lv_aload_n hx hb dX5_prize_40 rfl (lv_at hl 1 rfl) ?_
        refine lv_aload_n hx hb dX5_prize_41 rfl (lv_at hl 1 rfl) ?_
        refine lv_iload_n hx hb dX5_prize_42 rfl (lv_at hl 2 rfl) ?_
        refine q_rd (q_runV (rest := [.ref (ad 0)]) hx hb hml hown hE (c_X5_countBetter l D cI cZ cL ad (p_rate S (cT S)) u1 hI_c3 (by omega)) ck_X5_countBetter w_311 hP 0 rfl rfl hl.1 rfl ⟨Nat.le_of_ble_eq_true rfl, Nat.le_of_ble_eq_true rfl⟩ (Nat.le_of_ble_eq_true rfl) dX5_prize_43 ⟨Nat.le_of_ble_eq_true rfl, Nat.le_of_ble_eq_true rfl⟩) ?_
        refine lv_iload_n hx hb dX5_prize_46 rfl (lv_at hl 0 rfl) ?_
        refine q_rd (q_runV (rest := []) hx hb hml hown hE (c_X5_sumPrizes l D cI cZ cL ad (p_rate S (cT S)) (p_better (p_rate S (cT S)) u1 (cT (p_rate S (cT S)))) (p_alike (p_rate S (cT S)) u1 (cT (p_rate S (cT S)))) (by omega)) ck_X5_sumPrizes w_748 hP 0 rfl rfl hl.1 rfl ⟨Nat.le_of_ble_eq_true rfl, Nat.le_of_ble_eq_true rfl⟩ (Nat.le_of_ble_eq_true rfl) dX5_prize_47 ⟨Nat.le_of_ble_eq_true rfl, Nat.le_of_ble_eq_true rfl⟩) ?_
        refine lv_iload_n hx hb dX5_prize_50 rfl (lv_at hl 0 rfl) ?_
        refine lv_idiv hx hb dX5_prize_51 (nI_ne0 (by omega) (by omega)) ?_
        refine lv_goto (tgt := 56) hx hb dX5_prize_52 (by decide) ?_
        rw [show oPrize S (nI u1) = (none, (p_prz (p_rate S (cT S)) (p_better (p_rate S (cT S)) u1 (cT (p_rate S (cT S)))) (p_alike (p_rate S (cT S)) u1 (cT (p_rate S (cT S))))) / (nI (p_alike (p_rate S (cT S)) u1 (cT (p_rate S (cT S))))), p_rate S (cT S)) from by first | (simp only [oPrize, o1, hPrize, c_1, iu1, c_2, c_4, ↓reduceIte]; done) | (simp only [oPrize, o1, hPrize, c_1, iu1, c_2, c_4, ↓reduceIte]; rfl) | (simp [oPrize, o1, hPrize, c_1, iu1, c_2, c_4]; done) | (simp [oPrize, o1, hPrize, c_1, iu1, c_2, c_4]; rfl)]
        exact e_wret hx hb hr hlk rfl hP hS dX5_prize_56
    · skip
      have e_2 := eq_true c_2
      simp [oPrize, o1, hPrize, xI, xA, xS, xN, c_1, iu1, e_2] at hth
  · skip
    simp [oPrize, o1, hPrize, xI, xA, xS, xN, c_1] at hth


set_option maxHeartbeats 4000000 in
set_option maxRecDepth 100000 in
theorem c_X5_prize_T0 (l : Launch) (hfl : l.flags = flags0) (D : va_G) (cI cZ cL : ClassId) (ad : Nat → Nat) (S : Mem) (x1 : Int32) (hI : I0 S) (hth : (oPrize S x1).1 = some "java/lang/IndexOutOfBoundsException") : TH l D cI cZ cL yX5_prize cX5_prize 3 (some .int) 7 [.ref (ad 0), .int x1] (wC ad cI S) "java/lang/IndexOutOfBoundsException" := by
  refine TH.of (by decide) (Nat.le_of_ble_eq_true rfl) ?_
  intro p e s m args below meth c ls hx hb hr hml hown hlk hxt hE hT hZ hP hl
  have hl : lv_has ls 3 [(0, .ref (ad 0)), (1, .int x1)] := hl
  have hT8 := hI.T8
  have hR16 := hI.R16
  have hN200 := hI.N200
  refine lv_aload_n hx hb dX5_prize_0 rfl (lv_at hl 0 rfl) ?_
  refine lv_iload_n hx hb dX5_prize_1 rfl (lv_at hl 1 rfl) ?_
  by_cases c_1 : okn x1 (cT S) = true
  · skip
    obtain ⟨u1, hu1, eu1⟩ := okn_t c_1
    subst eu1
    have iu1 : iN (nI u1) = u1 := iN_nI (by omega)
    refine q_rdv (q_runV (rest := []) hx hb hml hown hE (c_X5_requireTeam l D cI cZ cL ad S u1 hI hu1) ck_X5_requireTeam w_488 hP 0 rfl rfl hl.1 rfl ⟨Nat.le_of_ble_eq_true rfl, Nat.le_of_ble_eq_true rfl⟩ (Nat.le_of_ble_eq_true rfl) dX5_prize_2 ⟨Nat.le_of_ble_eq_true rfl, Nat.le_of_ble_eq_true rfl⟩) ?_
    refine lv_aload_n hx hb dX5_prize_5 rfl (lv_at hl 0 rfl) ?_
    refine q_get (v := .int (S 0 11)) hx hb hown hE inT_X5 hP 0 rfl rfl 11 (by decide) w_223 rfl dX5_prize_6 ?_
    refine lv_if_ne (tgt := 22) hx hb dX5_prize_9 (by decide) (fun c_2 => ?_) (fun c_2 => ?_)
    · skip
      refine lv_aload_n hx hb dX5_prize_22 rfl (lv_at hl 0 rfl) ?_
      simp [oPrize, o1, hPrize, xI, xA, xS, xN, c_1, iu1, c_2] at hth
    · skip
      have e_2 := eq_true c_2
      simp [oPrize, o1, hPrize, xI, xA, xS, xN, c_1, iu1, e_2] at hth
  · skip
    have c_1 := eq_false_of_ne_true c_1
    exact q_th (q_thV (n' := 2) (k' := 6) (y := yX5_requireTeam) (rest := []) hx hb hml hown hE hT hZ (c_X5_requireTeam_T l hfl D cI cZ cL ad S x1 hI c_1) ck_X5_requireTeam w_488 hP 0 rfl rfl hl.1 rfl ⟨Nat.le_of_ble_eq_true rfl, Nat.le_of_ble_eq_true rfl⟩ (Nat.le_of_ble_eq_true rfl) dX5_prize_2 ⟨Nat.le_of_ble_eq_true rfl, Nat.le_of_ble_eq_true rfl⟩) hlk hxt (Nat.le_refl _) (Nat.le_refl _) (fun t h1 h2 => ⟨rfl, h2⟩)

theorem dX5_prize_15 : decode cX5_prize 15 = .ok (.dup, 1) := by decide +kernel
theorem dX5_prize_16 : decode cX5_prize 16 = .ok (.ldc 243, 2) := by decide +kernel
theorem dX5_prize_18 : decode cX5_prize 18 = .ok (.invokespecial 69, 3) := by decide +kernel
theorem dX5_prize_21 : decode cX5_prize 21 = .ok (.athrow, 1) := by decide +kernel
set_option maxHeartbeats 4000000 in
set_option maxRecDepth 100000 in
theorem c_X5_prize_T1 (l : Launch) (hfl : l.flags = flags0) (D : va_G) (cI cZ cL : ClassId) (ad : Nat → Nat) (S : Mem) (x1 : Int32) (hI : I0 S) (hth : (oPrize S x1).1 = some "java/lang/IllegalStateException") : TH l D cI cZ cL yX5_prize cX5_prize 3 (some .int) 7 [.ref (ad 0), .int x1] (wC ad cI S) "java/lang/IllegalStateException" := by
  refine TH.of (by decide) (Nat.le_of_ble_eq_true rfl) ?_
  intro p e s m args below meth c ls hx hb hr hml hown hlk hxt hE hT hZ hP hl
  have hl : lv_has ls 3 [(0, .ref (ad 0)), (1, .int x1)] := hl
  have hT8 := hI.T8
  have hR16 := hI.R16
  have hN200 := hI.N200
  refine lv_aload_n hx hb dX5_prize_0 rfl (lv_at hl 0 rfl) ?_
  refine lv_iload_n hx hb dX5_prize_1 rfl (lv_at hl 1 rfl) ?_
  by_cases c_1 : okn x1 (cT S) = true
  · skip
    obtain ⟨u1, hu1, eu1⟩ := okn_t c_1
    subst eu1
    have iu1 : iN (nI u1) = u1 := iN_nI (by omega)
    refine q_rdv (q_runV (rest := []) hx hb hml hown hE (c_X5_requireTeam l D cI cZ cL ad S u1 hI hu1) ck_X5_requireTeam w_488 hP 0 rfl rfl hl.1 rfl ⟨Nat.le_of_ble_eq_true rfl, Nat.le_of_ble_eq_true rfl⟩ (Nat.le_of_ble_eq_true rfl) dX5_prize_2 ⟨Nat.le_of_ble_eq_true rfl, Nat.le_of_ble_eq_true rfl⟩) ?_
    refine lv_aload_n hx hb dX5_prize_5 rfl (lv_at hl 0 rfl) ?_
    refine q_get (v := .int (S 0 11)) hx hb hown hE inT_X5 hP 0 rfl rfl 11 (by decide) w_223 rfl dX5_prize_6 ?_
    refine lv_if_ne (tgt := 22) hx hb dX5_prize_9 (by decide) (fun c_2 => ?_) (fun c_2 => ?_)
    · skip
      refine lv_aload_n hx hb dX5_prize_22 rfl (lv_at hl 0 rfl) ?_
      simp [oPrize, o1, hPrize, xI, xA, xS, xN, c_1, iu1, c_2] at hth
    · skip
      have e_2 := eq_true c_2
      obtain ⟨sa, hsa⟩ := hT "PuzzleRegistry" 243 "it has not ended" (List.mem_of_getElem? (i := 656) (by decide +kernel))
      exact vx_throwS (rest := []) (A := q_no) (names := tw_names) hx hb (q_flags hfl) hown rfl tw_names_ok (hE.1 _ w_400 args) (hE.1 _ w_72 args) hsa (fun w h => hE.1 w (tw_X5_65_69 w h) args) tw_X5_65_69_g hZ.1 hZ.2 va_S.rf (hl.1.trans hml.symm) dX5_prize_12 dX5_prize_15 dX5_prize_16 dX5_prize_18 dX5_prize_21 (fun x hx => (hxt x hx).elim) (Nat.le_of_ble_eq_true rfl) (Nat.le_of_ble_eq_true rfl) (Nat.le_of_ble_eq_true rfl) (Nat.le_of_ble_eq_true rfl) hlk (fun t h1 h2 h3 => ⟨rfl, h2, fun q h4 _ => h3 q h4⟩) (fun _ h => nomatch h) (Nat.le_refl _) (Nat.le_refl _)
  · skip
    simp [oPrize, o1, hPrize, xI, xA, xS, xN, c_1] at hth

theorem dX5_teamAt_0 : decode cX5_teamAt 0 = .ok (.aload_n 0, 1) := by decide +kernel
theorem dX5_teamAt_1 : decode cX5_teamAt 1 = .ok (.invokevirtual 234, 3) := by decide +kernel
theorem dX5_teamAt_4 : decode cX5_teamAt 4 = .ok (.iconst 0, 1) := by decide +kernel
theorem dX5_teamAt_5 : decode cX5_teamAt 5 = .ok (.istore_n 2, 1) := by decide +kernel
theorem dX5_teamAt_6 : decode cX5_teamAt 6 = .ok (.iload_n 2, 1) := by decide +kernel
theorem dX5_teamAt_7 : decode cX5_teamAt 7 = .ok (.aload_n 0, 1) := by decide +kernel
theorem dX5_teamAt_8 : decode cX5_teamAt 8 = .ok (.getfield 115, 3) := by decide +kernel
theorem dX5_teamAt_11 : decode cX5_teamAt 11 = .ok (.if_icmp .ge 27, 3) := by decide +kernel
theorem dX5_teamAt_14 : decode cX5_teamAt 14 = .ok (.aload_n 0, 1) := by decide +kernel
theorem dX5_teamAt_15 : decode cX5_teamAt 15 = .ok (.iload_n 2, 1) := by decide +kernel
theorem dX5_teamAt_16 : decode cX5_teamAt 16 = .ok (.invokevirtual 237, 3) := by decide +kernel
theorem dX5_teamAt_19 : decode cX5_teamAt 19 = .ok (.aload_n 0, 1) := by decide +kernel
theorem dX5_teamAt_20 : decode cX5_teamAt 20 = .ok (.iload_n 2, 1) := by decide +kernel
theorem dX5_teamAt_21 : decode cX5_teamAt 21 = .ok (.iload_n 2, 1) := by decide +kernel
theorem dX5_teamAt_22 : decode cX5_teamAt 22 = .ok (.invokevirtual 240, 3) := by decide +kernel
theorem dX5_teamAt_25 : decode cX5_teamAt 25 = .ok (.iadd, 1) := by decide +kernel
theorem dX5_teamAt_26 : decode cX5_teamAt 26 = .ok (.iload_n 1, 1) := by decide +kernel
theorem dX5_teamAt_27 : decode cX5_teamAt 27 = .ok (.if_icmp .ne 5, 3) := by decide +kernel
theorem dX5_teamAt_30 : decode cX5_teamAt 30 = .ok (.iload_n 2, 1) := by decide +kernel
theorem dX5_teamAt_31 : decode cX5_teamAt 31 = .ok (.ireturn, 1) := by decide +kernel
theorem dX5_teamAt_32 : decode cX5_teamAt 32 = .ok (.iinc 2 1, 3) := by decide +kernel
theorem dX5_teamAt_35 : decode cX5_teamAt 35 = .ok (.goto (-29), 3) := by decide +kernel
theorem dX5_teamAt_38 : decode cX5_teamAt 38 = .ok (.iconst (-1), 1) := by decide +kernel
theorem dX5_teamAt_39 : decode cX5_teamAt 39 = .ok (.ireturn, 1) := by decide +kernel
set_option maxHeartbeats 4000000 in
set_option maxRecDepth 100000 in
theorem c_X5_teamAt (l : Launch) (D : va_G) (cI cZ cL : ClassId) (ad : Nat → Nat) (S : Mem) (A : Nat → Prop) (hD : va_D A (wC ad cI S)) (x1 : Int32) (hI : I0 S) : WR l D cI cZ cL yX5_teamAt cX5_teamAt 3 (some .int) 7 [.ref (ad 0), .int x1] A (wC ad cI S) (wC ad cI ((oAt S x1).2.2)) (some (.int ((oAt S x1).2.1))) := by
  refine WR.of (by decide) (Nat.le_of_ble_eq_true rfl) ?_
  intro p e s m args below meth c ls hx hb hr hml hown hlk hE hP hS hl
  have hl : lv_has ls 3 [(0, .ref (ad 0)), (1, .int x1)] := hl
  have hT8 := hI.T8
  have hR16 := hI.R16
  have hN200 := hI.N200
  refine lv_aload_n hx hb dX5_teamAt_0 rfl (lv_at hl 0 rfl) ?_
  refine q_w0v (q_runV (rest := []) hx hb hml hown hE (c_X5_rateTeams l D cI cZ cL ad S A (wC_D hD) hI) ck_X5_rateTeams w_257 hP 0 rfl rfl hl.1 rfl ⟨Nat.le_of_ble_eq_true rfl, Nat.le_of_ble_eq_true rfl⟩ (Nat.le_of_ble_eq_true rfl) dX5_teamAt_1 ⟨Nat.le_of_ble_eq_true rfl, Nat.le_of_ble_eq_true rfl⟩) hS (fun H locs hP hS => ?_)
  have hI_c1 : I0 (p_rate S (cT S)) := I0_congr (fun c hc => fr_rate (by omega) _) hI
  refine lv_iconst (v := 0) hx hb dX5_teamAt_4 (by decide) ?_
  refine lv_istore_n (lv' := [(2, .int 0), (0, .ref (ad 0)), (1, .int x1)]) hx hb dX5_teamAt_5 rfl hl (by decide) rfl (fun ls hl => ?_)
  have hloop_6 : ∀ (n i : Nat), i ≤ cT S → cT S < i + n → (p_tat (p_at (p_rate S (cT S)) x1) (cT S) (cT S) = p_tat (p_at (p_rate S (cT S)) x1) (cT S) (cT S - i)) → ∀ ls : Array Slot, lv_has ls 3 [(2, .int (nI i)), (0, .ref (ad 0)), (1, .int x1)] → W p l e (rm 7 0 0) s m args below meth c H locs 0 0 (MQ below (Qwr D A (wC ad cI ((oAt S x1).2.2)) (some (.int ((oAt S x1).2.1)))) args s 0 0 A) (F0 m 6 ls []) := by
    intro n
    induction n with
    | zero => intro i h1 h2; exact absurd h2 (by omega)
    | succ n ih_6 =>
      intro i hi_6 hin_6 hno ls hl
      refine lv_iload_n hx hb dX5_teamAt_6 rfl (lv_at hl 0 rfl) ?_
      refine lv_aload_n hx hb dX5_teamAt_7 rfl (lv_at hl 1 rfl) ?_
      refine q_get (v := .int ((p_rate S (cT S)) 0 9)) hx hb hown hE inT_X5 hP 0 rfl rfl 9 (by decide) w_221 rfl dX5_teamAt_8 ?_
      refine q_top (y := nI (cT (p_rate S (cT S)))) (I0.T hI_c1) ?_
      refine q_top (y := nI (cT S)) (congrArg nI (cT_congr (fr_rate (by omega) _))) ?_
      refine lv_icmp_ge (tgt := 38) hx hb dX5_teamAt_11 (by decide) (fun c_2 => ?_) (fun c_2 => ?_)
      · skip
        have c_2 : (cT S) ≤ i := n_le (a := cT S) (b := i) (by omega) (by omega) c_2
        have hend_6 : cT S = i := by omega
        subst hend_6
        refine lv_iconst (v := (-1)) hx hb dX5_teamAt_38 (by decide) ?_
        rw [show oAt S x1 = (none, (-1), p_rate S (cT S)) from by simp only [oAt]; rw [hno, p_tat_end]]
        exact e_wret hx hb hr hlk rfl hP hS dX5_teamAt_39
      · skip
        have c_2 : i < (cT S) := n_nle (a := cT S) (b := i) (by omega) (by omega) c_2
        refine lv_aload_n hx hb dX5_teamAt_14 rfl (lv_at hl 1 rfl) ?_
        refine lv_iload_n hx hb dX5_teamAt_15 rfl (lv_at hl 0 rfl) ?_
        refine q_rd (q_runV (rest := []) hx hb hml hown hE (c_X5_countBetter l D cI cZ cL ad (p_rate S (cT S)) i hI_c1 (by omega)) ck_X5_countBetter w_311 hP 0 rfl rfl hl.1 rfl ⟨Nat.le_of_ble_eq_true rfl, Nat.le_of_ble_eq_true rfl⟩ (Nat.le_of_ble_eq_true rfl) dX5_teamAt_16 ⟨Nat.le_of_ble_eq_true rfl, Nat.le_of_ble_eq_true rfl⟩) ?_
        refine lv_aload_n hx hb dX5_teamAt_19 rfl (lv_at hl 1 rfl) ?_
        refine lv_iload_n hx hb dX5_teamAt_20 rfl (lv_at hl 0 rfl) ?_
        refine lv_iload_n hx hb dX5_teamAt_21 rfl (lv_at hl 0 rfl) ?_
        refine q_rd (q_runV (rest := [.int (nI (p_better (p_rate S (cT S)) i (cT (p_rate S (cT S)))))]) hx hb hml hown hE (c_X5_countAlike l D cI cZ cL ad (p_rate S (cT S)) i i (by omega) (by omega)) ck_X5_countAlike w_315 hP 0 rfl rfl hl.1 rfl ⟨Nat.le_of_ble_eq_true rfl, Nat.le_of_ble_eq_true rfl⟩ (Nat.le_of_ble_eq_true rfl) dX5_teamAt_22 ⟨Nat.le_of_ble_eq_true rfl, Nat.le_of_ble_eq_true rfl⟩) ?_
        refine lv_iadd hx hb dX5_teamAt_25 ?_
        refine q_top (y := nI ((p_better (p_rate S (cT S)) i (cT (p_rate S (cT S)))) + (p_alike (p_rate S (cT S)) i i))) (nI_add (p_better (p_rate S (cT S)) i (cT (p_rate S (cT S)))) (p_alike (p_rate S (cT S)) i i)) ?_
        refine lv_iload_n hx hb dX5_teamAt_26 rfl (lv_at hl 2 rfl) ?_
        refine lv_icmp_ne (tgt := 32) hx hb dX5_teamAt_27 (by decide) (fun c_3 => ?_) (fun c_3 => ?_)
        · skip
          refine lv_iinc (v := nI (i + 1)) (lv' := [(2, .int (nI (i + 1))), (0, .ref (ad 0)), (1, .int x1)]) hx hb dX5_teamAt_32 hl (k := 0) rfl (nI_1 i) (by decide) rfl (fun ls hl => ?_)
          refine lv_goto (tgt := 6) hx hb dX5_teamAt_35 (by decide) ?_
          refine ih_6 (i + 1) (by omega) (by omega) (hno.trans (p_tat_no c_2 (by simp [p_at, c_3]))) ls ?_
          exact lv_sub hl [0, 1, 2] rfl
        · skip
          have e_3 := eq_true c_3
          refine lv_iload_n hx hb dX5_teamAt_30 rfl (lv_at hl 0 rfl) ?_
          rw [show oAt S x1 = (none, nI i, p_rate S (cT S)) from by simp only [oAt]; rw [hno, p_tat_yes c_2 (by simp [p_at, c_3])]]
          exact e_wret hx hb hr hlk rfl hP hS dX5_teamAt_31
  refine hloop_6 (cT S + 1) 0 (by omega) (by omega) rfl ls ?_
  exact lv_sub hl [0, 1, 2] rfl
