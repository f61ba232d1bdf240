theorem dX6_openedAt_0 : decode cX6_openedAt 0 = .ok (.aload_n 0, 1) := by decide +kernel
theorem dX6_openedAt_1 : decode cX6_openedAt 1 = .ok (.aload_n 0, 1) := by decide +kernel
theorem dX6_openedAt_2 : decode cX6_openedAt 2 = .ok (.iload_n 1, 1) := by decide +kernel
theorem dX6_openedAt_3 : decode cX6_openedAt 3 = .ok (.iload_n 2, 1) := by decide +kernel
theorem dX6_openedAt_4 : decode cX6_openedAt 4 = .ok (.invokevirtual 114, 3) := by decide +kernel
theorem dX6_openedAt_7 : decode cX6_openedAt 7 = .ok (.invokevirtual 76, 3) := by decide +kernel
theorem dX6_openedAt_10 : decode cX6_openedAt 10 = .ok (.ifCond .eq 12, 3) := by decide +kernel
theorem dX6_openedAt_13 : decode cX6_openedAt 13 = .ok (.aload_n 0, 1) := by decide +kernel
theorem dX6_openedAt_14 : decode cX6_openedAt 14 = .ok (.iload_n 1, 1) := by decide +kernel
theorem dX6_openedAt_15 : decode cX6_openedAt 15 = .ok (.iload_n 2, 1) := by decide +kernel
theorem dX6_openedAt_16 : decode cX6_openedAt 16 = .ok (.invokevirtual 111, 3) := by decide +kernel
theorem dX6_openedAt_19 : decode cX6_openedAt 19 = .ok (.goto 4, 3) := by decide +kernel
theorem dX6_openedAt_22 : decode cX6_openedAt 22 = .ok (.iconst 0, 1) := by decide +kernel
theorem dX6_openedAt_23 : decode cX6_openedAt 23 = .ok (.ireturn, 1) := by decide +kernel
set_option maxHeartbeats 4000000 in
set_option maxRecDepth 100000 in
theorem c_X6_openedAt (l : Launch) (D : va_G) (cI cZ cL : ClassId) (am : Nat → Nat) (M : Mem) (th : Int32) (A : Nat → Prop) (hD : va_D A (wQ am cI cZ M th)) (x1 : Int32) (x2 : Int32) (hI : J0 M) : WR l D cI cZ cL yX6_openedAt cX6_openedAt 3 (some .int) 9 [.ref (am 0), .int x1, .int x2] A (wQ am cI cZ M th) (wQ am cI cZ ((mOpened M x1 x2).2.2) ((mOpened M x1 x2).2.1)) (some (.int ((mOpened M x1 x2).1))) := by
  refine WR.of (by decide) (Nat.le_of_ble_eq_true rfl) ?_
  intro p e s m args below meth c ls hx hb hr hml hown hlk hE hP hS hl
  have hl : lv_has ls 3 [(0, .ref (am 0)), (1, .int x1), (2, .int x2)] := hl
  have hT8 := hI.T8
  have hR16 := hI.R16
  have hN200 := hI.N200
  refine lv_aload_n hx hb dX6_openedAt_0 rfl (lv_at hl 0 rfl) ?_
  refine lv_aload_n hx hb dX6_openedAt_1 rfl (lv_at hl 0 rfl) ?_
  refine lv_iload_n hx hb dX6_openedAt_2 rfl (lv_at hl 1 rfl) ?_
  refine lv_iload_n hx hb dX6_openedAt_3 rfl (lv_at hl 2 rfl) ?_
  refine q_rd (q_runV (rest := [.ref (am 0)]) hx hb hml hown hE (c_X6_wrong l D cI cZ cL am M th x1 x2 hI) ck_X6_wrong w_887 hP 0 rfl rfl hl.1 rfl ⟨Nat.le_of_ble_eq_true rfl, Nat.le_of_ble_eq_true rfl⟩ (Nat.le_of_ble_eq_true rfl) dX6_openedAt_4 ⟨Nat.le_of_ble_eq_true rfl, Nat.le_of_ble_eq_true rfl⟩) ?_
  refine q_w0 (q_runV (rest := []) hx hb hml hown hE (c_X6_goes l D cI cZ cL am M th A (wQ_D hD) (m_wrong M x1 x2)) ck_X6_goes w_837 hP 0 rfl rfl hl.1 rfl ⟨Nat.le_of_ble_eq_true rfl, Nat.le_of_ble_eq_true rfl⟩ (Nat.le_of_ble_eq_true rfl) dX6_openedAt_7 ⟨Nat.le_of_ble_eq_true rfl, Nat.le_of_ble_eq_true rfl⟩) hS (fun H locs hP hS => ?_)
  have hI_c1 : J0 M := hI
  refine lv_if_eq (tgt := 22) hx hb dX6_openedAt_10 (by decide) (fun zc_2 => ?_) (fun zc_2 => ?_)
  · skip
    have zc_2 : decide ((m_wrong M x1 x2) = 0) = false := b_f zc_2
    refine lv_iconst (v := 0) hx hb dX6_openedAt_22 (by decide) ?_
    rw [show mOpened M x1 x2 = (0, (m_wrong M x1 x2), M) from by first | exact mm2_no zc_2 | (simp only [mOpened, mm2, zc_2, ↓reduceIte]; done) | (simp only [mOpened, mm2, zc_2, ↓reduceIte]; rfl) | (simp [mOpened, mm2, zc_2]; done) | (simp [mOpened, mm2, zc_2]; rfl)]
    exact e_wret hx hb hr hlk rfl hP hS dX6_openedAt_23
  · skip
    have zc_2 : decide ((m_wrong M x1 x2) = 0) = true := b_t zc_2
    have hw0 := of_decide_eq_true zc_2
    obtain ⟨k1, k2⟩ := m_wrong_ok zc_2
    obtain ⟨u1, hu1, eu1⟩ := okn_t (k1)
    subst eu1
    have iu1 : iN (nI u1) = u1 := iN_nI (by omega)
    obtain ⟨u2, hu2, eu2⟩ := okn_t (k2)
    subst eu2
    have iu2 : iN (nI u2) = u2 := iN_nI (by omega)
    refine lv_aload_n hx hb dX6_openedAt_13 rfl (lv_at hl 0 rfl) ?_
    refine lv_iload_n hx hb dX6_openedAt_14 rfl (lv_at hl 1 rfl) ?_
    refine lv_iload_n hx hb dX6_openedAt_15 rfl (lv_at hl 2 rfl) ?_
    refine q_rd (q_runV (rest := []) hx hb hml hown hE (c_X6_opened l D cI cZ cL am M (m_wrong M (nI u1) (nI u2)) u1 u2 (by omega) (by omega)) ck_X6_opened w_899 hP 0 rfl rfl hl.1 rfl ⟨Nat.le_of_ble_eq_true rfl, Nat.le_of_ble_eq_true rfl⟩ (Nat.le_of_ble_eq_true rfl) dX6_openedAt_16 ⟨Nat.le_of_ble_eq_true rfl, Nat.le_of_ble_eq_true rfl⟩) ?_
    refine lv_goto (tgt := 23) hx hb dX6_openedAt_19 (by decide) ?_
    rw [show mOpened M (nI u1) (nI u2) = (m_opened M u1 u2, (m_wrong M (nI u1) (nI u2)), M) from by first | exact mm2_no zc_2 | (simp only [mOpened, mm2, zc_2, hw0, k1, k2, iu1, iu2, ↓reduceIte]; done) | (simp only [mOpened, mm2, zc_2, hw0, k1, k2, iu1, iu2, ↓reduceIte]; rfl) | (simp [mOpened, mm2, zc_2, hw0, k1, k2, iu1, iu2]; done) | (simp [mOpened, mm2, zc_2, hw0, k1, k2, iu1, iu2]; rfl)]
    exact e_wret hx hb hr hlk rfl hP hS dX6_openedAt_23

theorem dX6_solvedAt_0 : decode cX6_solvedAt 0 = .ok (.aload_n 0, 1) := by decide +kernel
theorem dX6_solvedAt_1 : decode cX6_solvedAt 1 = .ok (.aload_n 0, 1) := by decide +kernel
theorem dX6_solvedAt_2 : decode cX6_solvedAt 2 = .ok (.iload_n 1, 1) := by decide +kernel
theorem dX6_solvedAt_3 : decode cX6_solvedAt 3 = .ok (.iload_n 2, 1) := by decide +kernel
theorem dX6_solvedAt_4 : decode cX6_solvedAt 4 = .ok (.invokevirtual 114, 3) := by decide +kernel
theorem dX6_solvedAt_7 : decode cX6_solvedAt 7 = .ok (.invokevirtual 76, 3) := by decide +kernel
theorem dX6_solvedAt_10 : decode cX6_solvedAt 10 = .ok (.ifCond .eq 16, 3) := by decide +kernel
theorem dX6_solvedAt_13 : decode cX6_solvedAt 13 = .ok (.aload_n 0, 1) := by decide +kernel
theorem dX6_solvedAt_14 : decode cX6_solvedAt 14 = .ok (.getfield 25, 3) := by decide +kernel
theorem dX6_solvedAt_17 : decode cX6_solvedAt 17 = .ok (.iload_n 1, 1) := by decide +kernel
theorem dX6_solvedAt_18 : decode cX6_solvedAt 18 = .ok (.iload_n 2, 1) := by decide +kernel
theorem dX6_solvedAt_19 : decode cX6_solvedAt 19 = .ok (.invokestatic 87, 3) := by decide +kernel
theorem dX6_solvedAt_22 : decode cX6_solvedAt 22 = .ok (.iaload, 1) := by decide +kernel
theorem dX6_solvedAt_23 : decode cX6_solvedAt 23 = .ok (.goto 4, 3) := by decide +kernel
theorem dX6_solvedAt_26 : decode cX6_solvedAt 26 = .ok (.iconst 0, 1) := by decide +kernel
theorem dX6_solvedAt_27 : decode cX6_solvedAt 27 = .ok (.ireturn, 1) := by decide +kernel
set_option maxHeartbeats 4000000 in
set_option maxRecDepth 100000 in
theorem c_X6_solvedAt (l : Launch) (D : va_G) (cI cZ cL : ClassId) (am : Nat → Nat) (M : Mem) (th : Int32) (A : Nat → Prop) (hD : va_D A (wQ am cI cZ M th)) (x1 : Int32) (x2 : Int32) (hI : J0 M) : WR l D cI cZ cL yX6_solvedAt cX6_solvedAt 3 (some .int) 9 [.ref (am 0), .int x1, .int x2] A (wQ am cI cZ M th) (wQ am cI cZ ((mSolved M x1 x2).2.2) ((mSolved M x1 x2).2.1)) (some (.int ((mSolved M x1 x2).1))) := by
  refine WR.of (by decide) (Nat.le_of_ble_eq_true rfl) ?_
  intro p e s m args below meth c ls hx hb hr hml hown hlk hE hP hS hl
  have hl : lv_has ls 3 [(0, .ref (am 0)), (1, .int x1), (2, .int x2)] := hl
  have hT8 := hI.T8
  have hR16 := hI.R16
  have hN200 := hI.N200
  refine lv_aload_n hx hb dX6_solvedAt_0 rfl (lv_at hl 0 rfl) ?_
  refine lv_aload_n hx hb dX6_solvedAt_1 rfl (lv_at hl 0 rfl) ?_
  refine lv_iload_n hx hb dX6_solvedAt_2 rfl (lv_at hl 1 rfl) ?_
  refine lv_iload_n hx hb dX6_solvedAt_3 rfl (lv_at hl 2 rfl) ?_
  refine q_rd (q_runV (rest := [.ref (am 0)]) hx hb hml hown hE (c_X6_wrong l D cI cZ cL am M th x1 x2 hI) ck_X6_wrong w_887 hP 0 rfl rfl hl.1 rfl ⟨Nat.le_of_ble_eq_true rfl, Nat.le_of_ble_eq_true rfl⟩ (Nat.le_of_ble_eq_true rfl) dX6_solvedAt_4 ⟨Nat.le_of_ble_eq_true rfl, Nat.le_of_ble_eq_true rfl⟩) ?_
  refine q_w0 (q_runV (rest := []) hx hb hml hown hE (c_X6_goes l D cI cZ cL am M th A (wQ_D hD) (m_wrong M x1 x2)) ck_X6_goes w_837 hP 0 rfl rfl hl.1 rfl ⟨Nat.le_of_ble_eq_true rfl, Nat.le_of_ble_eq_true rfl⟩ (Nat.le_of_ble_eq_true rfl) dX6_solvedAt_7 ⟨Nat.le_of_ble_eq_true rfl, Nat.le_of_ble_eq_true rfl⟩) hS (fun H locs hP hS => ?_)
  have hI_c1 : J0 M := hI
  refine lv_if_eq (tgt := 26) hx hb dX6_solvedAt_10 (by decide) (fun zc_2 => ?_) (fun zc_2 => ?_)
  · skip
    have zc_2 : decide ((m_wrong M x1 x2) = 0) = false := b_f zc_2
    refine lv_iconst (v := 0) hx hb dX6_solvedAt_26 (by decide) ?_
    rw [show mSolved M x1 x2 = (0, (m_wrong M x1 x2), M) from by first | exact mm2_no zc_2 | (simp only [mSolved, mm2, zc_2, ↓reduceIte]; done) | (simp only [mSolved, mm2, zc_2, ↓reduceIte]; rfl) | (simp [mSolved, mm2, zc_2]; done) | (simp [mSolved, mm2, zc_2]; rfl)]
    exact e_wret hx hb hr hlk rfl hP hS dX6_solvedAt_27
  · skip
    have zc_2 : decide ((m_wrong M x1 x2) = 0) = true := b_t zc_2
    have hw0 := of_decide_eq_true zc_2
    obtain ⟨k1, k2⟩ := m_wrong_ok zc_2
    obtain ⟨u1, hu1, eu1⟩ := okn_t (k1)
    subst eu1
    have iu1 : iN (nI u1) = u1 := iN_nI (by omega)
    obtain ⟨u2, hu2, eu2⟩ := okn_t (k2)
    subst eu2
    have iu2 : iN (nI u2) = u2 := iN_nI (by omega)
    refine lv_aload_n hx hb dX6_solvedAt_13 rfl (lv_at hl 0 rfl) ?_
    refine q_get (v := .ref (am 6)) hx hb hown hE inT_X6 hP 0 rfl rfl 9 (by decide) w_767 rfl dX6_solvedAt_14 ?_
    refine lv_iload_n hx hb dX6_solvedAt_17 rfl (lv_at hl 1 rfl) ?_
    refine lv_iload_n hx hb dX6_solvedAt_18 rfl (lv_at hl 2 rfl) ?_
    refine q_rd (q_runS (rest := [.ref (am 6)]) hx hb hml hown hE (c_X6_at l D cI cZ cL _ u1 u2) ck_X6_at w_865 hP hl.1 rfl ⟨Nat.le_of_ble_eq_true rfl, Nat.le_of_ble_eq_true rfl⟩ (Nat.le_of_ble_eq_true rfl) dX6_solvedAt_19 ⟨Nat.le_of_ble_eq_true rfl, Nat.le_of_ble_eq_true rfl⟩) ?_
    refine q_iald (f := M 6) (i := (16 * u1 + u2)) hx hb hE hP 6 rfl (by omega) (Nat.le_of_ble_eq_true rfl) dX6_solvedAt_22 ?_
    refine lv_goto (tgt := 27) hx hb dX6_solvedAt_23 (by decide) ?_
    rw [show mSolved M (nI u1) (nI u2) = (M 6 (16 * u1 + u2), (m_wrong M (nI u1) (nI u2)), M) from by first | exact mm2_no zc_2 | (simp only [mSolved, mm2, zc_2, hw0, k1, k2, iu1, iu2, ↓reduceIte]; done) | (simp only [mSolved, mm2, zc_2, hw0, k1, k2, iu1, iu2, ↓reduceIte]; rfl) | (simp [mSolved, mm2, zc_2, hw0, k1, k2, iu1, iu2]; done) | (simp [mSolved, mm2, zc_2, hw0, k1, k2, iu1, iu2]; rfl)]
    exact e_wret hx hb hr hlk rfl hP hS dX6_solvedAt_27

theorem dX6_clear_0 : decode cX6_clear 0 = .ok (.aload_n 0, 1) := by decide +kernel
theorem dX6_clear_1 : decode cX6_clear 1 = .ok (.aload_n 0, 1) := by decide +kernel
theorem dX6_clear_2 : decode cX6_clear 2 = .ok (.iload_n 1, 1) := by decide +kernel
theorem dX6_clear_3 : decode cX6_clear 3 = .ok (.iload_n 2, 1) := by decide +kernel
theorem dX6_clear_4 : decode cX6_clear 4 = .ok (.invokevirtual 114, 3) := by decide +kernel
theorem dX6_clear_7 : decode cX6_clear 7 = .ok (.invokevirtual 76, 3) := by decide +kernel
theorem dX6_clear_10 : decode cX6_clear 10 = .ok (.ifCond .eq 41, 3) := by decide +kernel
theorem dX6_clear_13 : decode cX6_clear 13 = .ok (.aload_n 0, 1) := by decide +kernel
theorem dX6_clear_14 : decode cX6_clear 14 = .ok (.aload_n 0, 1) := by decide +kernel
theorem dX6_clear_15 : decode cX6_clear 15 = .ok (.getfield 28, 3) := by decide +kernel
theorem dX6_clear_18 : decode cX6_clear 18 = .ok (.iload_n 1, 1) := by decide +kernel
theorem dX6_clear_19 : decode cX6_clear 19 = .ok (.iload_n 2, 1) := by decide +kernel
theorem dX6_clear_20 : decode cX6_clear 20 = .ok (.invokestatic 87, 3) := by decide +kernel
theorem dX6_clear_23 : decode cX6_clear 23 = .ok (.baload, 1) := by decide +kernel
theorem dX6_clear_24 : decode cX6_clear 24 = .ok (.ifCond .eq 16, 3) := by decide +kernel
theorem dX6_clear_27 : decode cX6_clear 27 = .ok (.aload_n 0, 1) := by decide +kernel
theorem dX6_clear_28 : decode cX6_clear 28 = .ok (.getfield 32, 3) := by decide +kernel
theorem dX6_clear_31 : decode cX6_clear 31 = .ok (.iload_n 1, 1) := by decide +kernel
theorem dX6_clear_32 : decode cX6_clear 32 = .ok (.iload_n 2, 1) := by decide +kernel
theorem dX6_clear_33 : decode cX6_clear 33 = .ok (.invokestatic 87, 3) := by decide +kernel
theorem dX6_clear_36 : decode cX6_clear 36 = .ok (.baload, 1) := by decide +kernel
theorem dX6_clear_37 : decode cX6_clear 37 = .ok (.ifCond .eq 7, 3) := by decide +kernel
theorem dX6_clear_40 : decode cX6_clear 40 = .ok (.iconst 2, 1) := by decide +kernel
theorem dX6_clear_41 : decode cX6_clear 41 = .ok (.goto 4, 3) := by decide +kernel
theorem dX6_clear_44 : decode cX6_clear 44 = .ok (.iconst 0, 1) := by decide +kernel
theorem dX6_clear_45 : decode cX6_clear 45 = .ok (.invokevirtual 76, 3) := by decide +kernel
theorem dX6_clear_48 : decode cX6_clear 48 = .ok (.ifCond .ne 5, 3) := by decide +kernel
theorem dX6_clear_51 : decode cX6_clear 51 = .ok (.iconst 0, 1) := by decide +kernel
theorem dX6_clear_52 : decode cX6_clear 52 = .ok (.ireturn, 1) := by decide +kernel
theorem dX6_clear_53 : decode cX6_clear 53 = .ok (.aload_n 0, 1) := by decide +kernel
theorem dX6_clear_54 : decode cX6_clear 54 = .ok (.getfield 32, 3) := by decide +kernel
theorem dX6_clear_57 : decode cX6_clear 57 = .ok (.iload_n 1, 1) := by decide +kernel
theorem dX6_clear_58 : decode cX6_clear 58 = .ok (.iload_n 2, 1) := by decide +kernel
theorem dX6_clear_59 : decode cX6_clear 59 = .ok (.invokestatic 87, 3) := by decide +kernel
theorem dX6_clear_62 : decode cX6_clear 62 = .ok (.iconst 1, 1) := by decide +kernel
theorem dX6_clear_63 : decode cX6_clear 63 = .ok (.bastore, 1) := by decide +kernel
theorem dX6_clear_64 : decode cX6_clear 64 = .ok (.aload_n 0, 1) := by decide +kernel
theorem dX6_clear_65 : decode cX6_clear 65 = .ok (.iload_n 2, 1) := by decide +kernel
theorem dX6_clear_66 : decode cX6_clear 66 = .ok (.invokevirtual 105, 3) := by decide +kernel
theorem dX6_clear_69 : decode cX6_clear 69 = .ok (.ireturn, 1) := by decide +kernel
set_option maxHeartbeats 4000000 in
set_option maxRecDepth 100000 in
theorem c_X6_clear (l : Launch) (D : va_G) (cI cZ cL : ClassId) (am : Nat → Nat) (M : Mem) (th : Int32) (A : Nat → Prop) (hD : va_D A (wQ am cI cZ M th)) (x1 : Int32) (x2 : Int32) (hI : J0 M) : WR l D cI cZ cL yX6_clear cX6_clear 3 (some .boolean) 9 [.ref (am 0), .int x1, .int x2] A (wQ am cI cZ M th) (wQ am cI cZ ((mClear M x1 x2).2.2) ((mClear M x1 x2).2.1)) (some (.int ((mClear M x1 x2).1))) := by
  refine WR.of (by decide) (Nat.le_of_ble_eq_true rfl) ?_
  intro p e s m args below meth c ls hx hb hr hml hown hlk hE hP hS hl
  have hl : lv_has ls 3 [(0, .ref (am 0)), (1, .int x1), (2, .int x2)] := hl
  have hT8 := hI.T8
  have hR16 := hI.R16
  have hN200 := hI.N200
  refine lv_aload_n hx hb dX6_clear_0 rfl (lv_at hl 0 rfl) ?_
  refine lv_aload_n hx hb dX6_clear_1 rfl (lv_at hl 0 rfl) ?_
  refine lv_iload_n hx hb dX6_clear_2 rfl (lv_at hl 1 rfl) ?_
  refine lv_iload_n hx hb dX6_clear_3 rfl (lv_at hl 2 rfl) ?_
  refine q_rd (q_runV (rest := [.ref (am 0)]) hx hb hml hown hE (c_X6_wrong l D cI cZ cL am M th x1 x2 hI) ck_X6_wrong w_887 hP 0 rfl rfl hl.1 rfl ⟨Nat.le_of_ble_eq_true rfl, Nat.le_of_ble_eq_true rfl⟩ (Nat.le_of_ble_eq_true rfl) dX6_clear_4 ⟨Nat.le_of_ble_eq_true rfl, Nat.le_of_ble_eq_true rfl⟩) ?_
  refine q_w0 (q_runV (rest := []) hx hb hml hown hE (c_X6_goes l D cI cZ cL am M th A (wQ_D hD) (m_wrong M x1 x2)) ck_X6_goes w_837 hP 0 rfl rfl hl.1 rfl ⟨Nat.le_of_ble_eq_true rfl, Nat.le_of_ble_eq_true rfl⟩ (Nat.le_of_ble_eq_true rfl) dX6_clear_7 ⟨Nat.le_of_ble_eq_true rfl, Nat.le_of_ble_eq_true rfl⟩) hS (fun H locs hP hS => ?_)
  have hI_c1 : J0 M := hI
  refine lv_if_eq (tgt := 51) hx hb dX6_clear_10 (by decide) (fun zc_2 => ?_) (fun zc_2 => ?_)
  · skip
    have zc_2 : decide ((m_wrong M x1 x2) = 0) = false := b_f zc_2
    refine lv_iconst (v := 0) hx hb dX6_clear_51 (by decide) ?_
    rw [show mClear M x1 x2 = (0, (m_wrong M x1 x2), M) from by first | exact mm2_no zc_2 | (simp only [mClear, mm2, mclrM, zc_2, ↓reduceIte]; done) | (simp only [mClear, mm2, mclrM, zc_2, ↓reduceIte]; rfl) | (simp [mClear, mm2, mclrM, zc_2]; done) | (simp [mClear, mm2, mclrM, zc_2]; rfl)]
    exact e_wret hx hb hr hlk (show narrow FieldType.boolean (Value.int 0) = Value.int 0 from by decide) hP hS dX6_clear_52
  · skip
    have zc_2 : decide ((m_wrong M x1 x2) = 0) = true := b_t zc_2
    have hw0 := of_decide_eq_true zc_2
    obtain ⟨k1, k2⟩ := m_wrong_ok zc_2
    obtain ⟨u1, hu1, eu1⟩ := okn_t (k1)
    subst eu1
    have iu1 : iN (nI u1) = u1 := iN_nI (by omega)
    obtain ⟨u2, hu2, eu2⟩ := okn_t (k2)
    subst eu2
    have iu2 : iN (nI u2) = u2 := iN_nI (by omega)
    refine lv_aload_n hx hb dX6_clear_13 rfl (lv_at hl 0 rfl) ?_
    refine lv_aload_n hx hb dX6_clear_14 rfl (lv_at hl 0 rfl) ?_
    refine q_get (v := .ref (am 7)) hx hb hown hE inT_X6 hP 0 rfl rfl 10 (by decide) w_768 rfl dX6_clear_15 ?_
    refine lv_iload_n hx hb dX6_clear_18 rfl (lv_at hl 1 rfl) ?_
    refine lv_iload_n hx hb dX6_clear_19 rfl (lv_at hl 2 rfl) ?_
    refine q_rd (q_runS (rest := [.ref (am 7), .ref (am 0)]) hx hb hml hown hE (c_X6_at l D cI cZ cL _ u1 u2) ck_X6_at w_865 hP hl.1 rfl ⟨Nat.le_of_ble_eq_true rfl, Nat.le_of_ble_eq_true rfl⟩ (Nat.le_of_ble_eq_true rfl) dX6_clear_20 ⟨Nat.le_of_ble_eq_true rfl, Nat.le_of_ble_eq_true rfl⟩) ?_
    refine q_zald (f := M 7) (i := (16 * u1 + u2)) hx hb hE hP 7 rfl (by omega) (Nat.le_of_ble_eq_true rfl) dX6_clear_23 ?_
    refine lv_if_eq (tgt := 40) hx hb dX6_clear_24 (by decide) (fun zc_3 => ?_) (fun zc_3 => ?_)
    · skip
      have ec_3 := eq_true zc_3
      refine lv_iconst (v := 2) hx hb dX6_clear_40 (by decide) ?_
      refine lv_goto (tgt := 45) hx hb dX6_clear_41 (by decide) ?_
      refine q_w0 (q_runV (rest := []) hx hb hml hown hE (c_X6_goes l D cI cZ cL am M (m_wrong M (nI u1) (nI u2)) A (wQ_D hD) 2) ck_X6_goes w_837 hP 0 rfl rfl hl.1 rfl ⟨Nat.le_of_ble_eq_true rfl, Nat.le_of_ble_eq_true rfl⟩ (Nat.le_of_ble_eq_true rfl) dX6_clear_45 ⟨Nat.le_of_ble_eq_true rfl, Nat.le_of_ble_eq_true rfl⟩) hS (fun H locs hP hS => ?_)
      have hI_c4 : J0 M := hI_c1
      refine q_top (y := 0) (by decide) ?_
      refine lv_if_ne (tgt := 53) hx hb dX6_clear_48 (by decide) (fun zc_5 => ?_) (fun zc_5 => ?_)
      · skip
        exact absurd zc_5 (by decide)
      · skip
        refine lv_iconst (v := 0) hx hb dX6_clear_51 (by decide) ?_
        rw [show mClear M (nI u1) (nI u2) = (0, 2, M) from by first | exact mm2_no zc_2 | (simp only [mClear, mm2, mclrM, zc_2, hw0, k1, k2, iu1, iu2, ec_3, ↓reduceIte]; done) | (simp only [mClear, mm2, mclrM, zc_2, hw0, k1, k2, iu1, iu2, ec_3, ↓reduceIte]; rfl) | (simp [mClear, mm2, mclrM, zc_2, hw0, k1, k2, iu1, iu2, ec_3]; done) | (simp [mClear, mm2, mclrM, zc_2, hw0, k1, k2, iu1, iu2, ec_3]; rfl)]
        exact e_wret hx hb hr hlk (show narrow FieldType.boolean (Value.int 0) = Value.int 0 from by decide) hP hS dX6_clear_52
    · skip
      refine lv_aload_n hx hb dX6_clear_27 rfl (lv_at hl 0 rfl) ?_
      refine q_get (v := .ref (am 8)) hx hb hown hE inT_X6 hP 0 rfl rfl 11 (by decide) w_769 rfl dX6_clear_28 ?_
      refine lv_iload_n hx hb dX6_clear_31 rfl (lv_at hl 1 rfl) ?_
      refine lv_iload_n hx hb dX6_clear_32 rfl (lv_at hl 2 rfl) ?_
      refine q_rd (q_runS (rest := [.ref (am 8), .ref (am 0)]) hx hb hml hown hE (c_X6_at l D cI cZ cL _ u1 u2) ck_X6_at w_865 hP hl.1 rfl ⟨Nat.le_of_ble_eq_true rfl, Nat.le_of_ble_eq_true rfl⟩ (Nat.le_of_ble_eq_true rfl) dX6_clear_33 ⟨Nat.le_of_ble_eq_true rfl, Nat.le_of_ble_eq_true rfl⟩) ?_
      refine q_zald (f := M 8) (i := (16 * u1 + u2)) hx hb hE hP 8 rfl (by omega) (Nat.le_of_ble_eq_true rfl) dX6_clear_36 ?_
      refine lv_if_eq (tgt := 44) hx hb dX6_clear_37 (by decide) (fun zc_6 => ?_) (fun zc_6 => ?_)
      · skip
        have ec_6 := eq_true zc_6
        refine lv_iconst (v := 0) hx hb dX6_clear_44 (by decide) ?_
        refine q_w0 (q_runV (rest := []) hx hb hml hown hE (c_X6_goes l D cI cZ cL am M (m_wrong M (nI u1) (nI u2)) A (wQ_D hD) 0) ck_X6_goes w_837 hP 0 rfl rfl hl.1 rfl ⟨Nat.le_of_ble_eq_true rfl, Nat.le_of_ble_eq_true rfl⟩ (Nat.le_of_ble_eq_true rfl) dX6_clear_45 ⟨Nat.le_of_ble_eq_true rfl, Nat.le_of_ble_eq_true rfl⟩) hS (fun H locs hP hS => ?_)
        have hI_c7 : J0 M := hI_c1
        refine q_top (y := 1) (by decide) ?_
        refine lv_if_ne (tgt := 53) hx hb dX6_clear_48 (by decide) (fun zc_8 => ?_) (fun zc_8 => ?_)
        · skip
          refine lv_aload_n hx hb dX6_clear_53 rfl (lv_at hl 0 rfl) ?_
          refine q_get (v := .ref (am 8)) hx hb hown hE inT_X6 hP 0 rfl rfl 11 (by decide) w_769 rfl dX6_clear_54 ?_
          refine lv_iload_n hx hb dX6_clear_57 rfl (lv_at hl 1 rfl) ?_
          refine lv_iload_n hx hb dX6_clear_58 rfl (lv_at hl 2 rfl) ?_
          refine q_rd (q_runS (rest := [.ref (am 8)]) hx hb hml hown hE (c_X6_at l D cI cZ cL _ u1 u2) ck_X6_at w_865 hP hl.1 rfl ⟨Nat.le_of_ble_eq_true rfl, Nat.le_of_ble_eq_true rfl⟩ (Nat.le_of_ble_eq_true rfl) dX6_clear_59 ⟨Nat.le_of_ble_eq_true rfl, Nat.le_of_ble_eq_true rfl⟩) ?_
          refine lv_iconst (v := 1) hx hb dX6_clear_62 (by decide) ?_
          refine q_zast (f := M 8) (i := (16 * u1 + u2)) (x := 1) (ws' := (wQ am cI cZ (st M 8 (16 * u1 + u2) 1) 0)) hx hb hE hP (wQ_D hD) hS 8 rfl (by omega) (Nat.le_of_ble_eq_true rfl) (by decide) (wQ_st_8) dX6_clear_63 (fun H locs hP hS => ?_)
          have hI_e : J0 (st M 8 (16 * u1 + u2) 1) := J0_2 (by omega) hI
          refine lv_aload_n hx hb dX6_clear_64 rfl (lv_at hl 0 rfl) ?_
          refine lv_iload_n hx hb dX6_clear_65 rfl (lv_at hl 2 rfl) ?_
          refine q_rd (q_runV (rest := []) hx hb hml hown hE (c_X6_isOpenToAll l D cI cZ cL am (st M 8 (16 * u1 + u2) 1) 0 u2 hI_e (by omega)) ck_X6_isOpenToAll w_879 hP 0 rfl rfl hl.1 rfl ⟨Nat.le_of_ble_eq_true rfl, Nat.le_of_ble_eq_true rfl⟩ (Nat.le_of_ble_eq_true rfl) dX6_clear_66 ⟨Nat.le_of_ble_eq_true rfl, Nat.le_of_ble_eq_true rfl⟩) ?_
          rw [show mClear M (nI u1) (nI u2) = (bI (m_free (st M 8 (16 * u1 + u2) 1) u2), 0, st M 8 (16 * u1 + u2) 1) from by first | exact mm2_no zc_2 | (simp only [mClear, mm2, mclrM, zc_2, hw0, k1, k2, iu1, iu2, zc_3, ec_6, ↓reduceIte]; done) | (simp only [mClear, mm2, mclrM, zc_2, hw0, k1, k2, iu1, iu2, zc_3, ec_6, ↓reduceIte]; rfl) | (simp [mClear, mm2, mclrM, zc_2, hw0, k1, k2, iu1, iu2, zc_3, ec_6]; done) | (simp [mClear, mm2, mclrM, zc_2, hw0, k1, k2, iu1, iu2, zc_3, ec_6]; rfl)]
          exact e_wret hx hb hr hlk (n_bI _) hP hS dX6_clear_69
        · skip
          exact absurd zc_8 (by decide)
      · skip
        refine lv_iconst (v := 2) hx hb dX6_clear_40 (by decide) ?_
        refine lv_goto (tgt := 45) hx hb dX6_clear_41 (by decide) ?_
        refine q_w0 (q_runV (rest := []) hx hb hml hown hE (c_X6_goes l D cI cZ cL am M (m_wrong M (nI u1) (nI u2)) A (wQ_D hD) 2) ck_X6_goes w_837 hP 0 rfl rfl hl.1 rfl ⟨Nat.le_of_ble_eq_true rfl, Nat.le_of_ble_eq_true rfl⟩ (Nat.le_of_ble_eq_true rfl) dX6_clear_45 ⟨Nat.le_of_ble_eq_true rfl, Nat.le_of_ble_eq_true rfl⟩) hS (fun H locs hP hS => ?_)
        have hI_c9 : J0 M := hI_c1
        refine q_top (y := 0) (by decide) ?_
        refine lv_if_ne (tgt := 53) hx hb dX6_clear_48 (by decide) (fun zc_10 => ?_) (fun zc_10 => ?_)
        · skip
          exact absurd zc_10 (by decide)
        · skip
          refine lv_iconst (v := 0) hx hb dX6_clear_51 (by decide) ?_
          rw [show mClear M (nI u1) (nI u2) = (0, 2, M) from by first | exact mm2_no zc_2 | (simp only [mClear, mm2, mclrM, zc_2, hw0, k1, k2, iu1, iu2, zc_3, zc_6, ↓reduceIte]; done) | (simp only [mClear, mm2, mclrM, zc_2, hw0, k1, k2, iu1, iu2, zc_3, zc_6, ↓reduceIte]; rfl) | (simp [mClear, mm2, mclrM, zc_2, hw0, k1, k2, iu1, iu2, zc_3, zc_6]; done) | (simp [mClear, mm2, mclrM, zc_2, hw0, k1, k2, iu1, iu2, zc_3, zc_6]; rfl)]
          exact e_wret hx hb hr hlk (show narrow FieldType.boolean (Value.int 0) = Value.int 0 from by decide) hP hS dX6_clear_52

theorem dX6_pardon_0 : decode cX6_pardon 0 = .ok (.aload_n 0, 1) := by decide +kernel
theorem dX6_pardon_1 : decode cX6_pardon 1 = .ok (.aload_n 0, 1) := by decide +kernel
theorem dX6_pardon_2 : decode cX6_pardon 2 = .ok (.iload_n 1, 1) := by decide +kernel
theorem dX6_pardon_3 : decode cX6_pardon 3 = .ok (.invokevirtual 108, 3) := by decide +kernel
theorem dX6_pardon_6 : decode cX6_pardon 6 = .ok (.ifCond .eq 11, 3) := by decide +kernel
theorem dX6_pardon_9 : decode cX6_pardon 9 = .ok (.aload_n 0, 1) := by decide +kernel
theorem dX6_pardon_10 : decode cX6_pardon 10 = .ok (.iload_n 2, 1) := by decide +kernel
theorem dX6_pardon_11 : decode cX6_pardon 11 = .ok (.invokevirtual 108, 3) := by decide +kernel
theorem dX6_pardon_14 : decode cX6_pardon 14 = .ok (.ifCond .ne 7, 3) := by decide +kernel
theorem dX6_pardon_17 : decode cX6_pardon 17 = .ok (.iconst 1, 1) := by decide +kernel
theorem dX6_pardon_18 : decode cX6_pardon 18 = .ok (.goto 13, 3) := by decide +kernel
theorem dX6_pardon_21 : decode cX6_pardon 21 = .ok (.iload_n 1, 1) := by decide +kernel
theorem dX6_pardon_22 : decode cX6_pardon 22 = .ok (.iload_n 2, 1) := by decide +kernel
theorem dX6_pardon_23 : decode cX6_pardon 23 = .ok (.if_icmp .ne 7, 3) := by decide +kernel
theorem dX6_pardon_26 : decode cX6_pardon 26 = .ok (.iconst 2, 1) := by decide +kernel
theorem dX6_pardon_27 : decode cX6_pardon 27 = .ok (.goto 4, 3) := by decide +kernel
theorem dX6_pardon_30 : decode cX6_pardon 30 = .ok (.iconst 0, 1) := by decide +kernel
theorem dX6_pardon_31 : decode cX6_pardon 31 = .ok (.invokevirtual 76, 3) := by decide +kernel
theorem dX6_pardon_34 : decode cX6_pardon 34 = .ok (.ifCond .ne 5, 3) := by decide +kernel
theorem dX6_pardon_37 : decode cX6_pardon 37 = .ok (.iconst 0, 1) := by decide +kernel
theorem dX6_pardon_38 : decode cX6_pardon 38 = .ok (.ireturn, 1) := by decide +kernel
theorem dX6_pardon_39 : decode cX6_pardon 39 = .ok (.aload_n 0, 1) := by decide +kernel
theorem dX6_pardon_40 : decode cX6_pardon 40 = .ok (.getfield 50, 3) := by decide +kernel
theorem dX6_pardon_43 : decode cX6_pardon 43 = .ok (.bipush 8, 2) := by decide +kernel
theorem dX6_pardon_45 : decode cX6_pardon 45 = .ok (.iload_n 1, 1) := by decide +kernel
theorem dX6_pardon_46 : decode cX6_pardon 46 = .ok (.imul, 1) := by decide +kernel
theorem dX6_pardon_47 : decode cX6_pardon 47 = .ok (.iload_n 2, 1) := by decide +kernel
theorem dX6_pardon_48 : decode cX6_pardon 48 = .ok (.iadd, 1) := by decide +kernel
theorem dX6_pardon_49 : decode cX6_pardon 49 = .ok (.baload, 1) := by decide +kernel
theorem dX6_pardon_50 : decode cX6_pardon 50 = .ok (.ifCond .ne 7, 3) := by decide +kernel
theorem dX6_pardon_53 : decode cX6_pardon 53 = .ok (.iconst 1, 1) := by decide +kernel
theorem dX6_pardon_54 : decode cX6_pardon 54 = .ok (.goto 4, 3) := by decide +kernel
theorem dX6_pardon_57 : decode cX6_pardon 57 = .ok (.iconst 0, 1) := by decide +kernel
theorem dX6_pardon_58 : decode cX6_pardon 58 = .ok (.istore_n 3, 1) := by decide +kernel
theorem dX6_pardon_59 : decode cX6_pardon 59 = .ok (.aload_n 0, 1) := by decide +kernel
theorem dX6_pardon_60 : decode cX6_pardon 60 = .ok (.getfield 50, 3) := by decide +kernel
theorem dX6_pardon_63 : decode cX6_pardon 63 = .ok (.bipush 8, 2) := by decide +kernel
theorem dX6_pardon_65 : decode cX6_pardon 65 = .ok (.iload_n 1, 1) := by decide +kernel
theorem dX6_pardon_66 : decode cX6_pardon 66 = .ok (.imul, 1) := by decide +kernel
theorem dX6_pardon_67 : decode cX6_pardon 67 = .ok (.iload_n 2, 1) := by decide +kernel
theorem dX6_pardon_68 : decode cX6_pardon 68 = .ok (.iadd, 1) := by decide +kernel
theorem dX6_pardon_69 : decode cX6_pardon 69 = .ok (.iload_n 3, 1) := by decide +kernel
theorem dX6_pardon_70 : decode cX6_pardon 70 = .ok (.bastore, 1) := by decide +kernel
theorem dX6_pardon_71 : decode cX6_pardon 71 = .ok (.aload_n 0, 1) := by decide +kernel
theorem dX6_pardon_72 : decode cX6_pardon 72 = .ok (.getfield 50, 3) := by decide +kernel
theorem dX6_pardon_75 : decode cX6_pardon 75 = .ok (.bipush 8, 2) := by decide +kernel
theorem dX6_pardon_77 : decode cX6_pardon 77 = .ok (.iload_n 2, 1) := by decide +kernel
theorem dX6_pardon_78 : decode cX6_pardon 78 = .ok (.imul, 1) := by decide +kernel
theorem dX6_pardon_79 : decode cX6_pardon 79 = .ok (.iload_n 1, 1) := by decide +kernel
theorem dX6_pardon_80 : decode cX6_pardon 80 = .ok (.iadd, 1) := by decide +kernel
theorem dX6_pardon_81 : decode cX6_pardon 81 = .ok (.iload_n 3, 1) := by decide +kernel
theorem dX6_pardon_82 : decode cX6_pardon 82 = .ok (.bastore, 1) := by decide +kernel
theorem dX6_pardon_83 : decode cX6_pardon 83 = .ok (.iload_n 3, 1) := by decide +kernel
theorem dX6_pardon_84 : decode cX6_pardon 84 = .ok (.ireturn, 1) := by decide +kernel
set_option maxHeartbeats 4000000 in
set_option maxRecDepth 100000 in
theorem c_X6_pardon (l : Launch) (D : va_G) (cI cZ cL : ClassId) (am : Nat → Nat) (M : Mem) (th : Int32) (A : Nat → Prop) (hD : va_D A (wQ am cI cZ M th)) (x1 : Int32) (x2 : Int32) (hI : J0 M) : WR l D cI cZ cL yX6_pardon cX6_pardon 4 (some .boolean) 9 [.ref (am 0), .int x1, .int x2] A (wQ am cI cZ M th) (wQ am cI cZ ((mPardon M x1 x2).2.2) ((mPardon M x1 x2).2.1)) (some (.int ((mPardon M x1 x2).1))) := by
  refine WR.of (by decide) (Nat.le_of_ble_eq_true rfl) ?_
  intro p e s m args below meth c ls hx hb hr hml hown hlk hE hP hS hl
  have hl : lv_has ls 4 [(0, .ref (am 0)), (1, .int x1), (2, .int x2)] := hl
  have hT8 := hI.T8
  have hR16 := hI.R16
  have hN200 := hI.N200
  refine lv_aload_n hx hb dX6_pardon_0 rfl (lv_at hl 0 rfl) ?_
  refine lv_aload_n hx hb dX6_pardon_1 rfl (lv_at hl 0 rfl) ?_
  refine lv_iload_n hx hb dX6_pardon_2 rfl (lv_at hl 1 rfl) ?_
  refine q_rd (q_runV (rest := [.ref (am 0)]) hx hb hml hown hE (c_X6_isTeam l D cI cZ cL am M th x1 hI) ck_X6_isTeam w_891 hP 0 rfl rfl hl.1 rfl ⟨Nat.le_of_ble_eq_true rfl, Nat.le_of_ble_eq_true rfl⟩ (Nat.le_of_ble_eq_true rfl) dX6_pardon_3 ⟨Nat.le_of_ble_eq_true rfl, Nat.le_of_ble_eq_true rfl⟩) ?_
  refine lv_if_eq (tgt := 17) hx hb dX6_pardon_6 (by decide) (fun zc_1 => ?_) (fun zc_1 => ?_)
  · skip
    have zc_1 : okn x1 (mT M) = false := b_f zc_1
    refine lv_iconst (v := 1) hx hb dX6_pardon_17 (by decide) ?_
    refine lv_goto (tgt := 31) hx hb dX6_pardon_18 (by decide) ?_
    refine q_w0 (q_runV (rest := []) hx hb hml hown hE (c_X6_goes l D cI cZ cL am M th A (wQ_D hD) 1) ck_X6_goes w_837 hP 0 rfl rfl hl.1 rfl ⟨Nat.le_of_ble_eq_true rfl, Nat.le_of_ble_eq_true rfl⟩ (Nat.le_of_ble_eq_true rfl) dX6_pardon_31 ⟨Nat.le_of_ble_eq_true rfl, Nat.le_of_ble_eq_true rfl⟩) hS (fun H locs hP hS => ?_)
    have hI_c2 : J0 M := hI
    refine q_top (y := 0) (by decide) ?_
    refine lv_if_ne (tgt := 39) hx hb dX6_pardon_34 (by decide) (fun zc_3 => ?_) (fun zc_3 => ?_)
    · skip
      exact absurd zc_3 (by decide)
    · skip
      refine lv_iconst (v := 0) hx hb dX6_pardon_37 (by decide) ?_
      rw [show mPardon M x1 x2 = (0, 1, M) from by first | (simp only [mPardon, mm2, mpard, zc_1, ↓reduceIte]; done) | (simp only [mPardon, mm2, mpard, zc_1, ↓reduceIte]; rfl) | (simp [mPardon, mm2, mpard, zc_1]; done) | (simp [mPardon, mm2, mpard, zc_1]; rfl)]
      exact e_wret hx hb hr hlk (show narrow FieldType.boolean (Value.int 0) = Value.int 0 from by decide) hP hS dX6_pardon_38
  · skip
    have zc_1 : okn x1 (mT M) = true := b_t zc_1
    obtain ⟨u1, hu1, eu1⟩ := okn_t (zc_1)
    subst eu1
    have iu1 : iN (nI u1) = u1 := iN_nI (by omega)
    refine lv_aload_n hx hb dX6_pardon_9 rfl (lv_at hl 0 rfl) ?_
    refine lv_iload_n hx hb dX6_pardon_10 rfl (lv_at hl 2 rfl) ?_
    refine q_rd (q_runV (rest := [.ref (am 0)]) hx hb hml hown hE (c_X6_isTeam l D cI cZ cL am M th x2 hI) ck_X6_isTeam w_891 hP 0 rfl rfl hl.1 rfl ⟨Nat.le_of_ble_eq_true rfl, Nat.le_of_ble_eq_true rfl⟩ (Nat.le_of_ble_eq_true rfl) dX6_pardon_11 ⟨Nat.le_of_ble_eq_true rfl, Nat.le_of_ble_eq_true rfl⟩) ?_
    refine lv_if_ne (tgt := 21) hx hb dX6_pardon_14 (by decide) (fun zc_4 => ?_) (fun zc_4 => ?_)
    · skip
      have zc_4 : okn x2 (mT M) = true := b_t zc_4
      obtain ⟨u2, hu2, eu2⟩ := okn_t (zc_4)
      subst eu2
      have iu2 : iN (nI u2) = u2 := iN_nI (by omega)
      refine lv_iload_n hx hb dX6_pardon_21 rfl (lv_at hl 1 rfl) ?_
      refine lv_iload_n hx hb dX6_pardon_22 rfl (lv_at hl 2 rfl) ?_
      refine lv_icmp_ne (tgt := 30) hx hb dX6_pardon_23 (by decide) (fun zc_5 => ?_) (fun zc_5 => ?_)
      · skip
        have zc_5 : ¬ u1 = u2 := n_ne (a := u1) (b := u2) (by omega) (by omega) zc_5
        refine lv_iconst (v := 0) hx hb dX6_pardon_30 (by decide) ?_
        refine q_w0 (q_runV (rest := []) hx hb hml hown hE (c_X6_goes l D cI cZ cL am M th A (wQ_D hD) 0) ck_X6_goes w_837 hP 0 rfl rfl hl.1 rfl ⟨Nat.le_of_ble_eq_true rfl, Nat.le_of_ble_eq_true rfl⟩ (Nat.le_of_ble_eq_true rfl) dX6_pardon_31 ⟨Nat.le_of_ble_eq_true rfl, Nat.le_of_ble_eq_true rfl⟩) hS (fun H locs hP hS => ?_)
        have hI_c6 : J0 M := hI
        refine q_top (y := 1) (by decide) ?_
        refine lv_if_ne (tgt := 39) hx hb dX6_pardon_34 (by decide) (fun zc_7 => ?_) (fun zc_7 => ?_)
        · skip
          refine lv_aload_n hx hb dX6_pardon_39 rfl (lv_at hl 0 rfl) ?_
          refine q_get (v := .ref (am 14)) hx hb hown hE inT_X6 hP 0 rfl rfl 18 (by decide) w_776 rfl dX6_pardon_40 ?_
          refine lv_bipush (v := 8) hx hb dX6_pardon_43 (by decide) ?_
          refine lv_iload_n hx hb dX6_pardon_45 rfl (lv_at hl 1 rfl) ?_
          refine lv_imul hx hb dX6_pardon_46 ?_
          refine q_top (y := nI (8 * u1)) (pk_mul 8 u1) ?_
          refine lv_iload_n hx hb dX6_pardon_47 rfl (lv_at hl 2 rfl) ?_
          refine lv_iadd hx hb dX6_pardon_48 ?_
          refine q_top (y := nI ((8 * u1) + u2)) (nI_add (8 * u1) u2) ?_
          refine q_zald (f := M 14) (i := ((8 * u1) + u2)) hx hb hE hP 14 rfl (by omega) (Nat.le_of_ble_eq_true rfl) dX6_pardon_49 ?_
          refine lv_if_ne (tgt := 57) hx hb dX6_pardon_50 (by decide) (fun zc_8 => ?_) (fun zc_8 => ?_)
          · skip
            refine lv_iconst (v := 0) hx hb dX6_pardon_57 (by decide) ?_
            refine lv_istore_n (lv' := [(3, .int 0), (0, .ref (am 0)), (1, .int (nI u1)), (2, .int (nI u2))]) hx hb dX6_pardon_58 rfl hl (by decide) rfl (fun ls hl => ?_)
            refine lv_aload_n hx hb dX6_pardon_59 rfl (lv_at hl 1 rfl) ?_
            refine q_get (v := .ref (am 14)) hx hb hown hE inT_X6 hP 0 rfl rfl 18 (by decide) w_776 rfl dX6_pardon_60 ?_
            refine lv_bipush (v := 8) hx hb dX6_pardon_63 (by decide) ?_
            refine lv_iload_n hx hb dX6_pardon_65 rfl (lv_at hl 2 rfl) ?_
            refine lv_imul hx hb dX6_pardon_66 ?_
            refine q_top (y := nI (8 * u1)) (pk_mul 8 u1) ?_
            refine lv_iload_n hx hb dX6_pardon_67 rfl (lv_at hl 3 rfl) ?_
            refine lv_iadd hx hb dX6_pardon_68 ?_
            refine q_top (y := nI ((8 * u1) + u2)) (nI_add (8 * u1) u2) ?_
            refine lv_iload_n hx hb dX6_pardon_69 rfl (lv_at hl 0 rfl) ?_
            refine q_zast (f := M 14) (i := ((8 * u1) + u2)) (x := 0) (ws' := (wQ am cI cZ (st M 14 ((8 * u1) + u2) 0) 0)) hx hb hE hP (wQ_D hD) hS 14 rfl (by omega) (Nat.le_of_ble_eq_true rfl) (by decide) (wQ_st_14) dX6_pardon_70 (fun H locs hP hS => ?_)
            refine lv_aload_n hx hb dX6_pardon_71 rfl (lv_at hl 1 rfl) ?_
            refine q_get (v := .ref (am 14)) hx hb hown hE inT_X6 hP 0 rfl rfl 18 (by decide) w_776 rfl dX6_pardon_72 ?_
            refine lv_bipush (v := 8) hx hb dX6_pardon_75 (by decide) ?_
            refine lv_iload_n hx hb dX6_pardon_77 rfl (lv_at hl 3 rfl) ?_
            refine lv_imul hx hb dX6_pardon_78 ?_
            refine q_top (y := nI (8 * u2)) (pk_mul 8 u2) ?_
            refine lv_iload_n hx hb dX6_pardon_79 rfl (lv_at hl 2 rfl) ?_
            refine lv_iadd hx hb dX6_pardon_80 ?_
            refine q_top (y := nI ((8 * u2) + u1)) (nI_add (8 * u2) u1) ?_
            refine lv_iload_n hx hb dX6_pardon_81 rfl (lv_at hl 0 rfl) ?_
            refine q_zast (f := (st M 14 ((8 * u1) + u2) 0) 14) (i := ((8 * u2) + u1)) (x := 0) (ws' := (wQ am cI cZ (st (st M 14 ((8 * u1) + u2) 0) 14 ((8 * u2) + u1) 0) 0)) hx hb hE hP (wQ_D hD) hS 14 rfl (by omega) (Nat.le_of_ble_eq_true rfl) (by decide) (wQ_st_14) dX6_pardon_82 (fun H locs hP hS => ?_)
            refine lv_iload_n hx hb dX6_pardon_83 rfl (lv_at hl 0 rfl) ?_
            rw [show mPardon M (nI u1) (nI u2) = (0, 0, st (st M 14 ((8 * u1) + u2) 0) 14 ((8 * u2) + u1) 0) from by first | (simp only [mPardon, mm2, mpard, zc_1, iu1, zc_4, iu2, zc_5, zc_8, ↓reduceIte]; done) | (simp only [mPardon, mm2, mpard, zc_1, iu1, zc_4, iu2, zc_5, zc_8, ↓reduceIte]; rfl) | (simp [mPardon, mm2, mpard, zc_1, iu1, zc_4, iu2, zc_5, zc_8]; done) | (simp [mPardon, mm2, mpard, zc_1, iu1, zc_4, iu2, zc_5, zc_8]; rfl)]
            exact e_wret hx hb hr hlk (show narrow FieldType.boolean (Value.int 0) = Value.int 0 from by decide) hP hS dX6_pardon_84
          · skip
            have ec_8 := eq_true zc_8
            refine lv_iconst (v := 1) hx hb dX6_pardon_53 (by decide) ?_
            refine lv_goto (tgt := 58) hx hb dX6_pardon_54 (by decide) ?_
            refine lv_istore_n (lv' := [(3, .int 1), (0, .ref (am 0)), (1, .int (nI u1)), (2, .int (nI u2))]) hx hb dX6_pardon_58 rfl hl (by decide) rfl (fun ls hl => ?_)
            refine lv_aload_n hx hb dX6_pardon_59 rfl (lv_at hl 1 rfl) ?_
            refine q_get (v := .ref (am 14)) hx hb hown hE inT_X6 hP 0 rfl rfl 18 (by decide) w_776 rfl dX6_pardon_60 ?_
            refine lv_bipush (v := 8) hx hb dX6_pardon_63 (by decide) ?_
            refine lv_iload_n hx hb dX6_pardon_65 rfl (lv_at hl 2 rfl) ?_
            refine lv_imul hx hb dX6_pardon_66 ?_
            refine q_top (y := nI (8 * u1)) (pk_mul 8 u1) ?_
            refine lv_iload_n hx hb dX6_pardon_67 rfl (lv_at hl 3 rfl) ?_
            refine lv_iadd hx hb dX6_pardon_68 ?_
            refine q_top (y := nI ((8 * u1) + u2)) (nI_add (8 * u1) u2) ?_
            refine lv_iload_n hx hb dX6_pardon_69 rfl (lv_at hl 0 rfl) ?_
            refine q_zast (f := M 14) (i := ((8 * u1) + u2)) (x := 1) (ws' := (wQ am cI cZ (st M 14 ((8 * u1) + u2) 1) 0)) hx hb hE hP (wQ_D hD) hS 14 rfl (by omega) (Nat.le_of_ble_eq_true rfl) (by decide) (wQ_st_14) dX6_pardon_70 (fun H locs hP hS => ?_)
            refine lv_aload_n hx hb dX6_pardon_71 rfl (lv_at hl 1 rfl) ?_
            refine q_get (v := .ref (am 14)) hx hb hown hE inT_X6 hP 0 rfl rfl 18 (by decide) w_776 rfl dX6_pardon_72 ?_
            refine lv_bipush (v := 8) hx hb dX6_pardon_75 (by decide) ?_
            refine lv_iload_n hx hb dX6_pardon_77 rfl (lv_at hl 3 rfl) ?_
            refine lv_imul hx hb dX6_pardon_78 ?_
            refine q_top (y := nI (8 * u2)) (pk_mul 8 u2) ?_
            refine lv_iload_n hx hb dX6_pardon_79 rfl (lv_at hl 2 rfl) ?_
            refine lv_iadd hx hb dX6_pardon_80 ?_
            refine q_top (y := nI ((8 * u2) + u1)) (nI_add (8 * u2) u1) ?_
            refine lv_iload_n hx hb dX6_pardon_81 rfl (lv_at hl 0 rfl) ?_
            refine q_zast (f := (st M 14 ((8 * u1) + u2) 1) 14) (i := ((8 * u2) + u1)) (x := 1) (ws' := (wQ am cI cZ (st (st M 14 ((8 * u1) + u2) 1) 14 ((8 * u2) + u1) 1) 0)) hx hb hE hP (wQ_D hD) hS 14 rfl (by omega) (Nat.le_of_ble_eq_true rfl) (by decide) (wQ_st_14) dX6_pardon_82 (fun H locs hP hS => ?_)
            refine lv_iload_n hx hb dX6_pardon_83 rfl (lv_at hl 0 rfl) ?_
            rw [show mPardon M (nI u1) (nI u2) = (1, 0, st (st M 14 ((8 * u1) + u2) 1) 14 ((8 * u2) + u1) 1) from by first | (simp only [mPardon, mm2, mpard, zc_1, iu1, zc_4, iu2, zc_5, ec_8, ↓reduceIte]; done) | (simp only [mPardon, mm2, mpard, zc_1, iu1, zc_4, iu2, zc_5, ec_8, ↓reduceIte]; rfl) | (simp [mPardon, mm2, mpard, zc_1, iu1, zc_4, iu2, zc_5, ec_8]; done) | (simp [mPardon, mm2, mpard, zc_1, iu1, zc_4, iu2, zc_5, ec_8]; rfl)]
            exact e_wret hx hb hr hlk (show narrow FieldType.boolean (Value.int 1) = Value.int 1 from by decide) hP hS dX6_pardon_84
        · skip
          exact absurd zc_7 (by decide)
      · skip
        have zc_5 : u1 = u2 := n_eq (a := u1) (b := u2) (by omega) (by omega) zc_5
        refine lv_iconst (v := 2) hx hb dX6_pardon_26 (by decide) ?_
        refine lv_goto (tgt := 31) hx hb dX6_pardon_27 (by decide) ?_
        refine q_w0 (q_runV (rest := []) hx hb hml hown hE (c_X6_goes l D cI cZ cL am M th A (wQ_D hD) 2) ck_X6_goes w_837 hP 0 rfl rfl hl.1 rfl ⟨Nat.le_of_ble_eq_true rfl, Nat.le_of_ble_eq_true rfl⟩ (Nat.le_of_ble_eq_true rfl) dX6_pardon_31 ⟨Nat.le_of_ble_eq_true rfl, Nat.le_of_ble_eq_true rfl⟩) hS (fun H locs hP hS => ?_)
        have hI_c9 : J0 M := hI
        refine q_top (y := 0) (by decide) ?_
        refine lv_if_ne (tgt := 39) hx hb dX6_pardon_34 (by decide) (fun zc_10 => ?_) (fun zc_10 => ?_)
        · skip
          exact absurd zc_10 (by decide)
        · skip
          refine lv_iconst (v := 0) hx hb dX6_pardon_37 (by decide) ?_
          rw [show mPardon M (nI u1) (nI u2) = (0, 2, M) from by first | (simp only [mPardon, mm2, mpard, zc_1, iu1, zc_4, iu2, zc_5, ↓reduceIte]; done) | (simp only [mPardon, mm2, mpard, zc_1, iu1, zc_4, iu2, zc_5, ↓reduceIte]; rfl) | (simp [mPardon, mm2, mpard, zc_1, iu1, zc_4, iu2, zc_5]; done) | (simp [mPardon, mm2, mpard, zc_1, iu1, zc_4, iu2, zc_5]; rfl)]
          exact e_wret hx hb hr hlk (show narrow FieldType.boolean (Value.int 0) = Value.int 0 from by decide) hP hS dX6_pardon_38
    · skip
      have zc_4 : okn x2 (mT M) = false := b_f zc_4
      refine lv_iconst (v := 1) hx hb dX6_pardon_17 (by decide) ?_
      refine lv_goto (tgt := 31) hx hb dX6_pardon_18 (by decide) ?_
      refine q_w0 (q_runV (rest := []) hx hb hml hown hE (c_X6_goes l D cI cZ cL am M th A (wQ_D hD) 1) ck_X6_goes w_837 hP 0 rfl rfl hl.1 rfl ⟨Nat.le_of_ble_eq_true rfl, Nat.le_of_ble_eq_true rfl⟩ (Nat.le_of_ble_eq_true rfl) dX6_pardon_31 ⟨Nat.le_of_ble_eq_true rfl, Nat.le_of_ble_eq_true rfl⟩) hS (fun H locs hP hS => ?_)
      have hI_c11 : J0 M := hI
      refine q_top (y := 0) (by decide) ?_
      refine lv_if_ne (tgt := 39) hx hb dX6_pardon_34 (by decide) (fun zc_12 => ?_) (fun zc_12 => ?_)
      · skip
        exact absurd zc_12 (by decide)
      · skip
        refine lv_iconst (v := 0) hx hb dX6_pardon_37 (by decide) ?_
        rw [show mPardon M (nI u1) x2 = (0, 1, M) from by first | (simp only [mPardon, mm2, mpard, zc_1, iu1, zc_4, ↓reduceIte]; done) | (simp only [mPardon, mm2, mpard, zc_1, iu1, zc_4, ↓reduceIte]; rfl) | (simp [mPardon, mm2, mpard, zc_1, iu1, zc_4]; done) | (simp [mPardon, mm2, mpard, zc_1, iu1, zc_4]; rfl)]
        exact e_wret hx hb hr hlk (show narrow FieldType.boolean (Value.int 0) = Value.int 0 from by decide) hP hS dX6_pardon_38

theorem dX6_setBound_0 : decode cX6_setBound 0 = .ok (.aload_n 0, 1) := by decide +kernel
theorem dX6_setBound_1 : decode cX6_setBound 1 = .ok (.iload_n 1, 1) := by decide +kernel
theorem dX6_setBound_2 : decode cX6_setBound 2 = .ok (.iconst 1, 1) := by decide +kernel
theorem dX6_setBound_3 : decode cX6_setBound 3 = .ok (.bipush 20, 2) := by decide +kernel
theorem dX6_setBound_5 : decode cX6_setBound 5 = .ok (.invokestatic 66, 3) := by decide +kernel
theorem dX6_setBound_8 : decode cX6_setBound 8 = .ok (.ifCond .eq 7, 3) := by decide +kernel
theorem dX6_setBound_11 : decode cX6_setBound 11 = .ok (.iconst 0, 1) := by decide +kernel
theorem dX6_setBound_12 : decode cX6_setBound 12 = .ok (.goto 4, 3) := by decide +kernel
theorem dX6_setBound_15 : decode cX6_setBound 15 = .ok (.iconst 1, 1) := by decide +kernel
theorem dX6_setBound_16 : decode cX6_setBound 16 = .ok (.invokevirtual 76, 3) := by decide +kernel
theorem dX6_setBound_19 : decode cX6_setBound 19 = .ok (.ifCond .ne 5, 3) := by decide +kernel
theorem dX6_setBound_22 : decode cX6_setBound 22 = .ok (.iconst 0, 1) := by decide +kernel
theorem dX6_setBound_23 : decode cX6_setBound 23 = .ok (.ireturn, 1) := by decide +kernel
theorem dX6_setBound_24 : decode cX6_setBound 24 = .ok (.aload_n 0, 1) := by decide +kernel
theorem dX6_setBound_25 : decode cX6_setBound 25 = .ok (.getfield 53, 3) := by decide +kernel
theorem dX6_setBound_28 : decode cX6_setBound 28 = .ok (.istore_n 2, 1) := by decide +kernel
theorem dX6_setBound_29 : decode cX6_setBound 29 = .ok (.aload_n 0, 1) := by decide +kernel
theorem dX6_setBound_30 : decode cX6_setBound 30 = .ok (.iload_n 1, 1) := by decide +kernel
theorem dX6_setBound_31 : decode cX6_setBound 31 = .ok (.putfield 53, 3) := by decide +kernel
theorem dX6_setBound_34 : decode cX6_setBound 34 = .ok (.iload_n 2, 1) := by decide +kernel
theorem dX6_setBound_35 : decode cX6_setBound 35 = .ok (.ireturn, 1) := by decide +kernel
set_option maxHeartbeats 4000000 in
set_option maxRecDepth 100000 in
theorem c_X6_setBound (l : Launch) (D : va_G) (cI cZ cL : ClassId) (am : Nat → Nat) (M : Mem) (th : Int32) (A : Nat → Prop) (hD : va_D A (wQ am cI cZ M th)) (x1 : Int32) (hI : J0 M) : WR l D cI cZ cL yX6_setBound cX6_setBound 3 (some .int) 9 [.ref (am 0), .int x1] A (wQ am cI cZ M th) (wQ am cI cZ ((mBound M x1).2.2) ((mBound M x1).2.1)) (some (.int ((mBound M x1).1))) := by
  refine WR.of (by decide) (Nat.le_of_ble_eq_true rfl) ?_
  intro p e s m args below meth c ls hx hb hr hml hown hlk hE hP hS hl
  have hl : lv_has ls 3 [(0, .ref (am 0)), (1, .int x1)] := hl
  have hT8 := hI.T8
  have hR16 := hI.R16
  have hN200 := hI.N200
  refine lv_aload_n hx hb dX6_setBound_0 rfl (lv_at hl 0 rfl) ?_
  refine lv_iload_n hx hb dX6_setBound_1 rfl (lv_at hl 1 rfl) ?_
  refine lv_iconst (v := 1) hx hb dX6_setBound_2 (by decide) ?_
  refine lv_bipush (v := 20) hx hb dX6_setBound_3 (by decide) ?_
  refine q_rd (q_runS (rest := [.ref (am 0)]) hx hb hml hown hE (c_X6_isIn l D cI cZ cL _ x1 1 20) ck_X6_isIn w_834 hP hl.1 rfl ⟨Nat.le_of_ble_eq_true rfl, Nat.le_of_ble_eq_true rfl⟩ (Nat.le_of_ble_eq_true rfl) dX6_setBound_5 ⟨Nat.le_of_ble_eq_true rfl, Nat.le_of_ble_eq_true rfl⟩) ?_
  refine lv_if_eq (tgt := 15) hx hb dX6_setBound_8 (by decide) (fun zc_1 => ?_) (fun zc_1 => ?_)
  · skip
    have zc_1 : okr x1 1 20 = false := b_f zc_1
    refine lv_iconst (v := 1) hx hb dX6_setBound_15 (by decide) ?_
    refine q_w0 (q_runV (rest := []) hx hb hml hown hE (c_X6_goes l D cI cZ cL am M th A (wQ_D hD) 1) ck_X6_goes w_837 hP 0 rfl rfl hl.1 rfl ⟨Nat.le_of_ble_eq_true rfl, Nat.le_of_ble_eq_true rfl⟩ (Nat.le_of_ble_eq_true rfl) dX6_setBound_16 ⟨Nat.le_of_ble_eq_true rfl, Nat.le_of_ble_eq_true rfl⟩) hS (fun H locs hP hS => ?_)
    have hI_c2 : J0 M := hI
    refine q_top (y := 0) (by decide) ?_
    refine lv_if_ne (tgt := 24) hx hb dX6_setBound_19 (by decide) (fun zc_3 => ?_) (fun zc_3 => ?_)
    · skip
      exact absurd zc_3 (by decide)
    · skip
      refine lv_iconst (v := 0) hx hb dX6_setBound_22 (by decide) ?_
      rw [show mBound M x1 = (0, 1, M) from by first | (simp only [mBound, zc_1, ↓reduceIte]; done) | (simp only [mBound, zc_1, ↓reduceIte]; rfl) | (simp [mBound, zc_1]; done) | (simp [mBound, zc_1]; rfl)]
      exact e_wret hx hb hr hlk rfl hP hS dX6_setBound_23
  · skip
    have zc_1 : okr x1 1 20 = true := b_t zc_1
    refine lv_iconst (v := 0) hx hb dX6_setBound_11 (by decide) ?_
    refine lv_goto (tgt := 16) hx hb dX6_setBound_12 (by decide) ?_
    refine q_w0 (q_runV (rest := []) hx hb hml hown hE (c_X6_goes l D cI cZ cL am M th A (wQ_D hD) 0) ck_X6_goes w_837 hP 0 rfl rfl hl.1 rfl ⟨Nat.le_of_ble_eq_true rfl, Nat.le_of_ble_eq_true rfl⟩ (Nat.le_of_ble_eq_true rfl) dX6_setBound_16 ⟨Nat.le_of_ble_eq_true rfl, Nat.le_of_ble_eq_true rfl⟩) hS (fun H locs hP hS => ?_)
    have hI_c4 : J0 M := hI
    refine q_top (y := 1) (by decide) ?_
    refine lv_if_ne (tgt := 24) hx hb dX6_setBound_19 (by decide) (fun zc_5 => ?_) (fun zc_5 => ?_)
    · skip
      refine lv_aload_n hx hb dX6_setBound_24 rfl (lv_at hl 0 rfl) ?_
      refine q_get (v := .int (M 0 19)) hx hb hown hE inT_X6 hP 0 rfl rfl 19 (by decide) w_777 rfl dX6_setBound_25 ?_
      refine lv_istore_n (lv' := [(2, .int (M 0 19)), (0, .ref (am 0)), (1, .int x1)]) hx hb dX6_setBound_28 rfl hl (by decide) rfl (fun ls hl => ?_)
      refine lv_aload_n hx hb dX6_setBound_29 rfl (lv_at hl 1 rfl) ?_
      refine lv_iload_n hx hb dX6_setBound_30 rfl (lv_at hl 2 rfl) ?_
      refine q_put (ty0 := tyX6) (ws' := (wQ am cI cZ (st M 0 19 x1) 0)) (v := .int x1) hx hb hown hE inT_X6 tyX6_ok nmX6 hP (wQ_D hD) hS 0 rfl rfl 19 (by decide) w_777 rfl rfl rfl (Nat.le_of_ble_eq_true rfl) rfl dX6_setBound_31 (fun H locs hP hS => ?_)
      refine lv_iload_n hx hb dX6_setBound_34 rfl (lv_at hl 0 rfl) ?_
      rw [show mBound M x1 = (M 0 19, 0, st M 0 19 x1) from by first | (simp only [mBound, zc_1, ↓reduceIte]; done) | (simp only [mBound, zc_1, ↓reduceIte]; rfl) | (simp [mBound, zc_1]; done) | (simp [mBound, zc_1]; rfl)]
      exact e_wret hx hb hr hlk rfl hP hS dX6_setBound_35
    · skip
      exact absurd zc_5 (by decide)

theorem dX6_isFree_0 : decode cX6_isFree 0 = .ok (.aload_n 0, 1) := by decide +kernel
theorem dX6_isFree_1 : decode cX6_isFree 1 = .ok (.aload_n 0, 1) := by decide +kernel
theorem dX6_isFree_2 : decode cX6_isFree 2 = .ok (.iload_n 1, 1) := by decide +kernel
theorem dX6_isFree_3 : decode cX6_isFree 3 = .ok (.invokevirtual 91, 3) := by decide +kernel
theorem dX6_isFree_6 : decode cX6_isFree 6 = .ok (.ifCond .eq 7, 3) := by decide +kernel
theorem dX6_isFree_9 : decode cX6_isFree 9 = .ok (.iconst 0, 1) := by decide +kernel
theorem dX6_isFree_10 : decode cX6_isFree 10 = .ok (.goto 4, 3) := by decide +kernel
theorem dX6_isFree_13 : decode cX6_isFree 13 = .ok (.iconst 1, 1) := by decide +kernel
theorem dX6_isFree_14 : decode cX6_isFree 14 = .ok (.invokevirtual 76, 3) := by decide +kernel
theorem dX6_isFree_17 : decode cX6_isFree 17 = .ok (.ifCond .eq 15, 3) := by decide +kernel
theorem dX6_isFree_20 : decode cX6_isFree 20 = .ok (.aload_n 0, 1) := by decide +kernel
theorem dX6_isFree_21 : decode cX6_isFree 21 = .ok (.iload_n 1, 1) := by decide +kernel
theorem dX6_isFree_22 : decode cX6_isFree 22 = .ok (.invokevirtual 105, 3) := by decide +kernel
theorem dX6_isFree_25 : decode cX6_isFree 25 = .ok (.ifCond .eq 7, 3) := by decide +kernel
theorem dX6_isFree_28 : decode cX6_isFree 28 = .ok (.iconst 1, 1) := by decide +kernel
theorem dX6_isFree_29 : decode cX6_isFree 29 = .ok (.goto 4, 3) := by decide +kernel
theorem dX6_isFree_32 : decode cX6_isFree 32 = .ok (.iconst 0, 1) := by decide +kernel
theorem dX6_isFree_33 : decode cX6_isFree 33 = .ok (.ireturn, 1) := by decide +kernel
set_option maxHeartbeats 4000000 in
set_option maxRecDepth 100000 in
theorem c_X6_isFree (l : Launch) (D : va_G) (cI cZ cL : ClassId) (am : Nat → Nat) (M : Mem) (th : Int32) (A : Nat → Prop) (hD : va_D A (wQ am cI cZ M th)) (x1 : Int32) (hI : J0 M) : WR l D cI cZ cL yX6_isFree cX6_isFree 2 (some .boolean) 9 [.ref (am 0), .int x1] A (wQ am cI cZ M th) (wQ am cI cZ ((mFree M x1).2.2) ((mFree M x1).2.1)) (some (.int ((mFree M x1).1))) := by
  refine WR.of (by decide) (Nat.le_of_ble_eq_true rfl) ?_
  intro p e s m args below meth c ls hx hb hr hml hown hlk hE hP hS hl
  have hl : lv_has ls 2 [(0, .ref (am 0)), (1, .int x1)] := hl
  have hT8 := hI.T8
  have hR16 := hI.R16
  have hN200 := hI.N200
  refine lv_aload_n hx hb dX6_isFree_0 rfl (lv_at hl 0 rfl) ?_
  refine lv_aload_n hx hb dX6_isFree_1 rfl (lv_at hl 0 rfl) ?_
  refine lv_iload_n hx hb dX6_isFree_2 rfl (lv_at hl 1 rfl) ?_
  refine q_rd (q_runV (rest := [.ref (am 0)]) hx hb hml hown hE (c_X6_isRiddle l D cI cZ cL am M th x1 hI) ck_X6_isRiddle w_853 hP 0 rfl rfl hl.1 rfl ⟨Nat.le_of_ble_eq_true rfl, Nat.le_of_ble_eq_true rfl⟩ (Nat.le_of_ble_eq_true rfl) dX6_isFree_3 ⟨Nat.le_of_ble_eq_true rfl, Nat.le_of_ble_eq_true rfl⟩) ?_
  refine lv_if_eq (tgt := 13) hx hb dX6_isFree_6 (by decide) (fun zc_1 => ?_) (fun zc_1 => ?_)
  · skip
    have zc_1 : okn x1 (mR M) = false := b_f zc_1
    refine lv_iconst (v := 1) hx hb dX6_isFree_13 (by decide) ?_
    refine q_w0 (q_runV (rest := []) hx hb hml hown hE (c_X6_goes l D cI cZ cL am M th A (wQ_D hD) 1) ck_X6_goes w_837 hP 0 rfl rfl hl.1 rfl ⟨Nat.le_of_ble_eq_true rfl, Nat.le_of_ble_eq_true rfl⟩ (Nat.le_of_ble_eq_true rfl) dX6_isFree_14 ⟨Nat.le_of_ble_eq_true rfl, Nat.le_of_ble_eq_true rfl⟩) hS (fun H locs hP hS => ?_)
    have hI_c2 : J0 M := hI
    refine q_top (y := 0) (by decide) ?_
    refine lv_if_eq (tgt := 32) hx hb dX6_isFree_17 (by decide) (fun zc_3 => ?_) (fun zc_3 => ?_)
    · skip
      refine lv_iconst (v := 0) hx hb dX6_isFree_32 (by decide) ?_
      rw [show mFree M x1 = (0, 1, M) from by first | (simp only [mFree, mm1, zc_1, ↓reduceIte]; done) | (simp only [mFree, mm1, zc_1, ↓reduceIte]; rfl) | (simp [mFree, mm1, zc_1]; done) | (simp [mFree, mm1, zc_1]; rfl)]
      exact e_wret hx hb hr hlk (show narrow FieldType.boolean (Value.int 0) = Value.int 0 from by decide) hP hS dX6_isFree_33
    · skip
      exact absurd zc_3 (by decide)
  · skip
    have zc_1 : okn x1 (mR M) = true := b_t zc_1
    obtain ⟨u1, hu1, eu1⟩ := okn_t (zc_1)
    subst eu1
    have iu1 : iN (nI u1) = u1 := iN_nI (by omega)
    refine lv_iconst (v := 0) hx hb dX6_isFree_9 (by decide) ?_
    refine lv_goto (tgt := 14) hx hb dX6_isFree_10 (by decide) ?_
    refine q_w0 (q_runV (rest := []) hx hb hml hown hE (c_X6_goes l D cI cZ cL am M th A (wQ_D hD) 0) ck_X6_goes w_837 hP 0 rfl rfl hl.1 rfl ⟨Nat.le_of_ble_eq_true rfl, Nat.le_of_ble_eq_true rfl⟩ (Nat.le_of_ble_eq_true rfl) dX6_isFree_14 ⟨Nat.le_of_ble_eq_true rfl, Nat.le_of_ble_eq_true rfl⟩) hS (fun H locs hP hS => ?_)
    have hI_c4 : J0 M := hI
    refine q_top (y := 1) (by decide) ?_
    refine lv_if_eq (tgt := 32) hx hb dX6_isFree_17 (by decide) (fun zc_5 => ?_) (fun zc_5 => ?_)
    · skip
      exact absurd zc_5 (by decide)
    · skip
      refine lv_aload_n hx hb dX6_isFree_20 rfl (lv_at hl 0 rfl) ?_
      refine lv_iload_n hx hb dX6_isFree_21 rfl (lv_at hl 1 rfl) ?_
      refine q_rd (q_runV (rest := []) hx hb hml hown hE (c_X6_isOpenToAll l D cI cZ cL am M 0 u1 hI_c4 (by omega)) ck_X6_isOpenToAll w_879 hP 0 rfl rfl hl.1 rfl ⟨Nat.le_of_ble_eq_true rfl, Nat.le_of_ble_eq_true rfl⟩ (Nat.le_of_ble_eq_true rfl) dX6_isFree_22 ⟨Nat.le_of_ble_eq_true rfl, Nat.le_of_ble_eq_true rfl⟩) ?_
      refine lv_if_eq (tgt := 32) hx hb dX6_isFree_25 (by decide) (fun zc_6 => ?_) (fun zc_6 => ?_)
      · skip
        have zc_6 : m_free M u1 = false := b_f zc_6
        refine lv_iconst (v := 0) hx hb dX6_isFree_32 (by decide) ?_
        rw [show mFree M (nI u1) = (0, 0, M) from by first | (simp only [mFree, mm1, zc_1, iu1, zc_6, ↓reduceIte]; done) | (simp only [mFree, mm1, zc_1, iu1, zc_6, ↓reduceIte]; rfl) | (simp [mFree, mm1, zc_1, iu1, zc_6]; done) | (simp [mFree, mm1, zc_1, iu1, zc_6]; rfl)]
        exact e_wret hx hb hr hlk (show narrow FieldType.boolean (Value.int 0) = Value.int 0 from by decide) hP hS dX6_isFree_33
      · skip
        have zc_6 : m_free M u1 = true := b_t zc_6
        refine lv_iconst (v := 1) hx hb dX6_isFree_28 (by decide) ?_
        refine lv_goto (tgt := 33) hx hb dX6_isFree_29 (by decide) ?_
        rw [show mFree M (nI u1) = (1, 0, M) from by first | (simp only [mFree, mm1, zc_1, iu1, zc_6, ↓reduceIte]; done) | (simp only [mFree, mm1, zc_1, iu1, zc_6, ↓reduceIte]; rfl) | (simp [mFree, mm1, zc_1, iu1, zc_6]; done) | (simp [mFree, mm1, zc_1, iu1, zc_6]; rfl)]
        exact e_wret hx hb hr hlk (show narrow FieldType.boolean (Value.int 1) = Value.int 1 from by decide) hP hS dX6_isFree_33

theorem dX6_likeness_0 : decode cX6_likeness 0 = .ok (.aload_n 0, 1) := by decide +kernel
theorem dX6_likeness_1 : decode cX6_likeness 1 = .ok (.aload_n 0, 1) := by decide +kernel
theorem dX6_likeness_2 : decode cX6_likeness 2 = .ok (.iload_n 1, 1) := by decide +kernel
theorem dX6_likeness_3 : decode cX6_likeness 3 = .ok (.invokevirtual 108, 3) := by decide +kernel
theorem dX6_likeness_6 : decode cX6_likeness 6 = .ok (.ifCond .eq 15, 3) := by decide +kernel
theorem dX6_likeness_9 : decode cX6_likeness 9 = .ok (.aload_n 0, 1) := by decide +kernel
theorem dX6_likeness_10 : decode cX6_likeness 10 = .ok (.iload_n 2, 1) := by decide +kernel
theorem dX6_likeness_11 : decode cX6_likeness 11 = .ok (.invokevirtual 108, 3) := by decide +kernel
theorem dX6_likeness_14 : decode cX6_likeness 14 = .ok (.ifCond .eq 7, 3) := by decide +kernel
theorem dX6_likeness_17 : decode cX6_likeness 17 = .ok (.iconst 0, 1) := by decide +kernel
theorem dX6_likeness_18 : decode cX6_likeness 18 = .ok (.goto 4, 3) := by decide +kernel
theorem dX6_likeness_21 : decode cX6_likeness 21 = .ok (.iconst 1, 1) := by decide +kernel
theorem dX6_likeness_22 : decode cX6_likeness 22 = .ok (.invokevirtual 76, 3) := by decide +kernel
theorem dX6_likeness_25 : decode cX6_likeness 25 = .ok (.ifCond .eq 12, 3) := by decide +kernel
theorem dX6_likeness_28 : decode cX6_likeness 28 = .ok (.aload_n 0, 1) := by decide +kernel
theorem dX6_likeness_29 : decode cX6_likeness 29 = .ok (.iload_n 1, 1) := by decide +kernel
theorem dX6_likeness_30 : decode cX6_likeness 30 = .ok (.iload_n 2, 1) := by decide +kernel
theorem dX6_likeness_31 : decode cX6_likeness 31 = .ok (.invokevirtual 130, 3) := by decide +kernel
theorem dX6_likeness_34 : decode cX6_likeness 34 = .ok (.goto 4, 3) := by decide +kernel
theorem dX6_likeness_37 : decode cX6_likeness 37 = .ok (.iconst 0, 1) := by decide +kernel
theorem dX6_likeness_38 : decode cX6_likeness 38 = .ok (.ireturn, 1) := by decide +kernel
set_option maxHeartbeats 4000000 in
set_option maxRecDepth 100000 in
theorem c_X6_likeness (l : Launch) (D : va_G) (cI cZ cL : ClassId) (am : Nat → Nat) (M : Mem) (th : Int32) (A : Nat → Prop) (hD : va_D A (wQ am cI cZ M th)) (x1 : Int32) (x2 : Int32) (hI : J0 M) : WR l D cI cZ cL yX6_likeness cX6_likeness 3 (some .int) 9 [.ref (am 0), .int x1, .int x2] A (wQ am cI cZ M th) (wQ am cI cZ ((mLike M x1 x2).2.2) ((mLike M x1 x2).2.1)) (some (.int ((mLike M x1 x2).1))) := by
  refine WR.of (by decide) (Nat.le_of_ble_eq_true rfl) ?_
  intro p e s m args below meth c ls hx hb hr hml hown hlk hE hP hS hl
  have hl : lv_has ls 3 [(0, .ref (am 0)), (1, .int x1), (2, .int x2)] := hl
  have hT8 := hI.T8
  have hR16 := hI.R16
  have hN200 := hI.N200
  refine lv_aload_n hx hb dX6_likeness_0 rfl (lv_at hl 0 rfl) ?_
  refine lv_aload_n hx hb dX6_likeness_1 rfl (lv_at hl 0 rfl) ?_
  refine lv_iload_n hx hb dX6_likeness_2 rfl (lv_at hl 1 rfl) ?_
  refine q_rd (q_runV (rest := [.ref (am 0)]) hx hb hml hown hE (c_X6_isTeam l D cI cZ cL am M th x1 hI) ck_X6_isTeam w_891 hP 0 rfl rfl hl.1 rfl ⟨Nat.le_of_ble_eq_true rfl, Nat.le_of_ble_eq_true rfl⟩ (Nat.le_of_ble_eq_true rfl) dX6_likeness_3 ⟨Nat.le_of_ble_eq_true rfl, Nat.le_of_ble_eq_true rfl⟩) ?_
  refine lv_if_eq (tgt := 21) hx hb dX6_likeness_6 (by decide) (fun zc_1 => ?_) (fun zc_1 => ?_)
  · skip
    have zc_1 : okn x1 (mT M) = false := b_f zc_1
    refine lv_iconst (v := 1) hx hb dX6_likeness_21 (by decide) ?_
    refine q_w0 (q_runV (rest := []) hx hb hml hown hE (c_X6_goes l D cI cZ cL am M th A (wQ_D hD) 1) ck_X6_goes w_837 hP 0 rfl rfl hl.1 rfl ⟨Nat.le_of_ble_eq_true rfl, Nat.le_of_ble_eq_true rfl⟩ (Nat.le_of_ble_eq_true rfl) dX6_likeness_22 ⟨Nat.le_of_ble_eq_true rfl, Nat.le_of_ble_eq_true rfl⟩) hS (fun H locs hP hS => ?_)
    have hI_c2 : J0 M := hI
    refine q_top (y := 0) (by decide) ?_
    refine lv_if_eq (tgt := 37) hx hb dX6_likeness_25 (by decide) (fun zc_3 => ?_) (fun zc_3 => ?_)
    · skip
      refine lv_iconst (v := 0) hx hb dX6_likeness_37 (by decide) ?_
      rw [show mLike M x1 x2 = (0, 1, M) from by first | (simp only [mLike, mm2, zc_1, ↓reduceIte]; done) | (simp only [mLike, mm2, zc_1, ↓reduceIte]; rfl) | (simp [mLike, mm2, zc_1]; done) | (simp [mLike, mm2, zc_1]; rfl)]
      exact e_wret hx hb hr hlk rfl hP hS dX6_likeness_38
    · skip
      exact absurd zc_3 (by decide)
  · skip
    have zc_1 : okn x1 (mT M) = true := b_t zc_1
    obtain ⟨u1, hu1, eu1⟩ := okn_t (zc_1)
    subst eu1
    have iu1 : iN (nI u1) = u1 := iN_nI (by omega)
    refine lv_aload_n hx hb dX6_likeness_9 rfl (lv_at hl 0 rfl) ?_
    refine lv_iload_n hx hb dX6_likeness_10 rfl (lv_at hl 2 rfl) ?_
    refine q_rd (q_runV (rest := [.ref (am 0)]) hx hb hml hown hE (c_X6_isTeam l D cI cZ cL am M th x2 hI) ck_X6_isTeam w_891 hP 0 rfl rfl hl.1 rfl ⟨Nat.le_of_ble_eq_true rfl, Nat.le_of_ble_eq_true rfl⟩ (Nat.le_of_ble_eq_true rfl) dX6_likeness_11 ⟨Nat.le_of_ble_eq_true rfl, Nat.le_of_ble_eq_true rfl⟩) ?_
    refine lv_if_eq (tgt := 21) hx hb dX6_likeness_14 (by decide) (fun zc_4 => ?_) (fun zc_4 => ?_)
    · skip
      have zc_4 : okn x2 (mT M) = false := b_f zc_4
      refine lv_iconst (v := 1) hx hb dX6_likeness_21 (by decide) ?_
      refine q_w0 (q_runV (rest := []) hx hb hml hown hE (c_X6_goes l D cI cZ cL am M th A (wQ_D hD) 1) ck_X6_goes w_837 hP 0 rfl rfl hl.1 rfl ⟨Nat.le_of_ble_eq_true rfl, Nat.le_of_ble_eq_true rfl⟩ (Nat.le_of_ble_eq_true rfl) dX6_likeness_22 ⟨Nat.le_of_ble_eq_true rfl, Nat.le_of_ble_eq_true rfl⟩) hS (fun H locs hP hS => ?_)
      have hI_c5 : J0 M := hI
      refine q_top (y := 0) (by decide) ?_
      refine lv_if_eq (tgt := 37) hx hb dX6_likeness_25 (by decide) (fun zc_6 => ?_) (fun zc_6 => ?_)
      · skip
        refine lv_iconst (v := 0) hx hb dX6_likeness_37 (by decide) ?_
        rw [show mLike M (nI u1) x2 = (0, 1, M) from by first | (simp only [mLike, mm2, zc_1, iu1, zc_4, ↓reduceIte]; done) | (simp only [mLike, mm2, zc_1, iu1, zc_4, ↓reduceIte]; rfl) | (simp [mLike, mm2, zc_1, iu1, zc_4]; done) | (simp [mLike, mm2, zc_1, iu1, zc_4]; rfl)]
        exact e_wret hx hb hr hlk rfl hP hS dX6_likeness_38
      · skip
        exact absurd zc_6 (by decide)
    · skip
      have zc_4 : okn x2 (mT M) = true := b_t zc_4
      obtain ⟨u2, hu2, eu2⟩ := okn_t (zc_4)
      subst eu2
      have iu2 : iN (nI u2) = u2 := iN_nI (by omega)
      refine lv_iconst (v := 0) hx hb dX6_likeness_17 (by decide) ?_
      refine lv_goto (tgt := 22) hx hb dX6_likeness_18 (by decide) ?_
      refine q_w0 (q_runV (rest := []) hx hb hml hown hE (c_X6_goes l D cI cZ cL am M th A (wQ_D hD) 0) ck_X6_goes w_837 hP 0 rfl rfl hl.1 rfl ⟨Nat.le_of_ble_eq_true rfl, Nat.le_of_ble_eq_true rfl⟩ (Nat.le_of_ble_eq_true rfl) dX6_likeness_22 ⟨Nat.le_of_ble_eq_true rfl, Nat.le_of_ble_eq_true rfl⟩) hS (fun H locs hP hS => ?_)
      have hI_c7 : J0 M := hI
      refine q_top (y := 1) (by decide) ?_
      refine lv_if_eq (tgt := 37) hx hb dX6_likeness_25 (by decide) (fun zc_8 => ?_) (fun zc_8 => ?_)
      · skip
        exact absurd zc_8 (by decide)
      · skip
        refine lv_aload_n hx hb dX6_likeness_28 rfl (lv_at hl 0 rfl) ?_
        refine lv_iload_n hx hb dX6_likeness_29 rfl (lv_at hl 1 rfl) ?_
        refine lv_iload_n hx hb dX6_likeness_30 rfl (lv_at hl 2 rfl) ?_
        refine q_rd (q_runV (rest := []) hx hb hml hown hE (c_X6_likenessOf l D cI cZ cL am M 0 u1 u2 hI_c7 (by omega) (by omega)) ck_X6_likenessOf w_943 hP 0 rfl rfl hl.1 rfl ⟨Nat.le_of_ble_eq_true rfl, Nat.le_of_ble_eq_true rfl⟩ (Nat.le_of_ble_eq_true rfl) dX6_likeness_31 ⟨Nat.le_of_ble_eq_true rfl, Nat.le_of_ble_eq_true rfl⟩) ?_
        refine lv_goto (tgt := 38) hx hb dX6_likeness_34 (by decide) ?_
        rw [show mLike M (nI u1) (nI u2) = (m_like M u1 u2, 0, M) from by first | (simp only [mLike, mm2, zc_1, iu1, zc_4, iu2, ↓reduceIte]; done) | (simp only [mLike, mm2, zc_1, iu1, zc_4, iu2, ↓reduceIte]; rfl) | (simp [mLike, mm2, zc_1, iu1, zc_4, iu2]; done) | (simp [mLike, mm2, zc_1, iu1, zc_4, iu2]; rfl)]
        exact e_wret hx hb hr hlk rfl hP hS dX6_likeness_38

theorem dX6_areLinked_0 : decode cX6_areLinked 0 = .ok (.aload_n 0, 1) := by decide +kernel
theorem dX6_areLinked_1 : decode cX6_areLinked 1 = .ok (.aload_n 0, 1) := by decide +kernel
theorem dX6_areLinked_2 : decode cX6_areLinked 2 = .ok (.iload_n 1, 1) := by decide +kernel
theorem dX6_areLinked_3 : decode cX6_areLinked 3 = .ok (.invokevirtual 108, 3) := by decide +kernel
theorem dX6_areLinked_6 : decode cX6_areLinked 6 = .ok (.ifCond .eq 15, 3) := by decide +kernel
theorem dX6_areLinked_9 : decode cX6_areLinked 9 = .ok (.aload_n 0, 1) := by decide +kernel
theorem dX6_areLinked_10 : decode cX6_areLinked 10 = .ok (.iload_n 2, 1) := by decide +kernel
theorem dX6_areLinked_11 : decode cX6_areLinked 11 = .ok (.invokevirtual 108, 3) := by decide +kernel
theorem dX6_areLinked_14 : decode cX6_areLinked 14 = .ok (.ifCond .eq 7, 3) := by decide +kernel
theorem dX6_areLinked_17 : decode cX6_areLinked 17 = .ok (.iconst 0, 1) := by decide +kernel
theorem dX6_areLinked_18 : decode cX6_areLinked 18 = .ok (.goto 4, 3) := by decide +kernel
theorem dX6_areLinked_21 : decode cX6_areLinked 21 = .ok (.iconst 1, 1) := by decide +kernel
theorem dX6_areLinked_22 : decode cX6_areLinked 22 = .ok (.invokevirtual 76, 3) := by decide +kernel
theorem dX6_areLinked_25 : decode cX6_areLinked 25 = .ok (.ifCond .eq 16, 3) := by decide +kernel
theorem dX6_areLinked_28 : decode cX6_areLinked 28 = .ok (.aload_n 0, 1) := by decide +kernel
theorem dX6_areLinked_29 : decode cX6_areLinked 29 = .ok (.iload_n 1, 1) := by decide +kernel
theorem dX6_areLinked_30 : decode cX6_areLinked 30 = .ok (.iload_n 2, 1) := by decide +kernel
theorem dX6_areLinked_31 : decode cX6_areLinked 31 = .ok (.invokevirtual 133, 3) := by decide +kernel
theorem dX6_areLinked_34 : decode cX6_areLinked 34 = .ok (.ifCond .eq 7, 3) := by decide +kernel
theorem dX6_areLinked_37 : decode cX6_areLinked 37 = .ok (.iconst 1, 1) := by decide +kernel
theorem dX6_areLinked_38 : decode cX6_areLinked 38 = .ok (.goto 4, 3) := by decide +kernel
theorem dX6_areLinked_41 : decode cX6_areLinked 41 = .ok (.iconst 0, 1) := by decide +kernel
theorem dX6_areLinked_42 : decode cX6_areLinked 42 = .ok (.ireturn, 1) := by decide +kernel
set_option maxHeartbeats 4000000 in
set_option maxRecDepth 100000 in
theorem c_X6_areLinked (l : Launch) (D : va_G) (cI cZ cL : ClassId) (am : Nat → Nat) (M : Mem) (th : Int32) (A : Nat → Prop) (hD : va_D A (wQ am cI cZ M th)) (x1 : Int32) (x2 : Int32) (hI : J0 M) : WR l D cI cZ cL yX6_areLinked cX6_areLinked 3 (some .boolean) 9 [.ref (am 0), .int x1, .int x2] A (wQ am cI cZ M th) (wQ am cI cZ ((mLinked M x1 x2).2.2) ((mLinked M x1 x2).2.1)) (some (.int ((mLinked M x1 x2).1))) := by
  refine WR.of (by decide) (Nat.le_of_ble_eq_true rfl) ?_
  intro p e s m args below meth c ls hx hb hr hml hown hlk hE hP hS hl
  have hl : lv_has ls 3 [(0, .ref (am 0)), (1, .int x1), (2, .int x2)] := hl
  have hT8 := hI.T8
  have hR16 := hI.R16
  have hN200 := hI.N200
  refine lv_aload_n hx hb dX6_areLinked_0 rfl (lv_at hl 0 rfl) ?_
  refine lv_aload_n hx hb dX6_areLinked_1 rfl (lv_at hl 0 rfl) ?_
  refine lv_iload_n hx hb dX6_areLinked_2 rfl (lv_at hl 1 rfl) ?_
  refine q_rd (q_runV (rest := [.ref (am 0)]) hx hb hml hown hE (c_X6_isTeam l D cI cZ cL am M th x1 hI) ck_X6_isTeam w_891 hP 0 rfl rfl hl.1 rfl ⟨Nat.le_of_ble_eq_true rfl, Nat.le_of_ble_eq_true rfl⟩ (Nat.le_of_ble_eq_true rfl) dX6_areLinked_3 ⟨Nat.le_of_ble_eq_true rfl, Nat.le_of_ble_eq_true rfl⟩) ?_
  refine lv_if_eq (tgt := 21) hx hb dX6_areLinked_6 (by decide) (fun zc_1 => ?_) (fun zc_1 => ?_)
  · skip
    have zc_1 : okn x1 (mT M) = false := b_f zc_1
    refine lv_iconst (v := 1) hx hb dX6_areLinked_21 (by decide) ?_
    refine q_w0 (q_runV (rest := []) hx hb hml hown hE (c_X6_goes l D cI cZ cL am M th A (wQ_D hD) 1) ck_X6_goes w_837 hP 0 rfl rfl hl.1 rfl ⟨Nat.le_of_ble_eq_true rfl, Nat.le_of_ble_eq_true rfl⟩ (Nat.le_of_ble_eq_true rfl) dX6_areLinked_22 ⟨Nat.le_of_ble_eq_true rfl, Nat.le_of_ble_eq_true rfl⟩) hS (fun H locs hP hS => ?_)
    have hI_c2 : J0 M := hI
    refine q_top (y := 0) (by decide) ?_
    refine lv_if_eq (tgt := 41) hx hb dX6_areLinked_25 (by decide) (fun zc_3 => ?_) (fun zc_3 => ?_)
    · skip
      refine lv_iconst (v := 0) hx hb dX6_areLinked_41 (by decide) ?_
      rw [show mLinked M x1 x2 = (0, 1, M) from by first | (simp only [mLinked, mm2, zc_1, ↓reduceIte]; done) | (simp only [mLinked, mm2, zc_1, ↓reduceIte]; rfl) | (simp [mLinked, mm2, zc_1]; done) | (simp [mLinked, mm2, zc_1]; rfl)]
      exact e_wret hx hb hr hlk (show narrow FieldType.boolean (Value.int 0) = Value.int 0 from by decide) hP hS dX6_areLinked_42
    · skip
      exact absurd zc_3 (by decide)
  · skip
    have zc_1 : okn x1 (mT M) = true := b_t zc_1
    obtain ⟨u1, hu1, eu1⟩ := okn_t (zc_1)
    subst eu1
    have iu1 : iN (nI u1) = u1 := iN_nI (by omega)
    refine lv_aload_n hx hb dX6_areLinked_9 rfl (lv_at hl 0 rfl) ?_
    refine lv_iload_n hx hb dX6_areLinked_10 rfl (lv_at hl 2 rfl) ?_
    refine q_rd (q_runV (rest := [.ref (am 0)]) hx hb hml hown hE (c_X6_isTeam l D cI cZ cL am M th x2 hI) ck_X6_isTeam w_891 hP 0 rfl rfl hl.1 rfl ⟨Nat.le_of_ble_eq_true rfl, Nat.le_of_ble_eq_true rfl⟩ (Nat.le_of_ble_eq_true rfl) dX6_areLinked_11 ⟨Nat.le_of_ble_eq_true rfl, Nat.le_of_ble_eq_true rfl⟩) ?_
    refine lv_if_eq (tgt := 21) hx hb dX6_areLinked_14 (by decide) (fun zc_4 => ?_) (fun zc_4 => ?_)
    · skip
      have zc_4 : okn x2 (mT M) = false := b_f zc_4
      refine lv_iconst (v := 1) hx hb dX6_areLinked_21 (by decide) ?_
      refine q_w0 (q_runV (rest := []) hx hb hml hown hE (c_X6_goes l D cI cZ cL am M th A (wQ_D hD) 1) ck_X6_goes w_837 hP 0 rfl rfl hl.1 rfl ⟨Nat.le_of_ble_eq_true rfl, Nat.le_of_ble_eq_true rfl⟩ (Nat.le_of_ble_eq_true rfl) dX6_areLinked_22 ⟨Nat.le_of_ble_eq_true rfl, Nat.le_of_ble_eq_true rfl⟩) hS (fun H locs hP hS => ?_)
      have hI_c5 : J0 M := hI
      refine q_top (y := 0) (by decide) ?_
      refine lv_if_eq (tgt := 41) hx hb dX6_areLinked_25 (by decide) (fun zc_6 => ?_) (fun zc_6 => ?_)
      · skip
        refine lv_iconst (v := 0) hx hb dX6_areLinked_41 (by decide) ?_
        rw [show mLinked M (nI u1) x2 = (0, 1, M) from by first | (simp only [mLinked, mm2, zc_1, iu1, zc_4, ↓reduceIte]; done) | (simp only [mLinked, mm2, zc_1, iu1, zc_4, ↓reduceIte]; rfl) | (simp [mLinked, mm2, zc_1, iu1, zc_4]; done) | (simp [mLinked, mm2, zc_1, iu1, zc_4]; rfl)]
        exact e_wret hx hb hr hlk (show narrow FieldType.boolean (Value.int 0) = Value.int 0 from by decide) hP hS dX6_areLinked_42
      · skip
        exact absurd zc_6 (by decide)
    · skip
      have zc_4 : okn x2 (mT M) = true := b_t zc_4
      obtain ⟨u2, hu2, eu2⟩ := okn_t (zc_4)
      subst eu2
      have iu2 : iN (nI u2) = u2 := iN_nI (by omega)
      refine lv_iconst (v := 0) hx hb dX6_areLinked_17 (by decide) ?_
      refine lv_goto (tgt := 22) hx hb dX6_areLinked_18 (by decide) ?_
      refine q_w0 (q_runV (rest := []) hx hb hml hown hE (c_X6_goes l D cI cZ cL am M th A (wQ_D hD) 0) ck_X6_goes w_837 hP 0 rfl rfl hl.1 rfl ⟨Nat.le_of_ble_eq_true rfl, Nat.le_of_ble_eq_true rfl⟩ (Nat.le_of_ble_eq_true rfl) dX6_areLinked_22 ⟨Nat.le_of_ble_eq_true rfl, Nat.le_of_ble_eq_true rfl⟩) hS (fun H locs hP hS => ?_)
      have hI_c7 : J0 M := hI
      refine q_top (y := 1) (by decide) ?_
      refine lv_if_eq (tgt := 41) hx hb dX6_areLinked_25 (by decide) (fun zc_8 => ?_) (fun zc_8 => ?_)
      · skip
        exact absurd zc_8 (by decide)
      · skip
        refine lv_aload_n hx hb dX6_areLinked_28 rfl (lv_at hl 0 rfl) ?_
        refine lv_iload_n hx hb dX6_areLinked_29 rfl (lv_at hl 1 rfl) ?_
        refine lv_iload_n hx hb dX6_areLinked_30 rfl (lv_at hl 2 rfl) ?_
        refine q_rd (q_runV (rest := []) hx hb hml hown hE (c_X6_are l D cI cZ cL am M 0 u1 u2 hI_c7 (by omega) (by omega)) ck_X6_are w_959 hP 0 rfl rfl hl.1 rfl ⟨Nat.le_of_ble_eq_true rfl, Nat.le_of_ble_eq_true rfl⟩ (Nat.le_of_ble_eq_true rfl) dX6_areLinked_31 ⟨Nat.le_of_ble_eq_true rfl, Nat.le_of_ble_eq_true rfl⟩) ?_
        refine lv_if_eq (tgt := 41) hx hb dX6_areLinked_34 (by decide) (fun zc_9 => ?_) (fun zc_9 => ?_)
        · skip
          have zc_9 : m_are M u1 u2 = false := b_f zc_9
          refine lv_iconst (v := 0) hx hb dX6_areLinked_41 (by decide) ?_
          rw [show mLinked M (nI u1) (nI u2) = (0, 0, M) from by first | (simp only [mLinked, mm2, zc_1, iu1, zc_4, iu2, zc_9, ↓reduceIte]; done) | (simp only [mLinked, mm2, zc_1, iu1, zc_4, iu2, zc_9, ↓reduceIte]; rfl) | (simp [mLinked, mm2, zc_1, iu1, zc_4, iu2, zc_9]; done) | (simp [mLinked, mm2, zc_1, iu1, zc_4, iu2, zc_9]; rfl)]
          exact e_wret hx hb hr hlk (show narrow FieldType.boolean (Value.int 0) = Value.int 0 from by decide) hP hS dX6_areLinked_42
        · skip
          have zc_9 : m_are M u1 u2 = true := b_t zc_9
          refine lv_iconst (v := 1) hx hb dX6_areLinked_37 (by decide) ?_
          refine lv_goto (tgt := 42) hx hb dX6_areLinked_38 (by decide) ?_
          rw [show mLinked M (nI u1) (nI u2) = (1, 0, M) from by first | (simp only [mLinked, mm2, zc_1, iu1, zc_4, iu2, zc_9, ↓reduceIte]; done) | (simp only [mLinked, mm2, zc_1, iu1, zc_4, iu2, zc_9, ↓reduceIte]; rfl) | (simp [mLinked, mm2, zc_1, iu1, zc_4, iu2, zc_9]; done) | (simp [mLinked, mm2, zc_1, iu1, zc_4, iu2, zc_9]; rfl)]
          exact e_wret hx hb hr hlk (show narrow FieldType.boolean (Value.int 1) = Value.int 1 from by decide) hP hS dX6_areLinked_42

theorem dX6_isCheated_0 : decode cX6_isCheated 0 = .ok (.aload_n 0, 1) := by decide +kernel
theorem dX6_isCheated_1 : decode cX6_isCheated 1 = .ok (.aload_n 0, 1) := by decide +kernel
theorem dX6_isCheated_2 : decode cX6_isCheated 2 = .ok (.iload_n 1, 1) := by decide +kernel
theorem dX6_isCheated_3 : decode cX6_isCheated 3 = .ok (.iload_n 2, 1) := by decide +kernel
theorem dX6_isCheated_4 : decode cX6_isCheated 4 = .ok (.invokevirtual 114, 3) := by decide +kernel
theorem dX6_isCheated_7 : decode cX6_isCheated 7 = .ok (.invokevirtual 76, 3) := by decide +kernel
theorem dX6_isCheated_10 : decode cX6_isCheated 10 = .ok (.ifCond .eq 20, 3) := by decide +kernel
theorem dX6_isCheated_13 : decode cX6_isCheated 13 = .ok (.aload_n 0, 1) := by decide +kernel
theorem dX6_isCheated_14 : decode cX6_isCheated 14 = .ok (.iload_n 1, 1) := by decide +kernel
theorem dX6_isCheated_15 : decode cX6_isCheated 15 = .ok (.invokevirtual 136, 3) := by decide +kernel
theorem dX6_isCheated_18 : decode cX6_isCheated 18 = .ok (.iload_n 2, 1) := by decide +kernel
theorem dX6_isCheated_19 : decode cX6_isCheated 19 = .ok (.ishr, 1) := by decide +kernel
theorem dX6_isCheated_20 : decode cX6_isCheated 20 = .ok (.iconst 1, 1) := by decide +kernel
theorem dX6_isCheated_21 : decode cX6_isCheated 21 = .ok (.iand, 1) := by decide +kernel
theorem dX6_isCheated_22 : decode cX6_isCheated 22 = .ok (.iconst 1, 1) := by decide +kernel
theorem dX6_isCheated_23 : decode cX6_isCheated 23 = .ok (.if_icmp .ne 7, 3) := by decide +kernel
theorem dX6_isCheated_26 : decode cX6_isCheated 26 = .ok (.iconst 1, 1) := by decide +kernel
theorem dX6_isCheated_27 : decode cX6_isCheated 27 = .ok (.goto 4, 3) := by decide +kernel
theorem dX6_isCheated_30 : decode cX6_isCheated 30 = .ok (.iconst 0, 1) := by decide +kernel
theorem dX6_isCheated_31 : decode cX6_isCheated 31 = .ok (.ireturn, 1) := by decide +kernel
set_option maxHeartbeats 4000000 in
set_option maxRecDepth 100000 in
theorem c_X6_isCheated (l : Launch) (D : va_G) (cI cZ cL : ClassId) (am : Nat → Nat) (M : Mem) (th : Int32) (A : Nat → Prop) (hD : va_D A (wQ am cI cZ M th)) (x1 : Int32) (x2 : Int32) (hI : J0 M) : WR l D cI cZ cL yX6_isCheated cX6_isCheated 3 (some .boolean) 9 [.ref (am 0), .int x1, .int x2] A (wQ am cI cZ M th) (wQ am cI cZ ((mCheat M x1 x2).2.2) ((mCheat M x1 x2).2.1)) (some (.int ((mCheat M x1 x2).1))) := by
  refine WR.of (by decide) (Nat.le_of_ble_eq_true rfl) ?_
  intro p e s m args below meth c ls hx hb hr hml hown hlk hE hP hS hl
  have hl : lv_has ls 3 [(0, .ref (am 0)), (1, .int x1), (2, .int x2)] := hl
  have hT8 := hI.T8
  have hR16 := hI.R16
  have hN200 := hI.N200
  refine lv_aload_n hx hb dX6_isCheated_0 rfl (lv_at hl 0 rfl) ?_
  refine lv_aload_n hx hb dX6_isCheated_1 rfl (lv_at hl 0 rfl) ?_
  refine lv_iload_n hx hb dX6_isCheated_2 rfl (lv_at hl 1 rfl) ?_
  refine lv_iload_n hx hb dX6_isCheated_3 rfl (lv_at hl 2 rfl) ?_
  refine q_rd (q_runV (rest := [.ref (am 0)]) hx hb hml hown hE (c_X6_wrong l D cI cZ cL am M th x1 x2 hI) ck_X6_wrong w_887 hP 0 rfl rfl hl.1 rfl ⟨Nat.le_of_ble_eq_true rfl, Nat.le_of_ble_eq_true rfl⟩ (Nat.le_of_ble_eq_true rfl) dX6_isCheated_4 ⟨Nat.le_of_ble_eq_true rfl, Nat.le_of_ble_eq_true rfl⟩) ?_
  refine q_w0 (q_runV (rest := []) hx hb hml hown hE (c_X6_goes l D cI cZ cL am M th A (wQ_D hD) (m_wrong M x1 x2)) ck_X6_goes w_837 hP 0 rfl rfl hl.1 rfl ⟨Nat.le_of_ble_eq_true rfl, Nat.le_of_ble_eq_true rfl⟩ (Nat.le_of_ble_eq_true rfl) dX6_isCheated_7 ⟨Nat.le_of_ble_eq_true rfl, Nat.le_of_ble_eq_true rfl⟩) hS (fun H locs hP hS => ?_)
  have hI_c1 : J0 M := hI
  refine lv_if_eq (tgt := 30) hx hb dX6_isCheated_10 (by decide) (fun zc_2 => ?_) (fun zc_2 => ?_)
  · skip
    have zc_2 : decide ((m_wrong M x1 x2) = 0) = false := b_f zc_2
    refine lv_iconst (v := 0) hx hb dX6_isCheated_30 (by decide) ?_
    rw [show mCheat M x1 x2 = (0, (m_wrong M x1 x2), M) from by first | exact mm2_no zc_2 | (simp only [mCheat, mm2, hb1, zc_2, ↓reduceIte]; done) | (simp only [mCheat, mm2, hb1, zc_2, ↓reduceIte]; rfl) | (simp [mCheat, mm2, hb1, zc_2]; done) | (simp [mCheat, mm2, hb1, zc_2]; rfl)]
    exact e_wret hx hb hr hlk (show narrow FieldType.boolean (Value.int 0) = Value.int 0 from by decide) hP hS dX6_isCheated_31
  · skip
    have zc_2 : decide ((m_wrong M x1 x2) = 0) = true := b_t zc_2
    have hw0 := of_decide_eq_true zc_2
    obtain ⟨k1, k2⟩ := m_wrong_ok zc_2
    obtain ⟨u1, hu1, eu1⟩ := okn_t (k1)
    subst eu1
    have iu1 : iN (nI u1) = u1 := iN_nI (by omega)
    obtain ⟨u2, hu2, eu2⟩ := okn_t (k2)
    subst eu2
    have iu2 : iN (nI u2) = u2 := iN_nI (by omega)
    refine lv_aload_n hx hb dX6_isCheated_13 rfl (lv_at hl 0 rfl) ?_
    refine lv_iload_n hx hb dX6_isCheated_14 rfl (lv_at hl 1 rfl) ?_
    refine q_rd (q_runV (rest := []) hx hb hml hown hE (c_X6_cheated l D cI cZ cL am M (m_wrong M (nI u1) (nI u2)) u1 hI_c1 (by omega)) ck_X6_cheated w_967 hP 0 rfl rfl hl.1 rfl ⟨Nat.le_of_ble_eq_true rfl, Nat.le_of_ble_eq_true rfl⟩ (Nat.le_of_ble_eq_true rfl) dX6_isCheated_15 ⟨Nat.le_of_ble_eq_true rfl, Nat.le_of_ble_eq_true rfl⟩) ?_
    refine lv_iload_n hx hb dX6_isCheated_18 rfl (lv_at hl 2 rfl) ?_
    refine lv_ishr hx hb dX6_isCheated_19 ?_
    refine lv_iconst (v := 1) hx hb dX6_isCheated_20 (by decide) ?_
    refine lv_iand hx hb dX6_isCheated_21 ?_
    refine lv_iconst (v := 1) hx hb dX6_isCheated_22 (by decide) ?_
    refine lv_icmp_ne (tgt := 30) hx hb dX6_isCheated_23 (by decide) (fun zc_3 => ?_) (fun zc_3 => ?_)
    · skip
      refine lv_iconst (v := 0) hx hb dX6_isCheated_30 (by decide) ?_
      rw [show mCheat M (nI u1) (nI u2) = (0, (m_wrong M (nI u1) (nI u2)), M) from by first | exact mm2_no zc_2 | (simp only [mCheat, mm2, hb1, zc_2, hw0, k1, k2, iu1, iu2, zc_3, ↓reduceIte]; done) | (simp only [mCheat, mm2, hb1, zc_2, hw0, k1, k2, iu1, iu2, zc_3, ↓reduceIte]; rfl) | (simp [mCheat, mm2, hb1, zc_2, hw0, k1, k2, iu1, iu2, zc_3]; done) | (simp [mCheat, mm2, hb1, zc_2, hw0, k1, k2, iu1, iu2, zc_3]; rfl)]
      exact e_wret hx hb hr hlk (show narrow FieldType.boolean (Value.int 0) = Value.int 0 from by decide) hP hS dX6_isCheated_31
    · skip
      have ec_3 := eq_true zc_3
      refine lv_iconst (v := 1) hx hb dX6_isCheated_26 (by decide) ?_
      refine lv_goto (tgt := 31) hx hb dX6_isCheated_27 (by decide) ?_
      rw [show mCheat M (nI u1) (nI u2) = (1, (m_wrong M (nI u1) (nI u2)), M) from by first | exact mm2_no zc_2 | (simp only [mCheat, mm2, hb1, zc_2, hw0, k1, k2, iu1, iu2, ec_3, ↓reduceIte]; done) | (simp only [mCheat, mm2, hb1, zc_2, hw0, k1, k2, iu1, iu2, ec_3, ↓reduceIte]; rfl) | (simp [mCheat, mm2, hb1, zc_2, hw0, k1, k2, iu1, iu2, ec_3]; done) | (simp [mCheat, mm2, hb1, zc_2, hw0, k1, k2, iu1, iu2, ec_3]; rfl)]
      exact e_wret hx hb hr hlk (show narrow FieldType.boolean (Value.int 1) = Value.int 1 from by decide) hP hS dX6_isCheated_31

theorem dX6_isVoid_0 : decode cX6_isVoid 0 = .ok (.aload_n 0, 1) := by decide +kernel
theorem dX6_isVoid_1 : decode cX6_isVoid 1 = .ok (.aload_n 0, 1) := by decide +kernel
theorem dX6_isVoid_2 : decode cX6_isVoid 2 = .ok (.iload_n 1, 1) := by decide +kernel
theorem dX6_isVoid_3 : decode cX6_isVoid 3 = .ok (.iload_n 2, 1) := by decide +kernel
theorem dX6_isVoid_4 : decode cX6_isVoid 4 = .ok (.invokevirtual 114, 3) := by decide +kernel
theorem dX6_isVoid_7 : decode cX6_isVoid 7 = .ok (.invokevirtual 76, 3) := by decide +kernel
theorem dX6_isVoid_10 : decode cX6_isVoid 10 = .ok (.ifCond .eq 20, 3) := by decide +kernel
theorem dX6_isVoid_13 : decode cX6_isVoid 13 = .ok (.aload_n 0, 1) := by decide +kernel
theorem dX6_isVoid_14 : decode cX6_isVoid 14 = .ok (.iload_n 1, 1) := by decide +kernel
theorem dX6_isVoid_15 : decode cX6_isVoid 15 = .ok (.invokevirtual 139, 3) := by decide +kernel
theorem dX6_isVoid_18 : decode cX6_isVoid 18 = .ok (.iload_n 2, 1) := by decide +kernel
theorem dX6_isVoid_19 : decode cX6_isVoid 19 = .ok (.ishr, 1) := by decide +kernel
theorem dX6_isVoid_20 : decode cX6_isVoid 20 = .ok (.iconst 1, 1) := by decide +kernel
theorem dX6_isVoid_21 : decode cX6_isVoid 21 = .ok (.iand, 1) := by decide +kernel
theorem dX6_isVoid_22 : decode cX6_isVoid 22 = .ok (.iconst 1, 1) := by decide +kernel
theorem dX6_isVoid_23 : decode cX6_isVoid 23 = .ok (.if_icmp .ne 7, 3) := by decide +kernel
theorem dX6_isVoid_26 : decode cX6_isVoid 26 = .ok (.iconst 1, 1) := by decide +kernel
theorem dX6_isVoid_27 : decode cX6_isVoid 27 = .ok (.goto 4, 3) := by decide +kernel
theorem dX6_isVoid_30 : decode cX6_isVoid 30 = .ok (.iconst 0, 1) := by decide +kernel
theorem dX6_isVoid_31 : decode cX6_isVoid 31 = .ok (.ireturn, 1) := by decide +kernel
set_option maxHeartbeats 4000000 in
set_option maxRecDepth 100000 in
theorem c_X6_isVoid (l : Launch) (D : va_G) (cI cZ cL : ClassId) (am : Nat → Nat) (M : Mem) (th : Int32) (A : Nat → Prop) (hD : va_D A (wQ am cI cZ M th)) (x1 : Int32) (x2 : Int32) (hI : J0 M) : WR l D cI cZ cL yX6_isVoid cX6_isVoid 3 (some .boolean) 9 [.ref (am 0), .int x1, .int x2] A (wQ am cI cZ M th) (wQ am cI cZ ((mVoid M x1 x2).2.2) ((mVoid M x1 x2).2.1)) (some (.int ((mVoid M x1 x2).1))) := by
  refine WR.of (by decide) (Nat.le_of_ble_eq_true rfl) ?_
  intro p e s m args below meth c ls hx hb hr hml hown hlk hE hP hS hl
  have hl : lv_has ls 3 [(0, .ref (am 0)), (1, .int x1), (2, .int x2)] := hl
  have hT8 := hI.T8
  have hR16 := hI.R16
  have hN200 := hI.N200
  refine lv_aload_n hx hb dX6_isVoid_0 rfl (lv_at hl 0 rfl) ?_
  refine lv_aload_n hx hb dX6_isVoid_1 rfl (lv_at hl 0 rfl) ?_
  refine lv_iload_n hx hb dX6_isVoid_2 rfl (lv_at hl 1 rfl) ?_
  refine lv_iload_n hx hb dX6_isVoid_3 rfl (lv_at hl 2 rfl) ?_
  refine q_rd (q_runV (rest := [.ref (am 0)]) hx hb hml hown hE (c_X6_wrong l D cI cZ cL am M th x1 x2 hI) ck_X6_wrong w_887 hP 0 rfl rfl hl.1 rfl ⟨Nat.le_of_ble_eq_true rfl, Nat.le_of_ble_eq_true rfl⟩ (Nat.le_of_ble_eq_true rfl) dX6_isVoid_4 ⟨Nat.le_of_ble_eq_true rfl, Nat.le_of_ble_eq_true rfl⟩) ?_
  refine q_w0 (q_runV (rest := []) hx hb hml hown hE (c_X6_goes l D cI cZ cL am M th A (wQ_D hD) (m_wrong M x1 x2)) ck_X6_goes w_837 hP 0 rfl rfl hl.1 rfl ⟨Nat.le_of_ble_eq_true rfl, Nat.le_of_ble_eq_true rfl⟩ (Nat.le_of_ble_eq_true rfl) dX6_isVoid_7 ⟨Nat.le_of_ble_eq_true rfl, Nat.le_of_ble_eq_true rfl⟩) hS (fun H locs hP hS => ?_)
  have hI_c1 : J0 M := hI
  refine lv_if_eq (tgt := 30) hx hb dX6_isVoid_10 (by decide) (fun zc_2 => ?_) (fun zc_2 => ?_)
  · skip
    have zc_2 : decide ((m_wrong M x1 x2) = 0) = false := b_f zc_2
    refine lv_iconst (v := 0) hx hb dX6_isVoid_30 (by decide) ?_
    rw [show mVoid M x1 x2 = (0, (m_wrong M x1 x2), M) from by first | exact mm2_no zc_2 | (simp only [mVoid, mm2, hb1, zc_2, ↓reduceIte]; done) | (simp only [mVoid, mm2, hb1, zc_2, ↓reduceIte]; rfl) | (simp [mVoid, mm2, hb1, zc_2]; done) | (simp [mVoid, mm2, hb1, zc_2]; rfl)]
    exact e_wret hx hb hr hlk (show narrow FieldType.boolean (Value.int 0) = Value.int 0 from by decide) hP hS dX6_isVoid_31
  · skip
    have zc_2 : decide ((m_wrong M x1 x2) = 0) = true := b_t zc_2
    have hw0 := of_decide_eq_true zc_2
    obtain ⟨k1, k2⟩ := m_wrong_ok zc_2
    obtain ⟨u1, hu1, eu1⟩ := okn_t (k1)
    subst eu1
    have iu1 : iN (nI u1) = u1 := iN_nI (by omega)
    obtain ⟨u2, hu2, eu2⟩ := okn_t (k2)
    subst eu2
    have iu2 : iN (nI u2) = u2 := iN_nI (by omega)
    refine lv_aload_n hx hb dX6_isVoid_13 rfl (lv_at hl 0 rfl) ?_
    refine lv_iload_n hx hb dX6_isVoid_14 rfl (lv_at hl 1 rfl) ?_
    refine q_rd (q_runV (rest := []) hx hb hml hown hE (c_X6_voids l D cI cZ cL am M (m_wrong M (nI u1) (nI u2)) u1 hI_c1 (by omega)) ck_X6_voids w_975 hP 0 rfl rfl hl.1 rfl ⟨Nat.le_of_ble_eq_true rfl, Nat.le_of_ble_eq_true rfl⟩ (Nat.le_of_ble_eq_true rfl) dX6_isVoid_15 ⟨Nat.le_of_ble_eq_true rfl, Nat.le_of_ble_eq_true rfl⟩) ?_
    refine lv_iload_n hx hb dX6_isVoid_18 rfl (lv_at hl 2 rfl) ?_
    refine lv_ishr hx hb dX6_isVoid_19 ?_
    refine lv_iconst (v := 1) hx hb dX6_isVoid_20 (by decide) ?_
    refine lv_iand hx hb dX6_isVoid_21 ?_
    refine lv_iconst (v := 1) hx hb dX6_isVoid_22 (by decide) ?_
    refine lv_icmp_ne (tgt := 30) hx hb dX6_isVoid_23 (by decide) (fun zc_3 => ?_) (fun zc_3 => ?_)
    · skip
      refine lv_iconst (v := 0) hx hb dX6_isVoid_30 (by decide) ?_
      rw [show mVoid M (nI u1) (nI u2) = (0, (m_wrong M (nI u1) (nI u2)), M) from by first | exact mm2_no zc_2 | (simp only [mVoid, mm2, hb1, zc_2, hw0, k1, k2, iu1, iu2, zc_3, ↓reduceIte]; done) | (simp only [mVoid, mm2, hb1, zc_2, hw0, k1, k2, iu1, iu2, zc_3, ↓reduceIte]; rfl) | (simp [mVoid, mm2, hb1, zc_2, hw0, k1, k2, iu1, iu2, zc_3]; done) | (simp [mVoid, mm2, hb1, zc_2, hw0, k1, k2, iu1, iu2, zc_3]; rfl)]
      exact e_wret hx hb hr hlk (show narrow FieldType.boolean (Value.int 0) = Value.int 0 from by decide) hP hS dX6_isVoid_31
    · skip
      have ec_3 := eq_true zc_3
      refine lv_iconst (v := 1) hx hb dX6_isVoid_26 (by decide) ?_
      refine lv_goto (tgt := 31) hx hb dX6_isVoid_27 (by decide) ?_
      rw [show mVoid M (nI u1) (nI u2) = (1, (m_wrong M (nI u1) (nI u2)), M) from by first | exact mm2_no zc_2 | (simp only [mVoid, mm2, hb1, zc_2, hw0, k1, k2, iu1, iu2, ec_3, ↓reduceIte]; done) | (simp only [mVoid, mm2, hb1, zc_2, hw0, k1, k2, iu1, iu2, ec_3, ↓reduceIte]; rfl) | (simp [mVoid, mm2, hb1, zc_2, hw0, k1, k2, iu1, iu2, ec_3]; done) | (simp [mVoid, mm2, hb1, zc_2, hw0, k1, k2, iu1, iu2, ec_3]; rfl)]
      exact e_wret hx hb hr hlk (show narrow FieldType.boolean (Value.int 1) = Value.int 1 from by decide) hP hS dX6_isVoid_31

theorem dX6_hanging_0 : decode cX6_hanging 0 = .ok (.aload_n 0, 1) := by decide +kernel
theorem dX6_hanging_1 : decode cX6_hanging 1 = .ok (.aload_n 0, 1) := by decide +kernel
theorem dX6_hanging_2 : decode cX6_hanging 2 = .ok (.iload_n 1, 1) := by decide +kernel
theorem dX6_hanging_3 : decode cX6_hanging 3 = .ok (.invokevirtual 91, 3) := by decide +kernel
theorem dX6_hanging_6 : decode cX6_hanging 6 = .ok (.ifCond .eq 7, 3) := by decide +kernel
theorem dX6_hanging_9 : decode cX6_hanging 9 = .ok (.iconst 0, 1) := by decide +kernel
theorem dX6_hanging_10 : decode cX6_hanging 10 = .ok (.goto 4, 3) := by decide +kernel
theorem dX6_hanging_13 : decode cX6_hanging 13 = .ok (.iconst 1, 1) := by decide +kernel
theorem dX6_hanging_14 : decode cX6_hanging 14 = .ok (.invokevirtual 76, 3) := by decide +kernel
theorem dX6_hanging_17 : decode cX6_hanging 17 = .ok (.ifCond .ne 5, 3) := by decide +kernel
theorem dX6_hanging_20 : decode cX6_hanging 20 = .ok (.iconst 0, 1) := by decide +kernel
theorem dX6_hanging_21 : decode cX6_hanging 21 = .ok (.ireturn, 1) := by decide +kernel
theorem dX6_hanging_22 : decode cX6_hanging 22 = .ok (.iconst 0, 1) := by decide +kernel
theorem dX6_hanging_23 : decode cX6_hanging 23 = .ok (.istore_n 2, 1) := by decide +kernel
theorem dX6_hanging_24 : decode cX6_hanging 24 = .ok (.iload_n 1, 1) := by decide +kernel
theorem dX6_hanging_25 : decode cX6_hanging 25 = .ok (.iconst 1, 1) := by decide +kernel
theorem dX6_hanging_26 : decode cX6_hanging 26 = .ok (.iadd, 1) := by decide +kernel
theorem dX6_hanging_27 : decode cX6_hanging 27 = .ok (.istore_n 3, 1) := by decide +kernel
theorem dX6_hanging_28 : decode cX6_hanging 28 = .ok (.iload_n 3, 1) := by decide +kernel
theorem dX6_hanging_29 : decode cX6_hanging 29 = .ok (.aload_n 0, 1) := by decide +kernel
theorem dX6_hanging_30 : decode cX6_hanging 30 = .ok (.getfield 63, 3) := by decide +kernel
theorem dX6_hanging_33 : decode cX6_hanging 33 = .ok (.if_icmp .ge 34, 3) := by decide +kernel
theorem dX6_hanging_36 : decode cX6_hanging 36 = .ok (.iload_n 2, 1) := by decide +kernel
theorem dX6_hanging_37 : decode cX6_hanging 37 = .ok (.aload_n 0, 1) := by decide +kernel
theorem dX6_hanging_38 : decode cX6_hanging 38 = .ok (.getfield 22, 3) := by decide +kernel
theorem dX6_hanging_41 : decode cX6_hanging 41 = .ok (.iload_n 3, 1) := by decide +kernel
theorem dX6_hanging_42 : decode cX6_hanging 42 = .ok (.iaload, 1) := by decide +kernel
theorem dX6_hanging_43 : decode cX6_hanging 43 = .ok (.iload_n 2, 1) := by decide +kernel
theorem dX6_hanging_44 : decode cX6_hanging 44 = .ok (.iconst 1, 1) := by decide +kernel
theorem dX6_hanging_45 : decode cX6_hanging 45 = .ok (.iload_n 1, 1) := by decide +kernel
theorem dX6_hanging_46 : decode cX6_hanging 46 = .ok (.ishl, 1) := by decide +kernel
theorem dX6_hanging_47 : decode cX6_hanging 47 = .ok (.ior, 1) := by decide +kernel
theorem dX6_hanging_48 : decode cX6_hanging 48 = .ok (.iand, 1) := by decide +kernel
theorem dX6_hanging_49 : decode cX6_hanging 49 = .ok (.ifCond .eq 9, 3) := by decide +kernel
theorem dX6_hanging_52 : decode cX6_hanging 52 = .ok (.iconst 1, 1) := by decide +kernel
theorem dX6_hanging_53 : decode cX6_hanging 53 = .ok (.iload_n 3, 1) := by decide +kernel
theorem dX6_hanging_54 : decode cX6_hanging 54 = .ok (.ishl, 1) := by decide +kernel
theorem dX6_hanging_55 : decode cX6_hanging 55 = .ok (.goto 4, 3) := by decide +kernel
theorem dX6_hanging_58 : decode cX6_hanging 58 = .ok (.iconst 0, 1) := by decide +kernel
theorem dX6_hanging_59 : decode cX6_hanging 59 = .ok (.ior, 1) := by decide +kernel
theorem dX6_hanging_60 : decode cX6_hanging 60 = .ok (.istore_n 2, 1) := by decide +kernel
theorem dX6_hanging_61 : decode cX6_hanging 61 = .ok (.iinc 3 1, 3) := by decide +kernel
theorem dX6_hanging_64 : decode cX6_hanging 64 = .ok (.goto (-36), 3) := by decide +kernel
theorem dX6_hanging_67 : decode cX6_hanging 67 = .ok (.iload_n 2, 1) := by decide +kernel
theorem dX6_hanging_68 : decode cX6_hanging 68 = .ok (.ireturn, 1) := by decide +kernel
set_option maxHeartbeats 4000000 in
set_option maxRecDepth 100000 in
theorem c_X6_hanging (l : Launch) (D : va_G) (cI cZ cL : ClassId) (am : Nat → Nat) (M : Mem) (th : Int32) (A : Nat → Prop) (hD : va_D A (wQ am cI cZ M th)) (x1 : Int32) (hI : J0 M) : WR l D cI cZ cL yX6_hanging cX6_hanging 4 (some .int) 9 [.ref (am 0), .int x1] A (wQ am cI cZ M th) (wQ am cI cZ ((mHang M x1).2.2) ((mHang M x1).2.1)) (some (.int ((mHang M x1).1))) := by
  refine WR.of (by decide) (Nat.le_of_ble_eq_true rfl) ?_
  intro p e s m args below meth c ls hx hb hr hml hown hlk hE hP hS hl
  have hl : lv_has ls 4 [(0, .ref (am 0)), (1, .int x1)] := hl
  have hT8 := hI.T8
  have hR16 := hI.R16
  have hN200 := hI.N200
  refine lv_aload_n hx hb dX6_hanging_0 rfl (lv_at hl 0 rfl) ?_
  refine lv_aload_n hx hb dX6_hanging_1 rfl (lv_at hl 0 rfl) ?_
  refine lv_iload_n hx hb dX6_hanging_2 rfl (lv_at hl 1 rfl) ?_
  refine q_rd (q_runV (rest := [.ref (am 0)]) hx hb hml hown hE (c_X6_isRiddle l D cI cZ cL am M th x1 hI) ck_X6_isRiddle w_853 hP 0 rfl rfl hl.1 rfl ⟨Nat.le_of_ble_eq_true rfl, Nat.le_of_ble_eq_true rfl⟩ (Nat.le_of_ble_eq_true rfl) dX6_hanging_3 ⟨Nat.le_of_ble_eq_true rfl, Nat.le_of_ble_eq_true rfl⟩) ?_
  refine lv_if_eq (tgt := 13) hx hb dX6_hanging_6 (by decide) (fun zc_1 => ?_) (fun zc_1 => ?_)
  · skip
    have zc_1 : okn x1 (mR M) = false := b_f zc_1
    refine lv_iconst (v := 1) hx hb dX6_hanging_13 (by decide) ?_
    refine q_w0 (q_runV (rest := []) hx hb hml hown hE (c_X6_goes l D cI cZ cL am M th A (wQ_D hD) 1) ck_X6_goes w_837 hP 0 rfl rfl hl.1 rfl ⟨Nat.le_of_ble_eq_true rfl, Nat.le_of_ble_eq_true rfl⟩ (Nat.le_of_ble_eq_true rfl) dX6_hanging_14 ⟨Nat.le_of_ble_eq_true rfl, Nat.le_of_ble_eq_true rfl⟩) hS (fun H locs hP hS => ?_)
    have hI_c2 : J0 M := hI
    refine q_top (y := 0) (by decide) ?_
    refine lv_if_ne (tgt := 22) hx hb dX6_hanging_17 (by decide) (fun zc_3 => ?_) (fun zc_3 => ?_)
    · skip
      exact absurd zc_3 (by decide)
    · skip
      refine lv_iconst (v := 0) hx hb dX6_hanging_20 (by decide) ?_
      rw [show mHang M x1 = (0, 1, M) from by first | (simp only [mHang, mm1, m_hang, zc_1, ↓reduceIte]; done) | (simp only [mHang, mm1, m_hang, zc_1, ↓reduceIte]; rfl) | (simp [mHang, mm1, m_hang, zc_1]; done) | (simp [mHang, mm1, m_hang, zc_1]; rfl)]
      exact e_wret hx hb hr hlk rfl hP hS dX6_hanging_21
  · skip
    have zc_1 : okn x1 (mR M) = true := b_t zc_1
    obtain ⟨u1, hu1, eu1⟩ := okn_t (zc_1)
    subst eu1
    have iu1 : iN (nI u1) = u1 := iN_nI (by omega)
    refine lv_iconst (v := 0) hx hb dX6_hanging_9 (by decide) ?_
    refine lv_goto (tgt := 14) hx hb dX6_hanging_10 (by decide) ?_
    refine q_w0 (q_runV (rest := []) hx hb hml hown hE (c_X6_goes l D cI cZ cL am M th A (wQ_D hD) 0) ck_X6_goes w_837 hP 0 rfl rfl hl.1 rfl ⟨Nat.le_of_ble_eq_true rfl, Nat.le_of_ble_eq_true rfl⟩ (Nat.le_of_ble_eq_true rfl) dX6_hanging_14 ⟨Nat.le_of_ble_eq_true rfl, Nat.le_of_ble_eq_true rfl⟩) hS (fun H locs hP hS => ?_)
    have hI_c4 : J0 M := hI
    refine q_top (y := 1) (by decide) ?_
    refine lv_if_ne (tgt := 22) hx hb dX6_hanging_17 (by decide) (fun zc_5 => ?_) (fun zc_5 => ?_)
    · skip
      refine lv_iconst (v := 0) hx hb dX6_hanging_22 (by decide) ?_
      refine lv_istore_n (lv' := [(2, .int 0), (0, .ref (am 0)), (1, .int (nI u1))]) hx hb dX6_hanging_23 rfl hl (by decide) rfl (fun ls hl => ?_)
      refine lv_iload_n hx hb dX6_hanging_24 rfl (lv_at hl 2 rfl) ?_
      refine lv_iconst (v := 1) hx hb dX6_hanging_25 (by decide) ?_
      refine lv_iadd hx hb dX6_hanging_26 ?_
      refine q_top (y := nI (u1 + 1)) (nI_add u1 1) ?_
      refine lv_istore_n (lv' := [(3, .int (nI (u1 + 1))), (2, .int 0), (0, .ref (am 0)), (1, .int (nI u1))]) hx hb dX6_hanging_27 rfl hl (by decide) rfl (fun ls hl => ?_)
      have hloop_28 : ∀ (n i : Nat), i ≤ mR M - (u1 + 1) → mR M - (u1 + 1) < i + n → ∀ ls : Array Slot, lv_has ls 4 [(3, .int (nI (u1 + 1 + i))), (2, .int (m_hg M u1 i)), (0, .ref (am 0)), (1, .int (nI u1))] → W p l e (rm 9 0 0) s m args below meth c H locs 0 0 (MQ below (Qwr D A (wQ am cI cZ ((mHang M (nI u1)).2.2) ((mHang M (nI u1)).2.1)) (some (.int ((mHang M (nI u1)).1)))) args s 0 0 A) (F0 m 28 ls []) := by
        intro n
        induction n with
        | zero => intro i h1 h2; exact absurd h2 (by omega)
        | succ n ih_28 =>
          intro i hi_28 hin_28  ls hl
          refine lv_iload_n hx hb dX6_hanging_28 rfl (lv_at hl 0 rfl) ?_
          refine lv_aload_n hx hb dX6_hanging_29 rfl (lv_at hl 2 rfl) ?_
          refine q_get (v := .int (M 0 2)) hx hb hown hE inT_X6 hP 0 rfl rfl 2 (by decide) w_760 rfl dX6_hanging_30 ?_
          refine q_top (y := nI (mR M)) (J0.R hI_c4) ?_
          refine lv_icmp_ge (tgt := 67) hx hb dX6_hanging_33 (by decide) (fun zc_6 => ?_) (fun zc_6 => ?_)
          · skip
            have zc_6 : (mR M) ≤ (u1 + 1 + i) := n_le (a := mR M) (b := u1 + 1 + i) (by omega) (by omega) zc_6
            have hend_28 : mR M - (u1 + 1) = i := by omega
            subst hend_28
            refine lv_iload_n hx hb dX6_hanging_67 rfl (lv_at hl 1 rfl) ?_
            rw [show mHang M (nI u1) = (m_hg M u1 (mR M - (u1 + 1)), 0, M) from by first | (simp only [mHang, mm1, m_hang, zc_1, iu1, ↓reduceIte]; done) | (simp only [mHang, mm1, m_hang, zc_1, iu1, ↓reduceIte]; rfl) | (simp [mHang, mm1, m_hang, zc_1, iu1]; done) | (simp [mHang, mm1, m_hang, zc_1, iu1]; rfl)]
            exact e_wret hx hb hr hlk rfl hP hS dX6_hanging_68
          · skip
            have zc_6 : (u1 + 1 + i) < (mR M) := n_nle (a := mR M) (b := u1 + 1 + i) (by omega) (by omega) zc_6
            refine lv_iload_n hx hb dX6_hanging_36 rfl (lv_at hl 1 rfl) ?_
            refine lv_aload_n hx hb dX6_hanging_37 rfl (lv_at hl 2 rfl) ?_
            refine q_get (v := .ref (am 5)) hx hb hown hE inT_X6 hP 0 rfl rfl 7 (by decide) w_765 rfl dX6_hanging_38 ?_
            refine lv_iload_n hx hb dX6_hanging_41 rfl (lv_at hl 0 rfl) ?_
            refine q_iald (f := M 5) (i := (u1 + 1 + i)) hx hb hE hP 5 rfl (by omega) (Nat.le_of_ble_eq_true rfl) dX6_hanging_42 ?_
            refine lv_iload_n hx hb dX6_hanging_43 rfl (lv_at hl 1 rfl) ?_
            refine lv_iconst (v := 1) hx hb dX6_hanging_44 (by decide) ?_
            refine lv_iload_n hx hb dX6_hanging_45 rfl (lv_at hl 3 rfl) ?_
            refine lv_ishl hx hb dX6_hanging_46 ?_
            refine q_top (y := bt (nI u1)) rfl ?_
            refine lv_ior hx hb dX6_hanging_47 ?_
            refine lv_iand hx hb dX6_hanging_48 ?_
            refine lv_if_eq (tgt := 58) hx hb dX6_hanging_49 (by decide) (fun zc_7 => ?_) (fun zc_7 => ?_)
            · skip
              have ec_7 := eq_true zc_7
              refine lv_iconst (v := 0) hx hb dX6_hanging_58 (by decide) ?_
              refine lv_ior hx hb dX6_hanging_59 ?_
              refine lv_istore_n (lv' := [(2, .int ((m_hg M u1 i) ||| 0)), (3, .int (nI (u1 + 1 + i))), (0, .ref (am 0)), (1, .int (nI u1))]) hx hb dX6_hanging_60 rfl hl (by decide) rfl (fun ls hl => ?_)
              refine lv_iinc (v := nI ((u1 + 1 + i) + 1)) (lv' := [(3, .int (nI ((u1 + 1 + i) + 1))), (2, .int ((m_hg M u1 i) ||| 0)), (0, .ref (am 0)), (1, .int (nI u1))]) hx hb dX6_hanging_61 hl (k := 1) rfl (nI_1 (u1 + 1 + i)) (by decide) rfl (fun ls hl => ?_)
              refine lv_goto (tgt := 28) hx hb dX6_hanging_64 (by decide) ?_
              refine ih_28 (i + 1) (by omega) (by omega)  ls ?_
              rw [show m_hg M u1 (i + 1) = (m_hg M u1 i) ||| 0 from by first | (simp only [bI, m_hg, zc_6, ec_7, ↓reduceIte]; done) | (simp [bI, m_hg, zc_6, ec_7]; done) | (simp_all [bI, m_hg]; done)]
              exact lv_sub hl [0, 1, 2, 3] rfl
            · skip
              refine lv_iconst (v := 1) hx hb dX6_hanging_52 (by decide) ?_
              refine lv_iload_n hx hb dX6_hanging_53 rfl (lv_at hl 0 rfl) ?_
              refine lv_ishl hx hb dX6_hanging_54 ?_
              refine q_top (y := bt (nI (u1 + 1 + i))) rfl ?_
              refine lv_goto (tgt := 59) hx hb dX6_hanging_55 (by decide) ?_
              refine lv_ior hx hb dX6_hanging_59 ?_
              refine lv_istore_n (lv' := [(2, .int ((m_hg M u1 i) ||| (bt (nI (u1 + 1 + i))))), (3, .int (nI (u1 + 1 + i))), (0, .ref (am 0)), (1, .int (nI u1))]) hx hb dX6_hanging_60 rfl hl (by decide) rfl (fun ls hl => ?_)
              refine lv_iinc (v := nI ((u1 + 1 + i) + 1)) (lv' := [(3, .int (nI ((u1 + 1 + i) + 1))), (2, .int ((m_hg M u1 i) ||| (bt (nI (u1 + 1 + i))))), (0, .ref (am 0)), (1, .int (nI u1))]) hx hb dX6_hanging_61 hl (k := 1) rfl (nI_1 (u1 + 1 + i)) (by decide) rfl (fun ls hl => ?_)
              refine lv_goto (tgt := 28) hx hb dX6_hanging_64 (by decide) ?_
              refine ih_28 (i + 1) (by omega) (by omega)  ls ?_
              rw [show m_hg M u1 (i + 1) = (m_hg M u1 i) ||| (bt (nI (u1 + 1 + i))) from by first | (simp only [bI, m_hg, zc_6, zc_7, ↓reduceIte]; done) | (simp [bI, m_hg, zc_6, zc_7]; done) | (simp_all [bI, m_hg]; done)]
              exact lv_sub hl [0, 1, 2, 3] rfl
      refine hloop_28 (mR M - (u1 + 1) + 1) 0 (by omega) (by omega)  ls ?_
      rw [show u1 + 1 + 0 = u1 + 1 from by first | rfl | (first | (simp only [bI, m_hg, zc_1, iu1, ↓reduceIte]; done) | (simp [bI, m_hg, zc_1, iu1]; done) | (simp_all [bI, m_hg]; done))]
      rw [show m_hg M u1 0 = 0 from by first | rfl | (first | (simp only [bI, m_hg, zc_1, iu1, ↓reduceIte]; done) | (simp [bI, m_hg, zc_1, iu1]; done) | (simp_all [bI, m_hg]; done))]
      exact lv_sub hl [0, 1, 2, 3] rfl
    · skip
      exact absurd zc_5 (by decide)

theorem dX6_scored_0 : decode cX6_scored 0 = .ok (.aload_n 0, 1) := by decide +kernel
theorem dX6_scored_1 : decode cX6_scored 1 = .ok (.aload_n 0, 1) := by decide +kernel
theorem dX6_scored_2 : decode cX6_scored 2 = .ok (.iload_n 1, 1) := by decide +kernel
theorem dX6_scored_3 : decode cX6_scored 3 = .ok (.invokevirtual 108, 3) := by decide +kernel
theorem dX6_scored_6 : decode cX6_scored 6 = .ok (.ifCond .eq 7, 3) := by decide +kernel
theorem dX6_scored_9 : decode cX6_scored 9 = .ok (.iconst 0, 1) := by decide +kernel
theorem dX6_scored_10 : decode cX6_scored 10 = .ok (.goto 4, 3) := by decide +kernel
theorem dX6_scored_13 : decode cX6_scored 13 = .ok (.iconst 1, 1) := by decide +kernel
theorem dX6_scored_14 : decode cX6_scored 14 = .ok (.invokevirtual 76, 3) := by decide +kernel
theorem dX6_scored_17 : decode cX6_scored 17 = .ok (.ifCond .eq 11, 3) := by decide +kernel
theorem dX6_scored_20 : decode cX6_scored 20 = .ok (.aload_n 0, 1) := by decide +kernel
theorem dX6_scored_21 : decode cX6_scored 21 = .ok (.iload_n 1, 1) := by decide +kernel
theorem dX6_scored_22 : decode cX6_scored 22 = .ok (.invokevirtual 145, 3) := by decide +kernel
theorem dX6_scored_25 : decode cX6_scored 25 = .ok (.goto 4, 3) := by decide +kernel
theorem dX6_scored_28 : decode cX6_scored 28 = .ok (.iconst 0, 1) := by decide +kernel
theorem dX6_scored_29 : decode cX6_scored 29 = .ok (.ireturn, 1) := by decide +kernel
set_option maxHeartbeats 4000000 in
set_option maxRecDepth 100000 in
theorem c_X6_scored (l : Launch) (D : va_G) (cI cZ cL : ClassId) (am : Nat → Nat) (M : Mem) (th : Int32) (A : Nat → Prop) (hD : va_D A (wQ am cI cZ M th)) (x1 : Int32) (hI : J0 M) : WR l D cI cZ cL yX6_scored cX6_scored 2 (some .int) 9 [.ref (am 0), .int x1] A (wQ am cI cZ M th) (wQ am cI cZ ((mScore M x1).2.2) ((mScore M x1).2.1)) (some (.int ((mScore M x1).1))) := by
  refine WR.of (by decide) (Nat.le_of_ble_eq_true rfl) ?_
  intro p e s m args below meth c ls hx hb hr hml hown hlk hE hP hS hl
  have hl : lv_has ls 2 [(0, .ref (am 0)), (1, .int x1)] := hl
  have hT8 := hI.T8
  have hR16 := hI.R16
  have hN200 := hI.N200
  refine lv_aload_n hx hb dX6_scored_0 rfl (lv_at hl 0 rfl) ?_
  refine lv_aload_n hx hb dX6_scored_1 rfl (lv_at hl 0 rfl) ?_
  refine lv_iload_n hx hb dX6_scored_2 rfl (lv_at hl 1 rfl) ?_
  refine q_rd (q_runV (rest := [.ref (am 0)]) hx hb hml hown hE (c_X6_isTeam l D cI cZ cL am M th x1 hI) ck_X6_isTeam w_891 hP 0 rfl rfl hl.1 rfl ⟨Nat.le_of_ble_eq_true rfl, Nat.le_of_ble_eq_true rfl⟩ (Nat.le_of_ble_eq_true rfl) dX6_scored_3 ⟨Nat.le_of_ble_eq_true rfl, Nat.le_of_ble_eq_true rfl⟩) ?_
  refine lv_if_eq (tgt := 13) hx hb dX6_scored_6 (by decide) (fun zc_1 => ?_) (fun zc_1 => ?_)
  · skip
    have zc_1 : okn x1 (mT M) = false := b_f zc_1
    refine lv_iconst (v := 1) hx hb dX6_scored_13 (by decide) ?_
    refine q_w0 (q_runV (rest := []) hx hb hml hown hE (c_X6_goes l D cI cZ cL am M th A (wQ_D hD) 1) ck_X6_goes w_837 hP 0 rfl rfl hl.1 rfl ⟨Nat.le_of_ble_eq_true rfl, Nat.le_of_ble_eq_true rfl⟩ (Nat.le_of_ble_eq_true rfl) dX6_scored_14 ⟨Nat.le_of_ble_eq_true rfl, Nat.le_of_ble_eq_true rfl⟩) hS (fun H locs hP hS => ?_)
    have hI_c2 : J0 M := hI
    refine q_top (y := 0) (by decide) ?_
    refine lv_if_eq (tgt := 28) hx hb dX6_scored_17 (by decide) (fun zc_3 => ?_) (fun zc_3 => ?_)
    · skip
      refine lv_iconst (v := 0) hx hb dX6_scored_28 (by decide) ?_
      rw [show mScore M x1 = (0, 1, M) from by first | (simp only [mScore, mm1, zc_1, ↓reduceIte]; done) | (simp only [mScore, mm1, zc_1, ↓reduceIte]; rfl) | (simp [mScore, mm1, zc_1]; done) | (simp [mScore, mm1, zc_1]; rfl)]
      exact e_wret hx hb hr hlk rfl hP hS dX6_scored_29
    · skip
      exact absurd zc_3 (by decide)
  · skip
    have zc_1 : okn x1 (mT M) = true := b_t zc_1
    obtain ⟨u1, hu1, eu1⟩ := okn_t (zc_1)
    subst eu1
    have iu1 : iN (nI u1) = u1 := iN_nI (by omega)
    refine lv_iconst (v := 0) hx hb dX6_scored_9 (by decide) ?_
    refine lv_goto (tgt := 14) hx hb dX6_scored_10 (by decide) ?_
    refine q_w0 (q_runV (rest := []) hx hb hml hown hE (c_X6_goes l D cI cZ cL am M th A (wQ_D hD) 0) ck_X6_goes w_837 hP 0 rfl rfl hl.1 rfl ⟨Nat.le_of_ble_eq_true rfl, Nat.le_of_ble_eq_true rfl⟩ (Nat.le_of_ble_eq_true rfl) dX6_scored_14 ⟨Nat.le_of_ble_eq_true rfl, Nat.le_of_ble_eq_true rfl⟩) hS (fun H locs hP hS => ?_)
    have hI_c4 : J0 M := hI
    refine q_top (y := 1) (by decide) ?_
    refine lv_if_eq (tgt := 28) hx hb dX6_scored_17 (by decide) (fun zc_5 => ?_) (fun zc_5 => ?_)
    · skip
      exact absurd zc_5 (by decide)
    · skip
      refine lv_aload_n hx hb dX6_scored_20 rfl (lv_at hl 0 rfl) ?_
      refine lv_iload_n hx hb dX6_scored_21 rfl (lv_at hl 1 rfl) ?_
      refine q_rd (q_runV (rest := []) hx hb hml hown hE (c_X6_scoreOf l D cI cZ cL am M 0 u1 hI_c4 (by omega)) ck_X6_scoreOf w_991 hP 0 rfl rfl hl.1 rfl ⟨Nat.le_of_ble_eq_true rfl, Nat.le_of_ble_eq_true rfl⟩ (Nat.le_of_ble_eq_true rfl) dX6_scored_22 ⟨Nat.le_of_ble_eq_true rfl, Nat.le_of_ble_eq_true rfl⟩) ?_
      refine lv_goto (tgt := 29) hx hb dX6_scored_25 (by decide) ?_
      rw [show mScore M (nI u1) = (m_score M u1, 0, M) from by first | (simp only [mScore, mm1, zc_1, iu1, ↓reduceIte]; done) | (simp only [mScore, mm1, zc_1, iu1, ↓reduceIte]; rfl) | (simp [mScore, mm1, zc_1, iu1]; done) | (simp [mScore, mm1, zc_1, iu1]; rfl)]
      exact e_wret hx hb hr hlk rfl hP hS dX6_scored_29

theorem dX6_score_0 : decode cX6_score 0 = .ok (.aload_n 0, 1) := by decide +kernel
theorem dX6_score_1 : decode cX6_score 1 = .ok (.iload_n 1, 1) := by decide +kernel
theorem dX6_score_2 : decode cX6_score 2 = .ok (.invokevirtual 148, 3) := by decide +kernel
theorem dX6_score_5 : decode cX6_score 5 = .ok (.ireturn, 1) := by decide +kernel
set_option maxHeartbeats 4000000 in
set_option maxRecDepth 100000 in
theorem c_X6_score (l : Launch) (D : va_G) (cI cZ cL : ClassId) (am : Nat → Nat) (M : Mem) (th : Int32) (A : Nat → Prop) (hD : va_D A (wQ am cI cZ M th)) (x1 : Int32) (hI : J0 M) : WR l D cI cZ cL yX6_score cX6_score 2 (some .int) 10 [.ref (am 0), .int x1] A (wQ am cI cZ M th) (wQ am cI cZ ((mScore M x1).2.2) ((mScore M x1).2.1)) (some (.int ((mScore M x1).1))) := by
  refine WR.of (by decide) (Nat.le_of_ble_eq_true rfl) ?_
  intro p e s m args below meth c ls hx hb hr hml hown hlk hE hP hS hl
  have hl : lv_has ls 2 [(0, .ref (am 0)), (1, .int x1)] := hl
  have hT8 := hI.T8
  have hR16 := hI.R16
  have hN200 := hI.N200
  refine lv_aload_n hx hb dX6_score_0 rfl (lv_at hl 0 rfl) ?_
  refine lv_iload_n hx hb dX6_score_1 rfl (lv_at hl 1 rfl) ?_
  refine q_w0 (q_runV (rest := []) hx hb hml hown hE (c_X6_scored l D cI cZ cL am M th A (wQ_D hD) x1 hI) ck_X6_scored w_987 hP 0 rfl rfl hl.1 rfl ⟨Nat.le_of_ble_eq_true rfl, Nat.le_of_ble_eq_true rfl⟩ (Nat.le_of_ble_eq_true rfl) dX6_score_2 ⟨Nat.le_of_ble_eq_true rfl, Nat.le_of_ble_eq_true rfl⟩) hS (fun H locs hP hS => ?_)
  rw [show mScore M x1 = ((mScore M x1).1, (mScore M x1).2.1, (mScore M x1).2.2) from by rfl]
  exact e_wret hx hb hr hlk rfl hP hS dX6_score_5

theorem dX6_scoreAnew_0 : decode cX6_scoreAnew 0 = .ok (.aload_n 0, 1) := by decide +kernel
theorem dX6_scoreAnew_1 : decode cX6_scoreAnew 1 = .ok (.iload_n 1, 1) := by decide +kernel
theorem dX6_scoreAnew_2 : decode cX6_scoreAnew 2 = .ok (.invokevirtual 148, 3) := by decide +kernel
theorem dX6_scoreAnew_5 : decode cX6_scoreAnew 5 = .ok (.ireturn, 1) := by decide +kernel
set_option maxHeartbeats 4000000 in
set_option maxRecDepth 100000 in
theorem c_X6_scoreAnew (l : Launch) (D : va_G) (cI cZ cL : ClassId) (am : Nat → Nat) (M : Mem) (th : Int32) (A : Nat → Prop) (hD : va_D A (wQ am cI cZ M th)) (x1 : Int32) (hI : J0 M) : WR l D cI cZ cL yX6_scoreAnew cX6_scoreAnew 2 (some .int) 10 [.ref (am 0), .int x1] A (wQ am cI cZ M th) (wQ am cI cZ ((mScore M x1).2.2) ((mScore M x1).2.1)) (some (.int ((mScore M x1).1))) := by
  refine WR.of (by decide) (Nat.le_of_ble_eq_true rfl) ?_
  intro p e s m args below meth c ls hx hb hr hml hown hlk hE hP hS hl
  have hl : lv_has ls 2 [(0, .ref (am 0)), (1, .int x1)] := hl
  have hT8 := hI.T8
  have hR16 := hI.R16
  have hN200 := hI.N200
  refine lv_aload_n hx hb dX6_scoreAnew_0 rfl (lv_at hl 0 rfl) ?_
  refine lv_iload_n hx hb dX6_scoreAnew_1 rfl (lv_at hl 1 rfl) ?_
  refine q_w0 (q_runV (rest := []) hx hb hml hown hE (c_X6_scored l D cI cZ cL am M th A (wQ_D hD) x1 hI) ck_X6_scored w_987 hP 0 rfl rfl hl.1 rfl ⟨Nat.le_of_ble_eq_true rfl, Nat.le_of_ble_eq_true rfl⟩ (Nat.le_of_ble_eq_true rfl) dX6_scoreAnew_2 ⟨Nat.le_of_ble_eq_true rfl, Nat.le_of_ble_eq_true rfl⟩) hS (fun H locs hP hS => ?_)
  rw [show mScore M x1 = ((mScore M x1).1, (mScore M x1).2.1, (mScore M x1).2.2) from by rfl]
  exact e_wret hx hb hr hlk rfl hP hS dX6_scoreAnew_5

theorem dX6_place_0 : decode cX6_place 0 = .ok (.aload_n 0, 1) := by decide +kernel
theorem dX6_place_1 : decode cX6_place 1 = .ok (.aload_n 0, 1) := by decide +kernel
theorem dX6_place_2 : decode cX6_place 2 = .ok (.iload_n 1, 1) := by decide +kernel
theorem dX6_place_3 : decode cX6_place 3 = .ok (.invokevirtual 108, 3) := by decide +kernel
theorem dX6_place_6 : decode cX6_place 6 = .ok (.ifCond .eq 7, 3) := by decide +kernel
theorem dX6_place_9 : decode cX6_place 9 = .ok (.iconst 0, 1) := by decide +kernel
theorem dX6_place_10 : decode cX6_place 10 = .ok (.goto 4, 3) := by decide +kernel
theorem dX6_place_13 : decode cX6_place 13 = .ok (.iconst 1, 1) := by decide +kernel
theorem dX6_place_14 : decode cX6_place 14 = .ok (.invokevirtual 76, 3) := by decide +kernel
theorem dX6_place_17 : decode cX6_place 17 = .ok (.ifCond .eq 14, 3) := by decide +kernel
theorem dX6_place_20 : decode cX6_place 20 = .ok (.iconst 1, 1) := by decide +kernel
theorem dX6_place_21 : decode cX6_place 21 = .ok (.aload_n 0, 1) := by decide +kernel
theorem dX6_place_22 : decode cX6_place 22 = .ok (.iload_n 1, 1) := by decide +kernel
theorem dX6_place_23 : decode cX6_place 23 = .ok (.iconst 0, 1) := by decide +kernel
theorem dX6_place_24 : decode cX6_place 24 = .ok (.invokevirtual 154, 3) := by decide +kernel
theorem dX6_place_27 : decode cX6_place 27 = .ok (.iadd, 1) := by decide +kernel
theorem dX6_place_28 : decode cX6_place 28 = .ok (.goto 4, 3) := by decide +kernel
theorem dX6_place_31 : decode cX6_place 31 = .ok (.iconst 0, 1) := by decide +kernel
theorem dX6_place_32 : decode cX6_place 32 = .ok (.ireturn, 1) := by decide +kernel
set_option maxHeartbeats 4000000 in
set_option maxRecDepth 100000 in
theorem c_X6_place (l : Launch) (D : va_G) (cI cZ cL : ClassId) (am : Nat → Nat) (M : Mem) (th : Int32) (A : Nat → Prop) (hD : va_D A (wQ am cI cZ M th)) (x1 : Int32) (hI : J0 M) : WR l D cI cZ cL yX6_place cX6_place 2 (some .int) 9 [.ref (am 0), .int x1] A (wQ am cI cZ M th) (wQ am cI cZ ((mPlace M x1).2.2) ((mPlace M x1).2.1)) (some (.int ((mPlace M x1).1))) := by
  refine WR.of (by decide) (Nat.le_of_ble_eq_true rfl) ?_
  intro p e s m args below meth c ls hx hb hr hml hown hlk hE hP hS hl
  have hl : lv_has ls 2 [(0, .ref (am 0)), (1, .int x1)] := hl
  have hT8 := hI.T8
  have hR16 := hI.R16
  have hN200 := hI.N200
  refine lv_aload_n hx hb dX6_place_0 rfl (lv_at hl 0 rfl) ?_
  refine lv_aload_n hx hb dX6_place_1 rfl (lv_at hl 0 rfl) ?_
  refine lv_iload_n hx hb dX6_place_2 rfl (lv_at hl 1 rfl) ?_
  refine q_rd (q_runV (rest := [.ref (am 0)]) hx hb hml hown hE (c_X6_isTeam l D cI cZ cL am M th x1 hI) ck_X6_isTeam w_891 hP 0 rfl rfl hl.1 rfl ⟨Nat.le_of_ble_eq_true rfl, Nat.le_of_ble_eq_true rfl⟩ (Nat.le_of_ble_eq_true rfl) dX6_place_3 ⟨Nat.le_of_ble_eq_true rfl, Nat.le_of_ble_eq_true rfl⟩) ?_
  refine lv_if_eq (tgt := 13) hx hb dX6_place_6 (by decide) (fun zc_1 => ?_) (fun zc_1 => ?_)
  · skip
    have zc_1 : okn x1 (mT M) = false := b_f zc_1
    refine lv_iconst (v := 1) hx hb dX6_place_13 (by decide) ?_
    refine q_w0 (q_runV (rest := []) hx hb hml hown hE (c_X6_goes l D cI cZ cL am M th A (wQ_D hD) 1) ck_X6_goes w_837 hP 0 rfl rfl hl.1 rfl ⟨Nat.le_of_ble_eq_true rfl, Nat.le_of_ble_eq_true rfl⟩ (Nat.le_of_ble_eq_true rfl) dX6_place_14 ⟨Nat.le_of_ble_eq_true rfl, Nat.le_of_ble_eq_true rfl⟩) hS (fun H locs hP hS => ?_)
    have hI_c2 : J0 M := hI
    refine q_top (y := 0) (by decide) ?_
    refine lv_if_eq (tgt := 31) hx hb dX6_place_17 (by decide) (fun zc_3 => ?_) (fun zc_3 => ?_)
    · skip
      refine lv_iconst (v := 0) hx hb dX6_place_31 (by decide) ?_
      rw [show mPlace M x1 = (0, 1, M) from by first | (simp only [mPlace, mm1, zc_1, ↓reduceIte]; done) | (simp only [mPlace, mm1, zc_1, ↓reduceIte]; rfl) | (simp [mPlace, mm1, zc_1]; done) | (simp [mPlace, mm1, zc_1]; rfl)]
      exact e_wret hx hb hr hlk rfl hP hS dX6_place_32
    · skip
      exact absurd zc_3 (by decide)
  · skip
    have zc_1 : okn x1 (mT M) = true := b_t zc_1
    obtain ⟨u1, hu1, eu1⟩ := okn_t (zc_1)
    subst eu1
    have iu1 : iN (nI u1) = u1 := iN_nI (by omega)
    refine lv_iconst (v := 0) hx hb dX6_place_9 (by decide) ?_
    refine lv_goto (tgt := 14) hx hb dX6_place_10 (by decide) ?_
    refine q_w0 (q_runV (rest := []) hx hb hml hown hE (c_X6_goes l D cI cZ cL am M th A (wQ_D hD) 0) ck_X6_goes w_837 hP 0 rfl rfl hl.1 rfl ⟨Nat.le_of_ble_eq_true rfl, Nat.le_of_ble_eq_true rfl⟩ (Nat.le_of_ble_eq_true rfl) dX6_place_14 ⟨Nat.le_of_ble_eq_true rfl, Nat.le_of_ble_eq_true rfl⟩) hS (fun H locs hP hS => ?_)
    have hI_c4 : J0 M := hI
    refine q_top (y := 1) (by decide) ?_
    refine lv_if_eq (tgt := 31) hx hb dX6_place_17 (by decide) (fun zc_5 => ?_) (fun zc_5 => ?_)
    · skip
      exact absurd zc_5 (by decide)
    · skip
      refine lv_iconst (v := 1) hx hb dX6_place_20 (by decide) ?_
      refine lv_aload_n hx hb dX6_place_21 rfl (lv_at hl 0 rfl) ?_
      refine lv_iload_n hx hb dX6_place_22 rfl (lv_at hl 1 rfl) ?_
      refine lv_iconst (v := 0) hx hb dX6_place_23 (by decide) ?_
      refine q_rd (q_runV (rest := [.int 1]) hx hb hml hown hE (c_X6_ahead l D cI cZ cL am M 0 u1 false hI_c4 (by omega)) ck_X6_ahead w_1007 hP 0 rfl rfl hl.1 rfl ⟨Nat.le_of_ble_eq_true rfl, Nat.le_of_ble_eq_true rfl⟩ (Nat.le_of_ble_eq_true rfl) dX6_place_24 ⟨Nat.le_of_ble_eq_true rfl, Nat.le_of_ble_eq_true rfl⟩) ?_
      refine lv_iadd hx hb dX6_place_27 ?_
      refine q_top (y := nI (1 + (m_ahead M u1 false))) (nI_add 1 (m_ahead M u1 false)) ?_
      refine lv_goto (tgt := 32) hx hb dX6_place_28 (by decide) ?_
      rw [show mPlace M (nI u1) = (nI (1 + (m_ahead M u1 false)), 0, M) from by first | (simp only [mPlace, mm1, zc_1, iu1, ↓reduceIte]; done) | (simp only [mPlace, mm1, zc_1, iu1, ↓reduceIte]; rfl) | (simp [mPlace, mm1, zc_1, iu1]; done) | (simp [mPlace, mm1, zc_1, iu1]; rfl)]
      exact e_wret hx hb hr hlk rfl hP hS dX6_place_32

theorem dX6_teamAt_0 : decode cX6_teamAt 0 = .ok (.aload_n 0, 1) := by decide +kernel
theorem dX6_teamAt_1 : decode cX6_teamAt 1 = .ok (.iconst 0, 1) := by decide +kernel
theorem dX6_teamAt_2 : decode cX6_teamAt 2 = .ok (.putfield 60, 3) := by decide +kernel
theorem dX6_teamAt_5 : decode cX6_teamAt 5 = .ok (.iconst (-1), 1) := by decide +kernel
theorem dX6_teamAt_6 : decode cX6_teamAt 6 = .ok (.istore_n 2, 1) := by decide +kernel
theorem dX6_teamAt_7 : decode cX6_teamAt 7 = .ok (.iconst 0, 1) := by decide +kernel
theorem dX6_teamAt_8 : decode cX6_teamAt 8 = .ok (.istore_n 3, 1) := by decide +kernel
theorem dX6_teamAt_9 : decode cX6_teamAt 9 = .ok (.iload_n 3, 1) := by decide +kernel
theorem dX6_teamAt_10 : decode cX6_teamAt 10 = .ok (.aload_n 0, 1) := by decide +kernel
theorem dX6_teamAt_11 : decode cX6_teamAt 11 = .ok (.getfield 70, 3) := by decide +kernel
theorem dX6_teamAt_14 : decode cX6_teamAt 14 = .ok (.if_icmp .ge 25, 3) := by decide +kernel
theorem dX6_teamAt_17 : decode cX6_teamAt 17 = .ok (.aload_n 0, 1) := by decide +kernel
theorem dX6_teamAt_18 : decode cX6_teamAt 18 = .ok (.iload_n 3, 1) := by decide +kernel
theorem dX6_teamAt_19 : decode cX6_teamAt 19 = .ok (.iconst 1, 1) := by decide +kernel
theorem dX6_teamAt_20 : decode cX6_teamAt 20 = .ok (.invokevirtual 154, 3) := by decide +kernel
theorem dX6_teamAt_23 : decode cX6_teamAt 23 = .ok (.iload_n 1, 1) := by decide +kernel
theorem dX6_teamAt_24 : decode cX6_teamAt 24 = .ok (.if_icmp .ne 7, 3) := by decide +kernel
theorem dX6_teamAt_27 : decode cX6_teamAt 27 = .ok (.iload_n 3, 1) := by decide +kernel
theorem dX6_teamAt_28 : decode cX6_teamAt 28 = .ok (.goto 4, 3) := by decide +kernel
theorem dX6_teamAt_31 : decode cX6_teamAt 31 = .ok (.iload_n 2, 1) := by decide +kernel
theorem dX6_teamAt_32 : decode cX6_teamAt 32 = .ok (.istore_n 2, 1) := by decide +kernel
theorem dX6_teamAt_33 : decode cX6_teamAt 33 = .ok (.iinc 3 1, 3) := by decide +kernel
theorem dX6_teamAt_36 : decode cX6_teamAt 36 = .ok (.goto (-27), 3) := by decide +kernel
theorem dX6_teamAt_39 : decode cX6_teamAt 39 = .ok (.iload_n 2, 1) := by decide +kernel
theorem dX6_teamAt_40 : decode cX6_teamAt 40 = .ok (.ireturn, 1) := by decide +kernel
set_option maxHeartbeats 4000000 in
set_option maxRecDepth 100000 in
theorem c_X6_teamAt (l : Launch) (D : va_G) (cI cZ cL : ClassId) (am : Nat → Nat) (M : Mem) (th : Int32) (A : Nat → Prop) (hD : va_D A (wQ am cI cZ M th)) (x1 : Int32) (hI : J0 M) : WR l D cI cZ cL yX6_teamAt cX6_teamAt 4 (some .int) 9 [.ref (am 0), .int x1] A (wQ am cI cZ M th) (wQ am cI cZ ((mAt M x1).2.2) ((mAt M x1).2.1)) (some (.int ((mAt M x1).1))) := by
  refine WR.of (by decide) (Nat.le_of_ble_eq_true rfl) ?_
  intro p e s m args below meth c ls hx hb hr hml hown hlk hE hP hS hl
  have hl : lv_has ls 4 [(0, .ref (am 0)), (1, .int x1)] := hl
  have hT8 := hI.T8
  have hR16 := hI.R16
  have hN200 := hI.N200
  refine lv_aload_n hx hb dX6_teamAt_0 rfl (lv_at hl 0 rfl) ?_
  refine lv_iconst (v := 0) hx hb dX6_teamAt_1 (by decide) ?_
  refine q_put (ty0 := tyX6) (ws' := (wQ am cI cZ M 0)) (v := .int 0) hx hb hown hE inT_X6 tyX6_ok nmX6 hP (wQ_D hD) hS 0 rfl rfl 21 (by decide) w_779 rfl rfl rfl (Nat.le_of_ble_eq_true rfl) rfl dX6_teamAt_2 (fun H locs hP hS => ?_)
  refine lv_iconst (v := (-1)) hx hb dX6_teamAt_5 (by decide) ?_
  refine lv_istore_n (lv' := [(2, .int (-1)), (0, .ref (am 0)), (1, .int x1)]) hx hb dX6_teamAt_6 rfl hl (by decide) rfl (fun ls hl => ?_)
  refine lv_iconst (v := 0) hx hb dX6_teamAt_7 (by decide) ?_
  refine lv_istore_n (lv' := [(3, .int 0), (2, .int (-1)), (0, .ref (am 0)), (1, .int x1)]) hx hb dX6_teamAt_8 rfl hl (by decide) rfl (fun ls hl => ?_)
  have hloop_9 : ∀ (n i : Nat), i ≤ mT M → mT M < i + n → ∀ ls : Array Slot, lv_has ls 4 [(3, .int (nI i)), (2, .int (m_tat M x1 i)), (0, .ref (am 0)), (1, .int x1)] → W p l e (rm 9 0 0) s m args below meth c H locs 0 0 (MQ below (Qwr D A (wQ am cI cZ ((mAt M x1).2.2) ((mAt M x1).2.1)) (some (.int ((mAt M x1).1)))) args s 0 0 A) (F0 m 9 ls []) := by
    intro n
    induction n with
    | zero => intro i h1 h2; exact absurd h2 (by omega)
    | succ n ih_9 =>
      intro i hi_9 hin_9  ls hl
      refine lv_iload_n hx hb dX6_teamAt_9 rfl (lv_at hl 0 rfl) ?_
      refine lv_aload_n hx hb dX6_teamAt_10 rfl (lv_at hl 2 rfl) ?_
      refine q_get (v := .int (M 0 8)) hx hb hown hE inT_X6 hP 0 rfl rfl 8 (by decide) w_766 rfl dX6_teamAt_11 ?_
      refine q_top (y := nI (mT M)) (J0.T hI) ?_
      refine lv_icmp_ge (tgt := 39) hx hb dX6_teamAt_14 (by decide) (fun zc_1 => ?_) (fun zc_1 => ?_)
      · skip
        have zc_1 : (mT M) ≤ i := n_le (a := mT M) (b := i) (by omega) (by omega) zc_1
        have hend_9 : mT M = i := by omega
        subst hend_9
        refine lv_iload_n hx hb dX6_teamAt_39 rfl (lv_at hl 1 rfl) ?_
        rw [show mAt M x1 = (m_tat M x1 (mT M), 0, M) from by first | (simp only [mAt, ↓reduceIte]; done) | (simp only [mAt, ↓reduceIte]; rfl) | (simp [mAt]; done) | (simp [mAt]; rfl)]
        exact e_wret hx hb hr hlk rfl hP hS dX6_teamAt_40
      · skip
        have zc_1 : i < (mT M) := n_nle (a := mT M) (b := i) (by omega) (by omega) zc_1
        refine lv_aload_n hx hb dX6_teamAt_17 rfl (lv_at hl 2 rfl) ?_
        refine lv_iload_n hx hb dX6_teamAt_18 rfl (lv_at hl 0 rfl) ?_
        refine lv_iconst (v := 1) hx hb dX6_teamAt_19 (by decide) ?_
        refine q_rd (q_runV (rest := []) hx hb hml hown hE (c_X6_ahead l D cI cZ cL am M 0 i true hI (by omega)) ck_X6_ahead w_1007 hP 0 rfl rfl hl.1 rfl ⟨Nat.le_of_ble_eq_true rfl, Nat.le_of_ble_eq_true rfl⟩ (Nat.le_of_ble_eq_true rfl) dX6_teamAt_20 ⟨Nat.le_of_ble_eq_true rfl, Nat.le_of_ble_eq_true rfl⟩) ?_
        refine lv_iload_n hx hb dX6_teamAt_23 rfl (lv_at hl 3 rfl) ?_
        refine lv_icmp_ne (tgt := 31) hx hb dX6_teamAt_24 (by decide) (fun zc_2 => ?_) (fun zc_2 => ?_)
        · skip
          refine lv_iload_n hx hb dX6_teamAt_31 rfl (lv_at hl 1 rfl) ?_
          refine lv_istore_n (lv' := [(2, .int (m_tat M x1 i)), (3, .int (nI i)), (0, .ref (am 0)), (1, .int x1)]) hx hb dX6_teamAt_32 rfl hl (by decide) rfl (fun ls hl => ?_)
          refine lv_iinc (v := nI (i + 1)) (lv' := [(3, .int (nI (i + 1))), (2, .int (m_tat M x1 i)), (0, .ref (am 0)), (1, .int x1)]) hx hb dX6_teamAt_33 hl (k := 1) rfl (nI_1 i) (by decide) rfl (fun ls hl => ?_)
          refine lv_goto (tgt := 9) hx hb dX6_teamAt_36 (by decide) ?_
          refine ih_9 (i + 1) (by omega) (by omega)  ls ?_
          rw [show m_tat M x1 (i + 1) = m_tat M x1 i from by first | (simp only [bI, m_tat, zc_1, zc_2, ↓reduceIte]; done) | (simp [bI, m_tat, zc_1, zc_2]; done) | (simp_all [bI, m_tat]; done)]
          exact lv_sub hl [0, 1, 2, 3] rfl
        · skip
          have ec_2 := eq_true zc_2
          refine lv_iload_n hx hb dX6_teamAt_27 rfl (lv_at hl 0 rfl) ?_
          refine lv_goto (tgt := 32) hx hb dX6_teamAt_28 (by decide) ?_
          refine lv_istore_n (lv' := [(2, .int (nI i)), (3, .int (nI i)), (0, .ref (am 0)), (1, .int x1)]) hx hb dX6_teamAt_32 rfl hl (by decide) rfl (fun ls hl => ?_)
          refine lv_iinc (v := nI (i + 1)) (lv' := [(3, .int (nI (i + 1))), (2, .int (nI i)), (0, .ref (am 0)), (1, .int x1)]) hx hb dX6_teamAt_33 hl (k := 1) rfl (nI_1 i) (by decide) rfl (fun ls hl => ?_)
          refine lv_goto (tgt := 9) hx hb dX6_teamAt_36 (by decide) ?_
          refine ih_9 (i + 1) (by omega) (by omega)  ls ?_
          rw [show m_tat M x1 (i + 1) = nI i from by first | (simp only [bI, m_tat, zc_1, ec_2, ↓reduceIte]; done) | (simp [bI, m_tat, zc_1, ec_2]; done) | (simp_all [bI, m_tat]; done)]
          exact lv_sub hl [0, 1, 2, 3] rfl
  refine hloop_9 (mT M + 1) 0 (by omega) (by omega)  ls ?_
  rw [show m_tat M x1 0 = (-1) from by first | rfl | (first | (simp only [bI, m_tat, ↓reduceIte]; done) | (simp [bI, m_tat]; done) | (simp_all [bI, m_tat]; done))]
  exact lv_sub hl [0, 1, 2, 3] rfl

theorem dX6_setPrize_0 : decode cX6_setPrize 0 = .ok (.aload_n 0, 1) := by decide +kernel
theorem dX6_setPrize_1 : decode cX6_setPrize 1 = .ok (.iload_n 1, 1) := by decide +kernel
theorem dX6_setPrize_2 : decode cX6_setPrize 2 = .ok (.iconst 1, 1) := by decide +kernel
theorem dX6_setPrize_3 : decode cX6_setPrize 3 = .ok (.bipush 8, 2) := by decide +kernel
theorem dX6_setPrize_5 : decode cX6_setPrize 5 = .ok (.invokestatic 66, 3) := by decide +kernel
theorem dX6_setPrize_8 : decode cX6_setPrize 8 = .ok (.ifCond .eq 18, 3) := by decide +kernel
theorem dX6_setPrize_11 : decode cX6_setPrize 11 = .ok (.iload_n 2, 1) := by decide +kernel
theorem dX6_setPrize_12 : decode cX6_setPrize 12 = .ok (.iconst 0, 1) := by decide +kernel
theorem dX6_setPrize_13 : decode cX6_setPrize 13 = .ok (.sipush 1000, 3) := by decide +kernel
theorem dX6_setPrize_16 : decode cX6_setPrize 16 = .ok (.invokestatic 66, 3) := by decide +kernel
theorem dX6_setPrize_19 : decode cX6_setPrize 19 = .ok (.ifCond .eq 7, 3) := by decide +kernel
theorem dX6_setPrize_22 : decode cX6_setPrize 22 = .ok (.iconst 0, 1) := by decide +kernel
theorem dX6_setPrize_23 : decode cX6_setPrize 23 = .ok (.goto 4, 3) := by decide +kernel
theorem dX6_setPrize_26 : decode cX6_setPrize 26 = .ok (.iconst 1, 1) := by decide +kernel
theorem dX6_setPrize_27 : decode cX6_setPrize 27 = .ok (.invokevirtual 76, 3) := by decide +kernel
theorem dX6_setPrize_30 : decode cX6_setPrize 30 = .ok (.ifCond .ne 5, 3) := by decide +kernel
theorem dX6_setPrize_33 : decode cX6_setPrize 33 = .ok (.iconst 0, 1) := by decide +kernel
theorem dX6_setPrize_34 : decode cX6_setPrize 34 = .ok (.ireturn, 1) := by decide +kernel
theorem dX6_setPrize_35 : decode cX6_setPrize 35 = .ok (.aload_n 0, 1) := by decide +kernel
theorem dX6_setPrize_36 : decode cX6_setPrize 36 = .ok (.getfield 57, 3) := by decide +kernel
theorem dX6_setPrize_39 : decode cX6_setPrize 39 = .ok (.iload_n 1, 1) := by decide +kernel
theorem dX6_setPrize_40 : decode cX6_setPrize 40 = .ok (.iconst 1, 1) := by decide +kernel
theorem dX6_setPrize_41 : decode cX6_setPrize 41 = .ok (.isub, 1) := by decide +kernel
theorem dX6_setPrize_42 : decode cX6_setPrize 42 = .ok (.iaload, 1) := by decide +kernel
theorem dX6_setPrize_43 : decode cX6_setPrize 43 = .ok (.istore_n 3, 1) := by decide +kernel
theorem dX6_setPrize_44 : decode cX6_setPrize 44 = .ok (.aload_n 0, 1) := by decide +kernel
theorem dX6_setPrize_45 : decode cX6_setPrize 45 = .ok (.getfield 57, 3) := by decide +kernel
theorem dX6_setPrize_48 : decode cX6_setPrize 48 = .ok (.iload_n 1, 1) := by decide +kernel
theorem dX6_setPrize_49 : decode cX6_setPrize 49 = .ok (.iconst 1, 1) := by decide +kernel
theorem dX6_setPrize_50 : decode cX6_setPrize 50 = .ok (.isub, 1) := by decide +kernel
theorem dX6_setPrize_51 : decode cX6_setPrize 51 = .ok (.iload_n 2, 1) := by decide +kernel
theorem dX6_setPrize_52 : decode cX6_setPrize 52 = .ok (.iastore, 1) := by decide +kernel
theorem dX6_setPrize_53 : decode cX6_setPrize 53 = .ok (.iload_n 3, 1) := by decide +kernel
theorem dX6_setPrize_54 : decode cX6_setPrize 54 = .ok (.ireturn, 1) := by decide +kernel
set_option maxHeartbeats 4000000 in
set_option maxRecDepth 100000 in
theorem c_X6_setPrize (l : Launch) (D : va_G) (cI cZ cL : ClassId) (am : Nat → Nat) (M : Mem) (th : Int32) (A : Nat → Prop) (hD : va_D A (wQ am cI cZ M th)) (x1 : Int32) (x2 : Int32) (hI : J0 M) : WR l D cI cZ cL yX6_setPrize cX6_setPrize 4 (some .int) 9 [.ref (am 0), .int x1, .int x2] A (wQ am cI cZ M th) (wQ am cI cZ ((mSetP M x1 x2).2.2) ((mSetP M x1 x2).2.1)) (some (.int ((mSetP M x1 x2).1))) := by
  refine WR.of (by decide) (Nat.le_of_ble_eq_true rfl) ?_
  intro p e s m args below meth c ls hx hb hr hml hown hlk hE hP hS hl
  have hl : lv_has ls 4 [(0, .ref (am 0)), (1, .int x1), (2, .int x2)] := hl
  have hT8 := hI.T8
  have hR16 := hI.R16
  have hN200 := hI.N200
  refine lv_aload_n hx hb dX6_setPrize_0 rfl (lv_at hl 0 rfl) ?_
  refine lv_iload_n hx hb dX6_setPrize_1 rfl (lv_at hl 1 rfl) ?_
  refine lv_iconst (v := 1) hx hb dX6_setPrize_2 (by decide) ?_
  refine lv_bipush (v := 8) hx hb dX6_setPrize_3 (by decide) ?_
  refine q_rd (q_runS (rest := [.ref (am 0)]) hx hb hml hown hE (c_X6_isIn l D cI cZ cL _ x1 1 8) ck_X6_isIn w_834 hP hl.1 rfl ⟨Nat.le_of_ble_eq_true rfl, Nat.le_of_ble_eq_true rfl⟩ (Nat.le_of_ble_eq_true rfl) dX6_setPrize_5 ⟨Nat.le_of_ble_eq_true rfl, Nat.le_of_ble_eq_true rfl⟩) ?_
  refine lv_if_eq (tgt := 26) hx hb dX6_setPrize_8 (by decide) (fun zc_1 => ?_) (fun zc_1 => ?_)
  · skip
    have zc_1 : okr x1 1 8 = false := b_f zc_1
    refine lv_iconst (v := 1) hx hb dX6_setPrize_26 (by decide) ?_
    refine q_w0 (q_runV (rest := []) hx hb hml hown hE (c_X6_goes l D cI cZ cL am M th A (wQ_D hD) 1) ck_X6_goes w_837 hP 0 rfl rfl hl.1 rfl ⟨Nat.le_of_ble_eq_true rfl, Nat.le_of_ble_eq_true rfl⟩ (Nat.le_of_ble_eq_true rfl) dX6_setPrize_27 ⟨Nat.le_of_ble_eq_true rfl, Nat.le_of_ble_eq_true rfl⟩) hS (fun H locs hP hS => ?_)
    have hI_c2 : J0 M := hI
    refine q_top (y := 0) (by decide) ?_
    refine lv_if_ne (tgt := 35) hx hb dX6_setPrize_30 (by decide) (fun zc_3 => ?_) (fun zc_3 => ?_)
    · skip
      exact absurd zc_3 (by decide)
    · skip
      refine lv_iconst (v := 0) hx hb dX6_setPrize_33 (by decide) ?_
      rw [show mSetP M x1 x2 = (0, 1, M) from by first | (simp only [mSetP, zc_1, ↓reduceIte]; done) | (simp only [mSetP, zc_1, ↓reduceIte]; rfl) | (simp [mSetP, zc_1]; done) | (simp [mSetP, zc_1]; rfl)]
      exact e_wret hx hb hr hlk rfl hP hS dX6_setPrize_34
  · skip
    have zc_1 : okr x1 1 8 = true := b_t zc_1
    refine lv_iload_n hx hb dX6_setPrize_11 rfl (lv_at hl 2 rfl) ?_
    refine lv_iconst (v := 0) hx hb dX6_setPrize_12 (by decide) ?_
    refine lv_sipush (v := 1000) hx hb dX6_setPrize_13 (by decide) ?_
    refine q_rd (q_runS (rest := [.ref (am 0)]) hx hb hml hown hE (c_X6_isIn l D cI cZ cL _ x2 0 1000) ck_X6_isIn w_834 hP hl.1 rfl ⟨Nat.le_of_ble_eq_true rfl, Nat.le_of_ble_eq_true rfl⟩ (Nat.le_of_ble_eq_true rfl) dX6_setPrize_16 ⟨Nat.le_of_ble_eq_true rfl, Nat.le_of_ble_eq_true rfl⟩) ?_
    refine lv_if_eq (tgt := 26) hx hb dX6_setPrize_19 (by decide) (fun zc_4 => ?_) (fun zc_4 => ?_)
    · skip
      have zc_4 : okr x2 0 1000 = false := b_f zc_4
      refine lv_iconst (v := 1) hx hb dX6_setPrize_26 (by decide) ?_
      refine q_w0 (q_runV (rest := []) hx hb hml hown hE (c_X6_goes l D cI cZ cL am M th A (wQ_D hD) 1) ck_X6_goes w_837 hP 0 rfl rfl hl.1 rfl ⟨Nat.le_of_ble_eq_true rfl, Nat.le_of_ble_eq_true rfl⟩ (Nat.le_of_ble_eq_true rfl) dX6_setPrize_27 ⟨Nat.le_of_ble_eq_true rfl, Nat.le_of_ble_eq_true rfl⟩) hS (fun H locs hP hS => ?_)
      have hI_c5 : J0 M := hI
      refine q_top (y := 0) (by decide) ?_
      refine lv_if_ne (tgt := 35) hx hb dX6_setPrize_30 (by decide) (fun zc_6 => ?_) (fun zc_6 => ?_)
      · skip
        exact absurd zc_6 (by decide)
      · skip
        refine lv_iconst (v := 0) hx hb dX6_setPrize_33 (by decide) ?_
        rw [show mSetP M x1 x2 = (0, 1, M) from by first | (simp only [mSetP, zc_1, zc_4, ↓reduceIte]; done) | (simp only [mSetP, zc_1, zc_4, ↓reduceIte]; rfl) | (simp [mSetP, zc_1, zc_4]; done) | (simp [mSetP, zc_1, zc_4]; rfl)]
        exact e_wret hx hb hr hlk rfl hP hS dX6_setPrize_34
    · skip
      have zc_4 : okr x2 0 1000 = true := b_t zc_4
      refine lv_iconst (v := 0) hx hb dX6_setPrize_22 (by decide) ?_
      refine lv_goto (tgt := 27) hx hb dX6_setPrize_23 (by decide) ?_
      refine q_w0 (q_runV (rest := []) hx hb hml hown hE (c_X6_goes l D cI cZ cL am M th A (wQ_D hD) 0) ck_X6_goes w_837 hP 0 rfl rfl hl.1 rfl ⟨Nat.le_of_ble_eq_true rfl, Nat.le_of_ble_eq_true rfl⟩ (Nat.le_of_ble_eq_true rfl) dX6_setPrize_27 ⟨Nat.le_of_ble_eq_true rfl, Nat.le_of_ble_eq_true rfl⟩) hS (fun H locs hP hS => ?_)
      have hI_c7 : J0 M := hI
      refine q_top (y := 1) (by decide) ?_
      refine lv_if_ne (tgt := 35) hx hb dX6_setPrize_30 (by decide) (fun zc_8 => ?_) (fun zc_8 => ?_)
      · skip
        have hm9 := okr_m1 zc_1
        have hm8 := hm9.2
        refine lv_aload_n hx hb dX6_setPrize_35 rfl (lv_at hl 0 rfl) ?_
        refine q_get (v := .ref (am 15)) hx hb hown hE inT_X6 hP 0 rfl rfl 20 (by decide) w_778 rfl dX6_setPrize_36 ?_
        refine lv_iload_n hx hb dX6_setPrize_39 rfl (lv_at hl 1 rfl) ?_
        refine lv_iconst (v := 1) hx hb dX6_setPrize_40 (by decide) ?_
        refine lv_isub hx hb dX6_setPrize_41 ?_
        refine q_top (y := nI (iN (x1 - 1))) (hm9.1) ?_
        refine q_iald (f := M 15) (i := (iN (x1 - 1))) hx hb hE hP 15 rfl (by omega) (Nat.le_of_ble_eq_true rfl) dX6_setPrize_42 ?_
        refine lv_istore_n (lv' := [(3, .int (M 15 (iN (x1 - 1)))), (0, .ref (am 0)), (1, .int x1), (2, .int x2)]) hx hb dX6_setPrize_43 rfl hl (by decide) rfl (fun ls hl => ?_)
        refine lv_aload_n hx hb dX6_setPrize_44 rfl (lv_at hl 1 rfl) ?_
        refine q_get (v := .ref (am 15)) hx hb hown hE inT_X6 hP 0 rfl rfl 20 (by decide) w_778 rfl dX6_setPrize_45 ?_
        refine lv_iload_n hx hb dX6_setPrize_48 rfl (lv_at hl 2 rfl) ?_
        refine lv_iconst (v := 1) hx hb dX6_setPrize_49 (by decide) ?_
        refine lv_isub hx hb dX6_setPrize_50 ?_
        refine q_top (y := nI (iN (x1 - 1))) (hm9.1) ?_
        refine lv_iload_n hx hb dX6_setPrize_51 rfl (lv_at hl 3 rfl) ?_
        refine q_iast (f := M 15) (i := (iN (x1 - 1))) (x := x2) (ws' := (wQ am cI cZ (st M 15 (iN (x1 - 1)) x2) 0)) hx hb hE hP (wQ_D hD) hS 15 rfl (by omega) (Nat.le_of_ble_eq_true rfl) (wQ_st_15) dX6_setPrize_52 (fun H locs hP hS => ?_)
        refine lv_iload_n hx hb dX6_setPrize_53 rfl (lv_at hl 0 rfl) ?_
        rw [show mSetP M x1 x2 = (M 15 (iN (x1 - 1)), 0, st M 15 (iN (x1 - 1)) x2) from by first | (simp only [mSetP, zc_1, zc_4, ↓reduceIte]; done) | (simp only [mSetP, zc_1, zc_4, ↓reduceIte]; rfl) | (simp [mSetP, zc_1, zc_4]; done) | (simp [mSetP, zc_1, zc_4]; rfl)]
        exact e_wret hx hb hr hlk rfl hP hS dX6_setPrize_54
      · skip
        exact absurd zc_8 (by decide)

theorem dX6_prize_0 : decode cX6_prize 0 = .ok (.aload_n 0, 1) := by decide +kernel
theorem dX6_prize_1 : decode cX6_prize 1 = .ok (.aload_n 0, 1) := by decide +kernel
theorem dX6_prize_2 : decode cX6_prize 2 = .ok (.iload_n 1, 1) := by decide +kernel
theorem dX6_prize_3 : decode cX6_prize 3 = .ok (.invokevirtual 108, 3) := by decide +kernel
theorem dX6_prize_6 : decode cX6_prize 6 = .ok (.ifCond .ne 7, 3) := by decide +kernel
theorem dX6_prize_9 : decode cX6_prize 9 = .ok (.iconst 1, 1) := by decide +kernel
theorem dX6_prize_10 : decode cX6_prize 10 = .ok (.goto 15, 3) := by decide +kernel
theorem dX6_prize_13 : decode cX6_prize 13 = .ok (.aload_n 0, 1) := by decide +kernel
theorem dX6_prize_14 : decode cX6_prize 14 = .ok (.getfield 80, 3) := by decide +kernel
theorem dX6_prize_17 : decode cX6_prize 17 = .ok (.ifCond .eq 7, 3) := by decide +kernel
theorem dX6_prize_20 : decode cX6_prize 20 = .ok (.iconst 0, 1) := by decide +kernel
theorem dX6_prize_21 : decode cX6_prize 21 = .ok (.goto 4, 3) := by decide +kernel
theorem dX6_prize_24 : decode cX6_prize 24 = .ok (.iconst 2, 1) := by decide +kernel
theorem dX6_prize_25 : decode cX6_prize 25 = .ok (.invokevirtual 76, 3) := by decide +kernel
theorem dX6_prize_28 : decode cX6_prize 28 = .ok (.ifCond .ne 5, 3) := by decide +kernel
theorem dX6_prize_31 : decode cX6_prize 31 = .ok (.iconst 0, 1) := by decide +kernel
theorem dX6_prize_32 : decode cX6_prize 32 = .ok (.ireturn, 1) := by decide +kernel
theorem dX6_prize_33 : decode cX6_prize 33 = .ok (.aload_n 0, 1) := by decide +kernel
theorem dX6_prize_34 : decode cX6_prize 34 = .ok (.iload_n 1, 1) := by decide +kernel
theorem dX6_prize_35 : decode cX6_prize 35 = .ok (.iconst 0, 1) := by decide +kernel
theorem dX6_prize_36 : decode cX6_prize 36 = .ok (.invokevirtual 154, 3) := by decide +kernel
theorem dX6_prize_39 : decode cX6_prize 39 = .ok (.istore_n 2, 1) := by decide +kernel
theorem dX6_prize_40 : decode cX6_prize 40 = .ok (.iconst 0, 1) := by decide +kernel
theorem dX6_prize_41 : decode cX6_prize 41 = .ok (.istore_n 3, 1) := by decide +kernel
theorem dX6_prize_42 : decode cX6_prize 42 = .ok (.iconst 0, 1) := by decide +kernel
theorem dX6_prize_43 : decode cX6_prize 43 = .ok (.istore 4, 2) := by decide +kernel
theorem dX6_prize_45 : decode cX6_prize 45 = .ok (.iconst 0, 1) := by decide +kernel
theorem dX6_prize_46 : decode cX6_prize 46 = .ok (.istore 5, 2) := by decide +kernel
theorem dX6_prize_48 : decode cX6_prize 48 = .ok (.iload 5, 2) := by decide +kernel
theorem dX6_prize_50 : decode cX6_prize 50 = .ok (.aload_n 0, 1) := by decide +kernel
theorem dX6_prize_51 : decode cX6_prize 51 = .ok (.getfield 70, 3) := by decide +kernel
theorem dX6_prize_54 : decode cX6_prize 54 = .ok (.if_icmp .ge 36, 3) := by decide +kernel
theorem dX6_prize_57 : decode cX6_prize 57 = .ok (.aload_n 0, 1) := by decide +kernel
theorem dX6_prize_58 : decode cX6_prize 58 = .ok (.iload 5, 2) := by decide +kernel
theorem dX6_prize_60 : decode cX6_prize 60 = .ok (.iconst 0, 1) := by decide +kernel
theorem dX6_prize_61 : decode cX6_prize 61 = .ok (.invokevirtual 154, 3) := by decide +kernel
theorem dX6_prize_64 : decode cX6_prize 64 = .ok (.iload_n 2, 1) := by decide +kernel
theorem dX6_prize_65 : decode cX6_prize 65 = .ok (.if_icmp .ne 19, 3) := by decide +kernel
theorem dX6_prize_68 : decode cX6_prize 68 = .ok (.iload 4, 2) := by decide +kernel
theorem dX6_prize_70 : decode cX6_prize 70 = .ok (.aload_n 0, 1) := by decide +kernel
theorem dX6_prize_71 : decode cX6_prize 71 = .ok (.getfield 57, 3) := by decide +kernel
theorem dX6_prize_74 : decode cX6_prize 74 = .ok (.iload_n 2, 1) := by decide +kernel
theorem dX6_prize_75 : decode cX6_prize 75 = .ok (.iload_n 3, 1) := by decide +kernel
theorem dX6_prize_76 : decode cX6_prize 76 = .ok (.iadd, 1) := by decide +kernel
theorem dX6_prize_77 : decode cX6_prize 77 = .ok (.iaload, 1) := by decide +kernel
theorem dX6_prize_78 : decode cX6_prize 78 = .ok (.iadd, 1) := by decide +kernel
theorem dX6_prize_79 : decode cX6_prize 79 = .ok (.istore 4, 2) := by decide +kernel
theorem dX6_prize_81 : decode cX6_prize 81 = .ok (.iinc 3 1, 3) := by decide +kernel
theorem dX6_prize_84 : decode cX6_prize 84 = .ok (.iinc 5 1, 3) := by decide +kernel
theorem dX6_prize_87 : decode cX6_prize 87 = .ok (.goto (-39), 3) := by decide +kernel
theorem dX6_prize_90 : decode cX6_prize 90 = .ok (.iload 4, 2) := by decide +kernel
theorem dX6_prize_92 : decode cX6_prize 92 = .ok (.iload_n 3, 1) := by decide +kernel
theorem dX6_prize_93 : decode cX6_prize 93 = .ok (.idiv, 1) := by decide +kernel
theorem dX6_prize_94 : decode cX6_prize 94 = .ok (.ireturn, 1) := by decide +kernel
set_option maxHeartbeats 4000000 in
set_option maxRecDepth 100000 in
theorem c_X6_prize (l : Launch) (D : va_G) (cI cZ cL : ClassId) (am : Nat → Nat) (M : Mem) (th : Int32) (A : Nat → Prop) (hD : va_D A (wQ am cI cZ M th)) (x1 : Int32) (hI : J0 M) (hfm : ∀ t o, t < mT M → o < mT M → m_ahead M o false = m_ahead M t false → m_ahead M t false + m_pm M (m_ahead M t false) o < 8) (hpos : ∀ t, t < mT M → 0 < m_pm M (m_ahead M t false) (mT M)) : WR l D cI cZ cL yX6_prize cX6_prize 6 (some .int) 9 [.ref (am 0), .int x1] A (wQ am cI cZ M th) (wQ am cI cZ ((mPrize M x1).2.2) ((mPrize M x1).2.1)) (some (.int ((mPrize M x1).1))) := by
  refine WR.of (by decide) (Nat.le_of_ble_eq_true rfl) ?_
  intro p e s m args below meth c ls hx hb hr hml hown hlk hE hP hS hl
  have hl : lv_has ls 6 [(0, .ref (am 0)), (1, .int x1)] := hl
  have hT8 := hI.T8
  have hR16 := hI.R16
  have hN200 := hI.N200
  refine lv_aload_n hx hb dX6_prize_0 rfl (lv_at hl 0 rfl) ?_
  refine lv_aload_n hx hb dX6_prize_1 rfl (lv_at hl 0 rfl) ?_
  refine lv_iload_n hx hb dX6_prize_2 rfl (lv_at hl 1 rfl) ?_
  refine q_rd (q_runV (rest := [.ref (am 0)]) hx hb hml hown hE (c_X6_isTeam l D cI cZ cL am M th x1 hI) ck_X6_isTeam w_891 hP 0 rfl rfl hl.1 rfl ⟨Nat.le_of_ble_eq_true rfl, Nat.le_of_ble_eq_true rfl⟩ (Nat.le_of_ble_eq_true rfl) dX6_prize_3 ⟨Nat.le_of_ble_eq_true rfl, Nat.le_of_ble_eq_true rfl⟩) ?_
  refine lv_if_ne (tgt := 13) hx hb dX6_prize_6 (by decide) (fun zc_1 => ?_) (fun zc_1 => ?_)
  · skip
    have zc_1 : okn x1 (mT M) = true := b_t zc_1
    obtain ⟨u1, hu1, eu1⟩ := okn_t (zc_1)
    subst eu1
    have iu1 : iN (nI u1) = u1 := iN_nI (by omega)
    refine lv_aload_n hx hb dX6_prize_13 rfl (lv_at hl 0 rfl) ?_
    refine q_get (v := .int (M 0 1)) hx hb hown hE inT_X6 hP 0 rfl rfl 1 (by decide) w_759 rfl dX6_prize_14 ?_
    refine lv_if_eq (tgt := 24) hx hb dX6_prize_17 (by decide) (fun zc_2 => ?_) (fun zc_2 => ?_)
    · skip
      have ec_2 := eq_true zc_2
      refine lv_iconst (v := 2) hx hb dX6_prize_24 (by decide) ?_
      refine q_w0 (q_runV (rest := []) hx hb hml hown hE (c_X6_goes l D cI cZ cL am M th A (wQ_D hD) 2) ck_X6_goes w_837 hP 0 rfl rfl hl.1 rfl ⟨Nat.le_of_ble_eq_true rfl, Nat.le_of_ble_eq_true rfl⟩ (Nat.le_of_ble_eq_true rfl) dX6_prize_25 ⟨Nat.le_of_ble_eq_true rfl, Nat.le_of_ble_eq_true rfl⟩) hS (fun H locs hP hS => ?_)
      have hI_c3 : J0 M := hI
      refine q_top (y := 0) (by decide) ?_
      refine lv_if_ne (tgt := 33) hx hb dX6_prize_28 (by decide) (fun zc_4 => ?_) (fun zc_4 => ?_)
      · skip
        exact absurd zc_4 (by decide)
      · skip
        refine lv_iconst (v := 0) hx hb dX6_prize_31 (by decide) ?_
        rw [show mPrize M (nI u1) = (0, 2, M) from by first | (simp only [mPrize, mm1, zc_1, iu1, ec_2, ↓reduceIte]; done) | (simp only [mPrize, mm1, zc_1, iu1, ec_2, ↓reduceIte]; rfl) | (simp [mPrize, mm1, zc_1, iu1, ec_2]; done) | (simp [mPrize, mm1, zc_1, iu1, ec_2]; rfl)]
        exact e_wret hx hb hr hlk rfl hP hS dX6_prize_32
    · skip
      refine lv_iconst (v := 0) hx hb dX6_prize_20 (by decide) ?_
      refine lv_goto (tgt := 25) hx hb dX6_prize_21 (by decide) ?_
      refine q_w0 (q_runV (rest := []) hx hb hml hown hE (c_X6_goes l D cI cZ cL am M th A (wQ_D hD) 0) ck_X6_goes w_837 hP 0 rfl rfl hl.1 rfl ⟨Nat.le_of_ble_eq_true rfl, Nat.le_of_ble_eq_true rfl⟩ (Nat.le_of_ble_eq_true rfl) dX6_prize_25 ⟨Nat.le_of_ble_eq_true rfl, Nat.le_of_ble_eq_true rfl⟩) hS (fun H locs hP hS => ?_)
      have hI_c5 : J0 M := hI
      refine q_top (y := 1) (by decide) ?_
      refine lv_if_ne (tgt := 33) hx hb dX6_prize_28 (by decide) (fun zc_6 => ?_) (fun zc_6 => ?_)
      · skip
        refine lv_aload_n hx hb dX6_prize_33 rfl (lv_at hl 0 rfl) ?_
        refine lv_iload_n hx hb dX6_prize_34 rfl (lv_at hl 1 rfl) ?_
        refine lv_iconst (v := 0) hx hb dX6_prize_35 (by decide) ?_
        refine q_rd (q_runV (rest := []) hx hb hml hown hE (c_X6_ahead l D cI cZ cL am M 0 u1 false hI_c5 (by omega)) ck_X6_ahead w_1007 hP 0 rfl rfl hl.1 rfl ⟨Nat.le_of_ble_eq_true rfl, Nat.le_of_ble_eq_true rfl⟩ (Nat.le_of_ble_eq_true rfl) dX6_prize_36 ⟨Nat.le_of_ble_eq_true rfl, Nat.le_of_ble_eq_true rfl⟩) ?_
        refine lv_istore_n (lv' := [(2, .int (nI (m_ahead M u1 false))), (0, .ref (am 0)), (1, .int (nI u1))]) hx hb dX6_prize_39 rfl hl (by decide) rfl (fun ls hl => ?_)
        refine lv_iconst (v := 0) hx hb dX6_prize_40 (by decide) ?_
        refine lv_istore_n (lv' := [(3, .int 0), (2, .int (nI (m_ahead M u1 false))), (0, .ref (am 0)), (1, .int (nI u1))]) hx hb dX6_prize_41 rfl hl (by decide) rfl (fun ls hl => ?_)
        refine lv_iconst (v := 0) hx hb dX6_prize_42 (by decide) ?_
        refine lv_istore (lv' := [(4, .int 0), (3, .int 0), (2, .int (nI (m_ahead M u1 false))), (0, .ref (am 0)), (1, .int (nI u1))]) hx hb dX6_prize_43 hl (by decide) rfl (fun ls hl => ?_)
        refine lv_iconst (v := 0) hx hb dX6_prize_45 (by decide) ?_
        refine lv_istore (lv' := [(5, .int 0), (4, .int 0), (3, .int 0), (2, .int (nI (m_ahead M u1 false))), (0, .ref (am 0)), (1, .int (nI u1))]) hx hb dX6_prize_46 hl (by decide) rfl (fun ls hl => ?_)
        have hloop_48 : ∀ (n i : Nat), i ≤ mT M → mT M < i + n → ∀ ls : Array Slot, lv_has ls 6 [(5, .int (nI i)), (4, .int (m_ps M (m_ahead M u1 false) i)), (3, .int (nI (m_pm M (m_ahead M u1 false) i))), (2, .int (nI (m_ahead M u1 false))), (0, .ref (am 0)), (1, .int (nI u1))] → W p l e (rm 9 0 0) s m args below meth c H locs 0 0 (MQ below (Qwr D A (wQ am cI cZ ((mPrize M (nI u1)).2.2) ((mPrize M (nI u1)).2.1)) (some (.int ((mPrize M (nI u1)).1)))) args s 0 0 A) (F0 m 48 ls []) := by
          intro n
          induction n with
          | zero => intro i h1 h2; exact absurd h2 (by omega)
          | succ n ih_48 =>
            intro i hi_48 hin_48  ls hl
            refine lv_iload hx hb dX6_prize_48 (lv_at hl 0 rfl) ?_
            refine lv_aload_n hx hb dX6_prize_50 rfl (lv_at hl 4 rfl) ?_
            refine q_get (v := .int (M 0 8)) hx hb hown hE inT_X6 hP 0 rfl rfl 8 (by decide) w_766 rfl dX6_prize_51 ?_
            refine q_top (y := nI (mT M)) (J0.T hI_c5) ?_
            refine lv_icmp_ge (tgt := 90) hx hb dX6_prize_54 (by decide) (fun zc_7 => ?_) (fun zc_7 => ?_)
            · skip
              have zc_7 : (mT M) ≤ i := n_le (a := mT M) (b := i) (by omega) (by omega) zc_7
              have hend_48 : mT M = i := by omega
              subst hend_48
              refine lv_iload hx hb dX6_prize_90 (lv_at hl 1 rfl) ?_
              refine lv_iload_n hx hb dX6_prize_92 rfl (lv_at hl 2 rfl) ?_
              refine lv_idiv hx hb dX6_prize_93 (nI_ne0 (hpos u1 hu1) (by have := m_pm_le M (m_ahead M u1 false) (mT M); omega)) ?_
              rw [show mPrize M (nI u1) = ((m_ps M (m_ahead M u1 false) (mT M)) / (nI (m_pm M (m_ahead M u1 false) (mT M))), 0, M) from by first | (simp only [mPrize, mm1, zc_1, iu1, zc_2, ↓reduceIte]; done) | (simp only [mPrize, mm1, zc_1, iu1, zc_2, ↓reduceIte]; rfl) | (simp [mPrize, mm1, zc_1, iu1, zc_2]; done) | (simp [mPrize, mm1, zc_1, iu1, zc_2]; rfl)]
              exact e_wret hx hb hr hlk rfl hP hS dX6_prize_94
            · skip
              have zc_7 : i < (mT M) := n_nle (a := mT M) (b := i) (by omega) (by omega) zc_7
              refine lv_aload_n hx hb dX6_prize_57 rfl (lv_at hl 4 rfl) ?_
              refine lv_iload hx hb dX6_prize_58 (lv_at hl 0 rfl) ?_
              refine lv_iconst (v := 0) hx hb dX6_prize_60 (by decide) ?_
              refine q_rd (q_runV (rest := []) hx hb hml hown hE (c_X6_ahead l D cI cZ cL am M 0 i false hI_c5 (by omega)) ck_X6_ahead w_1007 hP 0 rfl rfl hl.1 rfl ⟨Nat.le_of_ble_eq_true rfl, Nat.le_of_ble_eq_true rfl⟩ (Nat.le_of_ble_eq_true rfl) dX6_prize_61 ⟨Nat.le_of_ble_eq_true rfl, Nat.le_of_ble_eq_true rfl⟩) ?_
              have hb1 : m_ahead M i false ≤ mT M := m_ah_le M i false (mT M)
              have hb2 : m_ahead M u1 false ≤ mT M := m_ah_le M u1 false (mT M)
              refine lv_iload_n hx hb dX6_prize_64 rfl (lv_at hl 3 rfl) ?_
              refine lv_icmp_ne (tgt := 84) hx hb dX6_prize_65 (by decide) (fun zc_8 => ?_) (fun zc_8 => ?_)
              · skip
                have zc_8 : ¬ (m_ahead M i false) = (m_ahead M u1 false) := n_ne (a := m_ahead M i false) (b := m_ahead M u1 false) (by omega) (by omega) zc_8
                refine lv_iinc (v := nI (i + 1)) (lv' := [(5, .int (nI (i + 1))), (4, .int (m_ps M (m_ahead M u1 false) i)), (3, .int (nI (m_pm M (m_ahead M u1 false) i))), (2, .int (nI (m_ahead M u1 false))), (0, .ref (am 0)), (1, .int (nI u1))]) hx hb dX6_prize_84 hl (k := 0) rfl (nI_1 i) (by decide) rfl (fun ls hl => ?_)
                refine lv_goto (tgt := 48) hx hb dX6_prize_87 (by decide) ?_
                refine ih_48 (i + 1) (by omega) (by omega)  ls ?_
                rw [show m_ps M (m_ahead M u1 false) (i + 1) = m_ps M (m_ahead M u1 false) i from by first | (simp only [bI, m_pm, m_ps, zc_7, zc_8, ↓reduceIte]; done) | (simp [bI, m_pm, m_ps, zc_7, zc_8]; done) | (simp_all [bI, m_pm, m_ps]; done)]
                rw [show m_pm M (m_ahead M u1 false) (i + 1) = m_pm M (m_ahead M u1 false) i from by first | (simp only [bI, m_pm, m_ps, zc_7, zc_8, ↓reduceIte]; done) | (simp [bI, m_pm, m_ps, zc_7, zc_8]; done) | (simp_all [bI, m_pm, m_ps]; done)]
                exact lv_sub hl [0, 1, 2, 3, 4, 5] rfl
              · skip
                have zc_8 : (m_ahead M i false) = (m_ahead M u1 false) := n_eq (a := m_ahead M i false) (b := m_ahead M u1 false) (by omega) (by omega) zc_8
                refine lv_iload hx hb dX6_prize_68 (lv_at hl 1 rfl) ?_
                refine lv_aload_n hx hb dX6_prize_70 rfl (lv_at hl 4 rfl) ?_
                refine q_get (v := .ref (am 15)) hx hb hown hE inT_X6 hP 0 rfl rfl 20 (by decide) w_778 rfl dX6_prize_71 ?_
                refine lv_iload_n hx hb dX6_prize_74 rfl (lv_at hl 3 rfl) ?_
                refine lv_iload_n hx hb dX6_prize_75 rfl (lv_at hl 2 rfl) ?_
                refine lv_iadd hx hb dX6_prize_76 ?_
                refine q_top (y := nI ((m_ahead M u1 false) + (m_pm M (m_ahead M u1 false) i))) (nI_add (m_ahead M u1 false) (m_pm M (m_ahead M u1 false) i)) ?_
                refine q_iald (f := M 15) (i := ((m_ahead M u1 false) + (m_pm M (m_ahead M u1 false) i))) hx hb hE hP 15 rfl (hfm u1 i hu1 (by omega) zc_8) (Nat.le_of_ble_eq_true rfl) dX6_prize_77 ?_
                refine lv_iadd hx hb dX6_prize_78 ?_
                refine lv_istore (lv' := [(4, .int ((m_ps M (m_ahead M u1 false) i) + (M 15 ((m_ahead M u1 false) + (m_pm M (m_ahead M u1 false) i))))), (5, .int (nI i)), (3, .int (nI (m_pm M (m_ahead M u1 false) i))), (2, .int (nI (m_ahead M u1 false))), (0, .ref (am 0)), (1, .int (nI u1))]) hx hb dX6_prize_79 hl (by decide) rfl (fun ls hl => ?_)
                refine lv_iinc (v := nI ((m_pm M (m_ahead M u1 false) i) + 1)) (lv' := [(3, .int (nI ((m_pm M (m_ahead M u1 false) i) + 1))), (4, .int ((m_ps M (m_ahead M u1 false) i) + (M 15 ((m_ahead M u1 false) + (m_pm M (m_ahead M u1 false) i))))), (5, .int (nI i)), (2, .int (nI (m_ahead M u1 false))), (0, .ref (am 0)), (1, .int (nI u1))]) hx hb dX6_prize_81 hl (k := 2) rfl (nI_1 (m_pm M (m_ahead M u1 false) i)) (by decide) rfl (fun ls hl => ?_)
                refine lv_iinc (v := nI (i + 1)) (lv' := [(5, .int (nI (i + 1))), (3, .int (nI ((m_pm M (m_ahead M u1 false) i) + 1))), (4, .int ((m_ps M (m_ahead M u1 false) i) + (M 15 ((m_ahead M u1 false) + (m_pm M (m_ahead M u1 false) i))))), (2, .int (nI (m_ahead M u1 false))), (0, .ref (am 0)), (1, .int (nI u1))]) hx hb dX6_prize_84 hl (k := 2) rfl (nI_1 i) (by decide) rfl (fun ls hl => ?_)
                refine lv_goto (tgt := 48) hx hb dX6_prize_87 (by decide) ?_
                refine ih_48 (i + 1) (by omega) (by omega)  ls ?_
                rw [show m_ps M (m_ahead M u1 false) (i + 1) = (m_ps M (m_ahead M u1 false) i) + (M 15 ((m_ahead M u1 false) + (m_pm M (m_ahead M u1 false) i))) from by first | (simp only [bI, m_pm, m_ps, zc_7, zc_8, ↓reduceIte]; done) | (simp [bI, m_pm, m_ps, zc_7, zc_8]; done) | (simp_all [bI, m_pm, m_ps]; done)]
                rw [show m_pm M (m_ahead M u1 false) (i + 1) = (m_pm M (m_ahead M u1 false) i) + 1 from by first | (simp only [bI, m_pm, m_ps, zc_7, zc_8, ↓reduceIte]; done) | (simp [bI, m_pm, m_ps, zc_7, zc_8]; done) | (simp_all [bI, m_pm, m_ps]; done)]
                exact lv_sub hl [0, 2, 1, 3, 4, 5] rfl
        refine hloop_48 (mT M + 1) 0 (by omega) (by omega)  ls ?_
        rw [show m_ps M (m_ahead M u1 false) 0 = 0 from by first | rfl | (first | (simp only [bI, m_pm, m_ps, zc_1, iu1, zc_2, ↓reduceIte]; done) | (simp [bI, m_pm, m_ps, zc_1, iu1, zc_2]; done) | (simp_all [bI, m_pm, m_ps]; done))]
        rw [show m_pm M (m_ahead M u1 false) 0 = 0 from by first | rfl | (first | (simp only [bI, m_pm, m_ps, zc_1, iu1, zc_2, ↓reduceIte]; done) | (simp [bI, m_pm, m_ps, zc_1, iu1, zc_2]; done) | (simp_all [bI, m_pm, m_ps]; done))]
        exact lv_sub hl [0, 1, 2, 3, 4, 5] rfl
      · skip
        exact absurd zc_6 (by decide)
  · skip
    have zc_1 : okn x1 (mT M) = false := b_f zc_1
    refine lv_iconst (v := 1) hx hb dX6_prize_9 (by decide) ?_
    refine lv_goto (tgt := 25) hx hb dX6_prize_10 (by decide) ?_
    refine q_w0 (q_runV (rest := []) hx hb hml hown hE (c_X6_goes l D cI cZ cL am M th A (wQ_D hD) 1) ck_X6_goes w_837 hP 0 rfl rfl hl.1 rfl ⟨Nat.le_of_ble_eq_true rfl, Nat.le_of_ble_eq_true rfl⟩ (Nat.le_of_ble_eq_true rfl) dX6_prize_25 ⟨Nat.le_of_ble_eq_true rfl, Nat.le_of_ble_eq_true rfl⟩) hS (fun H locs hP hS => ?_)
    have hI_c9 : J0 M := hI
    refine q_top (y := 0) (by decide) ?_
    refine lv_if_ne (tgt := 33) hx hb dX6_prize_28 (by decide) (fun zc_10 => ?_) (fun zc_10 => ?_)
    · skip
      exact absurd zc_10 (by decide)
    · skip
      refine lv_iconst (v := 0) hx hb dX6_prize_31 (by decide) ?_
      rw [show mPrize M x1 = (0, 1, M) from by first | (simp only [mPrize, mm1, zc_1, ↓reduceIte]; done) | (simp only [mPrize, mm1, zc_1, ↓reduceIte]; rfl) | (simp [mPrize, mm1, zc_1]; done) | (simp [mPrize, mm1, zc_1]; rfl)]
      exact e_wret hx hb hr hlk rfl hP hS dX6_prize_32
