theorem dX6_isIn_0 : decode cX6_isIn 0 = .ok (.iload_n 0, 1) := by decide +kernel
theorem dX6_isIn_1 : decode cX6_isIn 1 = .ok (.iload_n 1, 1) := by decide +kernel
theorem dX6_isIn_2 : decode cX6_isIn 2 = .ok (.if_icmp .lt 12, 3) := by decide +kernel
theorem dX6_isIn_5 : decode cX6_isIn 5 = .ok (.iload_n 0, 1) := by decide +kernel
theorem dX6_isIn_6 : decode cX6_isIn 6 = .ok (.iload_n 2, 1) := by decide +kernel
theorem dX6_isIn_7 : decode cX6_isIn 7 = .ok (.if_icmp .gt 7, 3) := by decide +kernel
theorem dX6_isIn_10 : decode cX6_isIn 10 = .ok (.iconst 1, 1) := by decide +kernel
theorem dX6_isIn_11 : decode cX6_isIn 11 = .ok (.goto 4, 3) := by decide +kernel
theorem dX6_isIn_14 : decode cX6_isIn 14 = .ok (.iconst 0, 1) := by decide +kernel
theorem dX6_isIn_15 : decode cX6_isIn 15 = .ok (.ireturn, 1) := by decide +kernel
set_option maxHeartbeats 4000000 in
set_option maxRecDepth 100000 in
theorem c_X6_isIn (l : Launch) (D : va_G) (cI cZ cL : ClassId) (ws : va_W) (v : Int32) (lo : Int32) (up : Int32) : RD l D cI cZ cL yX6_isIn cX6_isIn 3 (some .boolean) 0 [.int v, .int lo, .int up] ws (some (.int (bI (okr v lo up)))) := by
  refine RD.of (by decide) (Nat.le_of_ble_eq_true rfl) ?_
  intro p e s m args below meth c ls hx hb hr hml hown hlk hE hP hl
  have hl : lv_has ls 3 [(0, .int v), (1, .int lo), (2, .int up)] := hl
  refine lv_iload_n hx hb dX6_isIn_0 rfl (lv_at hl 0 rfl) ?_
  refine lv_iload_n hx hb dX6_isIn_1 rfl (lv_at hl 1 rfl) ?_
  refine lv_icmp_lt (tgt := 14) hx hb dX6_isIn_2 (by decide) (fun c_1 => ?_) (fun c_1 => ?_)
  · skip
    have g_1 : ¬ lo ≤ v := Int32.not_le.mpr c_1
    refine lv_iconst (v := 0) hx hb dX6_isIn_14 (by decide) ?_
    refine q_top (y := bI (okr v lo up)) (by first | (simp only [bI, okr, c_1, g_1, ↓reduceIte]; done) | (simp [bI, okr, c_1, g_1]; done) | (simp_all [bI, okr]; done)) ?_
    exact e_ret hx hb hr hlk (n_bI _) dX6_isIn_15
  · skip
    have g_1 : lo ≤ v := Int32.not_lt.mp c_1
    refine lv_iload_n hx hb dX6_isIn_5 rfl (lv_at hl 0 rfl) ?_
    refine lv_iload_n hx hb dX6_isIn_6 rfl (lv_at hl 2 rfl) ?_
    refine lv_icmp_gt (tgt := 14) hx hb dX6_isIn_7 (by decide) (fun c_2 => ?_) (fun c_2 => ?_)
    · skip
      have g_2 : ¬ v ≤ up := Int32.not_le.mpr c_2
      refine lv_iconst (v := 0) hx hb dX6_isIn_14 (by decide) ?_
      refine q_top (y := bI (okr v lo up)) (by first | (simp only [bI, okr, c_1, g_1, c_2, g_2, ↓reduceIte]; done) | (simp [bI, okr, c_1, g_1, c_2, g_2]; done) | (simp_all [bI, okr]; done)) ?_
      exact e_ret hx hb hr hlk (n_bI _) dX6_isIn_15
    · skip
      have g_2 : v ≤ up := Int32.not_lt.mp c_2
      refine lv_iconst (v := 1) hx hb dX6_isIn_10 (by decide) ?_
      refine lv_goto (tgt := 15) hx hb dX6_isIn_11 (by decide) ?_
      refine q_top (y := bI (okr v lo up)) (by first | (simp only [bI, okr, c_1, g_1, c_2, g_2, ↓reduceIte]; done) | (simp [bI, okr, c_1, g_1, c_2, g_2]; done) | (simp_all [bI, okr]; done)) ?_
      exact e_ret hx hb hr hlk (n_bI _) dX6_isIn_15

theorem dX6_at_0 : decode cX6_at 0 = .ok (.bipush 16, 2) := by decide +kernel
theorem dX6_at_2 : decode cX6_at 2 = .ok (.iload_n 0, 1) := by decide +kernel
theorem dX6_at_3 : decode cX6_at 3 = .ok (.imul, 1) := by decide +kernel
theorem dX6_at_4 : decode cX6_at 4 = .ok (.iload_n 1, 1) := by decide +kernel
theorem dX6_at_5 : decode cX6_at 5 = .ok (.iadd, 1) := by decide +kernel
theorem dX6_at_6 : decode cX6_at 6 = .ok (.ireturn, 1) := by decide +kernel
set_option maxHeartbeats 4000000 in
set_option maxRecDepth 100000 in
theorem c_X6_at (l : Launch) (D : va_G) (cI cZ cL : ClassId) (ws : va_W) (t : Nat) (r : Nat) : RD l D cI cZ cL yX6_at cX6_at 2 (some .int) 0 [.int (nI t), .int (nI r)] ws (some (.int (nI (16 * t + r)))) := by
  refine RD.of (by decide) (Nat.le_of_ble_eq_true rfl) ?_
  intro p e s m args below meth c ls hx hb hr hml hown hlk hE hP hl
  have hl : lv_has ls 2 [(0, .int (nI t)), (1, .int (nI r))] := hl
  refine lv_bipush (v := 16) hx hb dX6_at_0 (by decide) ?_
  refine lv_iload_n hx hb dX6_at_2 rfl (lv_at hl 0 rfl) ?_
  refine lv_imul hx hb dX6_at_3 ?_
  refine q_top (y := nI (16 * t)) (pk_mul 16 t) ?_
  refine lv_iload_n hx hb dX6_at_4 rfl (lv_at hl 1 rfl) ?_
  refine lv_iadd hx hb dX6_at_5 ?_
  refine q_top (y := nI ((16 * t) + r)) (nI_add (16 * t) r) ?_
  refine q_top (y := nI (16 * t + r)) (rfl) ?_
  exact e_ret hx hb hr hlk rfl dX6_at_6

theorem dX6_bits_0 : decode cX6_bits 0 = .ok (.iconst 0, 1) := by decide +kernel
theorem dX6_bits_1 : decode cX6_bits 1 = .ok (.istore_n 1, 1) := by decide +kernel
theorem dX6_bits_2 : decode cX6_bits 2 = .ok (.iconst 0, 1) := by decide +kernel
theorem dX6_bits_3 : decode cX6_bits 3 = .ok (.istore_n 2, 1) := by decide +kernel
theorem dX6_bits_4 : decode cX6_bits 4 = .ok (.iload_n 2, 1) := by decide +kernel
theorem dX6_bits_5 : decode cX6_bits 5 = .ok (.bipush 16, 2) := by decide +kernel
theorem dX6_bits_7 : decode cX6_bits 7 = .ok (.if_icmp .ge 17, 3) := by decide +kernel
theorem dX6_bits_10 : decode cX6_bits 10 = .ok (.iload_n 1, 1) := by decide +kernel
theorem dX6_bits_11 : decode cX6_bits 11 = .ok (.iload_n 0, 1) := by decide +kernel
theorem dX6_bits_12 : decode cX6_bits 12 = .ok (.iload_n 2, 1) := by decide +kernel
theorem dX6_bits_13 : decode cX6_bits 13 = .ok (.ishr, 1) := by decide +kernel
theorem dX6_bits_14 : decode cX6_bits 14 = .ok (.iconst 1, 1) := by decide +kernel
theorem dX6_bits_15 : decode cX6_bits 15 = .ok (.iand, 1) := by decide +kernel
theorem dX6_bits_16 : decode cX6_bits 16 = .ok (.iadd, 1) := by decide +kernel
theorem dX6_bits_17 : decode cX6_bits 17 = .ok (.istore_n 1, 1) := by decide +kernel
theorem dX6_bits_18 : decode cX6_bits 18 = .ok (.iinc 2 1, 3) := by decide +kernel
theorem dX6_bits_21 : decode cX6_bits 21 = .ok (.goto (-17), 3) := by decide +kernel
theorem dX6_bits_24 : decode cX6_bits 24 = .ok (.iload_n 1, 1) := by decide +kernel
theorem dX6_bits_25 : decode cX6_bits 25 = .ok (.ireturn, 1) := by decide +kernel
set_option maxHeartbeats 4000000 in
set_option maxRecDepth 100000 in
theorem c_X6_bits (l : Launch) (D : va_G) (cI cZ cL : ClassId) (ws : va_W) (set : Int32) : RD l D cI cZ cL yX6_bits cX6_bits 3 (some .int) 0 [.int set] ws (some (.int (m_bits set 16))) := by
  refine RD.of (by decide) (Nat.le_of_ble_eq_true rfl) ?_
  intro p e s m args below meth c ls hx hb hr hml hown hlk hE hP hl
  have hl : lv_has ls 3 [(0, .int set)] := hl
  refine lv_iconst (v := 0) hx hb dX6_bits_0 (by decide) ?_
  refine lv_istore_n (lv' := [(1, .int 0), (0, .int set)]) hx hb dX6_bits_1 rfl hl (by decide) rfl (fun ls hl => ?_)
  refine lv_iconst (v := 0) hx hb dX6_bits_2 (by decide) ?_
  refine lv_istore_n (lv' := [(2, .int 0), (1, .int 0), (0, .int set)]) hx hb dX6_bits_3 rfl hl (by decide) rfl (fun ls hl => ?_)
  have hloop_4 : ∀ (n i : Nat), i ≤ 16 → 16 < i + n → ∀ ls : Array Slot, lv_has ls 3 [(2, .int (nI i)), (1, .int (m_bits set i)), (0, .int set)] → W p l e (rm 0 0 0) s m args below meth c s.heap [] 0 0 (MQ below (Qrd (some (.int (m_bits set 16)))) args s 0 0 q_no) (F0 m 4 ls []) := by
    intro n
    induction n with
    | zero => intro i h1 h2; exact absurd h2 (by omega)
    | succ n ih_4 =>
      intro i hi_4 hin_4  ls hl
      refine lv_iload_n hx hb dX6_bits_4 rfl (lv_at hl 0 rfl) ?_
      refine lv_bipush (v := 16) hx hb dX6_bits_5 (by decide) ?_
      refine lv_icmp_ge (tgt := 24) hx hb dX6_bits_7 (by decide) (fun c_1 => ?_) (fun c_1 => ?_)
      · skip
        have c_1 : 16 ≤ i := n_le (a := 16) (b := i) (by omega) (by omega) c_1
        have hend_4 : 16 = i := by omega
        subst hend_4
        refine lv_iload_n hx hb dX6_bits_24 rfl (lv_at hl 1 rfl) ?_
        exact e_ret hx hb hr hlk rfl dX6_bits_25
      · skip
        have c_1 : i < 16 := n_nle (a := 16) (b := i) (by omega) (by omega) c_1
        refine lv_iload_n hx hb dX6_bits_10 rfl (lv_at hl 1 rfl) ?_
        refine lv_iload_n hx hb dX6_bits_11 rfl (lv_at hl 2 rfl) ?_
        refine lv_iload_n hx hb dX6_bits_12 rfl (lv_at hl 0 rfl) ?_
        refine lv_ishr hx hb dX6_bits_13 ?_
        refine lv_iconst (v := 1) hx hb dX6_bits_14 (by decide) ?_
        refine lv_iand hx hb dX6_bits_15 ?_
        refine lv_iadd hx hb dX6_bits_16 ?_
        refine lv_istore_n (lv' := [(1, .int ((m_bits set i) + ((set >>> ((nI i) &&& 31)) &&& 1))), (2, .int (nI i)), (0, .int set)]) hx hb dX6_bits_17 rfl hl (by decide) rfl (fun ls hl => ?_)
        refine lv_iinc (v := nI (i + 1)) (lv' := [(2, .int (nI (i + 1))), (1, .int ((m_bits set i) + ((set >>> ((nI i) &&& 31)) &&& 1))), (0, .int set)]) hx hb dX6_bits_18 hl (k := 1) rfl (nI_1 i) (by decide) rfl (fun ls hl => ?_)
        refine lv_goto (tgt := 4) hx hb dX6_bits_21 (by decide) ?_
        refine ih_4 (i + 1) (by omega) (by omega)  ls ?_
        rw [show m_bits set (i + 1) = (m_bits set i) + ((set >>> ((nI i) &&& 31)) &&& 1) from by rfl]
        exact lv_sub hl [0, 1, 2] rfl
  refine hloop_4 (16 + 1) 0 (by omega) (by omega)  ls ?_
  rw [show m_bits set 0 = 0 from by first | rfl | (first | (simp only [bI, ↓reduceIte]; done) | (simp [bI]; done) | (simp_all [bI]; done))]
  exact lv_sub hl [0, 1, 2] rfl

theorem dX6_goes_0 : decode cX6_goes 0 = .ok (.aload_n 0, 1) := by decide +kernel
theorem dX6_goes_1 : decode cX6_goes 1 = .ok (.iload_n 1, 1) := by decide +kernel
theorem dX6_goes_2 : decode cX6_goes 2 = .ok (.putfield 60, 3) := by decide +kernel
theorem dX6_goes_5 : decode cX6_goes 5 = .ok (.iload_n 1, 1) := by decide +kernel
theorem dX6_goes_6 : decode cX6_goes 6 = .ok (.ifCond .ne 7, 3) := by decide +kernel
theorem dX6_goes_9 : decode cX6_goes 9 = .ok (.iconst 1, 1) := by decide +kernel
theorem dX6_goes_10 : decode cX6_goes 10 = .ok (.goto 4, 3) := by decide +kernel
theorem dX6_goes_13 : decode cX6_goes 13 = .ok (.iconst 0, 1) := by decide +kernel
theorem dX6_goes_14 : decode cX6_goes 14 = .ok (.ireturn, 1) := by decide +kernel
set_option maxHeartbeats 4000000 in
set_option maxRecDepth 100000 in
theorem c_X6_goes (l : Launch) (D : va_G) (cI cZ cL : ClassId) (am : Nat → Nat) (M : Mem) (th : Int32) (A : Nat → Prop) (hD : va_D A (wQ am cI cZ M th)) (x : Int32) : WR l D cI cZ cL yX6_goes cX6_goes 2 (some .boolean) 0 [.ref (am 0), .int x] A (wQ am cI cZ M th) (wQ am cI cZ M x) (some (.int (bI (decide (x = 0))))) := by
  refine WR.of (by decide) (Nat.le_of_ble_eq_true rfl) ?_
  intro p e s m args below meth c ls hx hb hr hml hown hlk hE hP hS hl
  have hl : lv_has ls 2 [(0, .ref (am 0)), (1, .int x)] := hl
  refine lv_aload_n hx hb dX6_goes_0 rfl (lv_at hl 0 rfl) ?_
  refine lv_iload_n hx hb dX6_goes_1 rfl (lv_at hl 1 rfl) ?_
  refine q_put (ty0 := tyX6) (ws' := (wQ am cI cZ M x)) (v := .int x) hx hb hown hE inT_X6 tyX6_ok nmX6 hP (wQ_D hD) hS 0 rfl rfl 21 (by decide) w_779 rfl rfl rfl (Nat.le_of_ble_eq_true rfl) rfl dX6_goes_2 (fun H locs hP hS => ?_)
  refine lv_iload_n hx hb dX6_goes_5 rfl (lv_at hl 1 rfl) ?_
  refine lv_if_ne (tgt := 13) hx hb dX6_goes_6 (by decide) (fun c_1 => ?_) (fun c_1 => ?_)
  · skip
    refine lv_iconst (v := 0) hx hb dX6_goes_13 (by decide) ?_
    refine q_top (y := bI (decide (x = 0))) (by first | (simp only [bI, c_1, ↓reduceIte]; done) | (simp [bI, c_1]; done) | (simp_all [bI]; done)) ?_
    exact e_wret hx hb hr hlk (n_bI _) hP hS dX6_goes_14
  · skip
    refine lv_iconst (v := 1) hx hb dX6_goes_9 (by decide) ?_
    refine lv_goto (tgt := 14) hx hb dX6_goes_10 (by decide) ?_
    refine q_top (y := bI (decide (x = 0))) (by first | (simp only [bI, c_1, ↓reduceIte]; done) | (simp [bI, c_1]; done) | (simp_all [bI]; done)) ?_
    exact e_wret hx hb hr hlk (n_bI _) hP hS dX6_goes_14

theorem dX6_thrown_0 : decode cX6_thrown 0 = .ok (.aload_n 0, 1) := by decide +kernel
theorem dX6_thrown_1 : decode cX6_thrown 1 = .ok (.getfield 60, 3) := by decide +kernel
theorem dX6_thrown_4 : decode cX6_thrown 4 = .ok (.ireturn, 1) := by decide +kernel
set_option maxHeartbeats 4000000 in
set_option maxRecDepth 100000 in
theorem c_X6_thrown (l : Launch) (D : va_G) (cI cZ cL : ClassId) (am : Nat → Nat) (M : Mem) (th : Int32) : RD l D cI cZ cL yX6_thrown cX6_thrown 1 (some .int) 0 [.ref (am 0)] (wQ am cI cZ M th) (some (.int th)) := by
  refine RD.of (by decide) (Nat.le_of_ble_eq_true rfl) ?_
  intro p e s m args below meth c ls hx hb hr hml hown hlk hE hP hl
  have hl : lv_has ls 1 [(0, .ref (am 0))] := hl
  refine lv_aload_n hx hb dX6_thrown_0 rfl (lv_at hl 0 rfl) ?_
  refine q_get (v := .int th) hx hb hown hE inT_X6 hP 0 rfl rfl 21 (by decide) w_779 rfl dX6_thrown_1 ?_
  exact e_ret hx hb hr hlk rfl dX6_thrown_4

theorem dX6_isRiddle_0 : decode cX6_isRiddle 0 = .ok (.iload_n 1, 1) := by decide +kernel
theorem dX6_isRiddle_1 : decode cX6_isRiddle 1 = .ok (.iconst 0, 1) := by decide +kernel
theorem dX6_isRiddle_2 : decode cX6_isRiddle 2 = .ok (.aload_n 0, 1) := by decide +kernel
theorem dX6_isRiddle_3 : decode cX6_isRiddle 3 = .ok (.getfield 63, 3) := by decide +kernel
theorem dX6_isRiddle_6 : decode cX6_isRiddle 6 = .ok (.iconst 1, 1) := by decide +kernel
theorem dX6_isRiddle_7 : decode cX6_isRiddle 7 = .ok (.isub, 1) := by decide +kernel
theorem dX6_isRiddle_8 : decode cX6_isRiddle 8 = .ok (.invokestatic 66, 3) := by decide +kernel
theorem dX6_isRiddle_11 : decode cX6_isRiddle 11 = .ok (.ireturn, 1) := by decide +kernel
set_option maxHeartbeats 4000000 in
set_option maxRecDepth 100000 in
theorem c_X6_isRiddle (l : Launch) (D : va_G) (cI cZ cL : ClassId) (am : Nat → Nat) (M : Mem) (th : Int32) (x : Int32) (hI : J0 M) : RD l D cI cZ cL yX6_isRiddle cX6_isRiddle 2 (some .boolean) 1 [.ref (am 0), .int x] (wQ am cI cZ M th) (some (.int (bI (okn x (mR M))))) := by
  refine RD.of (by decide) (Nat.le_of_ble_eq_true rfl) ?_
  intro p e s m args below meth c ls hx hb hr hml hown hlk hE hP hl
  have hl : lv_has ls 2 [(0, .ref (am 0)), (1, .int x)] := hl
  have hT8 := hI.T8
  have hR16 := hI.R16
  have hN200 := hI.N200
  refine lv_iload_n hx hb dX6_isRiddle_0 rfl (lv_at hl 1 rfl) ?_
  refine lv_iconst (v := 0) hx hb dX6_isRiddle_1 (by decide) ?_
  refine lv_aload_n hx hb dX6_isRiddle_2 rfl (lv_at hl 0 rfl) ?_
  refine q_get (v := .int (M 0 2)) hx hb hown hE inT_X6 hP 0 rfl rfl 2 (by decide) w_760 rfl dX6_isRiddle_3 ?_
  refine q_top (y := nI (mR M)) (J0.R hI) ?_
  refine lv_iconst (v := 1) hx hb dX6_isRiddle_6 (by decide) ?_
  refine lv_isub hx hb dX6_isRiddle_7 ?_
  refine q_rd (q_runS (rest := []) hx hb hml hown hE (c_X6_isIn l D cI cZ cL _ x 0 ((nI (mR M)) - 1)) ck_X6_isIn w_834 hP hl.1 rfl ⟨Nat.le_of_ble_eq_true rfl, Nat.le_of_ble_eq_true rfl⟩ (Nat.le_of_ble_eq_true rfl) dX6_isRiddle_8 ⟨Nat.le_of_ble_eq_true rfl, Nat.le_of_ble_eq_true rfl⟩) ?_
  refine q_top (y := bI (okn x (mR M))) (by exact congrArg bI (okr_okn (by omega))) ?_
  exact e_ret hx hb hr hlk (n_bI _) dX6_isRiddle_11

theorem dX6_isTeam_0 : decode cX6_isTeam 0 = .ok (.iload_n 1, 1) := by decide +kernel
theorem dX6_isTeam_1 : decode cX6_isTeam 1 = .ok (.iconst 0, 1) := by decide +kernel
theorem dX6_isTeam_2 : decode cX6_isTeam 2 = .ok (.aload_n 0, 1) := by decide +kernel
theorem dX6_isTeam_3 : decode cX6_isTeam 3 = .ok (.getfield 70, 3) := by decide +kernel
theorem dX6_isTeam_6 : decode cX6_isTeam 6 = .ok (.iconst 1, 1) := by decide +kernel
theorem dX6_isTeam_7 : decode cX6_isTeam 7 = .ok (.isub, 1) := by decide +kernel
theorem dX6_isTeam_8 : decode cX6_isTeam 8 = .ok (.invokestatic 66, 3) := by decide +kernel
theorem dX6_isTeam_11 : decode cX6_isTeam 11 = .ok (.ireturn, 1) := by decide +kernel
set_option maxHeartbeats 4000000 in
set_option maxRecDepth 100000 in
theorem c_X6_isTeam (l : Launch) (D : va_G) (cI cZ cL : ClassId) (am : Nat → Nat) (M : Mem) (th : Int32) (x : Int32) (hI : J0 M) : RD l D cI cZ cL yX6_isTeam cX6_isTeam 2 (some .boolean) 1 [.ref (am 0), .int x] (wQ am cI cZ M th) (some (.int (bI (okn x (mT M))))) := by
  refine RD.of (by decide) (Nat.le_of_ble_eq_true rfl) ?_
  intro p e s m args below meth c ls hx hb hr hml hown hlk hE hP hl
  have hl : lv_has ls 2 [(0, .ref (am 0)), (1, .int x)] := hl
  have hT8 := hI.T8
  have hR16 := hI.R16
  have hN200 := hI.N200
  refine lv_iload_n hx hb dX6_isTeam_0 rfl (lv_at hl 1 rfl) ?_
  refine lv_iconst (v := 0) hx hb dX6_isTeam_1 (by decide) ?_
  refine lv_aload_n hx hb dX6_isTeam_2 rfl (lv_at hl 0 rfl) ?_
  refine q_get (v := .int (M 0 8)) hx hb hown hE inT_X6 hP 0 rfl rfl 8 (by decide) w_766 rfl dX6_isTeam_3 ?_
  refine q_top (y := nI (mT M)) (J0.T hI) ?_
  refine lv_iconst (v := 1) hx hb dX6_isTeam_6 (by decide) ?_
  refine lv_isub hx hb dX6_isTeam_7 ?_
  refine q_rd (q_runS (rest := []) hx hb hml hown hE (c_X6_isIn l D cI cZ cL _ x 0 ((nI (mT M)) - 1)) ck_X6_isIn w_834 hP hl.1 rfl ⟨Nat.le_of_ble_eq_true rfl, Nat.le_of_ble_eq_true rfl⟩ (Nat.le_of_ble_eq_true rfl) dX6_isTeam_8 ⟨Nat.le_of_ble_eq_true rfl, Nat.le_of_ble_eq_true rfl⟩) ?_
  refine q_top (y := bI (okn x (mT M))) (by exact congrArg bI (okr_okn (by omega))) ?_
  exact e_ret hx hb hr hlk (n_bI _) dX6_isTeam_11

theorem dX6_doesNeed_0 : decode cX6_doesNeed 0 = .ok (.aload_n 0, 1) := by decide +kernel
theorem dX6_doesNeed_1 : decode cX6_doesNeed 1 = .ok (.getfield 22, 3) := by decide +kernel
theorem dX6_doesNeed_4 : decode cX6_doesNeed 4 = .ok (.iload_n 1, 1) := by decide +kernel
theorem dX6_doesNeed_5 : decode cX6_doesNeed 5 = .ok (.iaload, 1) := by decide +kernel
theorem dX6_doesNeed_6 : decode cX6_doesNeed 6 = .ok (.iload_n 2, 1) := by decide +kernel
theorem dX6_doesNeed_7 : decode cX6_doesNeed 7 = .ok (.ishr, 1) := by decide +kernel
theorem dX6_doesNeed_8 : decode cX6_doesNeed 8 = .ok (.iconst 1, 1) := by decide +kernel
theorem dX6_doesNeed_9 : decode cX6_doesNeed 9 = .ok (.iand, 1) := by decide +kernel
theorem dX6_doesNeed_10 : decode cX6_doesNeed 10 = .ok (.iconst 1, 1) := by decide +kernel
theorem dX6_doesNeed_11 : decode cX6_doesNeed 11 = .ok (.if_icmp .ne 7, 3) := by decide +kernel
theorem dX6_doesNeed_14 : decode cX6_doesNeed 14 = .ok (.iconst 1, 1) := by decide +kernel
theorem dX6_doesNeed_15 : decode cX6_doesNeed 15 = .ok (.goto 4, 3) := by decide +kernel
theorem dX6_doesNeed_18 : decode cX6_doesNeed 18 = .ok (.iconst 0, 1) := by decide +kernel
theorem dX6_doesNeed_19 : decode cX6_doesNeed 19 = .ok (.ireturn, 1) := by decide +kernel
set_option maxHeartbeats 4000000 in
set_option maxRecDepth 100000 in
theorem c_X6_doesNeed (l : Launch) (D : va_G) (cI cZ cL : ClassId) (am : Nat → Nat) (M : Mem) (th : Int32) (r : Nat) (o : Nat) (hr : r < 16) : RD l D cI cZ cL yX6_doesNeed cX6_doesNeed 3 (some .boolean) 0 [.ref (am 0), .int (nI r), .int (nI o)] (wQ am cI cZ M th) (some (.int (bI (m_need M r o)))) := by
  refine RD.of (by decide) (Nat.le_of_ble_eq_true rfl) ?_
  intro p e s m args below meth c ls hx hb hr hml hown hlk hE hP hl
  have hl : lv_has ls 3 [(0, .ref (am 0)), (1, .int (nI r)), (2, .int (nI o))] := hl
  refine lv_aload_n hx hb dX6_doesNeed_0 rfl (lv_at hl 0 rfl) ?_
  refine q_get (v := .ref (am 5)) hx hb hown hE inT_X6 hP 0 rfl rfl 7 (by decide) w_765 rfl dX6_doesNeed_1 ?_
  refine lv_iload_n hx hb dX6_doesNeed_4 rfl (lv_at hl 1 rfl) ?_
  refine q_iald (f := M 5) (i := r) hx hb hE hP 5 rfl (by omega) (Nat.le_of_ble_eq_true rfl) dX6_doesNeed_5 ?_
  refine lv_iload_n hx hb dX6_doesNeed_6 rfl (lv_at hl 2 rfl) ?_
  refine lv_ishr hx hb dX6_doesNeed_7 ?_
  refine lv_iconst (v := 1) hx hb dX6_doesNeed_8 (by decide) ?_
  refine lv_iand hx hb dX6_doesNeed_9 ?_
  refine lv_iconst (v := 1) hx hb dX6_doesNeed_10 (by decide) ?_
  refine lv_icmp_ne (tgt := 18) hx hb dX6_doesNeed_11 (by decide) (fun c_1 => ?_) (fun c_1 => ?_)
  · skip
    refine lv_iconst (v := 0) hx hb dX6_doesNeed_18 (by decide) ?_
    refine q_top (y := bI (m_need M r o)) (by first | (simp only [bI, m_need, c_1, ↓reduceIte]; done) | (simp [bI, m_need, c_1]; done) | (simp_all [bI, m_need]; done)) ?_
    exact e_ret hx hb hr hlk (n_bI _) dX6_doesNeed_19
  · skip
    refine lv_iconst (v := 1) hx hb dX6_doesNeed_14 (by decide) ?_
    refine lv_goto (tgt := 19) hx hb dX6_doesNeed_15 (by decide) ?_
    refine q_top (y := bI (m_need M r o)) (by first | (simp only [bI, m_need, c_1, ↓reduceIte]; done) | (simp [bI, m_need, c_1]; done) | (simp_all [bI, m_need]; done)) ?_
    exact e_ret hx hb hr hlk (n_bI _) dX6_doesNeed_19

theorem dX6_isTouched_0 : decode cX6_isTouched 0 = .ok (.iconst 0, 1) := by decide +kernel
theorem dX6_isTouched_1 : decode cX6_isTouched 1 = .ok (.istore_n 2, 1) := by decide +kernel
theorem dX6_isTouched_2 : decode cX6_isTouched 2 = .ok (.iconst 0, 1) := by decide +kernel
theorem dX6_isTouched_3 : decode cX6_isTouched 3 = .ok (.istore_n 3, 1) := by decide +kernel
theorem dX6_isTouched_4 : decode cX6_isTouched 4 = .ok (.iload_n 3, 1) := by decide +kernel
theorem dX6_isTouched_5 : decode cX6_isTouched 5 = .ok (.aload_n 0, 1) := by decide +kernel
theorem dX6_isTouched_6 : decode cX6_isTouched 6 = .ok (.getfield 84, 3) := by decide +kernel
theorem dX6_isTouched_9 : decode cX6_isTouched 9 = .ok (.if_icmp .ge 29, 3) := by decide +kernel
theorem dX6_isTouched_12 : decode cX6_isTouched 12 = .ok (.iload_n 2, 1) := by decide +kernel
theorem dX6_isTouched_13 : decode cX6_isTouched 13 = .ok (.ifCond .ne 13, 3) := by decide +kernel
theorem dX6_isTouched_16 : decode cX6_isTouched 16 = .ok (.aload_n 0, 1) := by decide +kernel
theorem dX6_isTouched_17 : decode cX6_isTouched 17 = .ok (.getfield 44, 3) := by decide +kernel
theorem dX6_isTouched_20 : decode cX6_isTouched 20 = .ok (.iload_n 3, 1) := by decide +kernel
theorem dX6_isTouched_21 : decode cX6_isTouched 21 = .ok (.iaload, 1) := by decide +kernel
theorem dX6_isTouched_22 : decode cX6_isTouched 22 = .ok (.iload_n 1, 1) := by decide +kernel
theorem dX6_isTouched_23 : decode cX6_isTouched 23 = .ok (.if_icmp .ne 7, 3) := by decide +kernel
theorem dX6_isTouched_26 : decode cX6_isTouched 26 = .ok (.iconst 1, 1) := by decide +kernel
theorem dX6_isTouched_27 : decode cX6_isTouched 27 = .ok (.goto 4, 3) := by decide +kernel
theorem dX6_isTouched_30 : decode cX6_isTouched 30 = .ok (.iconst 0, 1) := by decide +kernel
theorem dX6_isTouched_31 : decode cX6_isTouched 31 = .ok (.istore_n 2, 1) := by decide +kernel
theorem dX6_isTouched_32 : decode cX6_isTouched 32 = .ok (.iinc 3 1, 3) := by decide +kernel
theorem dX6_isTouched_35 : decode cX6_isTouched 35 = .ok (.goto (-31), 3) := by decide +kernel
theorem dX6_isTouched_38 : decode cX6_isTouched 38 = .ok (.iconst 0, 1) := by decide +kernel
theorem dX6_isTouched_39 : decode cX6_isTouched 39 = .ok (.istore_n 3, 1) := by decide +kernel
theorem dX6_isTouched_40 : decode cX6_isTouched 40 = .ok (.iload_n 3, 1) := by decide +kernel
theorem dX6_isTouched_41 : decode cX6_isTouched 41 = .ok (.aload_n 0, 1) := by decide +kernel
theorem dX6_isTouched_42 : decode cX6_isTouched 42 = .ok (.getfield 70, 3) := by decide +kernel
theorem dX6_isTouched_45 : decode cX6_isTouched 45 = .ok (.if_icmp .ge 32, 3) := by decide +kernel
theorem dX6_isTouched_48 : decode cX6_isTouched 48 = .ok (.iload_n 2, 1) := by decide +kernel
theorem dX6_isTouched_49 : decode cX6_isTouched 49 = .ok (.ifCond .ne 16, 3) := by decide +kernel
theorem dX6_isTouched_52 : decode cX6_isTouched 52 = .ok (.aload_n 0, 1) := by decide +kernel
theorem dX6_isTouched_53 : decode cX6_isTouched 53 = .ok (.getfield 35, 3) := by decide +kernel
theorem dX6_isTouched_56 : decode cX6_isTouched 56 = .ok (.iload_n 3, 1) := by decide +kernel
theorem dX6_isTouched_57 : decode cX6_isTouched 57 = .ok (.iload_n 1, 1) := by decide +kernel
theorem dX6_isTouched_58 : decode cX6_isTouched 58 = .ok (.invokestatic 87, 3) := by decide +kernel
theorem dX6_isTouched_61 : decode cX6_isTouched 61 = .ok (.iaload, 1) := by decide +kernel
theorem dX6_isTouched_62 : decode cX6_isTouched 62 = .ok (.ifCond .le 7, 3) := by decide +kernel
theorem dX6_isTouched_65 : decode cX6_isTouched 65 = .ok (.iconst 1, 1) := by decide +kernel
theorem dX6_isTouched_66 : decode cX6_isTouched 66 = .ok (.goto 4, 3) := by decide +kernel
theorem dX6_isTouched_69 : decode cX6_isTouched 69 = .ok (.iconst 0, 1) := by decide +kernel
theorem dX6_isTouched_70 : decode cX6_isTouched 70 = .ok (.istore_n 2, 1) := by decide +kernel
theorem dX6_isTouched_71 : decode cX6_isTouched 71 = .ok (.iinc 3 1, 3) := by decide +kernel
theorem dX6_isTouched_74 : decode cX6_isTouched 74 = .ok (.goto (-34), 3) := by decide +kernel
theorem dX6_isTouched_77 : decode cX6_isTouched 77 = .ok (.iload_n 2, 1) := by decide +kernel
theorem dX6_isTouched_78 : decode cX6_isTouched 78 = .ok (.ireturn, 1) := by decide +kernel
set_option maxHeartbeats 4000000 in
set_option maxRecDepth 100000 in
theorem c_X6_isTouched (l : Launch) (D : va_G) (cI cZ cL : ClassId) (am : Nat → Nat) (M : Mem) (th : Int32) (r : Nat) (hI : J0 M) (hr : r < 16) : RD l D cI cZ cL yX6_isTouched cX6_isTouched 4 (some .boolean) 1 [.ref (am 0), .int (nI r)] (wQ am cI cZ M th) (some (.int (bI (m_touch M r)))) := by
  refine RD.of (by decide) (Nat.le_of_ble_eq_true rfl) ?_
  intro p e s m args below meth c ls hx hb hr hml hown hlk hE hP hl
  have hl : lv_has ls 4 [(0, .ref (am 0)), (1, .int (nI r))] := hl
  have hT8 := hI.T8
  have hR16 := hI.R16
  have hN200 := hI.N200
  refine lv_iconst (v := 0) hx hb dX6_isTouched_0 (by decide) ?_
  refine lv_istore_n (lv' := [(2, .int 0), (0, .ref (am 0)), (1, .int (nI r))]) hx hb dX6_isTouched_1 rfl hl (by decide) rfl (fun ls hl => ?_)
  refine lv_iconst (v := 0) hx hb dX6_isTouched_2 (by decide) ?_
  refine lv_istore_n (lv' := [(3, .int 0), (2, .int 0), (0, .ref (am 0)), (1, .int (nI r))]) hx hb dX6_isTouched_3 rfl hl (by decide) rfl (fun ls hl => ?_)
  have hloop_4 : ∀ (n i : Nat), i ≤ mN M → mN M < i + n → ∀ ls : Array Slot, lv_has ls 4 [(3, .int (nI i)), (2, .int (bI (m_tA M r i))), (0, .ref (am 0)), (1, .int (nI r))] → W p l e (rm 1 0 0) s m args below meth c s.heap [] 0 0 (MQ below (Qrd (some (.int (bI (m_touch M r))))) args s 0 0 q_no) (F0 m 4 ls []) := by
    intro n
    induction n with
    | zero => intro i h1 h2; exact absurd h2 (by omega)
    | succ n ih_4 =>
      intro i hi_4 hin_4  ls hl
      refine lv_iload_n hx hb dX6_isTouched_4 rfl (lv_at hl 0 rfl) ?_
      refine lv_aload_n hx hb dX6_isTouched_5 rfl (lv_at hl 2 rfl) ?_
      refine q_get (v := .int (M 0 14)) hx hb hown hE inT_X6 hP 0 rfl rfl 14 (by decide) w_772 rfl dX6_isTouched_6 ?_
      refine q_top (y := nI (mN M)) (J0.N hI) ?_
      refine lv_icmp_ge (tgt := 38) hx hb dX6_isTouched_9 (by decide) (fun c_1 => ?_) (fun c_1 => ?_)
      · skip
        have c_1 : (mN M) ≤ i := n_le (a := mN M) (b := i) (by omega) (by omega) c_1
        have hend_4 : mN M = i := by omega
        subst hend_4
        refine lv_iconst (v := 0) hx hb dX6_isTouched_38 (by decide) ?_
        refine lv_istore_n (lv' := [(3, .int 0), (2, .int (bI (m_tA M r (mN M)))), (0, .ref (am 0)), (1, .int (nI r))]) hx hb dX6_isTouched_39 rfl hl (by decide) rfl (fun ls hl => ?_)
        have hloop_40 : ∀ (n i : Nat), i ≤ mT M → mT M < i + n → ∀ ls : Array Slot, lv_has ls 4 [(3, .int (nI i)), (2, .int (bI (m_tB M r i))), (0, .ref (am 0)), (1, .int (nI r))] → W p l e (rm 1 0 0) s m args below meth c s.heap [] 0 0 (MQ below (Qrd (some (.int (bI (m_touch M r))))) args s 0 0 q_no) (F0 m 40 ls []) := by
          intro n
          induction n with
          | zero => intro i h1 h2; exact absurd h2 (by omega)
          | succ n ih_40 =>
            intro i hi_40 hin_40  ls hl
            refine lv_iload_n hx hb dX6_isTouched_40 rfl (lv_at hl 0 rfl) ?_
            refine lv_aload_n hx hb dX6_isTouched_41 rfl (lv_at hl 2 rfl) ?_
            refine q_get (v := .int (M 0 8)) hx hb hown hE inT_X6 hP 0 rfl rfl 8 (by decide) w_766 rfl dX6_isTouched_42 ?_
            refine q_top (y := nI (mT M)) (J0.T hI) ?_
            refine lv_icmp_ge (tgt := 77) hx hb dX6_isTouched_45 (by decide) (fun c_2 => ?_) (fun c_2 => ?_)
            · skip
              have c_2 : (mT M) ≤ i := n_le (a := mT M) (b := i) (by omega) (by omega) c_2
              have hend_40 : mT M = i := by omega
              subst hend_40
              refine lv_iload_n hx hb dX6_isTouched_77 rfl (lv_at hl 1 rfl) ?_
              refine q_top (y := bI (m_touch M r)) (by rfl) ?_
              exact e_ret hx hb hr hlk (n_bI _) dX6_isTouched_78
            · skip
              have c_2 : i < (mT M) := n_nle (a := mT M) (b := i) (by omega) (by omega) c_2
              refine lv_iload_n hx hb dX6_isTouched_48 rfl (lv_at hl 1 rfl) ?_
              refine lv_if_ne (tgt := 65) hx hb dX6_isTouched_49 (by decide) (fun c_3 => ?_) (fun c_3 => ?_)
              · skip
                have c_3 : m_tB M r i = true := b_t c_3
                refine lv_iconst (v := 1) hx hb dX6_isTouched_65 (by decide) ?_
                refine lv_goto (tgt := 70) hx hb dX6_isTouched_66 (by decide) ?_
                refine lv_istore_n (lv' := [(2, .int 1), (3, .int (nI i)), (0, .ref (am 0)), (1, .int (nI r))]) hx hb dX6_isTouched_70 rfl hl (by decide) rfl (fun ls hl => ?_)
                refine lv_iinc (v := nI (i + 1)) (lv' := [(3, .int (nI (i + 1))), (2, .int 1), (0, .ref (am 0)), (1, .int (nI r))]) hx hb dX6_isTouched_71 hl (k := 1) rfl (nI_1 i) (by decide) rfl (fun ls hl => ?_)
                refine lv_goto (tgt := 40) hx hb dX6_isTouched_74 (by decide) ?_
                refine ih_40 (i + 1) (by omega) (by omega)  ls ?_
                rw [show bI (m_tB M r (i + 1)) = 1 from by first | (simp only [bI, m_tB, c_2, c_3, ↓reduceIte]; done) | (simp [bI, m_tB, c_2, c_3]; done) | (simp_all [bI, m_tB]; done)]
                exact lv_sub hl [0, 1, 2, 3] rfl
              · skip
                have c_3 : m_tB M r i = false := b_f c_3
                refine lv_aload_n hx hb dX6_isTouched_52 rfl (lv_at hl 2 rfl) ?_
                refine q_get (v := .ref (am 9)) hx hb hown hE inT_X6 hP 0 rfl rfl 12 (by decide) w_770 rfl dX6_isTouched_53 ?_
                refine lv_iload_n hx hb dX6_isTouched_56 rfl (lv_at hl 0 rfl) ?_
                refine lv_iload_n hx hb dX6_isTouched_57 rfl (lv_at hl 3 rfl) ?_
                refine q_rd (q_runS (rest := [.ref (am 9)]) hx hb hml hown hE (c_X6_at l D cI cZ cL _ i r) ck_X6_at w_865 hP hl.1 rfl ⟨Nat.le_of_ble_eq_true rfl, Nat.le_of_ble_eq_true rfl⟩ (Nat.le_of_ble_eq_true rfl) dX6_isTouched_58 ⟨Nat.le_of_ble_eq_true rfl, Nat.le_of_ble_eq_true rfl⟩) ?_
                refine q_iald (f := M 9) (i := (16 * i + r)) hx hb hE hP 9 rfl (by omega) (Nat.le_of_ble_eq_true rfl) dX6_isTouched_61 ?_
                refine lv_if_le (tgt := 69) hx hb dX6_isTouched_62 (by decide) (fun c_4 => ?_) (fun c_4 => ?_)
                · skip
                  have g_4 : ¬ 0 < (M 9 (16 * i + r)) := Int32.not_lt.mpr c_4
                  refine lv_iconst (v := 0) hx hb dX6_isTouched_69 (by decide) ?_
                  refine lv_istore_n (lv' := [(2, .int 0), (3, .int (nI i)), (0, .ref (am 0)), (1, .int (nI r))]) hx hb dX6_isTouched_70 rfl hl (by decide) rfl (fun ls hl => ?_)
                  refine lv_iinc (v := nI (i + 1)) (lv' := [(3, .int (nI (i + 1))), (2, .int 0), (0, .ref (am 0)), (1, .int (nI r))]) hx hb dX6_isTouched_71 hl (k := 1) rfl (nI_1 i) (by decide) rfl (fun ls hl => ?_)
                  refine lv_goto (tgt := 40) hx hb dX6_isTouched_74 (by decide) ?_
                  refine ih_40 (i + 1) (by omega) (by omega)  ls ?_
                  rw [show bI (m_tB M r (i + 1)) = 0 from by first | (simp only [bI, m_tB, c_2, c_3, c_4, g_4, ↓reduceIte]; done) | (simp [bI, m_tB, c_2, c_3, c_4, g_4]; done) | (simp_all [bI, m_tB]; done)]
                  exact lv_sub hl [0, 1, 2, 3] rfl
                · skip
                  have g_4 : 0 < (M 9 (16 * i + r)) := Int32.not_le.mp c_4
                  refine lv_iconst (v := 1) hx hb dX6_isTouched_65 (by decide) ?_
                  refine lv_goto (tgt := 70) hx hb dX6_isTouched_66 (by decide) ?_
                  refine lv_istore_n (lv' := [(2, .int 1), (3, .int (nI i)), (0, .ref (am 0)), (1, .int (nI r))]) hx hb dX6_isTouched_70 rfl hl (by decide) rfl (fun ls hl => ?_)
                  refine lv_iinc (v := nI (i + 1)) (lv' := [(3, .int (nI (i + 1))), (2, .int 1), (0, .ref (am 0)), (1, .int (nI r))]) hx hb dX6_isTouched_71 hl (k := 1) rfl (nI_1 i) (by decide) rfl (fun ls hl => ?_)
                  refine lv_goto (tgt := 40) hx hb dX6_isTouched_74 (by decide) ?_
                  refine ih_40 (i + 1) (by omega) (by omega)  ls ?_
                  rw [show bI (m_tB M r (i + 1)) = 1 from by first | (simp only [bI, m_tB, c_2, c_3, c_4, g_4, ↓reduceIte]; done) | (simp [bI, m_tB, c_2, c_3, c_4, g_4]; done) | (simp_all [bI, m_tB]; done)]
                  exact lv_sub hl [0, 1, 2, 3] rfl
        refine hloop_40 (mT M + 1) 0 (by omega) (by omega)  ls ?_
        rw [show m_tB M r 0 = m_tA M r (mN M) from by first | rfl | (first | (simp only [bI, m_tB, ↓reduceIte]; done) | (simp [bI, m_tB]; done) | (simp_all [bI, m_tB]; done))]
        exact lv_sub hl [0, 1, 2, 3] rfl
      · skip
        have c_1 : i < (mN M) := n_nle (a := mN M) (b := i) (by omega) (by omega) c_1
        refine lv_iload_n hx hb dX6_isTouched_12 rfl (lv_at hl 1 rfl) ?_
        refine lv_if_ne (tgt := 26) hx hb dX6_isTouched_13 (by decide) (fun c_5 => ?_) (fun c_5 => ?_)
        · skip
          have c_5 : m_tA M r i = true := b_t c_5
          refine lv_iconst (v := 1) hx hb dX6_isTouched_26 (by decide) ?_
          refine lv_goto (tgt := 31) hx hb dX6_isTouched_27 (by decide) ?_
          refine lv_istore_n (lv' := [(2, .int 1), (3, .int (nI i)), (0, .ref (am 0)), (1, .int (nI r))]) hx hb dX6_isTouched_31 rfl hl (by decide) rfl (fun ls hl => ?_)
          refine lv_iinc (v := nI (i + 1)) (lv' := [(3, .int (nI (i + 1))), (2, .int 1), (0, .ref (am 0)), (1, .int (nI r))]) hx hb dX6_isTouched_32 hl (k := 1) rfl (nI_1 i) (by decide) rfl (fun ls hl => ?_)
          refine lv_goto (tgt := 4) hx hb dX6_isTouched_35 (by decide) ?_
          refine ih_4 (i + 1) (by omega) (by omega)  ls ?_
          rw [show bI (m_tA M r (i + 1)) = 1 from by first | (simp only [bI, m_tA, c_1, c_5, ↓reduceIte]; done) | (simp [bI, m_tA, c_1, c_5]; done) | (simp_all [bI, m_tA]; done)]
          exact lv_sub hl [0, 1, 2, 3] rfl
        · skip
          have c_5 : m_tA M r i = false := b_f c_5
          refine lv_aload_n hx hb dX6_isTouched_16 rfl (lv_at hl 2 rfl) ?_
          refine q_get (v := .ref (am 12)) hx hb hown hE inT_X6 hP 0 rfl rfl 16 (by decide) w_774 rfl dX6_isTouched_17 ?_
          refine lv_iload_n hx hb dX6_isTouched_20 rfl (lv_at hl 0 rfl) ?_
          refine q_iald (f := M 12) (i := i) hx hb hE hP 12 rfl (by omega) (Nat.le_of_ble_eq_true rfl) dX6_isTouched_21 ?_
          refine lv_iload_n hx hb dX6_isTouched_22 rfl (lv_at hl 3 rfl) ?_
          refine lv_icmp_ne (tgt := 30) hx hb dX6_isTouched_23 (by decide) (fun c_6 => ?_) (fun c_6 => ?_)
          · skip
            refine lv_iconst (v := 0) hx hb dX6_isTouched_30 (by decide) ?_
            refine lv_istore_n (lv' := [(2, .int 0), (3, .int (nI i)), (0, .ref (am 0)), (1, .int (nI r))]) hx hb dX6_isTouched_31 rfl hl (by decide) rfl (fun ls hl => ?_)
            refine lv_iinc (v := nI (i + 1)) (lv' := [(3, .int (nI (i + 1))), (2, .int 0), (0, .ref (am 0)), (1, .int (nI r))]) hx hb dX6_isTouched_32 hl (k := 1) rfl (nI_1 i) (by decide) rfl (fun ls hl => ?_)
            refine lv_goto (tgt := 4) hx hb dX6_isTouched_35 (by decide) ?_
            refine ih_4 (i + 1) (by omega) (by omega)  ls ?_
            rw [show bI (m_tA M r (i + 1)) = 0 from by first | (simp only [bI, m_tA, c_1, c_5, c_6, ↓reduceIte]; done) | (simp [bI, m_tA, c_1, c_5, c_6]; done) | (simp_all [bI, m_tA]; done)]
            exact lv_sub hl [0, 1, 2, 3] rfl
          · skip
            refine lv_iconst (v := 1) hx hb dX6_isTouched_26 (by decide) ?_
            refine lv_goto (tgt := 31) hx hb dX6_isTouched_27 (by decide) ?_
            refine lv_istore_n (lv' := [(2, .int 1), (3, .int (nI i)), (0, .ref (am 0)), (1, .int (nI r))]) hx hb dX6_isTouched_31 rfl hl (by decide) rfl (fun ls hl => ?_)
            refine lv_iinc (v := nI (i + 1)) (lv' := [(3, .int (nI (i + 1))), (2, .int 1), (0, .ref (am 0)), (1, .int (nI r))]) hx hb dX6_isTouched_32 hl (k := 1) rfl (nI_1 i) (by decide) rfl (fun ls hl => ?_)
            refine lv_goto (tgt := 4) hx hb dX6_isTouched_35 (by decide) ?_
            refine ih_4 (i + 1) (by omega) (by omega)  ls ?_
            rw [show bI (m_tA M r (i + 1)) = 1 from by first | (simp only [bI, m_tA, c_1, c_5, c_6, ↓reduceIte]; done) | (simp [bI, m_tA, c_1, c_5, c_6]; done) | (simp_all [bI, m_tA]; done)]
            exact lv_sub hl [0, 1, 2, 3] rfl
  refine hloop_4 (mN M + 1) 0 (by omega) (by omega)  ls ?_
  rw [show bI (m_tA M r 0) = 0 from by first | rfl | (first | (simp only [bI, m_tA, ↓reduceIte]; done) | (simp [bI, m_tA]; done) | (simp_all [bI, m_tA]; done))]
  exact lv_sub hl [0, 1, 2, 3] rfl

theorem dX6_isOpenToAll_0 : decode cX6_isOpenToAll 0 = .ok (.iconst 0, 1) := by decide +kernel
theorem dX6_isOpenToAll_1 : decode cX6_isOpenToAll 1 = .ok (.istore_n 2, 1) := by decide +kernel
theorem dX6_isOpenToAll_2 : decode cX6_isOpenToAll 2 = .ok (.iconst 0, 1) := by decide +kernel
theorem dX6_isOpenToAll_3 : decode cX6_isOpenToAll 3 = .ok (.istore_n 3, 1) := by decide +kernel
theorem dX6_isOpenToAll_4 : decode cX6_isOpenToAll 4 = .ok (.iload_n 3, 1) := by decide +kernel
theorem dX6_isOpenToAll_5 : decode cX6_isOpenToAll 5 = .ok (.aload_n 0, 1) := by decide +kernel
theorem dX6_isOpenToAll_6 : decode cX6_isOpenToAll 6 = .ok (.getfield 70, 3) := by decide +kernel
theorem dX6_isOpenToAll_9 : decode cX6_isOpenToAll 9 = .ok (.if_icmp .ge 45, 3) := by decide +kernel
theorem dX6_isOpenToAll_12 : decode cX6_isOpenToAll 12 = .ok (.iload_n 2, 1) := by decide +kernel
theorem dX6_isOpenToAll_13 : decode cX6_isOpenToAll 13 = .ok (.ifCond .ne 29, 3) := by decide +kernel
theorem dX6_isOpenToAll_16 : decode cX6_isOpenToAll 16 = .ok (.aload_n 0, 1) := by decide +kernel
theorem dX6_isOpenToAll_17 : decode cX6_isOpenToAll 17 = .ok (.getfield 28, 3) := by decide +kernel
theorem dX6_isOpenToAll_20 : decode cX6_isOpenToAll 20 = .ok (.iload_n 3, 1) := by decide +kernel
theorem dX6_isOpenToAll_21 : decode cX6_isOpenToAll 21 = .ok (.iload_n 1, 1) := by decide +kernel
theorem dX6_isOpenToAll_22 : decode cX6_isOpenToAll 22 = .ok (.invokestatic 87, 3) := by decide +kernel
theorem dX6_isOpenToAll_25 : decode cX6_isOpenToAll 25 = .ok (.baload, 1) := by decide +kernel
theorem dX6_isOpenToAll_26 : decode cX6_isOpenToAll 26 = .ok (.ifCond .eq 20, 3) := by decide +kernel
theorem dX6_isOpenToAll_29 : decode cX6_isOpenToAll 29 = .ok (.aload_n 0, 1) := by decide +kernel
theorem dX6_isOpenToAll_30 : decode cX6_isOpenToAll 30 = .ok (.getfield 32, 3) := by decide +kernel
theorem dX6_isOpenToAll_33 : decode cX6_isOpenToAll 33 = .ok (.iload_n 3, 1) := by decide +kernel
theorem dX6_isOpenToAll_34 : decode cX6_isOpenToAll 34 = .ok (.iload_n 1, 1) := by decide +kernel
theorem dX6_isOpenToAll_35 : decode cX6_isOpenToAll 35 = .ok (.invokestatic 87, 3) := by decide +kernel
theorem dX6_isOpenToAll_38 : decode cX6_isOpenToAll 38 = .ok (.baload, 1) := by decide +kernel
theorem dX6_isOpenToAll_39 : decode cX6_isOpenToAll 39 = .ok (.ifCond .ne 7, 3) := by decide +kernel
theorem dX6_isOpenToAll_42 : decode cX6_isOpenToAll 42 = .ok (.iconst 1, 1) := by decide +kernel
theorem dX6_isOpenToAll_43 : decode cX6_isOpenToAll 43 = .ok (.goto 4, 3) := by decide +kernel
theorem dX6_isOpenToAll_46 : decode cX6_isOpenToAll 46 = .ok (.iconst 0, 1) := by decide +kernel
theorem dX6_isOpenToAll_47 : decode cX6_isOpenToAll 47 = .ok (.istore_n 2, 1) := by decide +kernel
theorem dX6_isOpenToAll_48 : decode cX6_isOpenToAll 48 = .ok (.iinc 3 1, 3) := by decide +kernel
theorem dX6_isOpenToAll_51 : decode cX6_isOpenToAll 51 = .ok (.goto (-47), 3) := by decide +kernel
theorem dX6_isOpenToAll_54 : decode cX6_isOpenToAll 54 = .ok (.iload_n 2, 1) := by decide +kernel
theorem dX6_isOpenToAll_55 : decode cX6_isOpenToAll 55 = .ok (.ireturn, 1) := by decide +kernel
set_option maxHeartbeats 4000000 in
set_option maxRecDepth 100000 in
theorem c_X6_isOpenToAll (l : Launch) (D : va_G) (cI cZ cL : ClassId) (am : Nat → Nat) (M : Mem) (th : Int32) (r : Nat) (hI : J0 M) (hr : r < 16) : RD l D cI cZ cL yX6_isOpenToAll cX6_isOpenToAll 4 (some .boolean) 1 [.ref (am 0), .int (nI r)] (wQ am cI cZ M th) (some (.int (bI (m_free M r)))) := by
  refine RD.of (by decide) (Nat.le_of_ble_eq_true rfl) ?_
  intro p e s m args below meth c ls hx hb hr hml hown hlk hE hP hl
  have hl : lv_has ls 4 [(0, .ref (am 0)), (1, .int (nI r))] := hl
  have hT8 := hI.T8
  have hR16 := hI.R16
  have hN200 := hI.N200
  refine lv_iconst (v := 0) hx hb dX6_isOpenToAll_0 (by decide) ?_
  refine lv_istore_n (lv' := [(2, .int 0), (0, .ref (am 0)), (1, .int (nI r))]) hx hb dX6_isOpenToAll_1 rfl hl (by decide) rfl (fun ls hl => ?_)
  refine lv_iconst (v := 0) hx hb dX6_isOpenToAll_2 (by decide) ?_
  refine lv_istore_n (lv' := [(3, .int 0), (2, .int 0), (0, .ref (am 0)), (1, .int (nI r))]) hx hb dX6_isOpenToAll_3 rfl hl (by decide) rfl (fun ls hl => ?_)
  have hloop_4 : ∀ (n i : Nat), i ≤ mT M → mT M < i + n → ∀ ls : Array Slot, lv_has ls 4 [(3, .int (nI i)), (2, .int (bI (m_fre M r i))), (0, .ref (am 0)), (1, .int (nI r))] → W p l e (rm 1 0 0) s m args below meth c s.heap [] 0 0 (MQ below (Qrd (some (.int (bI (m_free M r))))) args s 0 0 q_no) (F0 m 4 ls []) := by
    intro n
    induction n with
    | zero => intro i h1 h2; exact absurd h2 (by omega)
    | succ n ih_4 =>
      intro i hi_4 hin_4  ls hl
      refine lv_iload_n hx hb dX6_isOpenToAll_4 rfl (lv_at hl 0 rfl) ?_
      refine lv_aload_n hx hb dX6_isOpenToAll_5 rfl (lv_at hl 2 rfl) ?_
      refine q_get (v := .int (M 0 8)) hx hb hown hE inT_X6 hP 0 rfl rfl 8 (by decide) w_766 rfl dX6_isOpenToAll_6 ?_
      refine q_top (y := nI (mT M)) (J0.T hI) ?_
      refine lv_icmp_ge (tgt := 54) hx hb dX6_isOpenToAll_9 (by decide) (fun c_1 => ?_) (fun c_1 => ?_)
      · skip
        have c_1 : (mT M) ≤ i := n_le (a := mT M) (b := i) (by omega) (by omega) c_1
        have hend_4 : mT M = i := by omega
        subst hend_4
        refine lv_iload_n hx hb dX6_isOpenToAll_54 rfl (lv_at hl 1 rfl) ?_
        refine q_top (y := bI (m_free M r)) (by rfl) ?_
        exact e_ret hx hb hr hlk (n_bI _) dX6_isOpenToAll_55
      · skip
        have c_1 : i < (mT M) := n_nle (a := mT M) (b := i) (by omega) (by omega) c_1
        refine lv_iload_n hx hb dX6_isOpenToAll_12 rfl (lv_at hl 1 rfl) ?_
        refine lv_if_ne (tgt := 42) hx hb dX6_isOpenToAll_13 (by decide) (fun c_2 => ?_) (fun c_2 => ?_)
        · skip
          have c_2 : m_fre M r i = true := b_t c_2
          refine lv_iconst (v := 1) hx hb dX6_isOpenToAll_42 (by decide) ?_
          refine lv_goto (tgt := 47) hx hb dX6_isOpenToAll_43 (by decide) ?_
          refine lv_istore_n (lv' := [(2, .int 1), (3, .int (nI i)), (0, .ref (am 0)), (1, .int (nI r))]) hx hb dX6_isOpenToAll_47 rfl hl (by decide) rfl (fun ls hl => ?_)
          refine lv_iinc (v := nI (i + 1)) (lv' := [(3, .int (nI (i + 1))), (2, .int 1), (0, .ref (am 0)), (1, .int (nI r))]) hx hb dX6_isOpenToAll_48 hl (k := 1) rfl (nI_1 i) (by decide) rfl (fun ls hl => ?_)
          refine lv_goto (tgt := 4) hx hb dX6_isOpenToAll_51 (by decide) ?_
          refine ih_4 (i + 1) (by omega) (by omega)  ls ?_
          rw [show bI (m_fre M r (i + 1)) = 1 from by first | (simp only [bI, m_fre, c_1, c_2, ↓reduceIte]; done) | (simp [bI, m_fre, c_1, c_2]; done) | (simp_all [bI, m_fre]; done)]
          exact lv_sub hl [0, 1, 2, 3] rfl
        · skip
          have c_2 : m_fre M r i = false := b_f c_2
          refine lv_aload_n hx hb dX6_isOpenToAll_16 rfl (lv_at hl 2 rfl) ?_
          refine q_get (v := .ref (am 7)) hx hb hown hE inT_X6 hP 0 rfl rfl 10 (by decide) w_768 rfl dX6_isOpenToAll_17 ?_
          refine lv_iload_n hx hb dX6_isOpenToAll_20 rfl (lv_at hl 0 rfl) ?_
          refine lv_iload_n hx hb dX6_isOpenToAll_21 rfl (lv_at hl 3 rfl) ?_
          refine q_rd (q_runS (rest := [.ref (am 7)]) hx hb hml hown hE (c_X6_at l D cI cZ cL _ i r) ck_X6_at w_865 hP hl.1 rfl ⟨Nat.le_of_ble_eq_true rfl, Nat.le_of_ble_eq_true rfl⟩ (Nat.le_of_ble_eq_true rfl) dX6_isOpenToAll_22 ⟨Nat.le_of_ble_eq_true rfl, Nat.le_of_ble_eq_true rfl⟩) ?_
          refine q_zald (f := M 7) (i := (16 * i + r)) hx hb hE hP 7 rfl (by omega) (Nat.le_of_ble_eq_true rfl) dX6_isOpenToAll_25 ?_
          refine lv_if_eq (tgt := 46) hx hb dX6_isOpenToAll_26 (by decide) (fun c_3 => ?_) (fun c_3 => ?_)
          · skip
            refine lv_iconst (v := 0) hx hb dX6_isOpenToAll_46 (by decide) ?_
            refine lv_istore_n (lv' := [(2, .int 0), (3, .int (nI i)), (0, .ref (am 0)), (1, .int (nI r))]) hx hb dX6_isOpenToAll_47 rfl hl (by decide) rfl (fun ls hl => ?_)
            refine lv_iinc (v := nI (i + 1)) (lv' := [(3, .int (nI (i + 1))), (2, .int 0), (0, .ref (am 0)), (1, .int (nI r))]) hx hb dX6_isOpenToAll_48 hl (k := 1) rfl (nI_1 i) (by decide) rfl (fun ls hl => ?_)
            refine lv_goto (tgt := 4) hx hb dX6_isOpenToAll_51 (by decide) ?_
            refine ih_4 (i + 1) (by omega) (by omega)  ls ?_
            rw [show bI (m_fre M r (i + 1)) = 0 from by first | (simp only [bI, m_fre, c_1, c_2, c_3, ↓reduceIte]; done) | (simp [bI, m_fre, c_1, c_2, c_3]; done) | (simp_all [bI, m_fre]; done)]
            exact lv_sub hl [0, 1, 2, 3] rfl
          · skip
            refine lv_aload_n hx hb dX6_isOpenToAll_29 rfl (lv_at hl 2 rfl) ?_
            refine q_get (v := .ref (am 8)) hx hb hown hE inT_X6 hP 0 rfl rfl 11 (by decide) w_769 rfl dX6_isOpenToAll_30 ?_
            refine lv_iload_n hx hb dX6_isOpenToAll_33 rfl (lv_at hl 0 rfl) ?_
            refine lv_iload_n hx hb dX6_isOpenToAll_34 rfl (lv_at hl 3 rfl) ?_
            refine q_rd (q_runS (rest := [.ref (am 8)]) hx hb hml hown hE (c_X6_at l D cI cZ cL _ i r) ck_X6_at w_865 hP hl.1 rfl ⟨Nat.le_of_ble_eq_true rfl, Nat.le_of_ble_eq_true rfl⟩ (Nat.le_of_ble_eq_true rfl) dX6_isOpenToAll_35 ⟨Nat.le_of_ble_eq_true rfl, Nat.le_of_ble_eq_true rfl⟩) ?_
            refine q_zald (f := M 8) (i := (16 * i + r)) hx hb hE hP 8 rfl (by omega) (Nat.le_of_ble_eq_true rfl) dX6_isOpenToAll_38 ?_
            refine lv_if_ne (tgt := 46) hx hb dX6_isOpenToAll_39 (by decide) (fun c_4 => ?_) (fun c_4 => ?_)
            · skip
              refine lv_iconst (v := 0) hx hb dX6_isOpenToAll_46 (by decide) ?_
              refine lv_istore_n (lv' := [(2, .int 0), (3, .int (nI i)), (0, .ref (am 0)), (1, .int (nI r))]) hx hb dX6_isOpenToAll_47 rfl hl (by decide) rfl (fun ls hl => ?_)
              refine lv_iinc (v := nI (i + 1)) (lv' := [(3, .int (nI (i + 1))), (2, .int 0), (0, .ref (am 0)), (1, .int (nI r))]) hx hb dX6_isOpenToAll_48 hl (k := 1) rfl (nI_1 i) (by decide) rfl (fun ls hl => ?_)
              refine lv_goto (tgt := 4) hx hb dX6_isOpenToAll_51 (by decide) ?_
              refine ih_4 (i + 1) (by omega) (by omega)  ls ?_
              rw [show bI (m_fre M r (i + 1)) = 0 from by first | (simp only [bI, m_fre, c_1, c_2, c_3, c_4, ↓reduceIte]; done) | (simp [bI, m_fre, c_1, c_2, c_3, c_4]; done) | (simp_all [bI, m_fre]; done)]
              exact lv_sub hl [0, 1, 2, 3] rfl
            · skip
              refine lv_iconst (v := 1) hx hb dX6_isOpenToAll_42 (by decide) ?_
              refine lv_goto (tgt := 47) hx hb dX6_isOpenToAll_43 (by decide) ?_
              refine lv_istore_n (lv' := [(2, .int 1), (3, .int (nI i)), (0, .ref (am 0)), (1, .int (nI r))]) hx hb dX6_isOpenToAll_47 rfl hl (by decide) rfl (fun ls hl => ?_)
              refine lv_iinc (v := nI (i + 1)) (lv' := [(3, .int (nI (i + 1))), (2, .int 1), (0, .ref (am 0)), (1, .int (nI r))]) hx hb dX6_isOpenToAll_48 hl (k := 1) rfl (nI_1 i) (by decide) rfl (fun ls hl => ?_)
              refine lv_goto (tgt := 4) hx hb dX6_isOpenToAll_51 (by decide) ?_
              refine ih_4 (i + 1) (by omega) (by omega)  ls ?_
              rw [show bI (m_fre M r (i + 1)) = 1 from by first | (simp only [bI, m_fre, c_1, c_2, c_3, c_4, ↓reduceIte]; done) | (simp [bI, m_fre, c_1, c_2, c_3, c_4]; done) | (simp_all [bI, m_fre]; done)]
              exact lv_sub hl [0, 1, 2, 3] rfl
  refine hloop_4 (mT M + 1) 0 (by omega) (by omega)  ls ?_
  rw [show bI (m_fre M r 0) = 0 from by first | rfl | (first | (simp only [bI, m_fre, ↓reduceIte]; done) | (simp [bI, m_fre]; done) | (simp_all [bI, m_fre]; done))]
  exact lv_sub hl [0, 1, 2, 3] rfl

theorem dX6_opened_0 : decode cX6_opened 0 = .ok (.iconst 0, 1) := by decide +kernel
theorem dX6_opened_1 : decode cX6_opened 1 = .ok (.istore_n 3, 1) := by decide +kernel
theorem dX6_opened_2 : decode cX6_opened 2 = .ok (.iconst 0, 1) := by decide +kernel
theorem dX6_opened_3 : decode cX6_opened 3 = .ok (.istore 4, 2) := by decide +kernel
theorem dX6_opened_5 : decode cX6_opened 5 = .ok (.iload 4, 2) := by decide +kernel
theorem dX6_opened_7 : decode cX6_opened 7 = .ok (.iload_n 2, 1) := by decide +kernel
theorem dX6_opened_8 : decode cX6_opened 8 = .ok (.if_icmp .ge 68, 3) := by decide +kernel
theorem dX6_opened_11 : decode cX6_opened 11 = .ok (.aload_n 0, 1) := by decide +kernel
theorem dX6_opened_12 : decode cX6_opened 12 = .ok (.getfield 25, 3) := by decide +kernel
theorem dX6_opened_15 : decode cX6_opened 15 = .ok (.iload_n 1, 1) := by decide +kernel
theorem dX6_opened_16 : decode cX6_opened 16 = .ok (.iload 4, 2) := by decide +kernel
theorem dX6_opened_18 : decode cX6_opened 18 = .ok (.invokestatic 87, 3) := by decide +kernel
theorem dX6_opened_21 : decode cX6_opened 21 = .ok (.iaload, 1) := by decide +kernel
theorem dX6_opened_22 : decode cX6_opened 22 = .ok (.istore 5, 2) := by decide +kernel
theorem dX6_opened_24 : decode cX6_opened 24 = .ok (.aload_n 0, 1) := by decide +kernel
theorem dX6_opened_25 : decode cX6_opened 25 = .ok (.iload_n 2, 1) := by decide +kernel
theorem dX6_opened_26 : decode cX6_opened 26 = .ok (.iload 4, 2) := by decide +kernel
theorem dX6_opened_28 : decode cX6_opened 28 = .ok (.invokevirtual 94, 3) := by decide +kernel
theorem dX6_opened_31 : decode cX6_opened 31 = .ok (.ifCond .eq 12, 3) := by decide +kernel
theorem dX6_opened_34 : decode cX6_opened 34 = .ok (.iload_n 3, 1) := by decide +kernel
theorem dX6_opened_35 : decode cX6_opened 35 = .ok (.iconst (-1), 1) := by decide +kernel
theorem dX6_opened_36 : decode cX6_opened 36 = .ok (.if_icmp .eq 7, 3) := by decide +kernel
theorem dX6_opened_39 : decode cX6_opened 39 = .ok (.iconst 1, 1) := by decide +kernel
theorem dX6_opened_40 : decode cX6_opened 40 = .ok (.goto 4, 3) := by decide +kernel
theorem dX6_opened_43 : decode cX6_opened 43 = .ok (.iconst 0, 1) := by decide +kernel
theorem dX6_opened_44 : decode cX6_opened 44 = .ok (.istore 6, 2) := by decide +kernel
theorem dX6_opened_46 : decode cX6_opened 46 = .ok (.iload 6, 2) := by decide +kernel
theorem dX6_opened_48 : decode cX6_opened 48 = .ok (.ifCond .eq 20, 3) := by decide +kernel
theorem dX6_opened_51 : decode cX6_opened 51 = .ok (.iload 5, 2) := by decide +kernel
theorem dX6_opened_53 : decode cX6_opened 53 = .ok (.iconst (-1), 1) := by decide +kernel
theorem dX6_opened_54 : decode cX6_opened 54 = .ok (.if_icmp .eq 9, 3) := by decide +kernel
theorem dX6_opened_57 : decode cX6_opened 57 = .ok (.iload 5, 2) := by decide +kernel
theorem dX6_opened_59 : decode cX6_opened 59 = .ok (.iload_n 3, 1) := by decide +kernel
theorem dX6_opened_60 : decode cX6_opened 60 = .ok (.if_icmp .le 8, 3) := by decide +kernel
theorem dX6_opened_63 : decode cX6_opened 63 = .ok (.iload 5, 2) := by decide +kernel
theorem dX6_opened_65 : decode cX6_opened 65 = .ok (.goto 4, 3) := by decide +kernel
theorem dX6_opened_68 : decode cX6_opened 68 = .ok (.iload_n 3, 1) := by decide +kernel
theorem dX6_opened_69 : decode cX6_opened 69 = .ok (.istore_n 3, 1) := by decide +kernel
theorem dX6_opened_70 : decode cX6_opened 70 = .ok (.iinc 4 1, 3) := by decide +kernel
theorem dX6_opened_73 : decode cX6_opened 73 = .ok (.goto (-68), 3) := by decide +kernel
theorem dX6_opened_76 : decode cX6_opened 76 = .ok (.iload_n 3, 1) := by decide +kernel
theorem dX6_opened_77 : decode cX6_opened 77 = .ok (.ireturn, 1) := by decide +kernel
set_option maxHeartbeats 4000000 in
set_option maxRecDepth 100000 in
theorem c_X6_opened (l : Launch) (D : va_G) (cI cZ cL : ClassId) (am : Nat → Nat) (M : Mem) (th : Int32) (t : Nat) (r : Nat) (ht : t < 8) (hr : r < 16) : RD l D cI cZ cL yX6_opened cX6_opened 7 (some .int) 1 [.ref (am 0), .int (nI t), .int (nI r)] (wQ am cI cZ M th) (some (.int (m_opened M t r))) := by
  refine RD.of (by decide) (Nat.le_of_ble_eq_true rfl) ?_
  intro p e s m args below meth c ls hx hb hr hml hown hlk hE hP hl
  have hl : lv_has ls 7 [(0, .ref (am 0)), (1, .int (nI t)), (2, .int (nI r))] := hl
  refine lv_iconst (v := 0) hx hb dX6_opened_0 (by decide) ?_
  refine lv_istore_n (lv' := [(3, .int 0), (0, .ref (am 0)), (1, .int (nI t)), (2, .int (nI r))]) hx hb dX6_opened_1 rfl hl (by decide) rfl (fun ls hl => ?_)
  refine lv_iconst (v := 0) hx hb dX6_opened_2 (by decide) ?_
  refine lv_istore (lv' := [(4, .int 0), (3, .int 0), (0, .ref (am 0)), (1, .int (nI t)), (2, .int (nI r))]) hx hb dX6_opened_3 hl (by decide) rfl (fun ls hl => ?_)
  have hloop_5 : ∀ (n i : Nat), i ≤ r → r < i + n → ∀ ls : Array Slot, lv_has ls 7 [(4, .int (nI i)), (3, .int (m_opn M t r i)), (0, .ref (am 0)), (1, .int (nI t)), (2, .int (nI r))] → W p l e (rm 1 0 0) s m args below meth c s.heap [] 0 0 (MQ below (Qrd (some (.int (m_opened M t r)))) args s 0 0 q_no) (F0 m 5 ls []) := by
    intro n
    induction n with
    | zero => intro i h1 h2; exact absurd h2 (by omega)
    | succ n ih_5 =>
      intro i hi_5 hin_5  ls hl
      refine lv_iload hx hb dX6_opened_5 (lv_at hl 0 rfl) ?_
      refine lv_iload_n hx hb dX6_opened_7 rfl (lv_at hl 4 rfl) ?_
      refine lv_icmp_ge (tgt := 76) hx hb dX6_opened_8 (by decide) (fun c_1 => ?_) (fun c_1 => ?_)
      · skip
        have c_1 : r ≤ i := n_le (a := r) (b := i) (by omega) (by omega) c_1
        have hend_5 : r = i := by omega
        subst hend_5
        refine lv_iload_n hx hb dX6_opened_76 rfl (lv_at hl 1 rfl) ?_
        refine q_top (y := m_opened M t r) (by rfl) ?_
        exact e_ret hx hb hr hlk rfl dX6_opened_77
      · skip
        have c_1 : i < r := n_nle (a := r) (b := i) (by omega) (by omega) c_1
        refine lv_aload_n hx hb dX6_opened_11 rfl (lv_at hl 2 rfl) ?_
        refine q_get (v := .ref (am 6)) hx hb hown hE inT_X6 hP 0 rfl rfl 9 (by decide) w_767 rfl dX6_opened_12 ?_
        refine lv_iload_n hx hb dX6_opened_15 rfl (lv_at hl 3 rfl) ?_
        refine lv_iload hx hb dX6_opened_16 (lv_at hl 0 rfl) ?_
        refine q_rd (q_runS (rest := [.ref (am 6)]) hx hb hml hown hE (c_X6_at l D cI cZ cL _ t i) ck_X6_at w_865 hP hl.1 rfl ⟨Nat.le_of_ble_eq_true rfl, Nat.le_of_ble_eq_true rfl⟩ (Nat.le_of_ble_eq_true rfl) dX6_opened_18 ⟨Nat.le_of_ble_eq_true rfl, Nat.le_of_ble_eq_true rfl⟩) ?_
        refine q_iald (f := M 6) (i := (16 * t + i)) hx hb hE hP 6 rfl (by omega) (Nat.le_of_ble_eq_true rfl) dX6_opened_21 ?_
        refine lv_istore (lv' := [(5, .int (M 6 (16 * t + i))), (4, .int (nI i)), (3, .int (m_opn M t r i)), (0, .ref (am 0)), (1, .int (nI t)), (2, .int (nI r))]) hx hb dX6_opened_22 hl (by decide) rfl (fun ls hl => ?_)
        refine lv_aload_n hx hb dX6_opened_24 rfl (lv_at hl 3 rfl) ?_
        refine lv_iload_n hx hb dX6_opened_25 rfl (lv_at hl 5 rfl) ?_
        refine lv_iload hx hb dX6_opened_26 (lv_at hl 1 rfl) ?_
        refine q_rd (q_runV (rest := []) hx hb hml hown hE (c_X6_doesNeed l D cI cZ cL am M th r i (by omega)) ck_X6_doesNeed w_857 hP 0 rfl rfl hl.1 rfl ⟨Nat.le_of_ble_eq_true rfl, Nat.le_of_ble_eq_true rfl⟩ (Nat.le_of_ble_eq_true rfl) dX6_opened_28 ⟨Nat.le_of_ble_eq_true rfl, Nat.le_of_ble_eq_true rfl⟩) ?_
        refine lv_if_eq (tgt := 43) hx hb dX6_opened_31 (by decide) (fun c_2 => ?_) (fun c_2 => ?_)
        · skip
          have c_2 : m_need M r i = false := b_f c_2
          refine lv_iconst (v := 0) hx hb dX6_opened_43 (by decide) ?_
          refine lv_istore (lv' := [(6, .int 0), (5, .int (M 6 (16 * t + i))), (4, .int (nI i)), (3, .int (m_opn M t r i)), (0, .ref (am 0)), (1, .int (nI t)), (2, .int (nI r))]) hx hb dX6_opened_44 hl (by decide) rfl (fun ls hl => ?_)
          refine lv_iload hx hb dX6_opened_46 (lv_at hl 0 rfl) ?_
          refine lv_if_eq (tgt := 68) hx hb dX6_opened_48 (by decide) (fun c_3 => ?_) (fun c_3 => ?_)
          · skip
            refine lv_iload_n hx hb dX6_opened_68 rfl (lv_at hl 3 rfl) ?_
            refine lv_istore_n (lv' := [(3, .int (m_opn M t r i)), (6, .int 0), (5, .int (M 6 (16 * t + i))), (4, .int (nI i)), (0, .ref (am 0)), (1, .int (nI t)), (2, .int (nI r))]) hx hb dX6_opened_69 rfl hl (by decide) rfl (fun ls hl => ?_)
            refine lv_iinc (v := nI (i + 1)) (lv' := [(4, .int (nI (i + 1))), (3, .int (m_opn M t r i)), (6, .int 0), (5, .int (M 6 (16 * t + i))), (0, .ref (am 0)), (1, .int (nI t)), (2, .int (nI r))]) hx hb dX6_opened_70 hl (k := 3) rfl (nI_1 i) (by decide) rfl (fun ls hl => ?_)
            refine lv_goto (tgt := 5) hx hb dX6_opened_73 (by decide) ?_
            refine ih_5 (i + 1) (by omega) (by omega)  ls ?_
            rw [show m_opn M t r (i + 1) = m_opn M t r i from by first | (simp only [bI, m_opn, c_1, c_2, ↓reduceIte]; done) | (simp [bI, m_opn, c_1, c_2]; done) | (simp_all [bI, m_opn]; done)]
            exact lv_sub hl [0, 1, 4, 5, 6] rfl
          · skip
            exact absurd c_3 (by decide)
        · skip
          have c_2 : m_need M r i = true := b_t c_2
          refine lv_iload_n hx hb dX6_opened_34 rfl (lv_at hl 2 rfl) ?_
          refine lv_iconst (v := (-1)) hx hb dX6_opened_35 (by decide) ?_
          refine lv_icmp_eq (tgt := 43) hx hb dX6_opened_36 (by decide) (fun c_4 => ?_) (fun c_4 => ?_)
          · skip
            refine lv_iconst (v := 0) hx hb dX6_opened_43 (by decide) ?_
            refine lv_istore (lv' := [(6, .int 0), (5, .int (M 6 (16 * t + i))), (4, .int (nI i)), (3, .int (m_opn M t r i)), (0, .ref (am 0)), (1, .int (nI t)), (2, .int (nI r))]) hx hb dX6_opened_44 hl (by decide) rfl (fun ls hl => ?_)
            refine lv_iload hx hb dX6_opened_46 (lv_at hl 0 rfl) ?_
            refine lv_if_eq (tgt := 68) hx hb dX6_opened_48 (by decide) (fun c_5 => ?_) (fun c_5 => ?_)
            · skip
              refine lv_iload_n hx hb dX6_opened_68 rfl (lv_at hl 3 rfl) ?_
              refine lv_istore_n (lv' := [(3, .int (m_opn M t r i)), (6, .int 0), (5, .int (M 6 (16 * t + i))), (4, .int (nI i)), (0, .ref (am 0)), (1, .int (nI t)), (2, .int (nI r))]) hx hb dX6_opened_69 rfl hl (by decide) rfl (fun ls hl => ?_)
              refine lv_iinc (v := nI (i + 1)) (lv' := [(4, .int (nI (i + 1))), (3, .int (m_opn M t r i)), (6, .int 0), (5, .int (M 6 (16 * t + i))), (0, .ref (am 0)), (1, .int (nI t)), (2, .int (nI r))]) hx hb dX6_opened_70 hl (k := 3) rfl (nI_1 i) (by decide) rfl (fun ls hl => ?_)
              refine lv_goto (tgt := 5) hx hb dX6_opened_73 (by decide) ?_
              refine ih_5 (i + 1) (by omega) (by omega)  ls ?_
              rw [show m_opn M t r (i + 1) = m_opn M t r i from by first | (simp only [bI, m_opn, c_1, c_2, c_4, ↓reduceIte]; done) | (simp [bI, m_opn, c_1, c_2, c_4]; done) | (simp_all [bI, m_opn]; done)]
              exact lv_sub hl [0, 1, 4, 5, 6] rfl
            · skip
              exact absurd c_5 (by decide)
          · skip
            refine lv_iconst (v := 1) hx hb dX6_opened_39 (by decide) ?_
            refine lv_goto (tgt := 44) hx hb dX6_opened_40 (by decide) ?_
            refine lv_istore (lv' := [(6, .int 1), (5, .int (M 6 (16 * t + i))), (4, .int (nI i)), (3, .int (m_opn M t r i)), (0, .ref (am 0)), (1, .int (nI t)), (2, .int (nI r))]) hx hb dX6_opened_44 hl (by decide) rfl (fun ls hl => ?_)
            refine lv_iload hx hb dX6_opened_46 (lv_at hl 0 rfl) ?_
            refine lv_if_eq (tgt := 68) hx hb dX6_opened_48 (by decide) (fun c_6 => ?_) (fun c_6 => ?_)
            · skip
              exact absurd c_6 (by decide)
            · skip
              refine lv_iload hx hb dX6_opened_51 (lv_at hl 1 rfl) ?_
              refine lv_iconst (v := (-1)) hx hb dX6_opened_53 (by decide) ?_
              refine lv_icmp_eq (tgt := 63) hx hb dX6_opened_54 (by decide) (fun c_7 => ?_) (fun c_7 => ?_)
              · skip
                refine lv_iload hx hb dX6_opened_63 (lv_at hl 1 rfl) ?_
                refine lv_goto (tgt := 69) hx hb dX6_opened_65 (by decide) ?_
                refine lv_istore_n (lv' := [(3, .int (M 6 (16 * t + i))), (6, .int 1), (5, .int (M 6 (16 * t + i))), (4, .int (nI i)), (0, .ref (am 0)), (1, .int (nI t)), (2, .int (nI r))]) hx hb dX6_opened_69 rfl hl (by decide) rfl (fun ls hl => ?_)
                refine lv_iinc (v := nI (i + 1)) (lv' := [(4, .int (nI (i + 1))), (3, .int (M 6 (16 * t + i))), (6, .int 1), (5, .int (M 6 (16 * t + i))), (0, .ref (am 0)), (1, .int (nI t)), (2, .int (nI r))]) hx hb dX6_opened_70 hl (k := 3) rfl (nI_1 i) (by decide) rfl (fun ls hl => ?_)
                refine lv_goto (tgt := 5) hx hb dX6_opened_73 (by decide) ?_
                refine ih_5 (i + 1) (by omega) (by omega)  ls ?_
                rw [show m_opn M t r (i + 1) = M 6 (16 * t + i) from by first | (simp only [bI, m_opn, c_1, c_2, c_4, c_7, ↓reduceIte]; done) | (simp [bI, m_opn, c_1, c_2, c_4, c_7]; done) | (simp_all [bI, m_opn]; done)]
                exact lv_sub hl [0, 1, 4, 5, 6] rfl
              · skip
                refine lv_iload hx hb dX6_opened_57 (lv_at hl 1 rfl) ?_
                refine lv_iload_n hx hb dX6_opened_59 rfl (lv_at hl 3 rfl) ?_
                refine lv_icmp_le (tgt := 68) hx hb dX6_opened_60 (by decide) (fun c_8 => ?_) (fun c_8 => ?_)
                · skip
                  have g_8 : ¬ (m_opn M t r i) < (M 6 (16 * t + i)) := Int32.not_lt.mpr c_8
                  refine lv_iload_n hx hb dX6_opened_68 rfl (lv_at hl 3 rfl) ?_
                  refine lv_istore_n (lv' := [(3, .int (m_opn M t r i)), (6, .int 1), (5, .int (M 6 (16 * t + i))), (4, .int (nI i)), (0, .ref (am 0)), (1, .int (nI t)), (2, .int (nI r))]) hx hb dX6_opened_69 rfl hl (by decide) rfl (fun ls hl => ?_)
                  refine lv_iinc (v := nI (i + 1)) (lv' := [(4, .int (nI (i + 1))), (3, .int (m_opn M t r i)), (6, .int 1), (5, .int (M 6 (16 * t + i))), (0, .ref (am 0)), (1, .int (nI t)), (2, .int (nI r))]) hx hb dX6_opened_70 hl (k := 3) rfl (nI_1 i) (by decide) rfl (fun ls hl => ?_)
                  refine lv_goto (tgt := 5) hx hb dX6_opened_73 (by decide) ?_
                  refine ih_5 (i + 1) (by omega) (by omega)  ls ?_
                  rw [show m_opn M t r (i + 1) = m_opn M t r i from by first | (simp only [bI, m_opn, c_1, c_2, c_4, c_7, c_8, g_8, ↓reduceIte]; done) | (simp [bI, m_opn, c_1, c_2, c_4, c_7, c_8, g_8]; done) | (simp_all [bI, m_opn]; done)]
                  exact lv_sub hl [0, 1, 4, 5, 6] rfl
                · skip
                  have g_8 : (m_opn M t r i) < (M 6 (16 * t + i)) := Int32.not_le.mp c_8
                  refine lv_iload hx hb dX6_opened_63 (lv_at hl 1 rfl) ?_
                  refine lv_goto (tgt := 69) hx hb dX6_opened_65 (by decide) ?_
                  refine lv_istore_n (lv' := [(3, .int (M 6 (16 * t + i))), (6, .int 1), (5, .int (M 6 (16 * t + i))), (4, .int (nI i)), (0, .ref (am 0)), (1, .int (nI t)), (2, .int (nI r))]) hx hb dX6_opened_69 rfl hl (by decide) rfl (fun ls hl => ?_)
                  refine lv_iinc (v := nI (i + 1)) (lv' := [(4, .int (nI (i + 1))), (3, .int (M 6 (16 * t + i))), (6, .int 1), (5, .int (M 6 (16 * t + i))), (0, .ref (am 0)), (1, .int (nI t)), (2, .int (nI r))]) hx hb dX6_opened_70 hl (k := 3) rfl (nI_1 i) (by decide) rfl (fun ls hl => ?_)
                  refine lv_goto (tgt := 5) hx hb dX6_opened_73 (by decide) ?_
                  refine ih_5 (i + 1) (by omega) (by omega)  ls ?_
                  rw [show m_opn M t r (i + 1) = M 6 (16 * t + i) from by first | (simp only [bI, m_opn, c_1, c_2, c_4, c_7, c_8, g_8, ↓reduceIte]; done) | (simp [bI, m_opn, c_1, c_2, c_4, c_7, c_8, g_8]; done) | (simp_all [bI, m_opn]; done)]
                  exact lv_sub hl [0, 1, 4, 5, 6] rfl
  refine hloop_5 (r + 1) 0 (by omega) (by omega)  ls ?_
  rw [show m_opn M t r 0 = 0 from by first | rfl | (first | (simp only [bI, m_opn, ↓reduceIte]; done) | (simp [bI, m_opn]; done) | (simp_all [bI, m_opn]; done))]
  exact lv_sub hl [0, 1, 2, 3, 4] rfl

theorem dX6_wrong_0 : decode cX6_wrong 0 = .ok (.aload_n 0, 1) := by decide +kernel
theorem dX6_wrong_1 : decode cX6_wrong 1 = .ok (.iload_n 1, 1) := by decide +kernel
theorem dX6_wrong_2 : decode cX6_wrong 2 = .ok (.invokevirtual 108, 3) := by decide +kernel
theorem dX6_wrong_5 : decode cX6_wrong 5 = .ok (.ifCond .eq 15, 3) := by decide +kernel
theorem dX6_wrong_8 : decode cX6_wrong 8 = .ok (.aload_n 0, 1) := by decide +kernel
theorem dX6_wrong_9 : decode cX6_wrong 9 = .ok (.iload_n 2, 1) := by decide +kernel
theorem dX6_wrong_10 : decode cX6_wrong 10 = .ok (.invokevirtual 91, 3) := by decide +kernel
theorem dX6_wrong_13 : decode cX6_wrong 13 = .ok (.ifCond .eq 7, 3) := by decide +kernel
theorem dX6_wrong_16 : decode cX6_wrong 16 = .ok (.iconst 0, 1) := by decide +kernel
theorem dX6_wrong_17 : decode cX6_wrong 17 = .ok (.goto 4, 3) := by decide +kernel
theorem dX6_wrong_20 : decode cX6_wrong 20 = .ok (.iconst 1, 1) := by decide +kernel
theorem dX6_wrong_21 : decode cX6_wrong 21 = .ok (.ireturn, 1) := by decide +kernel
set_option maxHeartbeats 4000000 in
set_option maxRecDepth 100000 in
theorem c_X6_wrong (l : Launch) (D : va_G) (cI cZ cL : ClassId) (am : Nat → Nat) (M : Mem) (th : Int32) (x : Int32) (y : Int32) (hI : J0 M) : RD l D cI cZ cL yX6_wrong cX6_wrong 3 (some .int) 2 [.ref (am 0), .int x, .int y] (wQ am cI cZ M th) (some (.int (m_wrong M x y))) := by
  refine RD.of (by decide) (Nat.le_of_ble_eq_true rfl) ?_
  intro p e s m args below meth c ls hx hb hr hml hown hlk hE hP hl
  have hl : lv_has ls 3 [(0, .ref (am 0)), (1, .int x), (2, .int y)] := hl
  refine lv_aload_n hx hb dX6_wrong_0 rfl (lv_at hl 0 rfl) ?_
  refine lv_iload_n hx hb dX6_wrong_1 rfl (lv_at hl 1 rfl) ?_
  refine q_rd (q_runV (rest := []) hx hb hml hown hE (c_X6_isTeam l D cI cZ cL am M th x hI) ck_X6_isTeam w_891 hP 0 rfl rfl hl.1 rfl ⟨Nat.le_of_ble_eq_true rfl, Nat.le_of_ble_eq_true rfl⟩ (Nat.le_of_ble_eq_true rfl) dX6_wrong_2 ⟨Nat.le_of_ble_eq_true rfl, Nat.le_of_ble_eq_true rfl⟩) ?_
  refine lv_if_eq (tgt := 20) hx hb dX6_wrong_5 (by decide) (fun c_1 => ?_) (fun c_1 => ?_)
  · skip
    have c_1 : okn x (mT M) = false := b_f c_1
    refine lv_iconst (v := 1) hx hb dX6_wrong_20 (by decide) ?_
    refine q_top (y := m_wrong M x y) (by first | (simp only [bI, m_wrong, c_1, ↓reduceIte]; done) | (simp [bI, m_wrong, c_1]; done) | (simp_all [bI, m_wrong]; done)) ?_
    exact e_ret hx hb hr hlk rfl dX6_wrong_21
  · skip
    have c_1 : okn x (mT M) = true := b_t c_1
    refine lv_aload_n hx hb dX6_wrong_8 rfl (lv_at hl 0 rfl) ?_
    refine lv_iload_n hx hb dX6_wrong_9 rfl (lv_at hl 2 rfl) ?_
    refine q_rd (q_runV (rest := []) hx hb hml hown hE (c_X6_isRiddle l D cI cZ cL am M th y hI) ck_X6_isRiddle w_853 hP 0 rfl rfl hl.1 rfl ⟨Nat.le_of_ble_eq_true rfl, Nat.le_of_ble_eq_true rfl⟩ (Nat.le_of_ble_eq_true rfl) dX6_wrong_10 ⟨Nat.le_of_ble_eq_true rfl, Nat.le_of_ble_eq_true rfl⟩) ?_
    refine lv_if_eq (tgt := 20) hx hb dX6_wrong_13 (by decide) (fun c_2 => ?_) (fun c_2 => ?_)
    · skip
      have c_2 : okn y (mR M) = false := b_f c_2
      refine lv_iconst (v := 1) hx hb dX6_wrong_20 (by decide) ?_
      refine q_top (y := m_wrong M x y) (by first | (simp only [bI, m_wrong, c_1, c_2, ↓reduceIte]; done) | (simp [bI, m_wrong, c_1, c_2]; done) | (simp_all [bI, m_wrong]; done)) ?_
      exact e_ret hx hb hr hlk rfl dX6_wrong_21
    · skip
      have c_2 : okn y (mR M) = true := b_t c_2
      refine lv_iconst (v := 0) hx hb dX6_wrong_16 (by decide) ?_
      refine lv_goto (tgt := 21) hx hb dX6_wrong_17 (by decide) ?_
      refine q_top (y := m_wrong M x y) (by first | (simp only [bI, m_wrong, c_1, c_2, ↓reduceIte]; done) | (simp [bI, m_wrong, c_1, c_2]; done) | (simp_all [bI, m_wrong]; done)) ?_
      exact e_ret hx hb hr hlk rfl dX6_wrong_21

theorem dX6_isDone_0 : decode cX6_isDone 0 = .ok (.aload_n 0, 1) := by decide +kernel
theorem dX6_isDone_1 : decode cX6_isDone 1 = .ok (.getfield 80, 3) := by decide +kernel
theorem dX6_isDone_4 : decode cX6_isDone 4 = .ok (.ifCond .ne 27, 3) := by decide +kernel
theorem dX6_isDone_7 : decode cX6_isDone 7 = .ok (.aload_n 0, 1) := by decide +kernel
theorem dX6_isDone_8 : decode cX6_isDone 8 = .ok (.iload_n 1, 1) := by decide +kernel
theorem dX6_isDone_9 : decode cX6_isDone 9 = .ok (.iload_n 2, 1) := by decide +kernel
theorem dX6_isDone_10 : decode cX6_isDone 10 = .ok (.invokevirtual 111, 3) := by decide +kernel
theorem dX6_isDone_13 : decode cX6_isDone 13 = .ok (.iconst (-1), 1) := by decide +kernel
theorem dX6_isDone_14 : decode cX6_isDone 14 = .ok (.if_icmp .eq 17, 3) := by decide +kernel
theorem dX6_isDone_17 : decode cX6_isDone 17 = .ok (.aload_n 0, 1) := by decide +kernel
theorem dX6_isDone_18 : decode cX6_isDone 18 = .ok (.getfield 25, 3) := by decide +kernel
theorem dX6_isDone_21 : decode cX6_isDone 21 = .ok (.iload_n 1, 1) := by decide +kernel
theorem dX6_isDone_22 : decode cX6_isDone 22 = .ok (.iload_n 2, 1) := by decide +kernel
theorem dX6_isDone_23 : decode cX6_isDone 23 = .ok (.invokestatic 87, 3) := by decide +kernel
theorem dX6_isDone_26 : decode cX6_isDone 26 = .ok (.iaload, 1) := by decide +kernel
theorem dX6_isDone_27 : decode cX6_isDone 27 = .ok (.iconst (-1), 1) := by decide +kernel
theorem dX6_isDone_28 : decode cX6_isDone 28 = .ok (.if_icmp .eq 7, 3) := by decide +kernel
theorem dX6_isDone_31 : decode cX6_isDone 31 = .ok (.iconst 1, 1) := by decide +kernel
theorem dX6_isDone_32 : decode cX6_isDone 32 = .ok (.goto 4, 3) := by decide +kernel
theorem dX6_isDone_35 : decode cX6_isDone 35 = .ok (.iconst 0, 1) := by decide +kernel
theorem dX6_isDone_36 : decode cX6_isDone 36 = .ok (.ireturn, 1) := by decide +kernel
set_option maxHeartbeats 4000000 in
set_option maxRecDepth 100000 in
theorem c_X6_isDone (l : Launch) (D : va_G) (cI cZ cL : ClassId) (am : Nat → Nat) (M : Mem) (th : Int32) (t : Nat) (r : Nat) (ht : t < 8) (hr : r < 16) : RD l D cI cZ cL yX6_isDone cX6_isDone 3 (some .boolean) 2 [.ref (am 0), .int (nI t), .int (nI r)] (wQ am cI cZ M th) (some (.int (bI (m_done M t r)))) := by
  refine RD.of (by decide) (Nat.le_of_ble_eq_true rfl) ?_
  intro p e s m args below meth c ls hx hb hr hml hown hlk hE hP hl
  have hl : lv_has ls 3 [(0, .ref (am 0)), (1, .int (nI t)), (2, .int (nI r))] := hl
  refine lv_aload_n hx hb dX6_isDone_0 rfl (lv_at hl 0 rfl) ?_
  refine q_get (v := .int (M 0 1)) hx hb hown hE inT_X6 hP 0 rfl rfl 1 (by decide) w_759 rfl dX6_isDone_1 ?_
  refine lv_if_ne (tgt := 31) hx hb dX6_isDone_4 (by decide) (fun c_1 => ?_) (fun c_1 => ?_)
  · skip
    refine lv_iconst (v := 1) hx hb dX6_isDone_31 (by decide) ?_
    refine lv_goto (tgt := 36) hx hb dX6_isDone_32 (by decide) ?_
    refine q_top (y := bI (m_done M t r)) (by first | (simp only [bI, m_done, c_1, ↓reduceIte]; done) | (simp [bI, m_done, c_1]; done) | (simp_all [bI, m_done]; done)) ?_
    exact e_ret hx hb hr hlk (n_bI _) dX6_isDone_36
  · skip
    refine lv_aload_n hx hb dX6_isDone_7 rfl (lv_at hl 0 rfl) ?_
    refine lv_iload_n hx hb dX6_isDone_8 rfl (lv_at hl 1 rfl) ?_
    refine lv_iload_n hx hb dX6_isDone_9 rfl (lv_at hl 2 rfl) ?_
    refine q_rd (q_runV (rest := []) hx hb hml hown hE (c_X6_opened l D cI cZ cL am M th t r (by omega) (by omega)) ck_X6_opened w_899 hP 0 rfl rfl hl.1 rfl ⟨Nat.le_of_ble_eq_true rfl, Nat.le_of_ble_eq_true rfl⟩ (Nat.le_of_ble_eq_true rfl) dX6_isDone_10 ⟨Nat.le_of_ble_eq_true rfl, Nat.le_of_ble_eq_true rfl⟩) ?_
    refine lv_iconst (v := (-1)) hx hb dX6_isDone_13 (by decide) ?_
    refine lv_icmp_eq (tgt := 31) hx hb dX6_isDone_14 (by decide) (fun c_2 => ?_) (fun c_2 => ?_)
    · skip
      refine lv_iconst (v := 1) hx hb dX6_isDone_31 (by decide) ?_
      refine lv_goto (tgt := 36) hx hb dX6_isDone_32 (by decide) ?_
      refine q_top (y := bI (m_done M t r)) (by first | (simp only [bI, m_done, c_1, c_2, ↓reduceIte]; done) | (simp [bI, m_done, c_1, c_2]; done) | (simp_all [bI, m_done]; done)) ?_
      exact e_ret hx hb hr hlk (n_bI _) dX6_isDone_36
    · skip
      refine lv_aload_n hx hb dX6_isDone_17 rfl (lv_at hl 0 rfl) ?_
      refine q_get (v := .ref (am 6)) hx hb hown hE inT_X6 hP 0 rfl rfl 9 (by decide) w_767 rfl dX6_isDone_18 ?_
      refine lv_iload_n hx hb dX6_isDone_21 rfl (lv_at hl 1 rfl) ?_
      refine lv_iload_n hx hb dX6_isDone_22 rfl (lv_at hl 2 rfl) ?_
      refine q_rd (q_runS (rest := [.ref (am 6)]) hx hb hml hown hE (c_X6_at l D cI cZ cL _ t r) ck_X6_at w_865 hP hl.1 rfl ⟨Nat.le_of_ble_eq_true rfl, Nat.le_of_ble_eq_true rfl⟩ (Nat.le_of_ble_eq_true rfl) dX6_isDone_23 ⟨Nat.le_of_ble_eq_true rfl, Nat.le_of_ble_eq_true rfl⟩) ?_
      refine q_iald (f := M 6) (i := (16 * t + r)) hx hb hE hP 6 rfl (by omega) (Nat.le_of_ble_eq_true rfl) dX6_isDone_26 ?_
      refine lv_iconst (v := (-1)) hx hb dX6_isDone_27 (by decide) ?_
      refine lv_icmp_eq (tgt := 35) hx hb dX6_isDone_28 (by decide) (fun c_3 => ?_) (fun c_3 => ?_)
      · skip
        refine lv_iconst (v := 0) hx hb dX6_isDone_35 (by decide) ?_
        refine q_top (y := bI (m_done M t r)) (by first | (simp only [bI, m_done, c_1, c_2, c_3, ↓reduceIte]; done) | (simp [bI, m_done, c_1, c_2, c_3]; done) | (simp_all [bI, m_done]; done)) ?_
        exact e_ret hx hb hr hlk (n_bI _) dX6_isDone_36
      · skip
        refine lv_iconst (v := 1) hx hb dX6_isDone_31 (by decide) ?_
        refine lv_goto (tgt := 36) hx hb dX6_isDone_32 (by decide) ?_
        refine q_top (y := bI (m_done M t r)) (by first | (simp only [bI, m_done, c_1, c_2, c_3, ↓reduceIte]; done) | (simp [bI, m_done, c_1, c_2, c_3]; done) | (simp_all [bI, m_done]; done)) ?_
        exact e_ret hx hb hr hlk (n_bI _) dX6_isDone_36

theorem dX6_priceOf_0 : decode cX6_priceOf 0 = .ok (.aload_n 0, 1) := by decide +kernel
theorem dX6_priceOf_1 : decode cX6_priceOf 1 = .ok (.getfield 19, 3) := by decide +kernel
theorem dX6_priceOf_4 : decode cX6_priceOf 4 = .ok (.iload_n 2, 1) := by decide +kernel
theorem dX6_priceOf_5 : decode cX6_priceOf 5 = .ok (.iaload, 1) := by decide +kernel
theorem dX6_priceOf_6 : decode cX6_priceOf 6 = .ok (.aload_n 0, 1) := by decide +kernel
theorem dX6_priceOf_7 : decode cX6_priceOf 7 = .ok (.getfield 73, 3) := by decide +kernel
theorem dX6_priceOf_10 : decode cX6_priceOf 10 = .ok (.aload_n 0, 1) := by decide +kernel
theorem dX6_priceOf_11 : decode cX6_priceOf 11 = .ok (.iload_n 1, 1) := by decide +kernel
theorem dX6_priceOf_12 : decode cX6_priceOf 12 = .ok (.iload_n 2, 1) := by decide +kernel
theorem dX6_priceOf_13 : decode cX6_priceOf 13 = .ok (.invokevirtual 111, 3) := by decide +kernel
theorem dX6_priceOf_16 : decode cX6_priceOf 16 = .ok (.isub, 1) := by decide +kernel
theorem dX6_priceOf_17 : decode cX6_priceOf 17 = .ok (.bipush 10, 2) := by decide +kernel
theorem dX6_priceOf_19 : decode cX6_priceOf 19 = .ok (.idiv, 1) := by decide +kernel
theorem dX6_priceOf_20 : decode cX6_priceOf 20 = .ok (.isub, 1) := by decide +kernel
theorem dX6_priceOf_21 : decode cX6_priceOf 21 = .ok (.istore_n 3, 1) := by decide +kernel
theorem dX6_priceOf_22 : decode cX6_priceOf 22 = .ok (.iconst 0, 1) := by decide +kernel
theorem dX6_priceOf_23 : decode cX6_priceOf 23 = .ok (.istore 4, 2) := by decide +kernel
theorem dX6_priceOf_25 : decode cX6_priceOf 25 = .ok (.iload 4, 2) := by decide +kernel
theorem dX6_priceOf_27 : decode cX6_priceOf 27 = .ok (.aload_n 0, 1) := by decide +kernel
theorem dX6_priceOf_28 : decode cX6_priceOf 28 = .ok (.getfield 70, 3) := by decide +kernel
theorem dX6_priceOf_31 : decode cX6_priceOf 31 = .ok (.if_icmp .ge 41, 3) := by decide +kernel
theorem dX6_priceOf_34 : decode cX6_priceOf 34 = .ok (.iload_n 3, 1) := by decide +kernel
theorem dX6_priceOf_35 : decode cX6_priceOf 35 = .ok (.aload_n 0, 1) := by decide +kernel
theorem dX6_priceOf_36 : decode cX6_priceOf 36 = .ok (.getfield 35, 3) := by decide +kernel
theorem dX6_priceOf_39 : decode cX6_priceOf 39 = .ok (.iload 4, 2) := by decide +kernel
theorem dX6_priceOf_41 : decode cX6_priceOf 41 = .ok (.iload_n 2, 1) := by decide +kernel
theorem dX6_priceOf_42 : decode cX6_priceOf 42 = .ok (.invokestatic 87, 3) := by decide +kernel
theorem dX6_priceOf_45 : decode cX6_priceOf 45 = .ok (.iaload, 1) := by decide +kernel
theorem dX6_priceOf_46 : decode cX6_priceOf 46 = .ok (.aload_n 0, 1) := by decide +kernel
theorem dX6_priceOf_47 : decode cX6_priceOf 47 = .ok (.getfield 35, 3) := by decide +kernel
theorem dX6_priceOf_50 : decode cX6_priceOf 50 = .ok (.iload_n 1, 1) := by decide +kernel
theorem dX6_priceOf_51 : decode cX6_priceOf 51 = .ok (.iload_n 2, 1) := by decide +kernel
theorem dX6_priceOf_52 : decode cX6_priceOf 52 = .ok (.invokestatic 87, 3) := by decide +kernel
theorem dX6_priceOf_55 : decode cX6_priceOf 55 = .ok (.iaload, 1) := by decide +kernel
theorem dX6_priceOf_56 : decode cX6_priceOf 56 = .ok (.if_icmp .le 7, 3) := by decide +kernel
theorem dX6_priceOf_59 : decode cX6_priceOf 59 = .ok (.iconst 1, 1) := by decide +kernel
theorem dX6_priceOf_60 : decode cX6_priceOf 60 = .ok (.goto 4, 3) := by decide +kernel
theorem dX6_priceOf_63 : decode cX6_priceOf 63 = .ok (.iconst 0, 1) := by decide +kernel
theorem dX6_priceOf_64 : decode cX6_priceOf 64 = .ok (.isub, 1) := by decide +kernel
theorem dX6_priceOf_65 : decode cX6_priceOf 65 = .ok (.istore_n 3, 1) := by decide +kernel
theorem dX6_priceOf_66 : decode cX6_priceOf 66 = .ok (.iinc 4 1, 3) := by decide +kernel
theorem dX6_priceOf_69 : decode cX6_priceOf 69 = .ok (.goto (-44), 3) := by decide +kernel
theorem dX6_priceOf_72 : decode cX6_priceOf 72 = .ok (.iload_n 3, 1) := by decide +kernel
theorem dX6_priceOf_73 : decode cX6_priceOf 73 = .ok (.iconst 1, 1) := by decide +kernel
theorem dX6_priceOf_74 : decode cX6_priceOf 74 = .ok (.if_icmp .le 7, 3) := by decide +kernel
theorem dX6_priceOf_77 : decode cX6_priceOf 77 = .ok (.iload_n 3, 1) := by decide +kernel
theorem dX6_priceOf_78 : decode cX6_priceOf 78 = .ok (.goto 4, 3) := by decide +kernel
theorem dX6_priceOf_81 : decode cX6_priceOf 81 = .ok (.iconst 1, 1) := by decide +kernel
theorem dX6_priceOf_82 : decode cX6_priceOf 82 = .ok (.ireturn, 1) := by decide +kernel
set_option maxHeartbeats 4000000 in
set_option maxRecDepth 100000 in
theorem c_X6_priceOf (l : Launch) (D : va_G) (cI cZ cL : ClassId) (am : Nat → Nat) (M : Mem) (th : Int32) (t : Nat) (r : Nat) (hI : J0 M) (ht : t < 8) (hr : r < 16) : RD l D cI cZ cL yX6_priceOf cX6_priceOf 5 (some .int) 2 [.ref (am 0), .int (nI t), .int (nI r)] (wQ am cI cZ M th) (some (.int (m_price M t r))) := by
  refine RD.of (by decide) (Nat.le_of_ble_eq_true rfl) ?_
  intro p e s m args below meth c ls hx hb hr hml hown hlk hE hP hl
  have hl : lv_has ls 5 [(0, .ref (am 0)), (1, .int (nI t)), (2, .int (nI r))] := hl
  have hT8 := hI.T8
  have hR16 := hI.R16
  have hN200 := hI.N200
  refine lv_aload_n hx hb dX6_priceOf_0 rfl (lv_at hl 0 rfl) ?_
  refine q_get (v := .ref (am 4)) hx hb hown hE inT_X6 hP 0 rfl rfl 6 (by decide) w_764 rfl dX6_priceOf_1 ?_
  refine lv_iload_n hx hb dX6_priceOf_4 rfl (lv_at hl 2 rfl) ?_
  refine q_iald (f := M 4) (i := r) hx hb hE hP 4 rfl (by omega) (Nat.le_of_ble_eq_true rfl) dX6_priceOf_5 ?_
  refine lv_aload_n hx hb dX6_priceOf_6 rfl (lv_at hl 0 rfl) ?_
  refine q_get (v := .int (M 0 0)) hx hb hown hE inT_X6 hP 0 rfl rfl 0 (by decide) w_758 rfl dX6_priceOf_7 ?_
  refine lv_aload_n hx hb dX6_priceOf_10 rfl (lv_at hl 0 rfl) ?_
  refine lv_iload_n hx hb dX6_priceOf_11 rfl (lv_at hl 1 rfl) ?_
  refine lv_iload_n hx hb dX6_priceOf_12 rfl (lv_at hl 2 rfl) ?_
  refine q_rd (q_runV (rest := [.int (M 0 0), .int (M 4 r)]) hx hb hml hown hE (c_X6_opened l D cI cZ cL am M th t r (by omega) (by omega)) ck_X6_opened w_899 hP 0 rfl rfl hl.1 rfl ⟨Nat.le_of_ble_eq_true rfl, Nat.le_of_ble_eq_true rfl⟩ (Nat.le_of_ble_eq_true rfl) dX6_priceOf_13 ⟨Nat.le_of_ble_eq_true rfl, Nat.le_of_ble_eq_true rfl⟩) ?_
  refine lv_isub hx hb dX6_priceOf_16 ?_
  refine lv_bipush (v := 10) hx hb dX6_priceOf_17 (by decide) ?_
  refine lv_idiv hx hb dX6_priceOf_19 (by decide) ?_
  refine lv_isub hx hb dX6_priceOf_20 ?_
  refine lv_istore_n (lv' := [(3, .int ((M 4 r) - (((M 0 0) - (m_opened M t r)) / 10))), (0, .ref (am 0)), (1, .int (nI t)), (2, .int (nI r))]) hx hb dX6_priceOf_21 rfl hl (by decide) rfl (fun ls hl => ?_)
  refine lv_iconst (v := 0) hx hb dX6_priceOf_22 (by decide) ?_
  refine lv_istore (lv' := [(4, .int 0), (3, .int ((M 4 r) - (((M 0 0) - (m_opened M t r)) / 10))), (0, .ref (am 0)), (1, .int (nI t)), (2, .int (nI r))]) hx hb dX6_priceOf_23 hl (by decide) rfl (fun ls hl => ?_)
  have hloop_25 : ∀ (n i : Nat), i ≤ mT M → mT M < i + n → ∀ ls : Array Slot, lv_has ls 5 [(4, .int (nI i)), (3, .int (m_pr M t r i)), (0, .ref (am 0)), (1, .int (nI t)), (2, .int (nI r))] → W p l e (rm 2 0 0) s m args below meth c s.heap [] 0 0 (MQ below (Qrd (some (.int (m_price M t r)))) args s 0 0 q_no) (F0 m 25 ls []) := by
    intro n
    induction n with
    | zero => intro i h1 h2; exact absurd h2 (by omega)
    | succ n ih_25 =>
      intro i hi_25 hin_25  ls hl
      refine lv_iload hx hb dX6_priceOf_25 (lv_at hl 0 rfl) ?_
      refine lv_aload_n hx hb dX6_priceOf_27 rfl (lv_at hl 2 rfl) ?_
      refine q_get (v := .int (M 0 8)) hx hb hown hE inT_X6 hP 0 rfl rfl 8 (by decide) w_766 rfl dX6_priceOf_28 ?_
      refine q_top (y := nI (mT M)) (J0.T hI) ?_
      refine lv_icmp_ge (tgt := 72) hx hb dX6_priceOf_31 (by decide) (fun c_1 => ?_) (fun c_1 => ?_)
      · skip
        have c_1 : (mT M) ≤ i := n_le (a := mT M) (b := i) (by omega) (by omega) c_1
        have hend_25 : mT M = i := by omega
        subst hend_25
        refine lv_iload_n hx hb dX6_priceOf_72 rfl (lv_at hl 1 rfl) ?_
        refine lv_iconst (v := 1) hx hb dX6_priceOf_73 (by decide) ?_
        refine lv_icmp_le (tgt := 81) hx hb dX6_priceOf_74 (by decide) (fun c_2 => ?_) (fun c_2 => ?_)
        · skip
          have g_2 : ¬ 1 < (m_pr M t r (mT M)) := Int32.not_lt.mpr c_2
          refine lv_iconst (v := 1) hx hb dX6_priceOf_81 (by decide) ?_
          refine q_top (y := m_price M t r) (by first | (simp only [bI, m_price, c_2, g_2, ↓reduceIte]; done) | (simp [bI, m_price, c_2, g_2]; done) | (simp_all [bI, m_price]; done)) ?_
          exact e_ret hx hb hr hlk rfl dX6_priceOf_82
        · skip
          have g_2 : 1 < (m_pr M t r (mT M)) := Int32.not_le.mp c_2
          refine lv_iload_n hx hb dX6_priceOf_77 rfl (lv_at hl 1 rfl) ?_
          refine lv_goto (tgt := 82) hx hb dX6_priceOf_78 (by decide) ?_
          refine q_top (y := m_price M t r) (by first | (simp only [bI, m_price, c_2, g_2, ↓reduceIte]; done) | (simp [bI, m_price, c_2, g_2]; done) | (simp_all [bI, m_price]; done)) ?_
          exact e_ret hx hb hr hlk rfl dX6_priceOf_82
      · skip
        have c_1 : i < (mT M) := n_nle (a := mT M) (b := i) (by omega) (by omega) c_1
        refine lv_iload_n hx hb dX6_priceOf_34 rfl (lv_at hl 1 rfl) ?_
        refine lv_aload_n hx hb dX6_priceOf_35 rfl (lv_at hl 2 rfl) ?_
        refine q_get (v := .ref (am 9)) hx hb hown hE inT_X6 hP 0 rfl rfl 12 (by decide) w_770 rfl dX6_priceOf_36 ?_
        refine lv_iload hx hb dX6_priceOf_39 (lv_at hl 0 rfl) ?_
        refine lv_iload_n hx hb dX6_priceOf_41 rfl (lv_at hl 4 rfl) ?_
        refine q_rd (q_runS (rest := [.ref (am 9), .int (m_pr M t r i)]) hx hb hml hown hE (c_X6_at l D cI cZ cL _ i r) ck_X6_at w_865 hP hl.1 rfl ⟨Nat.le_of_ble_eq_true rfl, Nat.le_of_ble_eq_true rfl⟩ (Nat.le_of_ble_eq_true rfl) dX6_priceOf_42 ⟨Nat.le_of_ble_eq_true rfl, Nat.le_of_ble_eq_true rfl⟩) ?_
        refine q_iald (f := M 9) (i := (16 * i + r)) hx hb hE hP 9 rfl (by omega) (Nat.le_of_ble_eq_true rfl) dX6_priceOf_45 ?_
        refine lv_aload_n hx hb dX6_priceOf_46 rfl (lv_at hl 2 rfl) ?_
        refine q_get (v := .ref (am 9)) hx hb hown hE inT_X6 hP 0 rfl rfl 12 (by decide) w_770 rfl dX6_priceOf_47 ?_
        refine lv_iload_n hx hb dX6_priceOf_50 rfl (lv_at hl 3 rfl) ?_
        refine lv_iload_n hx hb dX6_priceOf_51 rfl (lv_at hl 4 rfl) ?_
        refine q_rd (q_runS (rest := [.ref (am 9), .int (M 9 (16 * i + r)), .int (m_pr M t r i)]) hx hb hml hown hE (c_X6_at l D cI cZ cL _ t r) ck_X6_at w_865 hP hl.1 rfl ⟨Nat.le_of_ble_eq_true rfl, Nat.le_of_ble_eq_true rfl⟩ (Nat.le_of_ble_eq_true rfl) dX6_priceOf_52 ⟨Nat.le_of_ble_eq_true rfl, Nat.le_of_ble_eq_true rfl⟩) ?_
        refine q_iald (f := M 9) (i := (16 * t + r)) hx hb hE hP 9 rfl (by omega) (Nat.le_of_ble_eq_true rfl) dX6_priceOf_55 ?_
        refine lv_icmp_le (tgt := 63) hx hb dX6_priceOf_56 (by decide) (fun c_3 => ?_) (fun c_3 => ?_)
        · skip
          have g_3 : ¬ (M 9 (16 * t + r)) < (M 9 (16 * i + r)) := Int32.not_lt.mpr c_3
          refine lv_iconst (v := 0) hx hb dX6_priceOf_63 (by decide) ?_
          refine lv_isub hx hb dX6_priceOf_64 ?_
          refine lv_istore_n (lv' := [(3, .int ((m_pr M t r i) - 0)), (4, .int (nI i)), (0, .ref (am 0)), (1, .int (nI t)), (2, .int (nI r))]) hx hb dX6_priceOf_65 rfl hl (by decide) rfl (fun ls hl => ?_)
          refine lv_iinc (v := nI (i + 1)) (lv' := [(4, .int (nI (i + 1))), (3, .int ((m_pr M t r i) - 0)), (0, .ref (am 0)), (1, .int (nI t)), (2, .int (nI r))]) hx hb dX6_priceOf_66 hl (k := 1) rfl (nI_1 i) (by decide) rfl (fun ls hl => ?_)
          refine lv_goto (tgt := 25) hx hb dX6_priceOf_69 (by decide) ?_
          refine ih_25 (i + 1) (by omega) (by omega)  ls ?_
          rw [show m_pr M t r (i + 1) = (m_pr M t r i) - 0 from by first | (simp only [bI, m_pr, c_1, c_3, g_3, ↓reduceIte]; done) | (simp [bI, m_pr, c_1, c_3, g_3]; done) | (simp_all [bI, m_pr]; done)]
          exact lv_sub hl [0, 1, 2, 3, 4] rfl
        · skip
          have g_3 : (M 9 (16 * t + r)) < (M 9 (16 * i + r)) := Int32.not_le.mp c_3
          refine lv_iconst (v := 1) hx hb dX6_priceOf_59 (by decide) ?_
          refine lv_goto (tgt := 64) hx hb dX6_priceOf_60 (by decide) ?_
          refine lv_isub hx hb dX6_priceOf_64 ?_
          refine lv_istore_n (lv' := [(3, .int ((m_pr M t r i) - 1)), (4, .int (nI i)), (0, .ref (am 0)), (1, .int (nI t)), (2, .int (nI r))]) hx hb dX6_priceOf_65 rfl hl (by decide) rfl (fun ls hl => ?_)
          refine lv_iinc (v := nI (i + 1)) (lv' := [(4, .int (nI (i + 1))), (3, .int ((m_pr M t r i) - 1)), (0, .ref (am 0)), (1, .int (nI t)), (2, .int (nI r))]) hx hb dX6_priceOf_66 hl (k := 1) rfl (nI_1 i) (by decide) rfl (fun ls hl => ?_)
          refine lv_goto (tgt := 25) hx hb dX6_priceOf_69 (by decide) ?_
          refine ih_25 (i + 1) (by omega) (by omega)  ls ?_
          rw [show m_pr M t r (i + 1) = (m_pr M t r i) - 1 from by first | (simp only [bI, m_pr, c_1, c_3, g_3, ↓reduceIte]; done) | (simp [bI, m_pr, c_1, c_3, g_3]; done) | (simp_all [bI, m_pr]; done)]
          exact lv_sub hl [0, 1, 2, 3, 4] rfl
  refine hloop_25 (mT M + 1) 0 (by omega) (by omega)  ls ?_
  rw [show m_pr M t r 0 = (M 4 r) - (((M 0 0) - (m_opened M t r)) / 10) from by first | rfl | (first | (simp only [bI, m_pr, ↓reduceIte]; done) | (simp [bI, m_pr]; done) | (simp_all [bI, m_pr]; done))]
  exact lv_sub hl [0, 1, 2, 3, 4] rfl

theorem dX6_gave_0 : decode cX6_gave 0 = .ok (.iconst 0, 1) := by decide +kernel
theorem dX6_gave_1 : decode cX6_gave 1 = .ok (.istore 5, 2) := by decide +kernel
theorem dX6_gave_3 : decode cX6_gave 3 = .ok (.iconst 0, 1) := by decide +kernel
theorem dX6_gave_4 : decode cX6_gave 4 = .ok (.istore 6, 2) := by decide +kernel
theorem dX6_gave_6 : decode cX6_gave 6 = .ok (.iload 6, 2) := by decide +kernel
theorem dX6_gave_8 : decode cX6_gave 8 = .ok (.iload 4, 2) := by decide +kernel
theorem dX6_gave_10 : decode cX6_gave 10 = .ok (.if_icmp .ge 54, 3) := by decide +kernel
theorem dX6_gave_13 : decode cX6_gave 13 = .ok (.iload 5, 2) := by decide +kernel
theorem dX6_gave_15 : decode cX6_gave 15 = .ok (.ifCond .ne 36, 3) := by decide +kernel
theorem dX6_gave_18 : decode cX6_gave 18 = .ok (.aload_n 0, 1) := by decide +kernel
theorem dX6_gave_19 : decode cX6_gave 19 = .ok (.getfield 41, 3) := by decide +kernel
theorem dX6_gave_22 : decode cX6_gave 22 = .ok (.iload 6, 2) := by decide +kernel
theorem dX6_gave_24 : decode cX6_gave 24 = .ok (.iaload, 1) := by decide +kernel
theorem dX6_gave_25 : decode cX6_gave 25 = .ok (.iload_n 1, 1) := by decide +kernel
theorem dX6_gave_26 : decode cX6_gave 26 = .ok (.if_icmp .ne 29, 3) := by decide +kernel
theorem dX6_gave_29 : decode cX6_gave 29 = .ok (.aload_n 0, 1) := by decide +kernel
theorem dX6_gave_30 : decode cX6_gave 30 = .ok (.getfield 44, 3) := by decide +kernel
theorem dX6_gave_33 : decode cX6_gave 33 = .ok (.iload 6, 2) := by decide +kernel
theorem dX6_gave_35 : decode cX6_gave 35 = .ok (.iaload, 1) := by decide +kernel
theorem dX6_gave_36 : decode cX6_gave 36 = .ok (.iload_n 2, 1) := by decide +kernel
theorem dX6_gave_37 : decode cX6_gave 37 = .ok (.if_icmp .ne 18, 3) := by decide +kernel
theorem dX6_gave_40 : decode cX6_gave 40 = .ok (.aload_n 0, 1) := by decide +kernel
theorem dX6_gave_41 : decode cX6_gave 41 = .ok (.getfield 47, 3) := by decide +kernel
theorem dX6_gave_44 : decode cX6_gave 44 = .ok (.iload 6, 2) := by decide +kernel
theorem dX6_gave_46 : decode cX6_gave 46 = .ok (.iaload, 1) := by decide +kernel
theorem dX6_gave_47 : decode cX6_gave 47 = .ok (.iload_n 3, 1) := by decide +kernel
theorem dX6_gave_48 : decode cX6_gave 48 = .ok (.if_icmp .ne 7, 3) := by decide +kernel
theorem dX6_gave_51 : decode cX6_gave 51 = .ok (.iconst 1, 1) := by decide +kernel
theorem dX6_gave_52 : decode cX6_gave 52 = .ok (.goto 4, 3) := by decide +kernel
theorem dX6_gave_55 : decode cX6_gave 55 = .ok (.iconst 0, 1) := by decide +kernel
theorem dX6_gave_56 : decode cX6_gave 56 = .ok (.istore 5, 2) := by decide +kernel
theorem dX6_gave_58 : decode cX6_gave 58 = .ok (.iinc 6 1, 3) := by decide +kernel
theorem dX6_gave_61 : decode cX6_gave 61 = .ok (.goto (-55), 3) := by decide +kernel
theorem dX6_gave_64 : decode cX6_gave 64 = .ok (.iload 5, 2) := by decide +kernel
theorem dX6_gave_66 : decode cX6_gave 66 = .ok (.ireturn, 1) := by decide +kernel
set_option maxHeartbeats 4000000 in
set_option maxRecDepth 100000 in
theorem c_X6_gave (l : Launch) (D : va_G) (cI cZ cL : ClassId) (am : Nat → Nat) (M : Mem) (th : Int32) (x : Int32) (r : Int32) (w : Int32) (u : Nat) (hu : u ≤ 200) : RD l D cI cZ cL yX6_gave cX6_gave 7 (some .boolean) 0 [.ref (am 0), .int x, .int r, .int w, .int (nI u)] (wQ am cI cZ M th) (some (.int (bI (m_gave M x r w u)))) := by
  refine RD.of (by decide) (Nat.le_of_ble_eq_true rfl) ?_
  intro p e s m args below meth c ls hx hb hr hml hown hlk hE hP hl
  have hl : lv_has ls 7 [(0, .ref (am 0)), (1, .int x), (2, .int r), (3, .int w), (4, .int (nI u))] := hl
  refine lv_iconst (v := 0) hx hb dX6_gave_0 (by decide) ?_
  refine lv_istore (lv' := [(5, .int 0), (0, .ref (am 0)), (1, .int x), (2, .int r), (3, .int w), (4, .int (nI u))]) hx hb dX6_gave_1 hl (by decide) rfl (fun ls hl => ?_)
  refine lv_iconst (v := 0) hx hb dX6_gave_3 (by decide) ?_
  refine lv_istore (lv' := [(6, .int 0), (5, .int 0), (0, .ref (am 0)), (1, .int x), (2, .int r), (3, .int w), (4, .int (nI u))]) hx hb dX6_gave_4 hl (by decide) rfl (fun ls hl => ?_)
  have hloop_6 : ∀ (n i : Nat), i ≤ u → u < i + n → ∀ ls : Array Slot, lv_has ls 7 [(6, .int (nI i)), (5, .int (bI (m_gave M x r w i))), (0, .ref (am 0)), (1, .int x), (2, .int r), (3, .int w), (4, .int (nI u))] → W p l e (rm 0 0 0) s m args below meth c s.heap [] 0 0 (MQ below (Qrd (some (.int (bI (m_gave M x r w u))))) args s 0 0 q_no) (F0 m 6 ls []) := by
    intro n
    induction n with
    | zero => intro i h1 h2; exact absurd h2 (by omega)
    | succ n ih_6 =>
      intro i hi_6 hin_6  ls hl
      refine lv_iload hx hb dX6_gave_6 (lv_at hl 0 rfl) ?_
      refine lv_iload hx hb dX6_gave_8 (lv_at hl 6 rfl) ?_
      refine lv_icmp_ge (tgt := 64) hx hb dX6_gave_10 (by decide) (fun c_1 => ?_) (fun c_1 => ?_)
      · skip
        have c_1 : u ≤ i := n_le (a := u) (b := i) (by omega) (by omega) c_1
        have hend_6 : u = i := by omega
        subst hend_6
        refine lv_iload hx hb dX6_gave_64 (lv_at hl 1 rfl) ?_
        exact e_ret hx hb hr hlk (n_bI _) dX6_gave_66
      · skip
        have c_1 : i < u := n_nle (a := u) (b := i) (by omega) (by omega) c_1
        refine lv_iload hx hb dX6_gave_13 (lv_at hl 1 rfl) ?_
        refine lv_if_ne (tgt := 51) hx hb dX6_gave_15 (by decide) (fun c_2 => ?_) (fun c_2 => ?_)
        · skip
          have c_2 : m_gave M x r w i = true := b_t c_2
          refine lv_iconst (v := 1) hx hb dX6_gave_51 (by decide) ?_
          refine lv_goto (tgt := 56) hx hb dX6_gave_52 (by decide) ?_
          refine lv_istore (lv' := [(5, .int 1), (6, .int (nI i)), (0, .ref (am 0)), (1, .int x), (2, .int r), (3, .int w), (4, .int (nI u))]) hx hb dX6_gave_56 hl (by decide) rfl (fun ls hl => ?_)
          refine lv_iinc (v := nI (i + 1)) (lv' := [(6, .int (nI (i + 1))), (5, .int 1), (0, .ref (am 0)), (1, .int x), (2, .int r), (3, .int w), (4, .int (nI u))]) hx hb dX6_gave_58 hl (k := 1) rfl (nI_1 i) (by decide) rfl (fun ls hl => ?_)
          refine lv_goto (tgt := 6) hx hb dX6_gave_61 (by decide) ?_
          refine ih_6 (i + 1) (by omega) (by omega)  ls ?_
          rw [show bI (m_gave M x r w (i + 1)) = 1 from by first | (simp only [bI, m_gave, c_1, c_2, ↓reduceIte]; done) | (simp [bI, m_gave, c_1, c_2]; done) | (simp_all [bI, m_gave]; done)]
          exact lv_sub hl [0, 1, 2, 3, 4, 5, 6] rfl
        · skip
          have c_2 : m_gave M x r w i = false := b_f c_2
          refine lv_aload_n hx hb dX6_gave_18 rfl (lv_at hl 2 rfl) ?_
          refine q_get (v := .ref (am 11)) hx hb hown hE inT_X6 hP 0 rfl rfl 15 (by decide) w_773 rfl dX6_gave_19 ?_
          refine lv_iload hx hb dX6_gave_22 (lv_at hl 0 rfl) ?_
          refine q_iald (f := M 11) (i := i) hx hb hE hP 11 rfl (by omega) (Nat.le_of_ble_eq_true rfl) dX6_gave_24 ?_
          refine lv_iload_n hx hb dX6_gave_25 rfl (lv_at hl 3 rfl) ?_
          refine lv_icmp_ne (tgt := 55) hx hb dX6_gave_26 (by decide) (fun c_3 => ?_) (fun c_3 => ?_)
          · skip
            refine lv_iconst (v := 0) hx hb dX6_gave_55 (by decide) ?_
            refine lv_istore (lv' := [(5, .int 0), (6, .int (nI i)), (0, .ref (am 0)), (1, .int x), (2, .int r), (3, .int w), (4, .int (nI u))]) hx hb dX6_gave_56 hl (by decide) rfl (fun ls hl => ?_)
            refine lv_iinc (v := nI (i + 1)) (lv' := [(6, .int (nI (i + 1))), (5, .int 0), (0, .ref (am 0)), (1, .int x), (2, .int r), (3, .int w), (4, .int (nI u))]) hx hb dX6_gave_58 hl (k := 1) rfl (nI_1 i) (by decide) rfl (fun ls hl => ?_)
            refine lv_goto (tgt := 6) hx hb dX6_gave_61 (by decide) ?_
            refine ih_6 (i + 1) (by omega) (by omega)  ls ?_
            rw [show bI (m_gave M x r w (i + 1)) = 0 from by first | (simp only [bI, m_gave, c_1, c_2, c_3, ↓reduceIte]; done) | (simp [bI, m_gave, c_1, c_2, c_3]; done) | (simp_all [bI, m_gave]; done)]
            exact lv_sub hl [0, 1, 2, 3, 4, 5, 6] rfl
          · skip
            refine lv_aload_n hx hb dX6_gave_29 rfl (lv_at hl 2 rfl) ?_
            refine q_get (v := .ref (am 12)) hx hb hown hE inT_X6 hP 0 rfl rfl 16 (by decide) w_774 rfl dX6_gave_30 ?_
            refine lv_iload hx hb dX6_gave_33 (lv_at hl 0 rfl) ?_
            refine q_iald (f := M 12) (i := i) hx hb hE hP 12 rfl (by omega) (Nat.le_of_ble_eq_true rfl) dX6_gave_35 ?_
            refine lv_iload_n hx hb dX6_gave_36 rfl (lv_at hl 4 rfl) ?_
            refine lv_icmp_ne (tgt := 55) hx hb dX6_gave_37 (by decide) (fun c_4 => ?_) (fun c_4 => ?_)
            · skip
              refine lv_iconst (v := 0) hx hb dX6_gave_55 (by decide) ?_
              refine lv_istore (lv' := [(5, .int 0), (6, .int (nI i)), (0, .ref (am 0)), (1, .int x), (2, .int r), (3, .int w), (4, .int (nI u))]) hx hb dX6_gave_56 hl (by decide) rfl (fun ls hl => ?_)
              refine lv_iinc (v := nI (i + 1)) (lv' := [(6, .int (nI (i + 1))), (5, .int 0), (0, .ref (am 0)), (1, .int x), (2, .int r), (3, .int w), (4, .int (nI u))]) hx hb dX6_gave_58 hl (k := 1) rfl (nI_1 i) (by decide) rfl (fun ls hl => ?_)
              refine lv_goto (tgt := 6) hx hb dX6_gave_61 (by decide) ?_
              refine ih_6 (i + 1) (by omega) (by omega)  ls ?_
              rw [show bI (m_gave M x r w (i + 1)) = 0 from by first | (simp only [bI, m_gave, c_1, c_2, c_3, c_4, ↓reduceIte]; done) | (simp [bI, m_gave, c_1, c_2, c_3, c_4]; done) | (simp_all [bI, m_gave]; done)]
              exact lv_sub hl [0, 1, 2, 3, 4, 5, 6] rfl
            · skip
              refine lv_aload_n hx hb dX6_gave_40 rfl (lv_at hl 2 rfl) ?_
              refine q_get (v := .ref (am 13)) hx hb hown hE inT_X6 hP 0 rfl rfl 17 (by decide) w_775 rfl dX6_gave_41 ?_
              refine lv_iload hx hb dX6_gave_44 (lv_at hl 0 rfl) ?_
              refine q_iald (f := M 13) (i := i) hx hb hE hP 13 rfl (by omega) (Nat.le_of_ble_eq_true rfl) dX6_gave_46 ?_
              refine lv_iload_n hx hb dX6_gave_47 rfl (lv_at hl 5 rfl) ?_
              refine lv_icmp_ne (tgt := 55) hx hb dX6_gave_48 (by decide) (fun c_5 => ?_) (fun c_5 => ?_)
              · skip
                refine lv_iconst (v := 0) hx hb dX6_gave_55 (by decide) ?_
                refine lv_istore (lv' := [(5, .int 0), (6, .int (nI i)), (0, .ref (am 0)), (1, .int x), (2, .int r), (3, .int w), (4, .int (nI u))]) hx hb dX6_gave_56 hl (by decide) rfl (fun ls hl => ?_)
                refine lv_iinc (v := nI (i + 1)) (lv' := [(6, .int (nI (i + 1))), (5, .int 0), (0, .ref (am 0)), (1, .int x), (2, .int r), (3, .int w), (4, .int (nI u))]) hx hb dX6_gave_58 hl (k := 1) rfl (nI_1 i) (by decide) rfl (fun ls hl => ?_)
                refine lv_goto (tgt := 6) hx hb dX6_gave_61 (by decide) ?_
                refine ih_6 (i + 1) (by omega) (by omega)  ls ?_
                rw [show bI (m_gave M x r w (i + 1)) = 0 from by first | (simp only [bI, m_gave, c_1, c_2, c_3, c_4, c_5, ↓reduceIte]; done) | (simp [bI, m_gave, c_1, c_2, c_3, c_4, c_5]; done) | (simp_all [bI, m_gave]; done)]
                exact lv_sub hl [0, 1, 2, 3, 4, 5, 6] rfl
              · skip
                refine lv_iconst (v := 1) hx hb dX6_gave_51 (by decide) ?_
                refine lv_goto (tgt := 56) hx hb dX6_gave_52 (by decide) ?_
                refine lv_istore (lv' := [(5, .int 1), (6, .int (nI i)), (0, .ref (am 0)), (1, .int x), (2, .int r), (3, .int w), (4, .int (nI u))]) hx hb dX6_gave_56 hl (by decide) rfl (fun ls hl => ?_)
                refine lv_iinc (v := nI (i + 1)) (lv' := [(6, .int (nI (i + 1))), (5, .int 1), (0, .ref (am 0)), (1, .int x), (2, .int r), (3, .int w), (4, .int (nI u))]) hx hb dX6_gave_58 hl (k := 1) rfl (nI_1 i) (by decide) rfl (fun ls hl => ?_)
                refine lv_goto (tgt := 6) hx hb dX6_gave_61 (by decide) ?_
                refine ih_6 (i + 1) (by omega) (by omega)  ls ?_
                rw [show bI (m_gave M x r w (i + 1)) = 1 from by first | (simp only [bI, m_gave, c_1, c_2, c_3, c_4, c_5, ↓reduceIte]; done) | (simp [bI, m_gave, c_1, c_2, c_3, c_4, c_5]; done) | (simp_all [bI, m_gave]; done)]
                exact lv_sub hl [0, 1, 2, 3, 4, 5, 6] rfl
  refine hloop_6 (u + 1) 0 (by omega) (by omega)  ls ?_
  rw [show bI (m_gave M x r w 0) = 0 from by first | rfl | (first | (simp only [bI, m_gave, ↓reduceIte]; done) | (simp [bI, m_gave]; done) | (simp_all [bI, m_gave]; done))]
  exact lv_sub hl [0, 1, 2, 3, 4, 5, 6] rfl

theorem dX6_isCommon_0 : decode cX6_isCommon 0 = .ok (.aload_n 0, 1) := by decide +kernel
theorem dX6_isCommon_1 : decode cX6_isCommon 1 = .ok (.getfield 47, 3) := by decide +kernel
theorem dX6_isCommon_4 : decode cX6_isCommon 4 = .ok (.iload_n 1, 1) := by decide +kernel
theorem dX6_isCommon_5 : decode cX6_isCommon 5 = .ok (.iaload, 1) := by decide +kernel
theorem dX6_isCommon_6 : decode cX6_isCommon 6 = .ok (.aload_n 0, 1) := by decide +kernel
theorem dX6_isCommon_7 : decode cX6_isCommon 7 = .ok (.getfield 13, 3) := by decide +kernel
theorem dX6_isCommon_10 : decode cX6_isCommon 10 = .ok (.aload_n 0, 1) := by decide +kernel
theorem dX6_isCommon_11 : decode cX6_isCommon 11 = .ok (.getfield 44, 3) := by decide +kernel
theorem dX6_isCommon_14 : decode cX6_isCommon 14 = .ok (.iload_n 1, 1) := by decide +kernel
theorem dX6_isCommon_15 : decode cX6_isCommon 15 = .ok (.iaload, 1) := by decide +kernel
theorem dX6_isCommon_16 : decode cX6_isCommon 16 = .ok (.iaload, 1) := by decide +kernel
theorem dX6_isCommon_17 : decode cX6_isCommon 17 = .ok (.if_icmp .eq 33, 3) := by decide +kernel
theorem dX6_isCommon_20 : decode cX6_isCommon 20 = .ok (.aload_n 0, 1) := by decide +kernel
theorem dX6_isCommon_21 : decode cX6_isCommon 21 = .ok (.aload_n 0, 1) := by decide +kernel
theorem dX6_isCommon_22 : decode cX6_isCommon 22 = .ok (.getfield 41, 3) := by decide +kernel
theorem dX6_isCommon_25 : decode cX6_isCommon 25 = .ok (.iload_n 1, 1) := by decide +kernel
theorem dX6_isCommon_26 : decode cX6_isCommon 26 = .ok (.iaload, 1) := by decide +kernel
theorem dX6_isCommon_27 : decode cX6_isCommon 27 = .ok (.aload_n 0, 1) := by decide +kernel
theorem dX6_isCommon_28 : decode cX6_isCommon 28 = .ok (.getfield 44, 3) := by decide +kernel
theorem dX6_isCommon_31 : decode cX6_isCommon 31 = .ok (.iload_n 1, 1) := by decide +kernel
theorem dX6_isCommon_32 : decode cX6_isCommon 32 = .ok (.iaload, 1) := by decide +kernel
theorem dX6_isCommon_33 : decode cX6_isCommon 33 = .ok (.aload_n 0, 1) := by decide +kernel
theorem dX6_isCommon_34 : decode cX6_isCommon 34 = .ok (.getfield 47, 3) := by decide +kernel
theorem dX6_isCommon_37 : decode cX6_isCommon 37 = .ok (.iload_n 1, 1) := by decide +kernel
theorem dX6_isCommon_38 : decode cX6_isCommon 38 = .ok (.iaload, 1) := by decide +kernel
theorem dX6_isCommon_39 : decode cX6_isCommon 39 = .ok (.iload_n 1, 1) := by decide +kernel
theorem dX6_isCommon_40 : decode cX6_isCommon 40 = .ok (.invokevirtual 123, 3) := by decide +kernel
theorem dX6_isCommon_43 : decode cX6_isCommon 43 = .ok (.ifCond .ne 7, 3) := by decide +kernel
theorem dX6_isCommon_46 : decode cX6_isCommon 46 = .ok (.iconst 1, 1) := by decide +kernel
theorem dX6_isCommon_47 : decode cX6_isCommon 47 = .ok (.goto 4, 3) := by decide +kernel
theorem dX6_isCommon_50 : decode cX6_isCommon 50 = .ok (.iconst 0, 1) := by decide +kernel
theorem dX6_isCommon_51 : decode cX6_isCommon 51 = .ok (.istore_n 3, 1) := by decide +kernel
theorem dX6_isCommon_52 : decode cX6_isCommon 52 = .ok (.iload_n 3, 1) := by decide +kernel
theorem dX6_isCommon_53 : decode cX6_isCommon 53 = .ok (.ifCond .eq 31, 3) := by decide +kernel
theorem dX6_isCommon_56 : decode cX6_isCommon 56 = .ok (.aload_n 0, 1) := by decide +kernel
theorem dX6_isCommon_57 : decode cX6_isCommon 57 = .ok (.iload_n 2, 1) := by decide +kernel
theorem dX6_isCommon_58 : decode cX6_isCommon 58 = .ok (.aload_n 0, 1) := by decide +kernel
theorem dX6_isCommon_59 : decode cX6_isCommon 59 = .ok (.getfield 44, 3) := by decide +kernel
theorem dX6_isCommon_62 : decode cX6_isCommon 62 = .ok (.iload_n 1, 1) := by decide +kernel
theorem dX6_isCommon_63 : decode cX6_isCommon 63 = .ok (.iaload, 1) := by decide +kernel
theorem dX6_isCommon_64 : decode cX6_isCommon 64 = .ok (.aload_n 0, 1) := by decide +kernel
theorem dX6_isCommon_65 : decode cX6_isCommon 65 = .ok (.getfield 47, 3) := by decide +kernel
theorem dX6_isCommon_68 : decode cX6_isCommon 68 = .ok (.iload_n 1, 1) := by decide +kernel
theorem dX6_isCommon_69 : decode cX6_isCommon 69 = .ok (.iaload, 1) := by decide +kernel
theorem dX6_isCommon_70 : decode cX6_isCommon 70 = .ok (.aload_n 0, 1) := by decide +kernel
theorem dX6_isCommon_71 : decode cX6_isCommon 71 = .ok (.getfield 84, 3) := by decide +kernel
theorem dX6_isCommon_74 : decode cX6_isCommon 74 = .ok (.invokevirtual 123, 3) := by decide +kernel
theorem dX6_isCommon_77 : decode cX6_isCommon 77 = .ok (.ifCond .eq 7, 3) := by decide +kernel
theorem dX6_isCommon_80 : decode cX6_isCommon 80 = .ok (.iconst 1, 1) := by decide +kernel
theorem dX6_isCommon_81 : decode cX6_isCommon 81 = .ok (.goto 4, 3) := by decide +kernel
theorem dX6_isCommon_84 : decode cX6_isCommon 84 = .ok (.iconst 0, 1) := by decide +kernel
theorem dX6_isCommon_85 : decode cX6_isCommon 85 = .ok (.ireturn, 1) := by decide +kernel
set_option maxHeartbeats 4000000 in
set_option maxRecDepth 100000 in
theorem c_X6_isCommon (l : Launch) (D : va_G) (cI cZ cL : ClassId) (am : Nat → Nat) (M : Mem) (th : Int32) (k : Nat) (o : Nat) (hI : J0 M) (hk : k < mN M) : RD l D cI cZ cL yX6_isCommon cX6_isCommon 4 (some .boolean) 1 [.ref (am 0), .int (nI k), .int (nI o)] (wQ am cI cZ M th) (some (.int (bI (m_comm M k o)))) := by
  refine RD.of (by decide) (Nat.le_of_ble_eq_true rfl) ?_
  intro p e s m args below meth c ls hx hb hr hml hown hlk hE hP hl
  have hl : lv_has ls 4 [(0, .ref (am 0)), (1, .int (nI k)), (2, .int (nI o))] := hl
  have hT8 := hI.T8
  have hR16 := hI.R16
  have hN200 := hI.N200
  have hq16 := hI.q16 hk
  refine lv_aload_n hx hb dX6_isCommon_0 rfl (lv_at hl 0 rfl) ?_
  refine q_get (v := .ref (am 13)) hx hb hown hE inT_X6 hP 0 rfl rfl 17 (by decide) w_775 rfl dX6_isCommon_1 ?_
  refine lv_iload_n hx hb dX6_isCommon_4 rfl (lv_at hl 1 rfl) ?_
  refine q_iald (f := M 13) (i := k) hx hb hE hP 13 rfl (by omega) (Nat.le_of_ble_eq_true rfl) dX6_isCommon_5 ?_
  refine lv_aload_n hx hb dX6_isCommon_6 rfl (lv_at hl 0 rfl) ?_
  refine q_get (v := .ref (am 2)) hx hb hown hE inT_X6 hP 0 rfl rfl 4 (by decide) w_762 rfl dX6_isCommon_7 ?_
  refine lv_aload_n hx hb dX6_isCommon_10 rfl (lv_at hl 0 rfl) ?_
  refine q_get (v := .ref (am 12)) hx hb hown hE inT_X6 hP 0 rfl rfl 16 (by decide) w_774 rfl dX6_isCommon_11 ?_
  refine lv_iload_n hx hb dX6_isCommon_14 rfl (lv_at hl 1 rfl) ?_
  refine q_iald (f := M 12) (i := k) hx hb hE hP 12 rfl (by omega) (Nat.le_of_ble_eq_true rfl) dX6_isCommon_15 ?_
  refine q_top (y := nI (mq M k)) (hI.q hk) ?_
  refine q_iald (f := M 2) (i := (mq M k)) hx hb hE hP 2 rfl (by omega) (Nat.le_of_ble_eq_true rfl) dX6_isCommon_16 ?_
  refine lv_icmp_eq (tgt := 50) hx hb dX6_isCommon_17 (by decide) (fun c_1 => ?_) (fun c_1 => ?_)
  · skip
    refine lv_iconst (v := 0) hx hb dX6_isCommon_50 (by decide) ?_
    refine lv_istore_n (lv' := [(3, .int 0), (0, .ref (am 0)), (1, .int (nI k)), (2, .int (nI o))]) hx hb dX6_isCommon_51 rfl hl (by decide) rfl (fun ls hl => ?_)
    refine lv_iload_n hx hb dX6_isCommon_52 rfl (lv_at hl 0 rfl) ?_
    refine lv_if_eq (tgt := 84) hx hb dX6_isCommon_53 (by decide) (fun c_2 => ?_) (fun c_2 => ?_)
    · skip
      refine lv_iconst (v := 0) hx hb dX6_isCommon_84 (by decide) ?_
      refine q_top (y := bI (m_comm M k o)) (by first | (simp only [bI, m_comm, m_first, c_1, ↓reduceIte]; done) | (simp [bI, m_comm, m_first, c_1]; done) | (simp_all [bI, m_comm, m_first]; done)) ?_
      exact e_ret hx hb hr hlk (n_bI _) dX6_isCommon_85
    · skip
      exact absurd c_2 (by decide)
  · skip
    refine lv_aload_n hx hb dX6_isCommon_20 rfl (lv_at hl 0 rfl) ?_
    refine lv_aload_n hx hb dX6_isCommon_21 rfl (lv_at hl 0 rfl) ?_
    refine q_get (v := .ref (am 11)) hx hb hown hE inT_X6 hP 0 rfl rfl 15 (by decide) w_773 rfl dX6_isCommon_22 ?_
    refine lv_iload_n hx hb dX6_isCommon_25 rfl (lv_at hl 1 rfl) ?_
    refine q_iald (f := M 11) (i := k) hx hb hE hP 11 rfl (by omega) (Nat.le_of_ble_eq_true rfl) dX6_isCommon_26 ?_
    refine lv_aload_n hx hb dX6_isCommon_27 rfl (lv_at hl 0 rfl) ?_
    refine q_get (v := .ref (am 12)) hx hb hown hE inT_X6 hP 0 rfl rfl 16 (by decide) w_774 rfl dX6_isCommon_28 ?_
    refine lv_iload_n hx hb dX6_isCommon_31 rfl (lv_at hl 1 rfl) ?_
    refine q_iald (f := M 12) (i := k) hx hb hE hP 12 rfl (by omega) (Nat.le_of_ble_eq_true rfl) dX6_isCommon_32 ?_
    refine lv_aload_n hx hb dX6_isCommon_33 rfl (lv_at hl 0 rfl) ?_
    refine q_get (v := .ref (am 13)) hx hb hown hE inT_X6 hP 0 rfl rfl 17 (by decide) w_775 rfl dX6_isCommon_34 ?_
    refine lv_iload_n hx hb dX6_isCommon_37 rfl (lv_at hl 1 rfl) ?_
    refine q_iald (f := M 13) (i := k) hx hb hE hP 13 rfl (by omega) (Nat.le_of_ble_eq_true rfl) dX6_isCommon_38 ?_
    refine lv_iload_n hx hb dX6_isCommon_39 rfl (lv_at hl 1 rfl) ?_
    refine q_rd (q_runV (rest := []) hx hb hml hown hE (c_X6_gave l D cI cZ cL am M th (M 11 k) (M 12 k) (M 13 k) k (by omega)) ck_X6_gave w_951 hP 0 rfl rfl hl.1 rfl ⟨Nat.le_of_ble_eq_true rfl, Nat.le_of_ble_eq_true rfl⟩ (Nat.le_of_ble_eq_true rfl) dX6_isCommon_40 ⟨Nat.le_of_ble_eq_true rfl, Nat.le_of_ble_eq_true rfl⟩) ?_
    refine lv_if_ne (tgt := 50) hx hb dX6_isCommon_43 (by decide) (fun c_3 => ?_) (fun c_3 => ?_)
    · skip
      have c_3 : m_gave M (M 11 k) (M 12 k) (M 13 k) k = true := b_t c_3
      refine lv_iconst (v := 0) hx hb dX6_isCommon_50 (by decide) ?_
      refine lv_istore_n (lv' := [(3, .int 0), (0, .ref (am 0)), (1, .int (nI k)), (2, .int (nI o))]) hx hb dX6_isCommon_51 rfl hl (by decide) rfl (fun ls hl => ?_)
      refine lv_iload_n hx hb dX6_isCommon_52 rfl (lv_at hl 0 rfl) ?_
      refine lv_if_eq (tgt := 84) hx hb dX6_isCommon_53 (by decide) (fun c_4 => ?_) (fun c_4 => ?_)
      · skip
        refine lv_iconst (v := 0) hx hb dX6_isCommon_84 (by decide) ?_
        refine q_top (y := bI (m_comm M k o)) (by first | (simp only [bI, m_comm, m_first, c_1, c_3, ↓reduceIte]; done) | (simp [bI, m_comm, m_first, c_1, c_3]; done) | (simp_all [bI, m_comm, m_first]; done)) ?_
        exact e_ret hx hb hr hlk (n_bI _) dX6_isCommon_85
      · skip
        exact absurd c_4 (by decide)
    · skip
      have c_3 : m_gave M (M 11 k) (M 12 k) (M 13 k) k = false := b_f c_3
      refine lv_iconst (v := 1) hx hb dX6_isCommon_46 (by decide) ?_
      refine lv_goto (tgt := 51) hx hb dX6_isCommon_47 (by decide) ?_
      refine lv_istore_n (lv' := [(3, .int 1), (0, .ref (am 0)), (1, .int (nI k)), (2, .int (nI o))]) hx hb dX6_isCommon_51 rfl hl (by decide) rfl (fun ls hl => ?_)
      refine lv_iload_n hx hb dX6_isCommon_52 rfl (lv_at hl 0 rfl) ?_
      refine lv_if_eq (tgt := 84) hx hb dX6_isCommon_53 (by decide) (fun c_5 => ?_) (fun c_5 => ?_)
      · skip
        exact absurd c_5 (by decide)
      · skip
        refine lv_aload_n hx hb dX6_isCommon_56 rfl (lv_at hl 1 rfl) ?_
        refine lv_iload_n hx hb dX6_isCommon_57 rfl (lv_at hl 3 rfl) ?_
        refine lv_aload_n hx hb dX6_isCommon_58 rfl (lv_at hl 1 rfl) ?_
        refine q_get (v := .ref (am 12)) hx hb hown hE inT_X6 hP 0 rfl rfl 16 (by decide) w_774 rfl dX6_isCommon_59 ?_
        refine lv_iload_n hx hb dX6_isCommon_62 rfl (lv_at hl 2 rfl) ?_
        refine q_iald (f := M 12) (i := k) hx hb hE hP 12 rfl (by omega) (Nat.le_of_ble_eq_true rfl) dX6_isCommon_63 ?_
        refine lv_aload_n hx hb dX6_isCommon_64 rfl (lv_at hl 1 rfl) ?_
        refine q_get (v := .ref (am 13)) hx hb hown hE inT_X6 hP 0 rfl rfl 17 (by decide) w_775 rfl dX6_isCommon_65 ?_
        refine lv_iload_n hx hb dX6_isCommon_68 rfl (lv_at hl 2 rfl) ?_
        refine q_iald (f := M 13) (i := k) hx hb hE hP 13 rfl (by omega) (Nat.le_of_ble_eq_true rfl) dX6_isCommon_69 ?_
        refine lv_aload_n hx hb dX6_isCommon_70 rfl (lv_at hl 1 rfl) ?_
        refine q_get (v := .int (M 0 14)) hx hb hown hE inT_X6 hP 0 rfl rfl 14 (by decide) w_772 rfl dX6_isCommon_71 ?_
        refine q_top (y := nI (mN M)) (J0.N hI) ?_
        refine q_rd (q_runV (rest := []) hx hb hml hown hE (c_X6_gave l D cI cZ cL am M th (nI o) (M 12 k) (M 13 k) (mN M) (by omega)) ck_X6_gave w_951 hP 0 rfl rfl hl.1 rfl ⟨Nat.le_of_ble_eq_true rfl, Nat.le_of_ble_eq_true rfl⟩ (Nat.le_of_ble_eq_true rfl) dX6_isCommon_74 ⟨Nat.le_of_ble_eq_true rfl, Nat.le_of_ble_eq_true rfl⟩) ?_
        refine lv_if_eq (tgt := 84) hx hb dX6_isCommon_77 (by decide) (fun c_6 => ?_) (fun c_6 => ?_)
        · skip
          have c_6 : m_gave M (nI o) (M 12 k) (M 13 k) (mN M) = false := b_f c_6
          refine lv_iconst (v := 0) hx hb dX6_isCommon_84 (by decide) ?_
          refine q_top (y := bI (m_comm M k o)) (by first | (simp only [bI, m_comm, m_first, c_1, c_3, c_6, ↓reduceIte]; done) | (simp [bI, m_comm, m_first, c_1, c_3, c_6]; done) | (simp_all [bI, m_comm, m_first]; done)) ?_
          exact e_ret hx hb hr hlk (n_bI _) dX6_isCommon_85
        · skip
          have c_6 : m_gave M (nI o) (M 12 k) (M 13 k) (mN M) = true := b_t c_6
          refine lv_iconst (v := 1) hx hb dX6_isCommon_80 (by decide) ?_
          refine lv_goto (tgt := 85) hx hb dX6_isCommon_81 (by decide) ?_
          refine q_top (y := bI (m_comm M k o)) (by first | (simp only [bI, m_comm, m_first, c_1, c_3, c_6, ↓reduceIte]; done) | (simp [bI, m_comm, m_first, c_1, c_3, c_6]; done) | (simp_all [bI, m_comm, m_first]; done)) ?_
          exact e_ret hx hb hr hlk (n_bI _) dX6_isCommon_85

theorem dX6_likenessOf_0 : decode cX6_likenessOf 0 = .ok (.iconst 0, 1) := by decide +kernel
theorem dX6_likenessOf_1 : decode cX6_likenessOf 1 = .ok (.istore_n 3, 1) := by decide +kernel
theorem dX6_likenessOf_2 : decode cX6_likenessOf 2 = .ok (.iconst 0, 1) := by decide +kernel
theorem dX6_likenessOf_3 : decode cX6_likenessOf 3 = .ok (.istore 4, 2) := by decide +kernel
theorem dX6_likenessOf_5 : decode cX6_likenessOf 5 = .ok (.iload 4, 2) := by decide +kernel
theorem dX6_likenessOf_7 : decode cX6_likenessOf 7 = .ok (.aload_n 0, 1) := by decide +kernel
theorem dX6_likenessOf_8 : decode cX6_likenessOf 8 = .ok (.getfield 84, 3) := by decide +kernel
theorem dX6_likenessOf_11 : decode cX6_likenessOf 11 = .ok (.if_icmp .ge 43, 3) := by decide +kernel
theorem dX6_likenessOf_14 : decode cX6_likenessOf 14 = .ok (.iload_n 1, 1) := by decide +kernel
theorem dX6_likenessOf_15 : decode cX6_likenessOf 15 = .ok (.iload_n 2, 1) := by decide +kernel
theorem dX6_likenessOf_16 : decode cX6_likenessOf 16 = .ok (.if_icmp .eq 38, 3) := by decide +kernel
theorem dX6_likenessOf_19 : decode cX6_likenessOf 19 = .ok (.iload_n 3, 1) := by decide +kernel
theorem dX6_likenessOf_20 : decode cX6_likenessOf 20 = .ok (.aload_n 0, 1) := by decide +kernel
theorem dX6_likenessOf_21 : decode cX6_likenessOf 21 = .ok (.getfield 41, 3) := by decide +kernel
theorem dX6_likenessOf_24 : decode cX6_likenessOf 24 = .ok (.iload 4, 2) := by decide +kernel
theorem dX6_likenessOf_26 : decode cX6_likenessOf 26 = .ok (.iaload, 1) := by decide +kernel
theorem dX6_likenessOf_27 : decode cX6_likenessOf 27 = .ok (.iload_n 1, 1) := by decide +kernel
theorem dX6_likenessOf_28 : decode cX6_likenessOf 28 = .ok (.if_icmp .ne 17, 3) := by decide +kernel
theorem dX6_likenessOf_31 : decode cX6_likenessOf 31 = .ok (.aload_n 0, 1) := by decide +kernel
theorem dX6_likenessOf_32 : decode cX6_likenessOf 32 = .ok (.iload 4, 2) := by decide +kernel
theorem dX6_likenessOf_34 : decode cX6_likenessOf 34 = .ok (.iload_n 2, 1) := by decide +kernel
theorem dX6_likenessOf_35 : decode cX6_likenessOf 35 = .ok (.invokevirtual 127, 3) := by decide +kernel
theorem dX6_likenessOf_38 : decode cX6_likenessOf 38 = .ok (.ifCond .eq 7, 3) := by decide +kernel
theorem dX6_likenessOf_41 : decode cX6_likenessOf 41 = .ok (.iconst 1, 1) := by decide +kernel
theorem dX6_likenessOf_42 : decode cX6_likenessOf 42 = .ok (.goto 4, 3) := by decide +kernel
theorem dX6_likenessOf_45 : decode cX6_likenessOf 45 = .ok (.iconst 0, 1) := by decide +kernel
theorem dX6_likenessOf_46 : decode cX6_likenessOf 46 = .ok (.iadd, 1) := by decide +kernel
theorem dX6_likenessOf_47 : decode cX6_likenessOf 47 = .ok (.istore_n 3, 1) := by decide +kernel
theorem dX6_likenessOf_48 : decode cX6_likenessOf 48 = .ok (.iinc 4 1, 3) := by decide +kernel
theorem dX6_likenessOf_51 : decode cX6_likenessOf 51 = .ok (.goto (-46), 3) := by decide +kernel
theorem dX6_likenessOf_54 : decode cX6_likenessOf 54 = .ok (.iload_n 3, 1) := by decide +kernel
theorem dX6_likenessOf_55 : decode cX6_likenessOf 55 = .ok (.ireturn, 1) := by decide +kernel
set_option maxHeartbeats 4000000 in
set_option maxRecDepth 100000 in
theorem c_X6_likenessOf (l : Launch) (D : va_G) (cI cZ cL : ClassId) (am : Nat → Nat) (M : Mem) (th : Int32) (t : Nat) (o : Nat) (hI : J0 M) (ht : t < 8) (ho : o < 8) : RD l D cI cZ cL yX6_likenessOf cX6_likenessOf 5 (some .int) 2 [.ref (am 0), .int (nI t), .int (nI o)] (wQ am cI cZ M th) (some (.int (m_like M t o))) := by
  refine RD.of (by decide) (Nat.le_of_ble_eq_true rfl) ?_
  intro p e s m args below meth c ls hx hb hr hml hown hlk hE hP hl
  have hl : lv_has ls 5 [(0, .ref (am 0)), (1, .int (nI t)), (2, .int (nI o))] := hl
  have hT8 := hI.T8
  have hR16 := hI.R16
  have hN200 := hI.N200
  refine lv_iconst (v := 0) hx hb dX6_likenessOf_0 (by decide) ?_
  refine lv_istore_n (lv' := [(3, .int 0), (0, .ref (am 0)), (1, .int (nI t)), (2, .int (nI o))]) hx hb dX6_likenessOf_1 rfl hl (by decide) rfl (fun ls hl => ?_)
  refine lv_iconst (v := 0) hx hb dX6_likenessOf_2 (by decide) ?_
  refine lv_istore (lv' := [(4, .int 0), (3, .int 0), (0, .ref (am 0)), (1, .int (nI t)), (2, .int (nI o))]) hx hb dX6_likenessOf_3 hl (by decide) rfl (fun ls hl => ?_)
  have hloop_5 : ∀ (n i : Nat), i ≤ mN M → mN M < i + n → (0 < i → ¬ t = o) → ∀ ls : Array Slot, lv_has ls 5 [(4, .int (nI i)), (3, .int (m_lk M t o i)), (0, .ref (am 0)), (1, .int (nI t)), (2, .int (nI o))] → W p l e (rm 2 0 0) s m args below meth c s.heap [] 0 0 (MQ below (Qrd (some (.int (m_like M t o)))) args s 0 0 q_no) (F0 m 5 ls []) := by
    intro n
    induction n with
    | zero => intro i h1 h2; exact absurd h2 (by omega)
    | succ n ih_5 =>
      intro i hi_5 hin_5 hne ls hl
      refine lv_iload hx hb dX6_likenessOf_5 (lv_at hl 0 rfl) ?_
      refine lv_aload_n hx hb dX6_likenessOf_7 rfl (lv_at hl 2 rfl) ?_
      refine q_get (v := .int (M 0 14)) hx hb hown hE inT_X6 hP 0 rfl rfl 14 (by decide) w_772 rfl dX6_likenessOf_8 ?_
      refine q_top (y := nI (mN M)) (J0.N hI) ?_
      refine lv_icmp_ge (tgt := 54) hx hb dX6_likenessOf_11 (by decide) (fun c_1 => ?_) (fun c_1 => ?_)
      · skip
        have c_1 : (mN M) ≤ i := n_le (a := mN M) (b := i) (by omega) (by omega) c_1
        have hend_5 : mN M = i := by omega
        subst hend_5
        refine lv_iload_n hx hb dX6_likenessOf_54 rfl (lv_at hl 1 rfl) ?_
        refine q_top (y := m_like M t o) (by first | exact m_like_b hne | exact m_like_a hne (by assumption)) ?_
        exact e_ret hx hb hr hlk rfl dX6_likenessOf_55
      · skip
        have c_1 : i < (mN M) := n_nle (a := mN M) (b := i) (by omega) (by omega) c_1
        refine lv_iload_n hx hb dX6_likenessOf_14 rfl (lv_at hl 3 rfl) ?_
        refine lv_iload_n hx hb dX6_likenessOf_15 rfl (lv_at hl 4 rfl) ?_
        refine lv_icmp_eq (tgt := 54) hx hb dX6_likenessOf_16 (by decide) (fun c_2 => ?_) (fun c_2 => ?_)
        · skip
          have c_2 : t = o := n_eq (a := t) (b := o) (by omega) (by omega) c_2
          refine lv_iload_n hx hb dX6_likenessOf_54 rfl (lv_at hl 1 rfl) ?_
          refine q_top (y := m_like M t o) (by first | exact m_like_b hne | exact m_like_a hne (by assumption)) ?_
          exact e_ret hx hb hr hlk rfl dX6_likenessOf_55
        · skip
          have c_2 : ¬ t = o := n_ne (a := t) (b := o) (by omega) (by omega) c_2
          refine lv_iload_n hx hb dX6_likenessOf_19 rfl (lv_at hl 1 rfl) ?_
          refine lv_aload_n hx hb dX6_likenessOf_20 rfl (lv_at hl 2 rfl) ?_
          refine q_get (v := .ref (am 11)) hx hb hown hE inT_X6 hP 0 rfl rfl 15 (by decide) w_773 rfl dX6_likenessOf_21 ?_
          refine lv_iload hx hb dX6_likenessOf_24 (lv_at hl 0 rfl) ?_
          refine q_iald (f := M 11) (i := i) hx hb hE hP 11 rfl (by omega) (Nat.le_of_ble_eq_true rfl) dX6_likenessOf_26 ?_
          refine lv_iload_n hx hb dX6_likenessOf_27 rfl (lv_at hl 3 rfl) ?_
          refine lv_icmp_ne (tgt := 45) hx hb dX6_likenessOf_28 (by decide) (fun c_3 => ?_) (fun c_3 => ?_)
          · skip
            refine lv_iconst (v := 0) hx hb dX6_likenessOf_45 (by decide) ?_
            refine lv_iadd hx hb dX6_likenessOf_46 ?_
            refine lv_istore_n (lv' := [(3, .int ((m_lk M t o i) + 0)), (4, .int (nI i)), (0, .ref (am 0)), (1, .int (nI t)), (2, .int (nI o))]) hx hb dX6_likenessOf_47 rfl hl (by decide) rfl (fun ls hl => ?_)
            refine lv_iinc (v := nI (i + 1)) (lv' := [(4, .int (nI (i + 1))), (3, .int ((m_lk M t o i) + 0)), (0, .ref (am 0)), (1, .int (nI t)), (2, .int (nI o))]) hx hb dX6_likenessOf_48 hl (k := 1) rfl (nI_1 i) (by decide) rfl (fun ls hl => ?_)
            refine lv_goto (tgt := 5) hx hb dX6_likenessOf_51 (by decide) ?_
            refine ih_5 (i + 1) (by omega) (by omega) (fun _ => by assumption) ls ?_
            rw [show m_lk M t o (i + 1) = (m_lk M t o i) + 0 from by first | (simp only [bI, m_lk, c_1, c_2, c_3, ↓reduceIte]; done) | (simp [bI, m_lk, c_1, c_2, c_3]; done) | (simp_all [bI, m_lk]; done)]
            exact lv_sub hl [0, 1, 2, 3, 4] rfl
          · skip
            refine lv_aload_n hx hb dX6_likenessOf_31 rfl (lv_at hl 2 rfl) ?_
            refine lv_iload hx hb dX6_likenessOf_32 (lv_at hl 0 rfl) ?_
            refine lv_iload_n hx hb dX6_likenessOf_34 rfl (lv_at hl 4 rfl) ?_
            refine q_rd (q_runV (rest := [.int (m_lk M t o i)]) hx hb hml hown hE (c_X6_isCommon l D cI cZ cL am M th i o hI (by omega)) ck_X6_isCommon w_947 hP 0 rfl rfl hl.1 rfl ⟨Nat.le_of_ble_eq_true rfl, Nat.le_of_ble_eq_true rfl⟩ (Nat.le_of_ble_eq_true rfl) dX6_likenessOf_35 ⟨Nat.le_of_ble_eq_true rfl, Nat.le_of_ble_eq_true rfl⟩) ?_
            refine lv_if_eq (tgt := 45) hx hb dX6_likenessOf_38 (by decide) (fun c_4 => ?_) (fun c_4 => ?_)
            · skip
              have c_4 : m_comm M i o = false := b_f c_4
              refine lv_iconst (v := 0) hx hb dX6_likenessOf_45 (by decide) ?_
              refine lv_iadd hx hb dX6_likenessOf_46 ?_
              refine lv_istore_n (lv' := [(3, .int ((m_lk M t o i) + 0)), (4, .int (nI i)), (0, .ref (am 0)), (1, .int (nI t)), (2, .int (nI o))]) hx hb dX6_likenessOf_47 rfl hl (by decide) rfl (fun ls hl => ?_)
              refine lv_iinc (v := nI (i + 1)) (lv' := [(4, .int (nI (i + 1))), (3, .int ((m_lk M t o i) + 0)), (0, .ref (am 0)), (1, .int (nI t)), (2, .int (nI o))]) hx hb dX6_likenessOf_48 hl (k := 1) rfl (nI_1 i) (by decide) rfl (fun ls hl => ?_)
              refine lv_goto (tgt := 5) hx hb dX6_likenessOf_51 (by decide) ?_
              refine ih_5 (i + 1) (by omega) (by omega) (fun _ => by assumption) ls ?_
              rw [show m_lk M t o (i + 1) = (m_lk M t o i) + 0 from by first | (simp only [bI, m_lk, c_1, c_2, c_3, c_4, ↓reduceIte]; done) | (simp [bI, m_lk, c_1, c_2, c_3, c_4]; done) | (simp_all [bI, m_lk]; done)]
              exact lv_sub hl [0, 1, 2, 3, 4] rfl
            · skip
              have c_4 : m_comm M i o = true := b_t c_4
              refine lv_iconst (v := 1) hx hb dX6_likenessOf_41 (by decide) ?_
              refine lv_goto (tgt := 46) hx hb dX6_likenessOf_42 (by decide) ?_
              refine lv_iadd hx hb dX6_likenessOf_46 ?_
              refine lv_istore_n (lv' := [(3, .int ((m_lk M t o i) + 1)), (4, .int (nI i)), (0, .ref (am 0)), (1, .int (nI t)), (2, .int (nI o))]) hx hb dX6_likenessOf_47 rfl hl (by decide) rfl (fun ls hl => ?_)
              refine lv_iinc (v := nI (i + 1)) (lv' := [(4, .int (nI (i + 1))), (3, .int ((m_lk M t o i) + 1)), (0, .ref (am 0)), (1, .int (nI t)), (2, .int (nI o))]) hx hb dX6_likenessOf_48 hl (k := 1) rfl (nI_1 i) (by decide) rfl (fun ls hl => ?_)
              refine lv_goto (tgt := 5) hx hb dX6_likenessOf_51 (by decide) ?_
              refine ih_5 (i + 1) (by omega) (by omega) (fun _ => by assumption) ls ?_
              rw [show m_lk M t o (i + 1) = (m_lk M t o i) + 1 from by first | (simp only [bI, m_lk, c_1, c_2, c_3, c_4, ↓reduceIte]; done) | (simp [bI, m_lk, c_1, c_2, c_3, c_4]; done) | (simp_all [bI, m_lk]; done)]
              exact lv_sub hl [0, 1, 2, 3, 4] rfl
  refine hloop_5 (mN M + 1) 0 (by omega) (by omega) (fun h => absurd h (Nat.lt_irrefl 0)) ls ?_
  rw [show m_lk M t o 0 = 0 from by first | rfl | (first | (simp only [bI, m_lk, ↓reduceIte]; done) | (simp [bI, m_lk]; done) | (simp_all [bI, m_lk]; done))]
  exact lv_sub hl [0, 1, 2, 3, 4] rfl

theorem dX6_are_0 : decode cX6_are 0 = .ok (.iload_n 1, 1) := by decide +kernel
theorem dX6_are_1 : decode cX6_are 1 = .ok (.iload_n 2, 1) := by decide +kernel
theorem dX6_are_2 : decode cX6_are 2 = .ok (.if_icmp .eq 34, 3) := by decide +kernel
theorem dX6_are_5 : decode cX6_are 5 = .ok (.aload_n 0, 1) := by decide +kernel
theorem dX6_are_6 : decode cX6_are 6 = .ok (.getfield 50, 3) := by decide +kernel
theorem dX6_are_9 : decode cX6_are 9 = .ok (.bipush 8, 2) := by decide +kernel
theorem dX6_are_11 : decode cX6_are 11 = .ok (.iload_n 1, 1) := by decide +kernel
theorem dX6_are_12 : decode cX6_are 12 = .ok (.imul, 1) := by decide +kernel
theorem dX6_are_13 : decode cX6_are 13 = .ok (.iload_n 2, 1) := by decide +kernel
theorem dX6_are_14 : decode cX6_are 14 = .ok (.iadd, 1) := by decide +kernel
theorem dX6_are_15 : decode cX6_are 15 = .ok (.baload, 1) := by decide +kernel
theorem dX6_are_16 : decode cX6_are 16 = .ok (.ifCond .ne 20, 3) := by decide +kernel
theorem dX6_are_19 : decode cX6_are 19 = .ok (.aload_n 0, 1) := by decide +kernel
theorem dX6_are_20 : decode cX6_are 20 = .ok (.iload_n 1, 1) := by decide +kernel
theorem dX6_are_21 : decode cX6_are 21 = .ok (.iload_n 2, 1) := by decide +kernel
theorem dX6_are_22 : decode cX6_are 22 = .ok (.invokevirtual 130, 3) := by decide +kernel
theorem dX6_are_25 : decode cX6_are 25 = .ok (.aload_n 0, 1) := by decide +kernel
theorem dX6_are_26 : decode cX6_are 26 = .ok (.getfield 53, 3) := by decide +kernel
theorem dX6_are_29 : decode cX6_are 29 = .ok (.if_icmp .lt 7, 3) := by decide +kernel
theorem dX6_are_32 : decode cX6_are 32 = .ok (.iconst 1, 1) := by decide +kernel
theorem dX6_are_33 : decode cX6_are 33 = .ok (.goto 4, 3) := by decide +kernel
theorem dX6_are_36 : decode cX6_are 36 = .ok (.iconst 0, 1) := by decide +kernel
theorem dX6_are_37 : decode cX6_are 37 = .ok (.ireturn, 1) := by decide +kernel
set_option maxHeartbeats 4000000 in
set_option maxRecDepth 100000 in
theorem c_X6_are (l : Launch) (D : va_G) (cI cZ cL : ClassId) (am : Nat → Nat) (M : Mem) (th : Int32) (t : Nat) (o : Nat) (hI : J0 M) (ht : t < 8) (ho : o < 8) : RD l D cI cZ cL yX6_are cX6_are 3 (some .boolean) 3 [.ref (am 0), .int (nI t), .int (nI o)] (wQ am cI cZ M th) (some (.int (bI (m_are M t o)))) := by
  refine RD.of (by decide) (Nat.le_of_ble_eq_true rfl) ?_
  intro p e s m args below meth c ls hx hb hr hml hown hlk hE hP hl
  have hl : lv_has ls 3 [(0, .ref (am 0)), (1, .int (nI t)), (2, .int (nI o))] := hl
  have hT8 := hI.T8
  have hR16 := hI.R16
  have hN200 := hI.N200
  refine lv_iload_n hx hb dX6_are_0 rfl (lv_at hl 1 rfl) ?_
  refine lv_iload_n hx hb dX6_are_1 rfl (lv_at hl 2 rfl) ?_
  refine lv_icmp_eq (tgt := 36) hx hb dX6_are_2 (by decide) (fun c_1 => ?_) (fun c_1 => ?_)
  · skip
    have c_1 : t = o := n_eq (a := t) (b := o) (by omega) (by omega) c_1
    refine lv_iconst (v := 0) hx hb dX6_are_36 (by decide) ?_
    refine q_top (y := bI (m_are M t o)) (by first | (simp only [bI, m_are, c_1, ↓reduceIte]; done) | (simp [bI, m_are, c_1]; done) | (simp_all [bI, m_are]; done)) ?_
    exact e_ret hx hb hr hlk (n_bI _) dX6_are_37
  · skip
    have c_1 : ¬ t = o := n_ne (a := t) (b := o) (by omega) (by omega) c_1
    refine lv_aload_n hx hb dX6_are_5 rfl (lv_at hl 0 rfl) ?_
    refine q_get (v := .ref (am 14)) hx hb hown hE inT_X6 hP 0 rfl rfl 18 (by decide) w_776 rfl dX6_are_6 ?_
    refine lv_bipush (v := 8) hx hb dX6_are_9 (by decide) ?_
    refine lv_iload_n hx hb dX6_are_11 rfl (lv_at hl 1 rfl) ?_
    refine lv_imul hx hb dX6_are_12 ?_
    refine q_top (y := nI (8 * t)) (pk_mul 8 t) ?_
    refine lv_iload_n hx hb dX6_are_13 rfl (lv_at hl 2 rfl) ?_
    refine lv_iadd hx hb dX6_are_14 ?_
    refine q_top (y := nI ((8 * t) + o)) (nI_add (8 * t) o) ?_
    refine q_zald (f := M 14) (i := ((8 * t) + o)) hx hb hE hP 14 rfl (by omega) (Nat.le_of_ble_eq_true rfl) dX6_are_15 ?_
    refine lv_if_ne (tgt := 36) hx hb dX6_are_16 (by decide) (fun c_2 => ?_) (fun c_2 => ?_)
    · skip
      refine lv_iconst (v := 0) hx hb dX6_are_36 (by decide) ?_
      refine q_top (y := bI (m_are M t o)) (by first | (simp only [bI, m_are, c_1, c_2, ↓reduceIte]; done) | (simp [bI, m_are, c_1, c_2]; done) | (simp_all [bI, m_are]; done)) ?_
      exact e_ret hx hb hr hlk (n_bI _) dX6_are_37
    · skip
      refine lv_aload_n hx hb dX6_are_19 rfl (lv_at hl 0 rfl) ?_
      refine lv_iload_n hx hb dX6_are_20 rfl (lv_at hl 1 rfl) ?_
      refine lv_iload_n hx hb dX6_are_21 rfl (lv_at hl 2 rfl) ?_
      refine q_rd (q_runV (rest := []) hx hb hml hown hE (c_X6_likenessOf l D cI cZ cL am M th t o hI (by omega) (by omega)) ck_X6_likenessOf w_943 hP 0 rfl rfl hl.1 rfl ⟨Nat.le_of_ble_eq_true rfl, Nat.le_of_ble_eq_true rfl⟩ (Nat.le_of_ble_eq_true rfl) dX6_are_22 ⟨Nat.le_of_ble_eq_true rfl, Nat.le_of_ble_eq_true rfl⟩) ?_
      refine lv_aload_n hx hb dX6_are_25 rfl (lv_at hl 0 rfl) ?_
      refine q_get (v := .int (M 0 19)) hx hb hown hE inT_X6 hP 0 rfl rfl 19 (by decide) w_777 rfl dX6_are_26 ?_
      refine lv_icmp_lt (tgt := 36) hx hb dX6_are_29 (by decide) (fun c_3 => ?_) (fun c_3 => ?_)
      · skip
        have g_3 : ¬ (M 0 19) ≤ (m_like M t o) := Int32.not_le.mpr c_3
        refine lv_iconst (v := 0) hx hb dX6_are_36 (by decide) ?_
        refine q_top (y := bI (m_are M t o)) (by first | (simp only [bI, m_are, c_1, c_2, c_3, g_3, ↓reduceIte]; done) | (simp [bI, m_are, c_1, c_2, c_3, g_3]; done) | (simp_all [bI, m_are]; done)) ?_
        exact e_ret hx hb hr hlk (n_bI _) dX6_are_37
      · skip
        have g_3 : (M 0 19) ≤ (m_like M t o) := Int32.not_lt.mp c_3
        refine lv_iconst (v := 1) hx hb dX6_are_32 (by decide) ?_
        refine lv_goto (tgt := 37) hx hb dX6_are_33 (by decide) ?_
        refine q_top (y := bI (m_are M t o)) (by first | (simp only [bI, m_are, c_1, c_2, c_3, g_3, ↓reduceIte]; done) | (simp [bI, m_are, c_1, c_2, c_3, g_3]; done) | (simp_all [bI, m_are]; done)) ?_
        exact e_ret hx hb hr hlk (n_bI _) dX6_are_37

theorem dX6_cheated_0 : decode cX6_cheated 0 = .ok (.iconst 0, 1) := by decide +kernel
theorem dX6_cheated_1 : decode cX6_cheated 1 = .ok (.istore_n 2, 1) := by decide +kernel
theorem dX6_cheated_2 : decode cX6_cheated 2 = .ok (.iconst 0, 1) := by decide +kernel
theorem dX6_cheated_3 : decode cX6_cheated 3 = .ok (.istore_n 3, 1) := by decide +kernel
theorem dX6_cheated_4 : decode cX6_cheated 4 = .ok (.iload_n 3, 1) := by decide +kernel
theorem dX6_cheated_5 : decode cX6_cheated 5 = .ok (.aload_n 0, 1) := by decide +kernel
theorem dX6_cheated_6 : decode cX6_cheated 6 = .ok (.getfield 70, 3) := by decide +kernel
theorem dX6_cheated_9 : decode cX6_cheated 9 = .ok (.if_icmp .ge 77, 3) := by decide +kernel
theorem dX6_cheated_12 : decode cX6_cheated 12 = .ok (.aload_n 0, 1) := by decide +kernel
theorem dX6_cheated_13 : decode cX6_cheated 13 = .ok (.iload_n 1, 1) := by decide +kernel
theorem dX6_cheated_14 : decode cX6_cheated 14 = .ok (.iload_n 3, 1) := by decide +kernel
theorem dX6_cheated_15 : decode cX6_cheated 15 = .ok (.invokevirtual 133, 3) := by decide +kernel
theorem dX6_cheated_18 : decode cX6_cheated 18 = .ok (.istore 4, 2) := by decide +kernel
theorem dX6_cheated_20 : decode cX6_cheated 20 = .ok (.iconst 0, 1) := by decide +kernel
theorem dX6_cheated_21 : decode cX6_cheated 21 = .ok (.istore 5, 2) := by decide +kernel
theorem dX6_cheated_23 : decode cX6_cheated 23 = .ok (.iload 5, 2) := by decide +kernel
theorem dX6_cheated_25 : decode cX6_cheated 25 = .ok (.aload_n 0, 1) := by decide +kernel
theorem dX6_cheated_26 : decode cX6_cheated 26 = .ok (.getfield 84, 3) := by decide +kernel
theorem dX6_cheated_29 : decode cX6_cheated 29 = .ok (.if_icmp .ge 51, 3) := by decide +kernel
theorem dX6_cheated_32 : decode cX6_cheated 32 = .ok (.iload 4, 2) := by decide +kernel
theorem dX6_cheated_34 : decode cX6_cheated 34 = .ok (.ifCond .eq 46, 3) := by decide +kernel
theorem dX6_cheated_37 : decode cX6_cheated 37 = .ok (.iload_n 2, 1) := by decide +kernel
theorem dX6_cheated_38 : decode cX6_cheated 38 = .ok (.aload_n 0, 1) := by decide +kernel
theorem dX6_cheated_39 : decode cX6_cheated 39 = .ok (.getfield 41, 3) := by decide +kernel
theorem dX6_cheated_42 : decode cX6_cheated 42 = .ok (.iload 5, 2) := by decide +kernel
theorem dX6_cheated_44 : decode cX6_cheated 44 = .ok (.iaload, 1) := by decide +kernel
theorem dX6_cheated_45 : decode cX6_cheated 45 = .ok (.iload_n 1, 1) := by decide +kernel
theorem dX6_cheated_46 : decode cX6_cheated 46 = .ok (.if_icmp .ne 25, 3) := by decide +kernel
theorem dX6_cheated_49 : decode cX6_cheated 49 = .ok (.aload_n 0, 1) := by decide +kernel
theorem dX6_cheated_50 : decode cX6_cheated 50 = .ok (.iload 5, 2) := by decide +kernel
theorem dX6_cheated_52 : decode cX6_cheated 52 = .ok (.iload_n 3, 1) := by decide +kernel
theorem dX6_cheated_53 : decode cX6_cheated 53 = .ok (.invokevirtual 127, 3) := by decide +kernel
theorem dX6_cheated_56 : decode cX6_cheated 56 = .ok (.ifCond .eq 15, 3) := by decide +kernel
theorem dX6_cheated_59 : decode cX6_cheated 59 = .ok (.iconst 1, 1) := by decide +kernel
theorem dX6_cheated_60 : decode cX6_cheated 60 = .ok (.aload_n 0, 1) := by decide +kernel
theorem dX6_cheated_61 : decode cX6_cheated 61 = .ok (.getfield 44, 3) := by decide +kernel
theorem dX6_cheated_64 : decode cX6_cheated 64 = .ok (.iload 5, 2) := by decide +kernel
theorem dX6_cheated_66 : decode cX6_cheated 66 = .ok (.iaload, 1) := by decide +kernel
theorem dX6_cheated_67 : decode cX6_cheated 67 = .ok (.ishl, 1) := by decide +kernel
theorem dX6_cheated_68 : decode cX6_cheated 68 = .ok (.goto 4, 3) := by decide +kernel
theorem dX6_cheated_71 : decode cX6_cheated 71 = .ok (.iconst 0, 1) := by decide +kernel
theorem dX6_cheated_72 : decode cX6_cheated 72 = .ok (.ior, 1) := by decide +kernel
theorem dX6_cheated_73 : decode cX6_cheated 73 = .ok (.istore_n 2, 1) := by decide +kernel
theorem dX6_cheated_74 : decode cX6_cheated 74 = .ok (.iinc 5 1, 3) := by decide +kernel
theorem dX6_cheated_77 : decode cX6_cheated 77 = .ok (.goto (-54), 3) := by decide +kernel
theorem dX6_cheated_80 : decode cX6_cheated 80 = .ok (.iinc 3 1, 3) := by decide +kernel
theorem dX6_cheated_83 : decode cX6_cheated 83 = .ok (.goto (-79), 3) := by decide +kernel
theorem dX6_cheated_86 : decode cX6_cheated 86 = .ok (.iload_n 2, 1) := by decide +kernel
theorem dX6_cheated_87 : decode cX6_cheated 87 = .ok (.ireturn, 1) := by decide +kernel
set_option maxHeartbeats 4000000 in
set_option maxRecDepth 100000 in
theorem c_X6_cheated (l : Launch) (D : va_G) (cI cZ cL : ClassId) (am : Nat → Nat) (M : Mem) (th : Int32) (t : Nat) (hI : J0 M) (ht : t < 8) : RD l D cI cZ cL yX6_cheated cX6_cheated 6 (some .int) 4 [.ref (am 0), .int (nI t)] (wQ am cI cZ M th) (some (.int (m_cheat M t))) := by
  refine RD.of (by decide) (Nat.le_of_ble_eq_true rfl) ?_
  intro p e s m args below meth c ls hx hb hr hml hown hlk hE hP hl
  have hl : lv_has ls 6 [(0, .ref (am 0)), (1, .int (nI t))] := hl
  have hT8 := hI.T8
  have hR16 := hI.R16
  have hN200 := hI.N200
  refine lv_iconst (v := 0) hx hb dX6_cheated_0 (by decide) ?_
  refine lv_istore_n (lv' := [(2, .int 0), (0, .ref (am 0)), (1, .int (nI t))]) hx hb dX6_cheated_1 rfl hl (by decide) rfl (fun ls hl => ?_)
  refine lv_iconst (v := 0) hx hb dX6_cheated_2 (by decide) ?_
  refine lv_istore_n (lv' := [(3, .int 0), (2, .int 0), (0, .ref (am 0)), (1, .int (nI t))]) hx hb dX6_cheated_3 rfl hl (by decide) rfl (fun ls hl => ?_)
  have hloop_4 : ∀ (n i : Nat), i ≤ mT M → mT M < i + n → ∀ ls : Array Slot, lv_has ls 6 [(3, .int (nI i)), (2, .int (m_ch M t i)), (0, .ref (am 0)), (1, .int (nI t))] → W p l e (rm 4 0 0) s m args below meth c s.heap [] 0 0 (MQ below (Qrd (some (.int (m_cheat M t)))) args s 0 0 q_no) (F0 m 4 ls []) := by
    intro n
    induction n with
    | zero => intro i h1 h2; exact absurd h2 (by omega)
    | succ n ih_4 =>
      intro i hi_4 hin_4  ls hl
      refine lv_iload_n hx hb dX6_cheated_4 rfl (lv_at hl 0 rfl) ?_
      refine lv_aload_n hx hb dX6_cheated_5 rfl (lv_at hl 2 rfl) ?_
      refine q_get (v := .int (M 0 8)) hx hb hown hE inT_X6 hP 0 rfl rfl 8 (by decide) w_766 rfl dX6_cheated_6 ?_
      refine q_top (y := nI (mT M)) (J0.T hI) ?_
      refine lv_icmp_ge (tgt := 86) hx hb dX6_cheated_9 (by decide) (fun c_1 => ?_) (fun c_1 => ?_)
      · skip
        have c_1 : (mT M) ≤ i := n_le (a := mT M) (b := i) (by omega) (by omega) c_1
        have hend_4 : mT M = i := by omega
        subst hend_4
        refine lv_iload_n hx hb dX6_cheated_86 rfl (lv_at hl 1 rfl) ?_
        refine q_top (y := m_cheat M t) (by rfl) ?_
        exact e_ret hx hb hr hlk rfl dX6_cheated_87
      · skip
        have c_1 : i < (mT M) := n_nle (a := mT M) (b := i) (by omega) (by omega) c_1
        refine lv_aload_n hx hb dX6_cheated_12 rfl (lv_at hl 2 rfl) ?_
        refine lv_iload_n hx hb dX6_cheated_13 rfl (lv_at hl 3 rfl) ?_
        refine lv_iload_n hx hb dX6_cheated_14 rfl (lv_at hl 0 rfl) ?_
        refine q_rd (q_runV (rest := []) hx hb hml hown hE (c_X6_are l D cI cZ cL am M th t i hI (by omega) (by omega)) ck_X6_are w_959 hP 0 rfl rfl hl.1 rfl ⟨Nat.le_of_ble_eq_true rfl, Nat.le_of_ble_eq_true rfl⟩ (Nat.le_of_ble_eq_true rfl) dX6_cheated_15 ⟨Nat.le_of_ble_eq_true rfl, Nat.le_of_ble_eq_true rfl⟩) ?_
        refine lv_istore (lv' := [(4, .int (bI (m_are M t i))), (3, .int (nI i)), (2, .int (m_ch M t i)), (0, .ref (am 0)), (1, .int (nI t))]) hx hb dX6_cheated_18 hl (by decide) rfl (fun ls hl => ?_)
        refine lv_iconst (v := 0) hx hb dX6_cheated_20 (by decide) ?_
        refine lv_istore (lv' := [(5, .int 0), (4, .int (bI (m_are M t i))), (3, .int (nI i)), (2, .int (m_ch M t i)), (0, .ref (am 0)), (1, .int (nI t))]) hx hb dX6_cheated_21 hl (by decide) rfl (fun ls hl => ?_)
        have hloop_23 : ∀ (n j : Nat), j ≤ mN M → mN M < j + n → (0 < j → m_are M t i = true) → ∀ ls : Array Slot, lv_has ls 6 [(5, .int (nI j)), (4, .int (bI (m_are M t i))), (3, .int (nI i)), (2, .int (m_ch2 M t i (m_ch M t i) j)), (0, .ref (am 0)), (1, .int (nI t))] → W p l e (rm 4 0 0) s m args below meth c s.heap [] 0 0 (MQ below (Qrd (some (.int (m_cheat M t)))) args s 0 0 q_no) (F0 m 23 ls []) := by
          intro n
          induction n with
          | zero => intro j h1 h2; exact absurd h2 (by omega)
          | succ n ih_23 =>
            intro j hi_23 hin_23 hsu ls hl
            refine lv_iload hx hb dX6_cheated_23 (lv_at hl 0 rfl) ?_
            refine lv_aload_n hx hb dX6_cheated_25 rfl (lv_at hl 4 rfl) ?_
            refine q_get (v := .int (M 0 14)) hx hb hown hE inT_X6 hP 0 rfl rfl 14 (by decide) w_772 rfl dX6_cheated_26 ?_
            refine q_top (y := nI (mN M)) (J0.N hI) ?_
            refine lv_icmp_ge (tgt := 80) hx hb dX6_cheated_29 (by decide) (fun c_2 => ?_) (fun c_2 => ?_)
            · skip
              have c_2 : (mN M) ≤ j := n_le (a := mN M) (b := j) (by omega) (by omega) c_2
              have hend_23 : mN M = j := by omega
              subst hend_23
              refine lv_iinc (v := nI (i + 1)) (lv' := [(3, .int (nI (i + 1))), (5, .int (nI (mN M))), (4, .int (bI (m_are M t i))), (2, .int (m_ch2 M t i (m_ch M t i) (mN M))), (0, .ref (am 0)), (1, .int (nI t))]) hx hb dX6_cheated_80 hl (k := 2) rfl (nI_1 i) (by decide) rfl (fun ls hl => ?_)
              refine lv_goto (tgt := 4) hx hb dX6_cheated_83 (by decide) ?_
              refine ih_4 (i + 1) (by omega) (by omega)  ls ?_
              rw [show m_ch M t (i + 1) = m_ch2 M t i (m_ch M t i) (mN M) from by first | exact m_ch_e1 hsu | exact m_ch_e2 hsu (by assumption)]
              exact lv_sub hl [0, 3, 4, 5] rfl
            · skip
              have c_2 : j < (mN M) := n_nle (a := mN M) (b := j) (by omega) (by omega) c_2
              refine lv_iload hx hb dX6_cheated_32 (lv_at hl 1 rfl) ?_
              refine lv_if_eq (tgt := 80) hx hb dX6_cheated_34 (by decide) (fun c_3 => ?_) (fun c_3 => ?_)
              · skip
                have c_3 : m_are M t i = false := b_f c_3
                refine lv_iinc (v := nI (i + 1)) (lv' := [(3, .int (nI (i + 1))), (5, .int (nI j)), (4, .int (bI (m_are M t i))), (2, .int (m_ch2 M t i (m_ch M t i) j)), (0, .ref (am 0)), (1, .int (nI t))]) hx hb dX6_cheated_80 hl (k := 2) rfl (nI_1 i) (by decide) rfl (fun ls hl => ?_)
                refine lv_goto (tgt := 4) hx hb dX6_cheated_83 (by decide) ?_
                refine ih_4 (i + 1) (by omega) (by omega)  ls ?_
                rw [show m_ch M t (i + 1) = m_ch2 M t i (m_ch M t i) j from by first | exact m_ch_e1 hsu | exact m_ch_e2 hsu (by assumption)]
                exact lv_sub hl [0, 3, 4, 5] rfl
              · skip
                have c_3 : m_are M t i = true := b_t c_3
                refine lv_iload_n hx hb dX6_cheated_37 rfl (lv_at hl 3 rfl) ?_
                refine lv_aload_n hx hb dX6_cheated_38 rfl (lv_at hl 4 rfl) ?_
                refine q_get (v := .ref (am 11)) hx hb hown hE inT_X6 hP 0 rfl rfl 15 (by decide) w_773 rfl dX6_cheated_39 ?_
                refine lv_iload hx hb dX6_cheated_42 (lv_at hl 0 rfl) ?_
                refine q_iald (f := M 11) (i := j) hx hb hE hP 11 rfl (by omega) (Nat.le_of_ble_eq_true rfl) dX6_cheated_44 ?_
                refine lv_iload_n hx hb dX6_cheated_45 rfl (lv_at hl 5 rfl) ?_
                refine lv_icmp_ne (tgt := 71) hx hb dX6_cheated_46 (by decide) (fun c_4 => ?_) (fun c_4 => ?_)
                · skip
                  refine lv_iconst (v := 0) hx hb dX6_cheated_71 (by decide) ?_
                  refine lv_ior hx hb dX6_cheated_72 ?_
                  refine lv_istore_n (lv' := [(2, .int ((m_ch2 M t i (m_ch M t i) j) ||| 0)), (5, .int (nI j)), (4, .int (bI (m_are M t i))), (3, .int (nI i)), (0, .ref (am 0)), (1, .int (nI t))]) hx hb dX6_cheated_73 rfl hl (by decide) rfl (fun ls hl => ?_)
                  refine lv_iinc (v := nI (j + 1)) (lv' := [(5, .int (nI (j + 1))), (2, .int ((m_ch2 M t i (m_ch M t i) j) ||| 0)), (4, .int (bI (m_are M t i))), (3, .int (nI i)), (0, .ref (am 0)), (1, .int (nI t))]) hx hb dX6_cheated_74 hl (k := 1) rfl (nI_1 j) (by decide) rfl (fun ls hl => ?_)
                  refine lv_goto (tgt := 23) hx hb dX6_cheated_77 (by decide) ?_
                  refine ih_23 (j + 1) (by omega) (by omega) (fun _ => by assumption) ls ?_
                  rw [show m_ch2 M t i (m_ch M t i) (j + 1) = (m_ch2 M t i (m_ch M t i) j) ||| 0 from by first | (simp only [bI, m_ch2, c_2, c_3, c_4, ↓reduceIte]; done) | (simp [bI, m_ch2, c_2, c_3, c_4]; done) | (simp_all [bI, m_ch2]; done)]
                  exact lv_sub hl [0, 2, 3, 1, 4, 5] rfl
                · skip
                  refine lv_aload_n hx hb dX6_cheated_49 rfl (lv_at hl 4 rfl) ?_
                  refine lv_iload hx hb dX6_cheated_50 (lv_at hl 0 rfl) ?_
                  refine lv_iload_n hx hb dX6_cheated_52 rfl (lv_at hl 2 rfl) ?_
                  refine q_rd (q_runV (rest := [.int (m_ch2 M t i (m_ch M t i) j)]) hx hb hml hown hE (c_X6_isCommon l D cI cZ cL am M th j i hI (by omega)) ck_X6_isCommon w_947 hP 0 rfl rfl hl.1 rfl ⟨Nat.le_of_ble_eq_true rfl, Nat.le_of_ble_eq_true rfl⟩ (Nat.le_of_ble_eq_true rfl) dX6_cheated_53 ⟨Nat.le_of_ble_eq_true rfl, Nat.le_of_ble_eq_true rfl⟩) ?_
                  refine lv_if_eq (tgt := 71) hx hb dX6_cheated_56 (by decide) (fun c_5 => ?_) (fun c_5 => ?_)
                  · skip
                    have c_5 : m_comm M j i = false := b_f c_5
                    refine lv_iconst (v := 0) hx hb dX6_cheated_71 (by decide) ?_
                    refine lv_ior hx hb dX6_cheated_72 ?_
                    refine lv_istore_n (lv' := [(2, .int ((m_ch2 M t i (m_ch M t i) j) ||| 0)), (5, .int (nI j)), (4, .int (bI (m_are M t i))), (3, .int (nI i)), (0, .ref (am 0)), (1, .int (nI t))]) hx hb dX6_cheated_73 rfl hl (by decide) rfl (fun ls hl => ?_)
                    refine lv_iinc (v := nI (j + 1)) (lv' := [(5, .int (nI (j + 1))), (2, .int ((m_ch2 M t i (m_ch M t i) j) ||| 0)), (4, .int (bI (m_are M t i))), (3, .int (nI i)), (0, .ref (am 0)), (1, .int (nI t))]) hx hb dX6_cheated_74 hl (k := 1) rfl (nI_1 j) (by decide) rfl (fun ls hl => ?_)
                    refine lv_goto (tgt := 23) hx hb dX6_cheated_77 (by decide) ?_
                    refine ih_23 (j + 1) (by omega) (by omega) (fun _ => by assumption) ls ?_
                    rw [show m_ch2 M t i (m_ch M t i) (j + 1) = (m_ch2 M t i (m_ch M t i) j) ||| 0 from by first | (simp only [bI, m_ch2, c_2, c_3, c_4, c_5, ↓reduceIte]; done) | (simp [bI, m_ch2, c_2, c_3, c_4, c_5]; done) | (simp_all [bI, m_ch2]; done)]
                    exact lv_sub hl [0, 2, 3, 1, 4, 5] rfl
                  · skip
                    have c_5 : m_comm M j i = true := b_t c_5
                    refine lv_iconst (v := 1) hx hb dX6_cheated_59 (by decide) ?_
                    refine lv_aload_n hx hb dX6_cheated_60 rfl (lv_at hl 4 rfl) ?_
                    refine q_get (v := .ref (am 12)) hx hb hown hE inT_X6 hP 0 rfl rfl 16 (by decide) w_774 rfl dX6_cheated_61 ?_
                    refine lv_iload hx hb dX6_cheated_64 (lv_at hl 0 rfl) ?_
                    refine q_iald (f := M 12) (i := j) hx hb hE hP 12 rfl (by omega) (Nat.le_of_ble_eq_true rfl) dX6_cheated_66 ?_
                    refine lv_ishl hx hb dX6_cheated_67 ?_
                    refine q_top (y := bt (M 12 j)) rfl ?_
                    refine lv_goto (tgt := 72) hx hb dX6_cheated_68 (by decide) ?_
                    refine lv_ior hx hb dX6_cheated_72 ?_
                    refine lv_istore_n (lv' := [(2, .int ((m_ch2 M t i (m_ch M t i) j) ||| (bt (M 12 j)))), (5, .int (nI j)), (4, .int (bI (m_are M t i))), (3, .int (nI i)), (0, .ref (am 0)), (1, .int (nI t))]) hx hb dX6_cheated_73 rfl hl (by decide) rfl (fun ls hl => ?_)
                    refine lv_iinc (v := nI (j + 1)) (lv' := [(5, .int (nI (j + 1))), (2, .int ((m_ch2 M t i (m_ch M t i) j) ||| (bt (M 12 j)))), (4, .int (bI (m_are M t i))), (3, .int (nI i)), (0, .ref (am 0)), (1, .int (nI t))]) hx hb dX6_cheated_74 hl (k := 1) rfl (nI_1 j) (by decide) rfl (fun ls hl => ?_)
                    refine lv_goto (tgt := 23) hx hb dX6_cheated_77 (by decide) ?_
                    refine ih_23 (j + 1) (by omega) (by omega) (fun _ => by assumption) ls ?_
                    rw [show m_ch2 M t i (m_ch M t i) (j + 1) = (m_ch2 M t i (m_ch M t i) j) ||| (bt (M 12 j)) from by first | (simp only [bI, m_ch2, c_2, c_3, c_4, c_5, ↓reduceIte]; done) | (simp [bI, m_ch2, c_2, c_3, c_4, c_5]; done) | (simp_all [bI, m_ch2]; done)]
                    exact lv_sub hl [0, 2, 3, 1, 4, 5] rfl
        refine hloop_23 (mN M + 1) 0 (by omega) (by omega) (fun h => absurd h (Nat.lt_irrefl 0)) ls ?_
        rw [show m_ch2 M t i (m_ch M t i) 0 = m_ch M t i from by first | rfl | (first | (simp only [bI, m_ch2, c_1, ↓reduceIte]; done) | (simp [bI, m_ch2, c_1]; done) | (simp_all [bI, m_ch2]; done))]
        exact lv_sub hl [0, 1, 2, 3, 4, 5] rfl
  refine hloop_4 (mT M + 1) 0 (by omega) (by omega)  ls ?_
  rw [show m_ch M t 0 = 0 from by first | rfl | (first | (simp only [bI, ↓reduceIte]; done) | (simp [bI]; done) | (simp_all [bI]; done))]
  exact lv_sub hl [0, 1, 2, 3] rfl

theorem dX6_voids_0 : decode cX6_voids 0 = .ok (.aload_n 0, 1) := by decide +kernel
theorem dX6_voids_1 : decode cX6_voids 1 = .ok (.iload_n 1, 1) := by decide +kernel
theorem dX6_voids_2 : decode cX6_voids 2 = .ok (.invokevirtual 136, 3) := by decide +kernel
theorem dX6_voids_5 : decode cX6_voids 5 = .ok (.istore_n 2, 1) := by decide +kernel
theorem dX6_voids_6 : decode cX6_voids 6 = .ok (.iconst 0, 1) := by decide +kernel
theorem dX6_voids_7 : decode cX6_voids 7 = .ok (.istore_n 3, 1) := by decide +kernel
theorem dX6_voids_8 : decode cX6_voids 8 = .ok (.iconst 0, 1) := by decide +kernel
theorem dX6_voids_9 : decode cX6_voids 9 = .ok (.istore 4, 2) := by decide +kernel
theorem dX6_voids_11 : decode cX6_voids 11 = .ok (.iload 4, 2) := by decide +kernel
theorem dX6_voids_13 : decode cX6_voids 13 = .ok (.aload_n 0, 1) := by decide +kernel
theorem dX6_voids_14 : decode cX6_voids 14 = .ok (.getfield 63, 3) := by decide +kernel
theorem dX6_voids_17 : decode cX6_voids 17 = .ok (.if_icmp .ge 69, 3) := by decide +kernel
theorem dX6_voids_20 : decode cX6_voids 20 = .ok (.iload_n 2, 1) := by decide +kernel
theorem dX6_voids_21 : decode cX6_voids 21 = .ok (.iload 4, 2) := by decide +kernel
theorem dX6_voids_23 : decode cX6_voids 23 = .ok (.ishr, 1) := by decide +kernel
theorem dX6_voids_24 : decode cX6_voids 24 = .ok (.iconst 1, 1) := by decide +kernel
theorem dX6_voids_25 : decode cX6_voids 25 = .ok (.iand, 1) := by decide +kernel
theorem dX6_voids_26 : decode cX6_voids 26 = .ok (.iconst 1, 1) := by decide +kernel
theorem dX6_voids_27 : decode cX6_voids 27 = .ok (.if_icmp .eq 15, 3) := by decide +kernel
theorem dX6_voids_30 : decode cX6_voids 30 = .ok (.aload_n 0, 1) := by decide +kernel
theorem dX6_voids_31 : decode cX6_voids 31 = .ok (.getfield 22, 3) := by decide +kernel
theorem dX6_voids_34 : decode cX6_voids 34 = .ok (.iload 4, 2) := by decide +kernel
theorem dX6_voids_36 : decode cX6_voids 36 = .ok (.iaload, 1) := by decide +kernel
theorem dX6_voids_37 : decode cX6_voids 37 = .ok (.iload_n 3, 1) := by decide +kernel
theorem dX6_voids_38 : decode cX6_voids 38 = .ok (.iand, 1) := by decide +kernel
theorem dX6_voids_39 : decode cX6_voids 39 = .ok (.ifCond .eq 7, 3) := by decide +kernel
theorem dX6_voids_42 : decode cX6_voids 42 = .ok (.iconst 1, 1) := by decide +kernel
theorem dX6_voids_43 : decode cX6_voids 43 = .ok (.goto 4, 3) := by decide +kernel
theorem dX6_voids_46 : decode cX6_voids 46 = .ok (.iconst 0, 1) := by decide +kernel
theorem dX6_voids_47 : decode cX6_voids 47 = .ok (.istore 5, 2) := by decide +kernel
theorem dX6_voids_49 : decode cX6_voids 49 = .ok (.iload_n 3, 1) := by decide +kernel
theorem dX6_voids_50 : decode cX6_voids 50 = .ok (.iload 5, 2) := by decide +kernel
theorem dX6_voids_52 : decode cX6_voids 52 = .ok (.ifCond .eq 25, 3) := by decide +kernel
theorem dX6_voids_55 : decode cX6_voids 55 = .ok (.aload_n 0, 1) := by decide +kernel
theorem dX6_voids_56 : decode cX6_voids 56 = .ok (.getfield 25, 3) := by decide +kernel
theorem dX6_voids_59 : decode cX6_voids 59 = .ok (.iload_n 1, 1) := by decide +kernel
theorem dX6_voids_60 : decode cX6_voids 60 = .ok (.iload 4, 2) := by decide +kernel
theorem dX6_voids_62 : decode cX6_voids 62 = .ok (.invokestatic 87, 3) := by decide +kernel
theorem dX6_voids_65 : decode cX6_voids 65 = .ok (.iaload, 1) := by decide +kernel
theorem dX6_voids_66 : decode cX6_voids 66 = .ok (.iconst (-1), 1) := by decide +kernel
theorem dX6_voids_67 : decode cX6_voids 67 = .ok (.if_icmp .eq 10, 3) := by decide +kernel
theorem dX6_voids_70 : decode cX6_voids 70 = .ok (.iconst 1, 1) := by decide +kernel
theorem dX6_voids_71 : decode cX6_voids 71 = .ok (.iload 4, 2) := by decide +kernel
theorem dX6_voids_73 : decode cX6_voids 73 = .ok (.ishl, 1) := by decide +kernel
theorem dX6_voids_74 : decode cX6_voids 74 = .ok (.goto 4, 3) := by decide +kernel
theorem dX6_voids_77 : decode cX6_voids 77 = .ok (.iconst 0, 1) := by decide +kernel
theorem dX6_voids_78 : decode cX6_voids 78 = .ok (.ior, 1) := by decide +kernel
theorem dX6_voids_79 : decode cX6_voids 79 = .ok (.istore_n 3, 1) := by decide +kernel
theorem dX6_voids_80 : decode cX6_voids 80 = .ok (.iinc 4 1, 3) := by decide +kernel
theorem dX6_voids_83 : decode cX6_voids 83 = .ok (.goto (-72), 3) := by decide +kernel
theorem dX6_voids_86 : decode cX6_voids 86 = .ok (.iload_n 3, 1) := by decide +kernel
theorem dX6_voids_87 : decode cX6_voids 87 = .ok (.ireturn, 1) := by decide +kernel
set_option maxHeartbeats 4000000 in
set_option maxRecDepth 100000 in
theorem c_X6_voids (l : Launch) (D : va_G) (cI cZ cL : ClassId) (am : Nat → Nat) (M : Mem) (th : Int32) (t : Nat) (hI : J0 M) (ht : t < 8) : RD l D cI cZ cL yX6_voids cX6_voids 6 (some .int) 5 [.ref (am 0), .int (nI t)] (wQ am cI cZ M th) (some (.int (m_void M t))) := by
  refine RD.of (by decide) (Nat.le_of_ble_eq_true rfl) ?_
  intro p e s m args below meth c ls hx hb hr hml hown hlk hE hP hl
  have hl : lv_has ls 6 [(0, .ref (am 0)), (1, .int (nI t))] := hl
  have hT8 := hI.T8
  have hR16 := hI.R16
  have hN200 := hI.N200
  refine lv_aload_n hx hb dX6_voids_0 rfl (lv_at hl 0 rfl) ?_
  refine lv_iload_n hx hb dX6_voids_1 rfl (lv_at hl 1 rfl) ?_
  refine q_rd (q_runV (rest := []) hx hb hml hown hE (c_X6_cheated l D cI cZ cL am M th t hI (by omega)) ck_X6_cheated w_967 hP 0 rfl rfl hl.1 rfl ⟨Nat.le_of_ble_eq_true rfl, Nat.le_of_ble_eq_true rfl⟩ (Nat.le_of_ble_eq_true rfl) dX6_voids_2 ⟨Nat.le_of_ble_eq_true rfl, Nat.le_of_ble_eq_true rfl⟩) ?_
  refine lv_istore_n (lv' := [(2, .int (m_cheat M t)), (0, .ref (am 0)), (1, .int (nI t))]) hx hb dX6_voids_5 rfl hl (by decide) rfl (fun ls hl => ?_)
  refine lv_iconst (v := 0) hx hb dX6_voids_6 (by decide) ?_
  refine lv_istore_n (lv' := [(3, .int 0), (2, .int (m_cheat M t)), (0, .ref (am 0)), (1, .int (nI t))]) hx hb dX6_voids_7 rfl hl (by decide) rfl (fun ls hl => ?_)
  refine lv_iconst (v := 0) hx hb dX6_voids_8 (by decide) ?_
  refine lv_istore (lv' := [(4, .int 0), (3, .int 0), (2, .int (m_cheat M t)), (0, .ref (am 0)), (1, .int (nI t))]) hx hb dX6_voids_9 hl (by decide) rfl (fun ls hl => ?_)
  have hloop_11 : ∀ (n i : Nat), i ≤ mR M → mR M < i + n → ∀ ls : Array Slot, lv_has ls 6 [(4, .int (nI i)), (3, .int (m_vd M t (m_cheat M t) i)), (2, .int (m_cheat M t)), (0, .ref (am 0)), (1, .int (nI t))] → W p l e (rm 5 0 0) s m args below meth c s.heap [] 0 0 (MQ below (Qrd (some (.int (m_void M t)))) args s 0 0 q_no) (F0 m 11 ls []) := by
    intro n
    induction n with
    | zero => intro i h1 h2; exact absurd h2 (by omega)
    | succ n ih_11 =>
      intro i hi_11 hin_11  ls hl
      refine lv_iload hx hb dX6_voids_11 (lv_at hl 0 rfl) ?_
      refine lv_aload_n hx hb dX6_voids_13 rfl (lv_at hl 3 rfl) ?_
      refine q_get (v := .int (M 0 2)) hx hb hown hE inT_X6 hP 0 rfl rfl 2 (by decide) w_760 rfl dX6_voids_14 ?_
      refine q_top (y := nI (mR M)) (J0.R hI) ?_
      refine lv_icmp_ge (tgt := 86) hx hb dX6_voids_17 (by decide) (fun c_1 => ?_) (fun c_1 => ?_)
      · skip
        have c_1 : (mR M) ≤ i := n_le (a := mR M) (b := i) (by omega) (by omega) c_1
        have hend_11 : mR M = i := by omega
        subst hend_11
        refine lv_iload_n hx hb dX6_voids_86 rfl (lv_at hl 1 rfl) ?_
        refine q_top (y := m_void M t) (by rfl) ?_
        exact e_ret hx hb hr hlk rfl dX6_voids_87
      · skip
        have c_1 : i < (mR M) := n_nle (a := mR M) (b := i) (by omega) (by omega) c_1
        refine lv_iload_n hx hb dX6_voids_20 rfl (lv_at hl 2 rfl) ?_
        refine lv_iload hx hb dX6_voids_21 (lv_at hl 0 rfl) ?_
        refine lv_ishr hx hb dX6_voids_23 ?_
        refine lv_iconst (v := 1) hx hb dX6_voids_24 (by decide) ?_
        refine lv_iand hx hb dX6_voids_25 ?_
        refine lv_iconst (v := 1) hx hb dX6_voids_26 (by decide) ?_
        refine lv_icmp_eq (tgt := 42) hx hb dX6_voids_27 (by decide) (fun c_2 => ?_) (fun c_2 => ?_)
        · skip
          refine lv_iconst (v := 1) hx hb dX6_voids_42 (by decide) ?_
          refine lv_goto (tgt := 47) hx hb dX6_voids_43 (by decide) ?_
          refine lv_istore (lv' := [(5, .int 1), (4, .int (nI i)), (3, .int (m_vd M t (m_cheat M t) i)), (2, .int (m_cheat M t)), (0, .ref (am 0)), (1, .int (nI t))]) hx hb dX6_voids_47 hl (by decide) rfl (fun ls hl => ?_)
          refine lv_iload_n hx hb dX6_voids_49 rfl (lv_at hl 2 rfl) ?_
          refine lv_iload hx hb dX6_voids_50 (lv_at hl 0 rfl) ?_
          refine lv_if_eq (tgt := 77) hx hb dX6_voids_52 (by decide) (fun c_3 => ?_) (fun c_3 => ?_)
          · skip
            exact absurd c_3 (by decide)
          · skip
            refine lv_aload_n hx hb dX6_voids_55 rfl (lv_at hl 4 rfl) ?_
            refine q_get (v := .ref (am 6)) hx hb hown hE inT_X6 hP 0 rfl rfl 9 (by decide) w_767 rfl dX6_voids_56 ?_
            refine lv_iload_n hx hb dX6_voids_59 rfl (lv_at hl 5 rfl) ?_
            refine lv_iload hx hb dX6_voids_60 (lv_at hl 1 rfl) ?_
            refine q_rd (q_runS (rest := [.ref (am 6), .int (m_vd M t (m_cheat M t) i)]) hx hb hml hown hE (c_X6_at l D cI cZ cL _ t i) ck_X6_at w_865 hP hl.1 rfl ⟨Nat.le_of_ble_eq_true rfl, Nat.le_of_ble_eq_true rfl⟩ (Nat.le_of_ble_eq_true rfl) dX6_voids_62 ⟨Nat.le_of_ble_eq_true rfl, Nat.le_of_ble_eq_true rfl⟩) ?_
            refine q_iald (f := M 6) (i := (16 * t + i)) hx hb hE hP 6 rfl (by omega) (Nat.le_of_ble_eq_true rfl) dX6_voids_65 ?_
            refine lv_iconst (v := (-1)) hx hb dX6_voids_66 (by decide) ?_
            refine lv_icmp_eq (tgt := 77) hx hb dX6_voids_67 (by decide) (fun c_4 => ?_) (fun c_4 => ?_)
            · skip
              refine lv_iconst (v := 0) hx hb dX6_voids_77 (by decide) ?_
              refine lv_ior hx hb dX6_voids_78 ?_
              refine lv_istore_n (lv' := [(3, .int ((m_vd M t (m_cheat M t) i) ||| 0)), (5, .int 1), (4, .int (nI i)), (2, .int (m_cheat M t)), (0, .ref (am 0)), (1, .int (nI t))]) hx hb dX6_voids_79 rfl hl (by decide) rfl (fun ls hl => ?_)
              refine lv_iinc (v := nI (i + 1)) (lv' := [(4, .int (nI (i + 1))), (3, .int ((m_vd M t (m_cheat M t) i) ||| 0)), (5, .int 1), (2, .int (m_cheat M t)), (0, .ref (am 0)), (1, .int (nI t))]) hx hb dX6_voids_80 hl (k := 2) rfl (nI_1 i) (by decide) rfl (fun ls hl => ?_)
              refine lv_goto (tgt := 11) hx hb dX6_voids_83 (by decide) ?_
              refine ih_11 (i + 1) (by omega) (by omega)  ls ?_
              rw [show m_vd M t (m_cheat M t) (i + 1) = (m_vd M t (m_cheat M t) i) ||| 0 from by first | (simp only [bI, m_vd, c_1, c_2, c_4, ↓reduceIte]; done) | (simp [bI, m_vd, c_1, c_2, c_4]; done) | (simp_all [bI, m_vd]; done)]
              exact lv_sub hl [0, 1, 3, 4, 5] rfl
            · skip
              refine lv_iconst (v := 1) hx hb dX6_voids_70 (by decide) ?_
              refine lv_iload hx hb dX6_voids_71 (lv_at hl 1 rfl) ?_
              refine lv_ishl hx hb dX6_voids_73 ?_
              refine q_top (y := bt (nI i)) rfl ?_
              refine lv_goto (tgt := 78) hx hb dX6_voids_74 (by decide) ?_
              refine lv_ior hx hb dX6_voids_78 ?_
              refine lv_istore_n (lv' := [(3, .int ((m_vd M t (m_cheat M t) i) ||| (bt (nI i)))), (5, .int 1), (4, .int (nI i)), (2, .int (m_cheat M t)), (0, .ref (am 0)), (1, .int (nI t))]) hx hb dX6_voids_79 rfl hl (by decide) rfl (fun ls hl => ?_)
              refine lv_iinc (v := nI (i + 1)) (lv' := [(4, .int (nI (i + 1))), (3, .int ((m_vd M t (m_cheat M t) i) ||| (bt (nI i)))), (5, .int 1), (2, .int (m_cheat M t)), (0, .ref (am 0)), (1, .int (nI t))]) hx hb dX6_voids_80 hl (k := 2) rfl (nI_1 i) (by decide) rfl (fun ls hl => ?_)
              refine lv_goto (tgt := 11) hx hb dX6_voids_83 (by decide) ?_
              refine ih_11 (i + 1) (by omega) (by omega)  ls ?_
              rw [show m_vd M t (m_cheat M t) (i + 1) = (m_vd M t (m_cheat M t) i) ||| (bt (nI i)) from by first | (simp only [bI, m_vd, c_1, c_2, c_4, ↓reduceIte]; done) | (simp [bI, m_vd, c_1, c_2, c_4]; done) | (simp_all [bI, m_vd]; done)]
              exact lv_sub hl [0, 1, 3, 4, 5] rfl
        · skip
          refine lv_aload_n hx hb dX6_voids_30 rfl (lv_at hl 3 rfl) ?_
          refine q_get (v := .ref (am 5)) hx hb hown hE inT_X6 hP 0 rfl rfl 7 (by decide) w_765 rfl dX6_voids_31 ?_
          refine lv_iload hx hb dX6_voids_34 (lv_at hl 0 rfl) ?_
          refine q_iald (f := M 5) (i := i) hx hb hE hP 5 rfl (by omega) (Nat.le_of_ble_eq_true rfl) dX6_voids_36 ?_
          refine lv_iload_n hx hb dX6_voids_37 rfl (lv_at hl 1 rfl) ?_
          refine lv_iand hx hb dX6_voids_38 ?_
          refine lv_if_eq (tgt := 46) hx hb dX6_voids_39 (by decide) (fun c_5 => ?_) (fun c_5 => ?_)
          · skip
            refine lv_iconst (v := 0) hx hb dX6_voids_46 (by decide) ?_
            refine lv_istore (lv' := [(5, .int 0), (4, .int (nI i)), (3, .int (m_vd M t (m_cheat M t) i)), (2, .int (m_cheat M t)), (0, .ref (am 0)), (1, .int (nI t))]) hx hb dX6_voids_47 hl (by decide) rfl (fun ls hl => ?_)
            refine lv_iload_n hx hb dX6_voids_49 rfl (lv_at hl 2 rfl) ?_
            refine lv_iload hx hb dX6_voids_50 (lv_at hl 0 rfl) ?_
            refine lv_if_eq (tgt := 77) hx hb dX6_voids_52 (by decide) (fun c_6 => ?_) (fun c_6 => ?_)
            · skip
              refine lv_iconst (v := 0) hx hb dX6_voids_77 (by decide) ?_
              refine lv_ior hx hb dX6_voids_78 ?_
              refine lv_istore_n (lv' := [(3, .int ((m_vd M t (m_cheat M t) i) ||| 0)), (5, .int 0), (4, .int (nI i)), (2, .int (m_cheat M t)), (0, .ref (am 0)), (1, .int (nI t))]) hx hb dX6_voids_79 rfl hl (by decide) rfl (fun ls hl => ?_)
              refine lv_iinc (v := nI (i + 1)) (lv' := [(4, .int (nI (i + 1))), (3, .int ((m_vd M t (m_cheat M t) i) ||| 0)), (5, .int 0), (2, .int (m_cheat M t)), (0, .ref (am 0)), (1, .int (nI t))]) hx hb dX6_voids_80 hl (k := 2) rfl (nI_1 i) (by decide) rfl (fun ls hl => ?_)
              refine lv_goto (tgt := 11) hx hb dX6_voids_83 (by decide) ?_
              refine ih_11 (i + 1) (by omega) (by omega)  ls ?_
              rw [show m_vd M t (m_cheat M t) (i + 1) = (m_vd M t (m_cheat M t) i) ||| 0 from by first | (simp only [bI, m_vd, c_1, c_2, c_5, ↓reduceIte]; done) | (simp [bI, m_vd, c_1, c_2, c_5]; done) | (simp_all [bI, m_vd]; done)]
              exact lv_sub hl [0, 1, 3, 4, 5] rfl
            · skip
              exact absurd c_6 (by decide)
          · skip
            refine lv_iconst (v := 1) hx hb dX6_voids_42 (by decide) ?_
            refine lv_goto (tgt := 47) hx hb dX6_voids_43 (by decide) ?_
            refine lv_istore (lv' := [(5, .int 1), (4, .int (nI i)), (3, .int (m_vd M t (m_cheat M t) i)), (2, .int (m_cheat M t)), (0, .ref (am 0)), (1, .int (nI t))]) hx hb dX6_voids_47 hl (by decide) rfl (fun ls hl => ?_)
            refine lv_iload_n hx hb dX6_voids_49 rfl (lv_at hl 2 rfl) ?_
            refine lv_iload hx hb dX6_voids_50 (lv_at hl 0 rfl) ?_
            refine lv_if_eq (tgt := 77) hx hb dX6_voids_52 (by decide) (fun c_7 => ?_) (fun c_7 => ?_)
            · skip
              exact absurd c_7 (by decide)
            · skip
              refine lv_aload_n hx hb dX6_voids_55 rfl (lv_at hl 4 rfl) ?_
              refine q_get (v := .ref (am 6)) hx hb hown hE inT_X6 hP 0 rfl rfl 9 (by decide) w_767 rfl dX6_voids_56 ?_
              refine lv_iload_n hx hb dX6_voids_59 rfl (lv_at hl 5 rfl) ?_
              refine lv_iload hx hb dX6_voids_60 (lv_at hl 1 rfl) ?_
              refine q_rd (q_runS (rest := [.ref (am 6), .int (m_vd M t (m_cheat M t) i)]) hx hb hml hown hE (c_X6_at l D cI cZ cL _ t i) ck_X6_at w_865 hP hl.1 rfl ⟨Nat.le_of_ble_eq_true rfl, Nat.le_of_ble_eq_true rfl⟩ (Nat.le_of_ble_eq_true rfl) dX6_voids_62 ⟨Nat.le_of_ble_eq_true rfl, Nat.le_of_ble_eq_true rfl⟩) ?_
              refine q_iald (f := M 6) (i := (16 * t + i)) hx hb hE hP 6 rfl (by omega) (Nat.le_of_ble_eq_true rfl) dX6_voids_65 ?_
              refine lv_iconst (v := (-1)) hx hb dX6_voids_66 (by decide) ?_
              refine lv_icmp_eq (tgt := 77) hx hb dX6_voids_67 (by decide) (fun c_8 => ?_) (fun c_8 => ?_)
              · skip
                refine lv_iconst (v := 0) hx hb dX6_voids_77 (by decide) ?_
                refine lv_ior hx hb dX6_voids_78 ?_
                refine lv_istore_n (lv' := [(3, .int ((m_vd M t (m_cheat M t) i) ||| 0)), (5, .int 1), (4, .int (nI i)), (2, .int (m_cheat M t)), (0, .ref (am 0)), (1, .int (nI t))]) hx hb dX6_voids_79 rfl hl (by decide) rfl (fun ls hl => ?_)
                refine lv_iinc (v := nI (i + 1)) (lv' := [(4, .int (nI (i + 1))), (3, .int ((m_vd M t (m_cheat M t) i) ||| 0)), (5, .int 1), (2, .int (m_cheat M t)), (0, .ref (am 0)), (1, .int (nI t))]) hx hb dX6_voids_80 hl (k := 2) rfl (nI_1 i) (by decide) rfl (fun ls hl => ?_)
                refine lv_goto (tgt := 11) hx hb dX6_voids_83 (by decide) ?_
                refine ih_11 (i + 1) (by omega) (by omega)  ls ?_
                rw [show m_vd M t (m_cheat M t) (i + 1) = (m_vd M t (m_cheat M t) i) ||| 0 from by first | (simp only [bI, m_vd, c_1, c_2, c_5, c_8, ↓reduceIte]; done) | (simp [bI, m_vd, c_1, c_2, c_5, c_8]; done) | (simp_all [bI, m_vd]; done)]
                exact lv_sub hl [0, 1, 3, 4, 5] rfl
              · skip
                refine lv_iconst (v := 1) hx hb dX6_voids_70 (by decide) ?_
                refine lv_iload hx hb dX6_voids_71 (lv_at hl 1 rfl) ?_
                refine lv_ishl hx hb dX6_voids_73 ?_
                refine q_top (y := bt (nI i)) rfl ?_
                refine lv_goto (tgt := 78) hx hb dX6_voids_74 (by decide) ?_
                refine lv_ior hx hb dX6_voids_78 ?_
                refine lv_istore_n (lv' := [(3, .int ((m_vd M t (m_cheat M t) i) ||| (bt (nI i)))), (5, .int 1), (4, .int (nI i)), (2, .int (m_cheat M t)), (0, .ref (am 0)), (1, .int (nI t))]) hx hb dX6_voids_79 rfl hl (by decide) rfl (fun ls hl => ?_)
                refine lv_iinc (v := nI (i + 1)) (lv' := [(4, .int (nI (i + 1))), (3, .int ((m_vd M t (m_cheat M t) i) ||| (bt (nI i)))), (5, .int 1), (2, .int (m_cheat M t)), (0, .ref (am 0)), (1, .int (nI t))]) hx hb dX6_voids_80 hl (k := 2) rfl (nI_1 i) (by decide) rfl (fun ls hl => ?_)
                refine lv_goto (tgt := 11) hx hb dX6_voids_83 (by decide) ?_
                refine ih_11 (i + 1) (by omega) (by omega)  ls ?_
                rw [show m_vd M t (m_cheat M t) (i + 1) = (m_vd M t (m_cheat M t) i) ||| (bt (nI i)) from by first | (simp only [bI, m_vd, c_1, c_2, c_5, c_8, ↓reduceIte]; done) | (simp [bI, m_vd, c_1, c_2, c_5, c_8]; done) | (simp_all [bI, m_vd]; done)]
                exact lv_sub hl [0, 1, 3, 4, 5] rfl
  refine hloop_11 (mR M + 1) 0 (by omega) (by omega)  ls ?_
  rw [show m_vd M t (m_cheat M t) 0 = 0 from by first | rfl | (first | (simp only [bI, m_vd, ↓reduceIte]; done) | (simp [bI, m_vd]; done) | (simp_all [bI, m_vd]; done))]
  exact lv_sub hl [0, 1, 2, 3, 4] rfl

theorem dX6_counting_0 : decode cX6_counting 0 = .ok (.aload_n 0, 1) := by decide +kernel
theorem dX6_counting_1 : decode cX6_counting 1 = .ok (.iload_n 1, 1) := by decide +kernel
theorem dX6_counting_2 : decode cX6_counting 2 = .ok (.invokevirtual 139, 3) := by decide +kernel
theorem dX6_counting_5 : decode cX6_counting 5 = .ok (.istore_n 2, 1) := by decide +kernel
theorem dX6_counting_6 : decode cX6_counting 6 = .ok (.iconst 0, 1) := by decide +kernel
theorem dX6_counting_7 : decode cX6_counting 7 = .ok (.istore_n 3, 1) := by decide +kernel
theorem dX6_counting_8 : decode cX6_counting 8 = .ok (.iconst 0, 1) := by decide +kernel
theorem dX6_counting_9 : decode cX6_counting 9 = .ok (.istore 4, 2) := by decide +kernel
theorem dX6_counting_11 : decode cX6_counting 11 = .ok (.iload 4, 2) := by decide +kernel
theorem dX6_counting_13 : decode cX6_counting 13 = .ok (.aload_n 0, 1) := by decide +kernel
theorem dX6_counting_14 : decode cX6_counting 14 = .ok (.getfield 63, 3) := by decide +kernel
theorem dX6_counting_17 : decode cX6_counting 17 = .ok (.if_icmp .ge 65, 3) := by decide +kernel
theorem dX6_counting_20 : decode cX6_counting 20 = .ok (.aload_n 0, 1) := by decide +kernel
theorem dX6_counting_21 : decode cX6_counting 21 = .ok (.getfield 25, 3) := by decide +kernel
theorem dX6_counting_24 : decode cX6_counting 24 = .ok (.iload_n 1, 1) := by decide +kernel
theorem dX6_counting_25 : decode cX6_counting 25 = .ok (.iload 4, 2) := by decide +kernel
theorem dX6_counting_27 : decode cX6_counting 27 = .ok (.invokestatic 87, 3) := by decide +kernel
theorem dX6_counting_30 : decode cX6_counting 30 = .ok (.iaload, 1) := by decide +kernel
theorem dX6_counting_31 : decode cX6_counting 31 = .ok (.iconst (-1), 1) := by decide +kernel
theorem dX6_counting_32 : decode cX6_counting 32 = .ok (.if_icmp .eq 25, 3) := by decide +kernel
theorem dX6_counting_35 : decode cX6_counting 35 = .ok (.iload_n 2, 1) := by decide +kernel
theorem dX6_counting_36 : decode cX6_counting 36 = .ok (.iload 4, 2) := by decide +kernel
theorem dX6_counting_38 : decode cX6_counting 38 = .ok (.ishr, 1) := by decide +kernel
theorem dX6_counting_39 : decode cX6_counting 39 = .ok (.iconst 1, 1) := by decide +kernel
theorem dX6_counting_40 : decode cX6_counting 40 = .ok (.iand, 1) := by decide +kernel
theorem dX6_counting_41 : decode cX6_counting 41 = .ok (.ifCond .ne 16, 3) := by decide +kernel
theorem dX6_counting_44 : decode cX6_counting 44 = .ok (.aload_n 0, 1) := by decide +kernel
theorem dX6_counting_45 : decode cX6_counting 45 = .ok (.iload 4, 2) := by decide +kernel
theorem dX6_counting_47 : decode cX6_counting 47 = .ok (.invokevirtual 105, 3) := by decide +kernel
theorem dX6_counting_50 : decode cX6_counting 50 = .ok (.ifCond .ne 7, 3) := by decide +kernel
theorem dX6_counting_53 : decode cX6_counting 53 = .ok (.iconst 1, 1) := by decide +kernel
theorem dX6_counting_54 : decode cX6_counting 54 = .ok (.goto 4, 3) := by decide +kernel
theorem dX6_counting_57 : decode cX6_counting 57 = .ok (.iconst 0, 1) := by decide +kernel
theorem dX6_counting_58 : decode cX6_counting 58 = .ok (.istore 5, 2) := by decide +kernel
theorem dX6_counting_60 : decode cX6_counting 60 = .ok (.iload_n 3, 1) := by decide +kernel
theorem dX6_counting_61 : decode cX6_counting 61 = .ok (.iload 5, 2) := by decide +kernel
theorem dX6_counting_63 : decode cX6_counting 63 = .ok (.ifCond .eq 10, 3) := by decide +kernel
theorem dX6_counting_66 : decode cX6_counting 66 = .ok (.iconst 1, 1) := by decide +kernel
theorem dX6_counting_67 : decode cX6_counting 67 = .ok (.iload 4, 2) := by decide +kernel
theorem dX6_counting_69 : decode cX6_counting 69 = .ok (.ishl, 1) := by decide +kernel
theorem dX6_counting_70 : decode cX6_counting 70 = .ok (.goto 4, 3) := by decide +kernel
theorem dX6_counting_73 : decode cX6_counting 73 = .ok (.iconst 0, 1) := by decide +kernel
theorem dX6_counting_74 : decode cX6_counting 74 = .ok (.ior, 1) := by decide +kernel
theorem dX6_counting_75 : decode cX6_counting 75 = .ok (.istore_n 3, 1) := by decide +kernel
theorem dX6_counting_76 : decode cX6_counting 76 = .ok (.iinc 4 1, 3) := by decide +kernel
theorem dX6_counting_79 : decode cX6_counting 79 = .ok (.goto (-68), 3) := by decide +kernel
theorem dX6_counting_82 : decode cX6_counting 82 = .ok (.iload_n 3, 1) := by decide +kernel
theorem dX6_counting_83 : decode cX6_counting 83 = .ok (.ireturn, 1) := by decide +kernel
set_option maxHeartbeats 4000000 in
set_option maxRecDepth 100000 in
theorem c_X6_counting (l : Launch) (D : va_G) (cI cZ cL : ClassId) (am : Nat → Nat) (M : Mem) (th : Int32) (t : Nat) (hI : J0 M) (ht : t < 8) : RD l D cI cZ cL yX6_counting cX6_counting 6 (some .int) 6 [.ref (am 0), .int (nI t)] (wQ am cI cZ M th) (some (.int (m_cnt M t))) := by
  refine RD.of (by decide) (Nat.le_of_ble_eq_true rfl) ?_
  intro p e s m args below meth c ls hx hb hr hml hown hlk hE hP hl
  have hl : lv_has ls 6 [(0, .ref (am 0)), (1, .int (nI t))] := hl
  have hT8 := hI.T8
  have hR16 := hI.R16
  have hN200 := hI.N200
  refine lv_aload_n hx hb dX6_counting_0 rfl (lv_at hl 0 rfl) ?_
  refine lv_iload_n hx hb dX6_counting_1 rfl (lv_at hl 1 rfl) ?_
  refine q_rd (q_runV (rest := []) hx hb hml hown hE (c_X6_voids l D cI cZ cL am M th t hI (by omega)) ck_X6_voids w_975 hP 0 rfl rfl hl.1 rfl ⟨Nat.le_of_ble_eq_true rfl, Nat.le_of_ble_eq_true rfl⟩ (Nat.le_of_ble_eq_true rfl) dX6_counting_2 ⟨Nat.le_of_ble_eq_true rfl, Nat.le_of_ble_eq_true rfl⟩) ?_
  refine lv_istore_n (lv' := [(2, .int (m_void M t)), (0, .ref (am 0)), (1, .int (nI t))]) hx hb dX6_counting_5 rfl hl (by decide) rfl (fun ls hl => ?_)
  refine lv_iconst (v := 0) hx hb dX6_counting_6 (by decide) ?_
  refine lv_istore_n (lv' := [(3, .int 0), (2, .int (m_void M t)), (0, .ref (am 0)), (1, .int (nI t))]) hx hb dX6_counting_7 rfl hl (by decide) rfl (fun ls hl => ?_)
  refine lv_iconst (v := 0) hx hb dX6_counting_8 (by decide) ?_
  refine lv_istore (lv' := [(4, .int 0), (3, .int 0), (2, .int (m_void M t)), (0, .ref (am 0)), (1, .int (nI t))]) hx hb dX6_counting_9 hl (by decide) rfl (fun ls hl => ?_)
  have hloop_11 : ∀ (n i : Nat), i ≤ mR M → mR M < i + n → ∀ ls : Array Slot, lv_has ls 6 [(4, .int (nI i)), (3, .int (m_cn M t (m_void M t) i)), (2, .int (m_void M t)), (0, .ref (am 0)), (1, .int (nI t))] → W p l e (rm 6 0 0) s m args below meth c s.heap [] 0 0 (MQ below (Qrd (some (.int (m_cnt M t)))) args s 0 0 q_no) (F0 m 11 ls []) := by
    intro n
    induction n with
    | zero => intro i h1 h2; exact absurd h2 (by omega)
    | succ n ih_11 =>
      intro i hi_11 hin_11  ls hl
      refine lv_iload hx hb dX6_counting_11 (lv_at hl 0 rfl) ?_
      refine lv_aload_n hx hb dX6_counting_13 rfl (lv_at hl 3 rfl) ?_
      refine q_get (v := .int (M 0 2)) hx hb hown hE inT_X6 hP 0 rfl rfl 2 (by decide) w_760 rfl dX6_counting_14 ?_
      refine q_top (y := nI (mR M)) (J0.R hI) ?_
      refine lv_icmp_ge (tgt := 82) hx hb dX6_counting_17 (by decide) (fun c_1 => ?_) (fun c_1 => ?_)
      · skip
        have c_1 : (mR M) ≤ i := n_le (a := mR M) (b := i) (by omega) (by omega) c_1
        have hend_11 : mR M = i := by omega
        subst hend_11
        refine lv_iload_n hx hb dX6_counting_82 rfl (lv_at hl 1 rfl) ?_
        refine q_top (y := m_cnt M t) (by rfl) ?_
        exact e_ret hx hb hr hlk rfl dX6_counting_83
      · skip
        have c_1 : i < (mR M) := n_nle (a := mR M) (b := i) (by omega) (by omega) c_1
        refine lv_aload_n hx hb dX6_counting_20 rfl (lv_at hl 3 rfl) ?_
        refine q_get (v := .ref (am 6)) hx hb hown hE inT_X6 hP 0 rfl rfl 9 (by decide) w_767 rfl dX6_counting_21 ?_
        refine lv_iload_n hx hb dX6_counting_24 rfl (lv_at hl 4 rfl) ?_
        refine lv_iload hx hb dX6_counting_25 (lv_at hl 0 rfl) ?_
        refine q_rd (q_runS (rest := [.ref (am 6)]) hx hb hml hown hE (c_X6_at l D cI cZ cL _ t i) ck_X6_at w_865 hP hl.1 rfl ⟨Nat.le_of_ble_eq_true rfl, Nat.le_of_ble_eq_true rfl⟩ (Nat.le_of_ble_eq_true rfl) dX6_counting_27 ⟨Nat.le_of_ble_eq_true rfl, Nat.le_of_ble_eq_true rfl⟩) ?_
        refine q_iald (f := M 6) (i := (16 * t + i)) hx hb hE hP 6 rfl (by omega) (Nat.le_of_ble_eq_true rfl) dX6_counting_30 ?_
        refine lv_iconst (v := (-1)) hx hb dX6_counting_31 (by decide) ?_
        refine lv_icmp_eq (tgt := 57) hx hb dX6_counting_32 (by decide) (fun c_2 => ?_) (fun c_2 => ?_)
        · skip
          refine lv_iconst (v := 0) hx hb dX6_counting_57 (by decide) ?_
          refine lv_istore (lv' := [(5, .int 0), (4, .int (nI i)), (3, .int (m_cn M t (m_void M t) i)), (2, .int (m_void M t)), (0, .ref (am 0)), (1, .int (nI t))]) hx hb dX6_counting_58 hl (by decide) rfl (fun ls hl => ?_)
          refine lv_iload_n hx hb dX6_counting_60 rfl (lv_at hl 2 rfl) ?_
          refine lv_iload hx hb dX6_counting_61 (lv_at hl 0 rfl) ?_
          refine lv_if_eq (tgt := 73) hx hb dX6_counting_63 (by decide) (fun c_3 => ?_) (fun c_3 => ?_)
          · skip
            refine lv_iconst (v := 0) hx hb dX6_counting_73 (by decide) ?_
            refine lv_ior hx hb dX6_counting_74 ?_
            refine lv_istore_n (lv' := [(3, .int ((m_cn M t (m_void M t) i) ||| 0)), (5, .int 0), (4, .int (nI i)), (2, .int (m_void M t)), (0, .ref (am 0)), (1, .int (nI t))]) hx hb dX6_counting_75 rfl hl (by decide) rfl (fun ls hl => ?_)
            refine lv_iinc (v := nI (i + 1)) (lv' := [(4, .int (nI (i + 1))), (3, .int ((m_cn M t (m_void M t) i) ||| 0)), (5, .int 0), (2, .int (m_void M t)), (0, .ref (am 0)), (1, .int (nI t))]) hx hb dX6_counting_76 hl (k := 2) rfl (nI_1 i) (by decide) rfl (fun ls hl => ?_)
            refine lv_goto (tgt := 11) hx hb dX6_counting_79 (by decide) ?_
            refine ih_11 (i + 1) (by omega) (by omega)  ls ?_
            rw [show m_cn M t (m_void M t) (i + 1) = (m_cn M t (m_void M t) i) ||| 0 from by first | (simp only [bI, m_cn, c_1, c_2, ↓reduceIte]; done) | (simp [bI, m_cn, c_1, c_2]; done) | (simp_all [bI, m_cn]; done)]
            exact lv_sub hl [0, 1, 3, 4, 5] rfl
          · skip
            exact absurd c_3 (by decide)
        · skip
          refine lv_iload_n hx hb dX6_counting_35 rfl (lv_at hl 2 rfl) ?_
          refine lv_iload hx hb dX6_counting_36 (lv_at hl 0 rfl) ?_
          refine lv_ishr hx hb dX6_counting_38 ?_
          refine lv_iconst (v := 1) hx hb dX6_counting_39 (by decide) ?_
          refine lv_iand hx hb dX6_counting_40 ?_
          refine lv_if_ne (tgt := 57) hx hb dX6_counting_41 (by decide) (fun c_4 => ?_) (fun c_4 => ?_)
          · skip
            refine lv_iconst (v := 0) hx hb dX6_counting_57 (by decide) ?_
            refine lv_istore (lv' := [(5, .int 0), (4, .int (nI i)), (3, .int (m_cn M t (m_void M t) i)), (2, .int (m_void M t)), (0, .ref (am 0)), (1, .int (nI t))]) hx hb dX6_counting_58 hl (by decide) rfl (fun ls hl => ?_)
            refine lv_iload_n hx hb dX6_counting_60 rfl (lv_at hl 2 rfl) ?_
            refine lv_iload hx hb dX6_counting_61 (lv_at hl 0 rfl) ?_
            refine lv_if_eq (tgt := 73) hx hb dX6_counting_63 (by decide) (fun c_5 => ?_) (fun c_5 => ?_)
            · skip
              refine lv_iconst (v := 0) hx hb dX6_counting_73 (by decide) ?_
              refine lv_ior hx hb dX6_counting_74 ?_
              refine lv_istore_n (lv' := [(3, .int ((m_cn M t (m_void M t) i) ||| 0)), (5, .int 0), (4, .int (nI i)), (2, .int (m_void M t)), (0, .ref (am 0)), (1, .int (nI t))]) hx hb dX6_counting_75 rfl hl (by decide) rfl (fun ls hl => ?_)
              refine lv_iinc (v := nI (i + 1)) (lv' := [(4, .int (nI (i + 1))), (3, .int ((m_cn M t (m_void M t) i) ||| 0)), (5, .int 0), (2, .int (m_void M t)), (0, .ref (am 0)), (1, .int (nI t))]) hx hb dX6_counting_76 hl (k := 2) rfl (nI_1 i) (by decide) rfl (fun ls hl => ?_)
              refine lv_goto (tgt := 11) hx hb dX6_counting_79 (by decide) ?_
              refine ih_11 (i + 1) (by omega) (by omega)  ls ?_
              rw [show m_cn M t (m_void M t) (i + 1) = (m_cn M t (m_void M t) i) ||| 0 from by first | (simp only [bI, m_cn, c_1, c_2, c_4, ↓reduceIte]; done) | (simp [bI, m_cn, c_1, c_2, c_4]; done) | (simp_all [bI, m_cn]; done)]
              exact lv_sub hl [0, 1, 3, 4, 5] rfl
            · skip
              exact absurd c_5 (by decide)
          · skip
            refine lv_aload_n hx hb dX6_counting_44 rfl (lv_at hl 3 rfl) ?_
            refine lv_iload hx hb dX6_counting_45 (lv_at hl 0 rfl) ?_
            refine q_rd (q_runV (rest := []) hx hb hml hown hE (c_X6_isOpenToAll l D cI cZ cL am M th i hI (by omega)) ck_X6_isOpenToAll w_879 hP 0 rfl rfl hl.1 rfl ⟨Nat.le_of_ble_eq_true rfl, Nat.le_of_ble_eq_true rfl⟩ (Nat.le_of_ble_eq_true rfl) dX6_counting_47 ⟨Nat.le_of_ble_eq_true rfl, Nat.le_of_ble_eq_true rfl⟩) ?_
            refine lv_if_ne (tgt := 57) hx hb dX6_counting_50 (by decide) (fun c_6 => ?_) (fun c_6 => ?_)
            · skip
              have c_6 : m_free M i = true := b_t c_6
              refine lv_iconst (v := 0) hx hb dX6_counting_57 (by decide) ?_
              refine lv_istore (lv' := [(5, .int 0), (4, .int (nI i)), (3, .int (m_cn M t (m_void M t) i)), (2, .int (m_void M t)), (0, .ref (am 0)), (1, .int (nI t))]) hx hb dX6_counting_58 hl (by decide) rfl (fun ls hl => ?_)
              refine lv_iload_n hx hb dX6_counting_60 rfl (lv_at hl 2 rfl) ?_
              refine lv_iload hx hb dX6_counting_61 (lv_at hl 0 rfl) ?_
              refine lv_if_eq (tgt := 73) hx hb dX6_counting_63 (by decide) (fun c_7 => ?_) (fun c_7 => ?_)
              · skip
                refine lv_iconst (v := 0) hx hb dX6_counting_73 (by decide) ?_
                refine lv_ior hx hb dX6_counting_74 ?_
                refine lv_istore_n (lv' := [(3, .int ((m_cn M t (m_void M t) i) ||| 0)), (5, .int 0), (4, .int (nI i)), (2, .int (m_void M t)), (0, .ref (am 0)), (1, .int (nI t))]) hx hb dX6_counting_75 rfl hl (by decide) rfl (fun ls hl => ?_)
                refine lv_iinc (v := nI (i + 1)) (lv' := [(4, .int (nI (i + 1))), (3, .int ((m_cn M t (m_void M t) i) ||| 0)), (5, .int 0), (2, .int (m_void M t)), (0, .ref (am 0)), (1, .int (nI t))]) hx hb dX6_counting_76 hl (k := 2) rfl (nI_1 i) (by decide) rfl (fun ls hl => ?_)
                refine lv_goto (tgt := 11) hx hb dX6_counting_79 (by decide) ?_
                refine ih_11 (i + 1) (by omega) (by omega)  ls ?_
                rw [show m_cn M t (m_void M t) (i + 1) = (m_cn M t (m_void M t) i) ||| 0 from by first | (simp only [bI, m_cn, c_1, c_2, c_4, c_6, ↓reduceIte]; done) | (simp [bI, m_cn, c_1, c_2, c_4, c_6]; done) | (simp_all [bI, m_cn]; done)]
                exact lv_sub hl [0, 1, 3, 4, 5] rfl
              · skip
                exact absurd c_7 (by decide)
            · skip
              have c_6 : m_free M i = false := b_f c_6
              refine lv_iconst (v := 1) hx hb dX6_counting_53 (by decide) ?_
              refine lv_goto (tgt := 58) hx hb dX6_counting_54 (by decide) ?_
              refine lv_istore (lv' := [(5, .int 1), (4, .int (nI i)), (3, .int (m_cn M t (m_void M t) i)), (2, .int (m_void M t)), (0, .ref (am 0)), (1, .int (nI t))]) hx hb dX6_counting_58 hl (by decide) rfl (fun ls hl => ?_)
              refine lv_iload_n hx hb dX6_counting_60 rfl (lv_at hl 2 rfl) ?_
              refine lv_iload hx hb dX6_counting_61 (lv_at hl 0 rfl) ?_
              refine lv_if_eq (tgt := 73) hx hb dX6_counting_63 (by decide) (fun c_8 => ?_) (fun c_8 => ?_)
              · skip
                exact absurd c_8 (by decide)
              · skip
                refine lv_iconst (v := 1) hx hb dX6_counting_66 (by decide) ?_
                refine lv_iload hx hb dX6_counting_67 (lv_at hl 1 rfl) ?_
                refine lv_ishl hx hb dX6_counting_69 ?_
                refine q_top (y := bt (nI i)) rfl ?_
                refine lv_goto (tgt := 74) hx hb dX6_counting_70 (by decide) ?_
                refine lv_ior hx hb dX6_counting_74 ?_
                refine lv_istore_n (lv' := [(3, .int ((m_cn M t (m_void M t) i) ||| (bt (nI i)))), (5, .int 1), (4, .int (nI i)), (2, .int (m_void M t)), (0, .ref (am 0)), (1, .int (nI t))]) hx hb dX6_counting_75 rfl hl (by decide) rfl (fun ls hl => ?_)
                refine lv_iinc (v := nI (i + 1)) (lv' := [(4, .int (nI (i + 1))), (3, .int ((m_cn M t (m_void M t) i) ||| (bt (nI i)))), (5, .int 1), (2, .int (m_void M t)), (0, .ref (am 0)), (1, .int (nI t))]) hx hb dX6_counting_76 hl (k := 2) rfl (nI_1 i) (by decide) rfl (fun ls hl => ?_)
                refine lv_goto (tgt := 11) hx hb dX6_counting_79 (by decide) ?_
                refine ih_11 (i + 1) (by omega) (by omega)  ls ?_
                rw [show m_cn M t (m_void M t) (i + 1) = (m_cn M t (m_void M t) i) ||| (bt (nI i)) from by first | (simp only [bI, m_cn, c_1, c_2, c_4, c_6, ↓reduceIte]; done) | (simp [bI, m_cn, c_1, c_2, c_4, c_6]; done) | (simp_all [bI, m_cn]; done)]
                exact lv_sub hl [0, 1, 3, 4, 5] rfl
  refine hloop_11 (mR M + 1) 0 (by omega) (by omega)  ls ?_
  rw [show m_cn M t (m_void M t) 0 = 0 from by first | rfl | (first | (simp only [bI, m_cn, ↓reduceIte]; done) | (simp [bI, m_cn]; done) | (simp_all [bI, m_cn]; done))]
  exact lv_sub hl [0, 1, 2, 3, 4] rfl

theorem dX6_scoreOf_0 : decode cX6_scoreOf 0 = .ok (.aload_n 0, 1) := by decide +kernel
theorem dX6_scoreOf_1 : decode cX6_scoreOf 1 = .ok (.iload_n 1, 1) := by decide +kernel
theorem dX6_scoreOf_2 : decode cX6_scoreOf 2 = .ok (.invokevirtual 142, 3) := by decide +kernel
theorem dX6_scoreOf_5 : decode cX6_scoreOf 5 = .ok (.istore_n 2, 1) := by decide +kernel
theorem dX6_scoreOf_6 : decode cX6_scoreOf 6 = .ok (.iconst 0, 1) := by decide +kernel
theorem dX6_scoreOf_7 : decode cX6_scoreOf 7 = .ok (.istore_n 3, 1) := by decide +kernel
theorem dX6_scoreOf_8 : decode cX6_scoreOf 8 = .ok (.iconst 0, 1) := by decide +kernel
theorem dX6_scoreOf_9 : decode cX6_scoreOf 9 = .ok (.istore 4, 2) := by decide +kernel
theorem dX6_scoreOf_11 : decode cX6_scoreOf 11 = .ok (.iload 4, 2) := by decide +kernel
theorem dX6_scoreOf_13 : decode cX6_scoreOf 13 = .ok (.aload_n 0, 1) := by decide +kernel
theorem dX6_scoreOf_14 : decode cX6_scoreOf 14 = .ok (.getfield 63, 3) := by decide +kernel
theorem dX6_scoreOf_17 : decode cX6_scoreOf 17 = .ok (.if_icmp .ge 60, 3) := by decide +kernel
theorem dX6_scoreOf_20 : decode cX6_scoreOf 20 = .ok (.iload_n 3, 1) := by decide +kernel
theorem dX6_scoreOf_21 : decode cX6_scoreOf 21 = .ok (.iload_n 2, 1) := by decide +kernel
theorem dX6_scoreOf_22 : decode cX6_scoreOf 22 = .ok (.iload 4, 2) := by decide +kernel
theorem dX6_scoreOf_24 : decode cX6_scoreOf 24 = .ok (.ishr, 1) := by decide +kernel
theorem dX6_scoreOf_25 : decode cX6_scoreOf 25 = .ok (.iconst 1, 1) := by decide +kernel
theorem dX6_scoreOf_26 : decode cX6_scoreOf 26 = .ok (.iand, 1) := by decide +kernel
theorem dX6_scoreOf_27 : decode cX6_scoreOf 27 = .ok (.iconst 1, 1) := by decide +kernel
theorem dX6_scoreOf_28 : decode cX6_scoreOf 28 = .ok (.if_icmp .ne 13, 3) := by decide +kernel
theorem dX6_scoreOf_31 : decode cX6_scoreOf 31 = .ok (.aload_n 0, 1) := by decide +kernel
theorem dX6_scoreOf_32 : decode cX6_scoreOf 32 = .ok (.getfield 7, 3) := by decide +kernel
theorem dX6_scoreOf_35 : decode cX6_scoreOf 35 = .ok (.iload 4, 2) := by decide +kernel
theorem dX6_scoreOf_37 : decode cX6_scoreOf 37 = .ok (.iaload, 1) := by decide +kernel
theorem dX6_scoreOf_38 : decode cX6_scoreOf 38 = .ok (.goto 4, 3) := by decide +kernel
theorem dX6_scoreOf_41 : decode cX6_scoreOf 41 = .ok (.iconst 0, 1) := by decide +kernel
theorem dX6_scoreOf_42 : decode cX6_scoreOf 42 = .ok (.iadd, 1) := by decide +kernel
theorem dX6_scoreOf_43 : decode cX6_scoreOf 43 = .ok (.istore_n 3, 1) := by decide +kernel
theorem dX6_scoreOf_44 : decode cX6_scoreOf 44 = .ok (.iload_n 3, 1) := by decide +kernel
theorem dX6_scoreOf_45 : decode cX6_scoreOf 45 = .ok (.aload_n 0, 1) := by decide +kernel
theorem dX6_scoreOf_46 : decode cX6_scoreOf 46 = .ok (.iload 4, 2) := by decide +kernel
theorem dX6_scoreOf_48 : decode cX6_scoreOf 48 = .ok (.invokevirtual 105, 3) := by decide +kernel
theorem dX6_scoreOf_51 : decode cX6_scoreOf 51 = .ok (.ifCond .eq 7, 3) := by decide +kernel
theorem dX6_scoreOf_54 : decode cX6_scoreOf 54 = .ok (.iconst 0, 1) := by decide +kernel
theorem dX6_scoreOf_55 : decode cX6_scoreOf 55 = .ok (.goto 14, 3) := by decide +kernel
theorem dX6_scoreOf_58 : decode cX6_scoreOf 58 = .ok (.aload_n 0, 1) := by decide +kernel
theorem dX6_scoreOf_59 : decode cX6_scoreOf 59 = .ok (.getfield 38, 3) := by decide +kernel
theorem dX6_scoreOf_62 : decode cX6_scoreOf 62 = .ok (.iload_n 1, 1) := by decide +kernel
theorem dX6_scoreOf_63 : decode cX6_scoreOf 63 = .ok (.iload 4, 2) := by decide +kernel
theorem dX6_scoreOf_65 : decode cX6_scoreOf 65 = .ok (.invokestatic 87, 3) := by decide +kernel
theorem dX6_scoreOf_68 : decode cX6_scoreOf 68 = .ok (.iaload, 1) := by decide +kernel
theorem dX6_scoreOf_69 : decode cX6_scoreOf 69 = .ok (.isub, 1) := by decide +kernel
theorem dX6_scoreOf_70 : decode cX6_scoreOf 70 = .ok (.istore_n 3, 1) := by decide +kernel
theorem dX6_scoreOf_71 : decode cX6_scoreOf 71 = .ok (.iinc 4 1, 3) := by decide +kernel
theorem dX6_scoreOf_74 : decode cX6_scoreOf 74 = .ok (.goto (-63), 3) := by decide +kernel
theorem dX6_scoreOf_77 : decode cX6_scoreOf 77 = .ok (.iload_n 3, 1) := by decide +kernel
theorem dX6_scoreOf_78 : decode cX6_scoreOf 78 = .ok (.ireturn, 1) := by decide +kernel
set_option maxHeartbeats 4000000 in
set_option maxRecDepth 100000 in
theorem c_X6_scoreOf (l : Launch) (D : va_G) (cI cZ cL : ClassId) (am : Nat → Nat) (M : Mem) (th : Int32) (t : Nat) (hI : J0 M) (ht : t < 8) : RD l D cI cZ cL yX6_scoreOf cX6_scoreOf 5 (some .int) 7 [.ref (am 0), .int (nI t)] (wQ am cI cZ M th) (some (.int (m_score M t))) := by
  refine RD.of (by decide) (Nat.le_of_ble_eq_true rfl) ?_
  intro p e s m args below meth c ls hx hb hr hml hown hlk hE hP hl
  have hl : lv_has ls 5 [(0, .ref (am 0)), (1, .int (nI t))] := hl
  have hT8 := hI.T8
  have hR16 := hI.R16
  have hN200 := hI.N200
  refine lv_aload_n hx hb dX6_scoreOf_0 rfl (lv_at hl 0 rfl) ?_
  refine lv_iload_n hx hb dX6_scoreOf_1 rfl (lv_at hl 1 rfl) ?_
  refine q_rd (q_runV (rest := []) hx hb hml hown hE (c_X6_counting l D cI cZ cL am M th t hI (by omega)) ck_X6_counting w_995 hP 0 rfl rfl hl.1 rfl ⟨Nat.le_of_ble_eq_true rfl, Nat.le_of_ble_eq_true rfl⟩ (Nat.le_of_ble_eq_true rfl) dX6_scoreOf_2 ⟨Nat.le_of_ble_eq_true rfl, Nat.le_of_ble_eq_true rfl⟩) ?_
  refine lv_istore_n (lv' := [(2, .int (m_cnt M t)), (0, .ref (am 0)), (1, .int (nI t))]) hx hb dX6_scoreOf_5 rfl hl (by decide) rfl (fun ls hl => ?_)
  refine lv_iconst (v := 0) hx hb dX6_scoreOf_6 (by decide) ?_
  refine lv_istore_n (lv' := [(3, .int 0), (2, .int (m_cnt M t)), (0, .ref (am 0)), (1, .int (nI t))]) hx hb dX6_scoreOf_7 rfl hl (by decide) rfl (fun ls hl => ?_)
  refine lv_iconst (v := 0) hx hb dX6_scoreOf_8 (by decide) ?_
  refine lv_istore (lv' := [(4, .int 0), (3, .int 0), (2, .int (m_cnt M t)), (0, .ref (am 0)), (1, .int (nI t))]) hx hb dX6_scoreOf_9 hl (by decide) rfl (fun ls hl => ?_)
  have hloop_11 : ∀ (n i : Nat), i ≤ mR M → mR M < i + n → ∀ ls : Array Slot, lv_has ls 5 [(4, .int (nI i)), (3, .int (m_sc M t (m_cnt M t) i)), (2, .int (m_cnt M t)), (0, .ref (am 0)), (1, .int (nI t))] → W p l e (rm 7 0 0) s m args below meth c s.heap [] 0 0 (MQ below (Qrd (some (.int (m_score M t)))) args s 0 0 q_no) (F0 m 11 ls []) := by
    intro n
    induction n with
    | zero => intro i h1 h2; exact absurd h2 (by omega)
    | succ n ih_11 =>
      intro i hi_11 hin_11  ls hl
      refine lv_iload hx hb dX6_scoreOf_11 (lv_at hl 0 rfl) ?_
      refine lv_aload_n hx hb dX6_scoreOf_13 rfl (lv_at hl 3 rfl) ?_
      refine q_get (v := .int (M 0 2)) hx hb hown hE inT_X6 hP 0 rfl rfl 2 (by decide) w_760 rfl dX6_scoreOf_14 ?_
      refine q_top (y := nI (mR M)) (J0.R hI) ?_
      refine lv_icmp_ge (tgt := 77) hx hb dX6_scoreOf_17 (by decide) (fun c_1 => ?_) (fun c_1 => ?_)
      · skip
        have c_1 : (mR M) ≤ i := n_le (a := mR M) (b := i) (by omega) (by omega) c_1
        have hend_11 : mR M = i := by omega
        subst hend_11
        refine lv_iload_n hx hb dX6_scoreOf_77 rfl (lv_at hl 1 rfl) ?_
        refine q_top (y := m_score M t) (by rfl) ?_
        exact e_ret hx hb hr hlk rfl dX6_scoreOf_78
      · skip
        have c_1 : i < (mR M) := n_nle (a := mR M) (b := i) (by omega) (by omega) c_1
        refine lv_iload_n hx hb dX6_scoreOf_20 rfl (lv_at hl 1 rfl) ?_
        refine lv_iload_n hx hb dX6_scoreOf_21 rfl (lv_at hl 2 rfl) ?_
        refine lv_iload hx hb dX6_scoreOf_22 (lv_at hl 0 rfl) ?_
        refine lv_ishr hx hb dX6_scoreOf_24 ?_
        refine lv_iconst (v := 1) hx hb dX6_scoreOf_25 (by decide) ?_
        refine lv_iand hx hb dX6_scoreOf_26 ?_
        refine lv_iconst (v := 1) hx hb dX6_scoreOf_27 (by decide) ?_
        refine lv_icmp_ne (tgt := 41) hx hb dX6_scoreOf_28 (by decide) (fun c_2 => ?_) (fun c_2 => ?_)
        · skip
          refine lv_iconst (v := 0) hx hb dX6_scoreOf_41 (by decide) ?_
          refine lv_iadd hx hb dX6_scoreOf_42 ?_
          refine lv_istore_n (lv' := [(3, .int ((m_sc M t (m_cnt M t) i) + 0)), (4, .int (nI i)), (2, .int (m_cnt M t)), (0, .ref (am 0)), (1, .int (nI t))]) hx hb dX6_scoreOf_43 rfl hl (by decide) rfl (fun ls hl => ?_)
          refine lv_iload_n hx hb dX6_scoreOf_44 rfl (lv_at hl 0 rfl) ?_
          refine lv_aload_n hx hb dX6_scoreOf_45 rfl (lv_at hl 3 rfl) ?_
          refine lv_iload hx hb dX6_scoreOf_46 (lv_at hl 1 rfl) ?_
          refine q_rd (q_runV (rest := [.int ((m_sc M t (m_cnt M t) i) + 0)]) hx hb hml hown hE (c_X6_isOpenToAll l D cI cZ cL am M th i hI (by omega)) ck_X6_isOpenToAll w_879 hP 0 rfl rfl hl.1 rfl ⟨Nat.le_of_ble_eq_true rfl, Nat.le_of_ble_eq_true rfl⟩ (Nat.le_of_ble_eq_true rfl) dX6_scoreOf_48 ⟨Nat.le_of_ble_eq_true rfl, Nat.le_of_ble_eq_true rfl⟩) ?_
          refine lv_if_eq (tgt := 58) hx hb dX6_scoreOf_51 (by decide) (fun c_3 => ?_) (fun c_3 => ?_)
          · skip
            have c_3 : m_free M i = false := b_f c_3
            refine lv_aload_n hx hb dX6_scoreOf_58 rfl (lv_at hl 3 rfl) ?_
            refine q_get (v := .ref (am 10)) hx hb hown hE inT_X6 hP 0 rfl rfl 13 (by decide) w_771 rfl dX6_scoreOf_59 ?_
            refine lv_iload_n hx hb dX6_scoreOf_62 rfl (lv_at hl 4 rfl) ?_
            refine lv_iload hx hb dX6_scoreOf_63 (lv_at hl 1 rfl) ?_
            refine q_rd (q_runS (rest := [.ref (am 10), .int ((m_sc M t (m_cnt M t) i) + 0)]) hx hb hml hown hE (c_X6_at l D cI cZ cL _ t i) ck_X6_at w_865 hP hl.1 rfl ⟨Nat.le_of_ble_eq_true rfl, Nat.le_of_ble_eq_true rfl⟩ (Nat.le_of_ble_eq_true rfl) dX6_scoreOf_65 ⟨Nat.le_of_ble_eq_true rfl, Nat.le_of_ble_eq_true rfl⟩) ?_
            refine q_iald (f := M 10) (i := (16 * t + i)) hx hb hE hP 10 rfl (by omega) (Nat.le_of_ble_eq_true rfl) dX6_scoreOf_68 ?_
            refine lv_isub hx hb dX6_scoreOf_69 ?_
            refine lv_istore_n (lv' := [(3, .int (((m_sc M t (m_cnt M t) i) + 0) - (M 10 (16 * t + i)))), (4, .int (nI i)), (2, .int (m_cnt M t)), (0, .ref (am 0)), (1, .int (nI t))]) hx hb dX6_scoreOf_70 rfl hl (by decide) rfl (fun ls hl => ?_)
            refine lv_iinc (v := nI (i + 1)) (lv' := [(4, .int (nI (i + 1))), (3, .int (((m_sc M t (m_cnt M t) i) + 0) - (M 10 (16 * t + i)))), (2, .int (m_cnt M t)), (0, .ref (am 0)), (1, .int (nI t))]) hx hb dX6_scoreOf_71 hl (k := 1) rfl (nI_1 i) (by decide) rfl (fun ls hl => ?_)
            refine lv_goto (tgt := 11) hx hb dX6_scoreOf_74 (by decide) ?_
            refine ih_11 (i + 1) (by omega) (by omega)  ls ?_
            rw [show m_sc M t (m_cnt M t) (i + 1) = ((m_sc M t (m_cnt M t) i) + 0) - (M 10 (16 * t + i)) from by first | (simp only [bI, m_sc, c_1, c_2, c_3, ↓reduceIte]; done) | (simp [bI, m_sc, c_1, c_2, c_3]; done) | (simp_all [bI, m_sc]; done)]
            exact lv_sub hl [0, 1, 2, 3, 4] rfl
          · skip
            have c_3 : m_free M i = true := b_t c_3
            refine lv_iconst (v := 0) hx hb dX6_scoreOf_54 (by decide) ?_
            refine lv_goto (tgt := 69) hx hb dX6_scoreOf_55 (by decide) ?_
            refine lv_isub hx hb dX6_scoreOf_69 ?_
            refine lv_istore_n (lv' := [(3, .int (((m_sc M t (m_cnt M t) i) + 0) - 0)), (4, .int (nI i)), (2, .int (m_cnt M t)), (0, .ref (am 0)), (1, .int (nI t))]) hx hb dX6_scoreOf_70 rfl hl (by decide) rfl (fun ls hl => ?_)
            refine lv_iinc (v := nI (i + 1)) (lv' := [(4, .int (nI (i + 1))), (3, .int (((m_sc M t (m_cnt M t) i) + 0) - 0)), (2, .int (m_cnt M t)), (0, .ref (am 0)), (1, .int (nI t))]) hx hb dX6_scoreOf_71 hl (k := 1) rfl (nI_1 i) (by decide) rfl (fun ls hl => ?_)
            refine lv_goto (tgt := 11) hx hb dX6_scoreOf_74 (by decide) ?_
            refine ih_11 (i + 1) (by omega) (by omega)  ls ?_
            rw [show m_sc M t (m_cnt M t) (i + 1) = ((m_sc M t (m_cnt M t) i) + 0) - 0 from by first | (simp only [bI, m_sc, c_1, c_2, c_3, ↓reduceIte]; done) | (simp [bI, m_sc, c_1, c_2, c_3]; done) | (simp_all [bI, m_sc]; done)]
            exact lv_sub hl [0, 1, 2, 3, 4] rfl
        · skip
          refine lv_aload_n hx hb dX6_scoreOf_31 rfl (lv_at hl 3 rfl) ?_
          refine q_get (v := .ref (am 1)) hx hb hown hE inT_X6 hP 0 rfl rfl 3 (by decide) w_761 rfl dX6_scoreOf_32 ?_
          refine lv_iload hx hb dX6_scoreOf_35 (lv_at hl 0 rfl) ?_
          refine q_iald (f := M 1) (i := i) hx hb hE hP 1 rfl (by omega) (Nat.le_of_ble_eq_true rfl) dX6_scoreOf_37 ?_
          refine lv_goto (tgt := 42) hx hb dX6_scoreOf_38 (by decide) ?_
          refine lv_iadd hx hb dX6_scoreOf_42 ?_
          refine lv_istore_n (lv' := [(3, .int ((m_sc M t (m_cnt M t) i) + (M 1 i))), (4, .int (nI i)), (2, .int (m_cnt M t)), (0, .ref (am 0)), (1, .int (nI t))]) hx hb dX6_scoreOf_43 rfl hl (by decide) rfl (fun ls hl => ?_)
          refine lv_iload_n hx hb dX6_scoreOf_44 rfl (lv_at hl 0 rfl) ?_
          refine lv_aload_n hx hb dX6_scoreOf_45 rfl (lv_at hl 3 rfl) ?_
          refine lv_iload hx hb dX6_scoreOf_46 (lv_at hl 1 rfl) ?_
          refine q_rd (q_runV (rest := [.int ((m_sc M t (m_cnt M t) i) + (M 1 i))]) hx hb hml hown hE (c_X6_isOpenToAll l D cI cZ cL am M th i hI (by omega)) ck_X6_isOpenToAll w_879 hP 0 rfl rfl hl.1 rfl ⟨Nat.le_of_ble_eq_true rfl, Nat.le_of_ble_eq_true rfl⟩ (Nat.le_of_ble_eq_true rfl) dX6_scoreOf_48 ⟨Nat.le_of_ble_eq_true rfl, Nat.le_of_ble_eq_true rfl⟩) ?_
          refine lv_if_eq (tgt := 58) hx hb dX6_scoreOf_51 (by decide) (fun c_4 => ?_) (fun c_4 => ?_)
          · skip
            have c_4 : m_free M i = false := b_f c_4
            refine lv_aload_n hx hb dX6_scoreOf_58 rfl (lv_at hl 3 rfl) ?_
            refine q_get (v := .ref (am 10)) hx hb hown hE inT_X6 hP 0 rfl rfl 13 (by decide) w_771 rfl dX6_scoreOf_59 ?_
            refine lv_iload_n hx hb dX6_scoreOf_62 rfl (lv_at hl 4 rfl) ?_
            refine lv_iload hx hb dX6_scoreOf_63 (lv_at hl 1 rfl) ?_
            refine q_rd (q_runS (rest := [.ref (am 10), .int ((m_sc M t (m_cnt M t) i) + (M 1 i))]) hx hb hml hown hE (c_X6_at l D cI cZ cL _ t i) ck_X6_at w_865 hP hl.1 rfl ⟨Nat.le_of_ble_eq_true rfl, Nat.le_of_ble_eq_true rfl⟩ (Nat.le_of_ble_eq_true rfl) dX6_scoreOf_65 ⟨Nat.le_of_ble_eq_true rfl, Nat.le_of_ble_eq_true rfl⟩) ?_
            refine q_iald (f := M 10) (i := (16 * t + i)) hx hb hE hP 10 rfl (by omega) (Nat.le_of_ble_eq_true rfl) dX6_scoreOf_68 ?_
            refine lv_isub hx hb dX6_scoreOf_69 ?_
            refine lv_istore_n (lv' := [(3, .int (((m_sc M t (m_cnt M t) i) + (M 1 i)) - (M 10 (16 * t + i)))), (4, .int (nI i)), (2, .int (m_cnt M t)), (0, .ref (am 0)), (1, .int (nI t))]) hx hb dX6_scoreOf_70 rfl hl (by decide) rfl (fun ls hl => ?_)
            refine lv_iinc (v := nI (i + 1)) (lv' := [(4, .int (nI (i + 1))), (3, .int (((m_sc M t (m_cnt M t) i) + (M 1 i)) - (M 10 (16 * t + i)))), (2, .int (m_cnt M t)), (0, .ref (am 0)), (1, .int (nI t))]) hx hb dX6_scoreOf_71 hl (k := 1) rfl (nI_1 i) (by decide) rfl (fun ls hl => ?_)
            refine lv_goto (tgt := 11) hx hb dX6_scoreOf_74 (by decide) ?_
            refine ih_11 (i + 1) (by omega) (by omega)  ls ?_
            rw [show m_sc M t (m_cnt M t) (i + 1) = ((m_sc M t (m_cnt M t) i) + (M 1 i)) - (M 10 (16 * t + i)) from by first | (simp only [bI, m_sc, c_1, c_2, c_4, ↓reduceIte]; done) | (simp [bI, m_sc, c_1, c_2, c_4]; done) | (simp_all [bI, m_sc]; done)]
            exact lv_sub hl [0, 1, 2, 3, 4] rfl
          · skip
            have c_4 : m_free M i = true := b_t c_4
            refine lv_iconst (v := 0) hx hb dX6_scoreOf_54 (by decide) ?_
            refine lv_goto (tgt := 69) hx hb dX6_scoreOf_55 (by decide) ?_
            refine lv_isub hx hb dX6_scoreOf_69 ?_
            refine lv_istore_n (lv' := [(3, .int (((m_sc M t (m_cnt M t) i) + (M 1 i)) - 0)), (4, .int (nI i)), (2, .int (m_cnt M t)), (0, .ref (am 0)), (1, .int (nI t))]) hx hb dX6_scoreOf_70 rfl hl (by decide) rfl (fun ls hl => ?_)
            refine lv_iinc (v := nI (i + 1)) (lv' := [(4, .int (nI (i + 1))), (3, .int (((m_sc M t (m_cnt M t) i) + (M 1 i)) - 0)), (2, .int (m_cnt M t)), (0, .ref (am 0)), (1, .int (nI t))]) hx hb dX6_scoreOf_71 hl (k := 1) rfl (nI_1 i) (by decide) rfl (fun ls hl => ?_)
            refine lv_goto (tgt := 11) hx hb dX6_scoreOf_74 (by decide) ?_
            refine ih_11 (i + 1) (by omega) (by omega)  ls ?_
            rw [show m_sc M t (m_cnt M t) (i + 1) = ((m_sc M t (m_cnt M t) i) + (M 1 i)) - 0 from by first | (simp only [bI, m_sc, c_1, c_2, c_4, ↓reduceIte]; done) | (simp [bI, m_sc, c_1, c_2, c_4]; done) | (simp_all [bI, m_sc]; done)]
            exact lv_sub hl [0, 1, 2, 3, 4] rfl
  refine hloop_11 (mR M + 1) 0 (by omega) (by omega)  ls ?_
  rw [show m_sc M t (m_cnt M t) 0 = 0 from by first | rfl | (first | (simp only [bI, m_sc, ↓reduceIte]; done) | (simp [bI, m_sc]; done) | (simp_all [bI, m_sc]; done))]
  exact lv_sub hl [0, 1, 2, 3, 4] rfl

theorem dX6_lastOf_0 : decode cX6_lastOf 0 = .ok (.aload_n 0, 1) := by decide +kernel
theorem dX6_lastOf_1 : decode cX6_lastOf 1 = .ok (.iload_n 1, 1) := by decide +kernel
theorem dX6_lastOf_2 : decode cX6_lastOf 2 = .ok (.invokevirtual 142, 3) := by decide +kernel
theorem dX6_lastOf_5 : decode cX6_lastOf 5 = .ok (.istore_n 2, 1) := by decide +kernel
theorem dX6_lastOf_6 : decode cX6_lastOf 6 = .ok (.iconst 0, 1) := by decide +kernel
theorem dX6_lastOf_7 : decode cX6_lastOf 7 = .ok (.istore_n 3, 1) := by decide +kernel
theorem dX6_lastOf_8 : decode cX6_lastOf 8 = .ok (.iconst 0, 1) := by decide +kernel
theorem dX6_lastOf_9 : decode cX6_lastOf 9 = .ok (.istore 4, 2) := by decide +kernel
theorem dX6_lastOf_11 : decode cX6_lastOf 11 = .ok (.iload 4, 2) := by decide +kernel
theorem dX6_lastOf_13 : decode cX6_lastOf 13 = .ok (.aload_n 0, 1) := by decide +kernel
theorem dX6_lastOf_14 : decode cX6_lastOf 14 = .ok (.getfield 63, 3) := by decide +kernel
theorem dX6_lastOf_17 : decode cX6_lastOf 17 = .ok (.if_icmp .ge 62, 3) := by decide +kernel
theorem dX6_lastOf_20 : decode cX6_lastOf 20 = .ok (.iload_n 2, 1) := by decide +kernel
theorem dX6_lastOf_21 : decode cX6_lastOf 21 = .ok (.iload 4, 2) := by decide +kernel
theorem dX6_lastOf_23 : decode cX6_lastOf 23 = .ok (.ishr, 1) := by decide +kernel
theorem dX6_lastOf_24 : decode cX6_lastOf 24 = .ok (.iconst 1, 1) := by decide +kernel
theorem dX6_lastOf_25 : decode cX6_lastOf 25 = .ok (.iand, 1) := by decide +kernel
theorem dX6_lastOf_26 : decode cX6_lastOf 26 = .ok (.iconst 1, 1) := by decide +kernel
theorem dX6_lastOf_27 : decode cX6_lastOf 27 = .ok (.if_icmp .ne 22, 3) := by decide +kernel
theorem dX6_lastOf_30 : decode cX6_lastOf 30 = .ok (.aload_n 0, 1) := by decide +kernel
theorem dX6_lastOf_31 : decode cX6_lastOf 31 = .ok (.getfield 25, 3) := by decide +kernel
theorem dX6_lastOf_34 : decode cX6_lastOf 34 = .ok (.iload_n 1, 1) := by decide +kernel
theorem dX6_lastOf_35 : decode cX6_lastOf 35 = .ok (.iload 4, 2) := by decide +kernel
theorem dX6_lastOf_37 : decode cX6_lastOf 37 = .ok (.invokestatic 87, 3) := by decide +kernel
theorem dX6_lastOf_40 : decode cX6_lastOf 40 = .ok (.iaload, 1) := by decide +kernel
theorem dX6_lastOf_41 : decode cX6_lastOf 41 = .ok (.iload_n 3, 1) := by decide +kernel
theorem dX6_lastOf_42 : decode cX6_lastOf 42 = .ok (.if_icmp .le 7, 3) := by decide +kernel
theorem dX6_lastOf_45 : decode cX6_lastOf 45 = .ok (.iconst 1, 1) := by decide +kernel
theorem dX6_lastOf_46 : decode cX6_lastOf 46 = .ok (.goto 4, 3) := by decide +kernel
theorem dX6_lastOf_49 : decode cX6_lastOf 49 = .ok (.iconst 0, 1) := by decide +kernel
theorem dX6_lastOf_50 : decode cX6_lastOf 50 = .ok (.istore 5, 2) := by decide +kernel
theorem dX6_lastOf_52 : decode cX6_lastOf 52 = .ok (.iload 5, 2) := by decide +kernel
theorem dX6_lastOf_54 : decode cX6_lastOf 54 = .ok (.ifCond .eq 17, 3) := by decide +kernel
theorem dX6_lastOf_57 : decode cX6_lastOf 57 = .ok (.aload_n 0, 1) := by decide +kernel
theorem dX6_lastOf_58 : decode cX6_lastOf 58 = .ok (.getfield 25, 3) := by decide +kernel
theorem dX6_lastOf_61 : decode cX6_lastOf 61 = .ok (.iload_n 1, 1) := by decide +kernel
theorem dX6_lastOf_62 : decode cX6_lastOf 62 = .ok (.iload 4, 2) := by decide +kernel
theorem dX6_lastOf_64 : decode cX6_lastOf 64 = .ok (.invokestatic 87, 3) := by decide +kernel
theorem dX6_lastOf_67 : decode cX6_lastOf 67 = .ok (.iaload, 1) := by decide +kernel
theorem dX6_lastOf_68 : decode cX6_lastOf 68 = .ok (.goto 4, 3) := by decide +kernel
theorem dX6_lastOf_71 : decode cX6_lastOf 71 = .ok (.iload_n 3, 1) := by decide +kernel
theorem dX6_lastOf_72 : decode cX6_lastOf 72 = .ok (.istore_n 3, 1) := by decide +kernel
theorem dX6_lastOf_73 : decode cX6_lastOf 73 = .ok (.iinc 4 1, 3) := by decide +kernel
theorem dX6_lastOf_76 : decode cX6_lastOf 76 = .ok (.goto (-65), 3) := by decide +kernel
theorem dX6_lastOf_79 : decode cX6_lastOf 79 = .ok (.iload_n 3, 1) := by decide +kernel
theorem dX6_lastOf_80 : decode cX6_lastOf 80 = .ok (.ireturn, 1) := by decide +kernel
set_option maxHeartbeats 4000000 in
set_option maxRecDepth 100000 in
theorem c_X6_lastOf (l : Launch) (D : va_G) (cI cZ cL : ClassId) (am : Nat → Nat) (M : Mem) (th : Int32) (t : Nat) (hI : J0 M) (ht : t < 8) : RD l D cI cZ cL yX6_lastOf cX6_lastOf 6 (some .int) 7 [.ref (am 0), .int (nI t)] (wQ am cI cZ M th) (some (.int (m_last M t))) := by
  refine RD.of (by decide) (Nat.le_of_ble_eq_true rfl) ?_
  intro p e s m args below meth c ls hx hb hr hml hown hlk hE hP hl
  have hl : lv_has ls 6 [(0, .ref (am 0)), (1, .int (nI t))] := hl
  have hT8 := hI.T8
  have hR16 := hI.R16
  have hN200 := hI.N200
  refine lv_aload_n hx hb dX6_lastOf_0 rfl (lv_at hl 0 rfl) ?_
  refine lv_iload_n hx hb dX6_lastOf_1 rfl (lv_at hl 1 rfl) ?_
  refine q_rd (q_runV (rest := []) hx hb hml hown hE (c_X6_counting l D cI cZ cL am M th t hI (by omega)) ck_X6_counting w_995 hP 0 rfl rfl hl.1 rfl ⟨Nat.le_of_ble_eq_true rfl, Nat.le_of_ble_eq_true rfl⟩ (Nat.le_of_ble_eq_true rfl) dX6_lastOf_2 ⟨Nat.le_of_ble_eq_true rfl, Nat.le_of_ble_eq_true rfl⟩) ?_
  refine lv_istore_n (lv' := [(2, .int (m_cnt M t)), (0, .ref (am 0)), (1, .int (nI t))]) hx hb dX6_lastOf_5 rfl hl (by decide) rfl (fun ls hl => ?_)
  refine lv_iconst (v := 0) hx hb dX6_lastOf_6 (by decide) ?_
  refine lv_istore_n (lv' := [(3, .int 0), (2, .int (m_cnt M t)), (0, .ref (am 0)), (1, .int (nI t))]) hx hb dX6_lastOf_7 rfl hl (by decide) rfl (fun ls hl => ?_)
  refine lv_iconst (v := 0) hx hb dX6_lastOf_8 (by decide) ?_
  refine lv_istore (lv' := [(4, .int 0), (3, .int 0), (2, .int (m_cnt M t)), (0, .ref (am 0)), (1, .int (nI t))]) hx hb dX6_lastOf_9 hl (by decide) rfl (fun ls hl => ?_)
  have hloop_11 : ∀ (n i : Nat), i ≤ mR M → mR M < i + n → ∀ ls : Array Slot, lv_has ls 6 [(4, .int (nI i)), (3, .int (m_la M t (m_cnt M t) i)), (2, .int (m_cnt M t)), (0, .ref (am 0)), (1, .int (nI t))] → W p l e (rm 7 0 0) s m args below meth c s.heap [] 0 0 (MQ below (Qrd (some (.int (m_last M t)))) args s 0 0 q_no) (F0 m 11 ls []) := by
    intro n
    induction n with
    | zero => intro i h1 h2; exact absurd h2 (by omega)
    | succ n ih_11 =>
      intro i hi_11 hin_11  ls hl
      refine lv_iload hx hb dX6_lastOf_11 (lv_at hl 0 rfl) ?_
      refine lv_aload_n hx hb dX6_lastOf_13 rfl (lv_at hl 3 rfl) ?_
      refine q_get (v := .int (M 0 2)) hx hb hown hE inT_X6 hP 0 rfl rfl 2 (by decide) w_760 rfl dX6_lastOf_14 ?_
      refine q_top (y := nI (mR M)) (J0.R hI) ?_
      refine lv_icmp_ge (tgt := 79) hx hb dX6_lastOf_17 (by decide) (fun c_1 => ?_) (fun c_1 => ?_)
      · skip
        have c_1 : (mR M) ≤ i := n_le (a := mR M) (b := i) (by omega) (by omega) c_1
        have hend_11 : mR M = i := by omega
        subst hend_11
        refine lv_iload_n hx hb dX6_lastOf_79 rfl (lv_at hl 1 rfl) ?_
        refine q_top (y := m_last M t) (by rfl) ?_
        exact e_ret hx hb hr hlk rfl dX6_lastOf_80
      · skip
        have c_1 : i < (mR M) := n_nle (a := mR M) (b := i) (by omega) (by omega) c_1
        refine lv_iload_n hx hb dX6_lastOf_20 rfl (lv_at hl 2 rfl) ?_
        refine lv_iload hx hb dX6_lastOf_21 (lv_at hl 0 rfl) ?_
        refine lv_ishr hx hb dX6_lastOf_23 ?_
        refine lv_iconst (v := 1) hx hb dX6_lastOf_24 (by decide) ?_
        refine lv_iand hx hb dX6_lastOf_25 ?_
        refine lv_iconst (v := 1) hx hb dX6_lastOf_26 (by decide) ?_
        refine lv_icmp_ne (tgt := 49) hx hb dX6_lastOf_27 (by decide) (fun c_2 => ?_) (fun c_2 => ?_)
        · skip
          refine lv_iconst (v := 0) hx hb dX6_lastOf_49 (by decide) ?_
          refine lv_istore (lv' := [(5, .int 0), (4, .int (nI i)), (3, .int (m_la M t (m_cnt M t) i)), (2, .int (m_cnt M t)), (0, .ref (am 0)), (1, .int (nI t))]) hx hb dX6_lastOf_50 hl (by decide) rfl (fun ls hl => ?_)
          refine lv_iload hx hb dX6_lastOf_52 (lv_at hl 0 rfl) ?_
          refine lv_if_eq (tgt := 71) hx hb dX6_lastOf_54 (by decide) (fun c_3 => ?_) (fun c_3 => ?_)
          · skip
            refine lv_iload_n hx hb dX6_lastOf_71 rfl (lv_at hl 2 rfl) ?_
            refine lv_istore_n (lv' := [(3, .int (m_la M t (m_cnt M t) i)), (5, .int 0), (4, .int (nI i)), (2, .int (m_cnt M t)), (0, .ref (am 0)), (1, .int (nI t))]) hx hb dX6_lastOf_72 rfl hl (by decide) rfl (fun ls hl => ?_)
            refine lv_iinc (v := nI (i + 1)) (lv' := [(4, .int (nI (i + 1))), (3, .int (m_la M t (m_cnt M t) i)), (5, .int 0), (2, .int (m_cnt M t)), (0, .ref (am 0)), (1, .int (nI t))]) hx hb dX6_lastOf_73 hl (k := 2) rfl (nI_1 i) (by decide) rfl (fun ls hl => ?_)
            refine lv_goto (tgt := 11) hx hb dX6_lastOf_76 (by decide) ?_
            refine ih_11 (i + 1) (by omega) (by omega)  ls ?_
            rw [show m_la M t (m_cnt M t) (i + 1) = m_la M t (m_cnt M t) i from by first | (simp only [bI, m_la, c_1, c_2, ↓reduceIte]; done) | (simp [bI, m_la, c_1, c_2]; done) | (simp_all [bI, m_la]; done)]
            exact lv_sub hl [0, 1, 3, 4, 5] rfl
          · skip
            exact absurd c_3 (by decide)
        · skip
          refine lv_aload_n hx hb dX6_lastOf_30 rfl (lv_at hl 3 rfl) ?_
          refine q_get (v := .ref (am 6)) hx hb hown hE inT_X6 hP 0 rfl rfl 9 (by decide) w_767 rfl dX6_lastOf_31 ?_
          refine lv_iload_n hx hb dX6_lastOf_34 rfl (lv_at hl 4 rfl) ?_
          refine lv_iload hx hb dX6_lastOf_35 (lv_at hl 0 rfl) ?_
          refine q_rd (q_runS (rest := [.ref (am 6)]) hx hb hml hown hE (c_X6_at l D cI cZ cL _ t i) ck_X6_at w_865 hP hl.1 rfl ⟨Nat.le_of_ble_eq_true rfl, Nat.le_of_ble_eq_true rfl⟩ (Nat.le_of_ble_eq_true rfl) dX6_lastOf_37 ⟨Nat.le_of_ble_eq_true rfl, Nat.le_of_ble_eq_true rfl⟩) ?_
          refine q_iald (f := M 6) (i := (16 * t + i)) hx hb hE hP 6 rfl (by omega) (Nat.le_of_ble_eq_true rfl) dX6_lastOf_40 ?_
          refine lv_iload_n hx hb dX6_lastOf_41 rfl (lv_at hl 1 rfl) ?_
          refine lv_icmp_le (tgt := 49) hx hb dX6_lastOf_42 (by decide) (fun c_4 => ?_) (fun c_4 => ?_)
          · skip
            have g_4 : ¬ (m_la M t (m_cnt M t) i) < (M 6 (16 * t + i)) := Int32.not_lt.mpr c_4
            refine lv_iconst (v := 0) hx hb dX6_lastOf_49 (by decide) ?_
            refine lv_istore (lv' := [(5, .int 0), (4, .int (nI i)), (3, .int (m_la M t (m_cnt M t) i)), (2, .int (m_cnt M t)), (0, .ref (am 0)), (1, .int (nI t))]) hx hb dX6_lastOf_50 hl (by decide) rfl (fun ls hl => ?_)
            refine lv_iload hx hb dX6_lastOf_52 (lv_at hl 0 rfl) ?_
            refine lv_if_eq (tgt := 71) hx hb dX6_lastOf_54 (by decide) (fun c_5 => ?_) (fun c_5 => ?_)
            · skip
              refine lv_iload_n hx hb dX6_lastOf_71 rfl (lv_at hl 2 rfl) ?_
              refine lv_istore_n (lv' := [(3, .int (m_la M t (m_cnt M t) i)), (5, .int 0), (4, .int (nI i)), (2, .int (m_cnt M t)), (0, .ref (am 0)), (1, .int (nI t))]) hx hb dX6_lastOf_72 rfl hl (by decide) rfl (fun ls hl => ?_)
              refine lv_iinc (v := nI (i + 1)) (lv' := [(4, .int (nI (i + 1))), (3, .int (m_la M t (m_cnt M t) i)), (5, .int 0), (2, .int (m_cnt M t)), (0, .ref (am 0)), (1, .int (nI t))]) hx hb dX6_lastOf_73 hl (k := 2) rfl (nI_1 i) (by decide) rfl (fun ls hl => ?_)
              refine lv_goto (tgt := 11) hx hb dX6_lastOf_76 (by decide) ?_
              refine ih_11 (i + 1) (by omega) (by omega)  ls ?_
              rw [show m_la M t (m_cnt M t) (i + 1) = m_la M t (m_cnt M t) i from by first | (simp only [bI, m_la, c_1, c_2, c_4, g_4, ↓reduceIte]; done) | (simp [bI, m_la, c_1, c_2, c_4, g_4]; done) | (simp_all [bI, m_la]; done)]
              exact lv_sub hl [0, 1, 3, 4, 5] rfl
            · skip
              exact absurd c_5 (by decide)
          · skip
            have g_4 : (m_la M t (m_cnt M t) i) < (M 6 (16 * t + i)) := Int32.not_le.mp c_4
            refine lv_iconst (v := 1) hx hb dX6_lastOf_45 (by decide) ?_
            refine lv_goto (tgt := 50) hx hb dX6_lastOf_46 (by decide) ?_
            refine lv_istore (lv' := [(5, .int 1), (4, .int (nI i)), (3, .int (m_la M t (m_cnt M t) i)), (2, .int (m_cnt M t)), (0, .ref (am 0)), (1, .int (nI t))]) hx hb dX6_lastOf_50 hl (by decide) rfl (fun ls hl => ?_)
            refine lv_iload hx hb dX6_lastOf_52 (lv_at hl 0 rfl) ?_
            refine lv_if_eq (tgt := 71) hx hb dX6_lastOf_54 (by decide) (fun c_6 => ?_) (fun c_6 => ?_)
            · skip
              exact absurd c_6 (by decide)
            · skip
              refine lv_aload_n hx hb dX6_lastOf_57 rfl (lv_at hl 4 rfl) ?_
              refine q_get (v := .ref (am 6)) hx hb hown hE inT_X6 hP 0 rfl rfl 9 (by decide) w_767 rfl dX6_lastOf_58 ?_
              refine lv_iload_n hx hb dX6_lastOf_61 rfl (lv_at hl 5 rfl) ?_
              refine lv_iload hx hb dX6_lastOf_62 (lv_at hl 1 rfl) ?_
              refine q_rd (q_runS (rest := [.ref (am 6)]) hx hb hml hown hE (c_X6_at l D cI cZ cL _ t i) ck_X6_at w_865 hP hl.1 rfl ⟨Nat.le_of_ble_eq_true rfl, Nat.le_of_ble_eq_true rfl⟩ (Nat.le_of_ble_eq_true rfl) dX6_lastOf_64 ⟨Nat.le_of_ble_eq_true rfl, Nat.le_of_ble_eq_true rfl⟩) ?_
              refine q_iald (f := M 6) (i := (16 * t + i)) hx hb hE hP 6 rfl (by omega) (Nat.le_of_ble_eq_true rfl) dX6_lastOf_67 ?_
              refine lv_goto (tgt := 72) hx hb dX6_lastOf_68 (by decide) ?_
              refine lv_istore_n (lv' := [(3, .int (M 6 (16 * t + i))), (5, .int 1), (4, .int (nI i)), (2, .int (m_cnt M t)), (0, .ref (am 0)), (1, .int (nI t))]) hx hb dX6_lastOf_72 rfl hl (by decide) rfl (fun ls hl => ?_)
              refine lv_iinc (v := nI (i + 1)) (lv' := [(4, .int (nI (i + 1))), (3, .int (M 6 (16 * t + i))), (5, .int 1), (2, .int (m_cnt M t)), (0, .ref (am 0)), (1, .int (nI t))]) hx hb dX6_lastOf_73 hl (k := 2) rfl (nI_1 i) (by decide) rfl (fun ls hl => ?_)
              refine lv_goto (tgt := 11) hx hb dX6_lastOf_76 (by decide) ?_
              refine ih_11 (i + 1) (by omega) (by omega)  ls ?_
              rw [show m_la M t (m_cnt M t) (i + 1) = M 6 (16 * t + i) from by first | (simp only [bI, m_la, c_1, c_2, c_4, g_4, ↓reduceIte]; done) | (simp [bI, m_la, c_1, c_2, c_4, g_4]; done) | (simp_all [bI, m_la]; done)]
              exact lv_sub hl [0, 1, 3, 4, 5] rfl
  refine hloop_11 (mR M + 1) 0 (by omega) (by omega)  ls ?_
  rw [show m_la M t (m_cnt M t) 0 = 0 from by first | rfl | (first | (simp only [bI, m_la, ↓reduceIte]; done) | (simp [bI, m_la]; done) | (simp_all [bI, m_la]; done))]
  exact lv_sub hl [0, 1, 2, 3, 4] rfl

theorem dX6_ahead_0 : decode cX6_ahead 0 = .ok (.aload_n 0, 1) := by decide +kernel
theorem dX6_ahead_1 : decode cX6_ahead 1 = .ok (.iload_n 1, 1) := by decide +kernel
theorem dX6_ahead_2 : decode cX6_ahead 2 = .ok (.invokevirtual 145, 3) := by decide +kernel
theorem dX6_ahead_5 : decode cX6_ahead 5 = .ok (.istore_n 3, 1) := by decide +kernel
theorem dX6_ahead_6 : decode cX6_ahead 6 = .ok (.aload_n 0, 1) := by decide +kernel
theorem dX6_ahead_7 : decode cX6_ahead 7 = .ok (.iload_n 1, 1) := by decide +kernel
theorem dX6_ahead_8 : decode cX6_ahead 8 = .ok (.invokevirtual 151, 3) := by decide +kernel
theorem dX6_ahead_11 : decode cX6_ahead 11 = .ok (.istore 4, 2) := by decide +kernel
theorem dX6_ahead_13 : decode cX6_ahead 13 = .ok (.iconst 0, 1) := by decide +kernel
theorem dX6_ahead_14 : decode cX6_ahead 14 = .ok (.istore 5, 2) := by decide +kernel
theorem dX6_ahead_16 : decode cX6_ahead 16 = .ok (.iconst 0, 1) := by decide +kernel
theorem dX6_ahead_17 : decode cX6_ahead 17 = .ok (.istore 6, 2) := by decide +kernel
theorem dX6_ahead_19 : decode cX6_ahead 19 = .ok (.iload 6, 2) := by decide +kernel
theorem dX6_ahead_21 : decode cX6_ahead 21 = .ok (.aload_n 0, 1) := by decide +kernel
theorem dX6_ahead_22 : decode cX6_ahead 22 = .ok (.getfield 70, 3) := by decide +kernel
theorem dX6_ahead_25 : decode cX6_ahead 25 = .ok (.if_icmp .ge 71, 3) := by decide +kernel
theorem dX6_ahead_28 : decode cX6_ahead 28 = .ok (.aload_n 0, 1) := by decide +kernel
theorem dX6_ahead_29 : decode cX6_ahead 29 = .ok (.iload 6, 2) := by decide +kernel
theorem dX6_ahead_31 : decode cX6_ahead 31 = .ok (.invokevirtual 145, 3) := by decide +kernel
theorem dX6_ahead_34 : decode cX6_ahead 34 = .ok (.istore 7, 2) := by decide +kernel
theorem dX6_ahead_36 : decode cX6_ahead 36 = .ok (.aload_n 0, 1) := by decide +kernel
theorem dX6_ahead_37 : decode cX6_ahead 37 = .ok (.iload 6, 2) := by decide +kernel
theorem dX6_ahead_39 : decode cX6_ahead 39 = .ok (.invokevirtual 151, 3) := by decide +kernel
theorem dX6_ahead_42 : decode cX6_ahead 42 = .ok (.istore 8, 2) := by decide +kernel
theorem dX6_ahead_44 : decode cX6_ahead 44 = .ok (.iload 5, 2) := by decide +kernel
theorem dX6_ahead_46 : decode cX6_ahead 46 = .ok (.iload 7, 2) := by decide +kernel
theorem dX6_ahead_48 : decode cX6_ahead 48 = .ok (.iload_n 3, 1) := by decide +kernel
theorem dX6_ahead_49 : decode cX6_ahead 49 = .ok (.if_icmp .gt 33, 3) := by decide +kernel
theorem dX6_ahead_52 : decode cX6_ahead 52 = .ok (.iload 7, 2) := by decide +kernel
theorem dX6_ahead_54 : decode cX6_ahead 54 = .ok (.iload_n 3, 1) := by decide +kernel
theorem dX6_ahead_55 : decode cX6_ahead 55 = .ok (.if_icmp .ne 31, 3) := by decide +kernel
theorem dX6_ahead_58 : decode cX6_ahead 58 = .ok (.iload 8, 2) := by decide +kernel
theorem dX6_ahead_60 : decode cX6_ahead 60 = .ok (.iload 4, 2) := by decide +kernel
theorem dX6_ahead_62 : decode cX6_ahead 62 = .ok (.if_icmp .lt 20, 3) := by decide +kernel
theorem dX6_ahead_65 : decode cX6_ahead 65 = .ok (.iload 8, 2) := by decide +kernel
theorem dX6_ahead_67 : decode cX6_ahead 67 = .ok (.iload 4, 2) := by decide +kernel
theorem dX6_ahead_69 : decode cX6_ahead 69 = .ok (.if_icmp .ne 17, 3) := by decide +kernel
theorem dX6_ahead_72 : decode cX6_ahead 72 = .ok (.iload_n 2, 1) := by decide +kernel
theorem dX6_ahead_73 : decode cX6_ahead 73 = .ok (.ifCond .eq 13, 3) := by decide +kernel
theorem dX6_ahead_76 : decode cX6_ahead 76 = .ok (.iload 6, 2) := by decide +kernel
theorem dX6_ahead_78 : decode cX6_ahead 78 = .ok (.iload_n 1, 1) := by decide +kernel
theorem dX6_ahead_79 : decode cX6_ahead 79 = .ok (.if_icmp .ge 7, 3) := by decide +kernel
theorem dX6_ahead_82 : decode cX6_ahead 82 = .ok (.iconst 1, 1) := by decide +kernel
theorem dX6_ahead_83 : decode cX6_ahead 83 = .ok (.goto 4, 3) := by decide +kernel
theorem dX6_ahead_86 : decode cX6_ahead 86 = .ok (.iconst 0, 1) := by decide +kernel
theorem dX6_ahead_87 : decode cX6_ahead 87 = .ok (.iadd, 1) := by decide +kernel
theorem dX6_ahead_88 : decode cX6_ahead 88 = .ok (.istore 5, 2) := by decide +kernel
theorem dX6_ahead_90 : decode cX6_ahead 90 = .ok (.iinc 6 1, 3) := by decide +kernel
theorem dX6_ahead_93 : decode cX6_ahead 93 = .ok (.goto (-74), 3) := by decide +kernel
theorem dX6_ahead_96 : decode cX6_ahead 96 = .ok (.iload 5, 2) := by decide +kernel
theorem dX6_ahead_98 : decode cX6_ahead 98 = .ok (.ireturn, 1) := by decide +kernel
set_option maxHeartbeats 4000000 in
set_option maxRecDepth 100000 in
theorem c_X6_ahead (l : Launch) (D : va_G) (cI cZ cL : ClassId) (am : Nat → Nat) (M : Mem) (th : Int32) (t : Nat) (bn : Bool) (hI : J0 M) (ht : t < 8) : RD l D cI cZ cL yX6_ahead cX6_ahead 9 (some .int) 8 [.ref (am 0), .int (nI t), .int (bI bn)] (wQ am cI cZ M th) (some (.int (nI (m_ahead M t bn)))) := by
  refine RD.of (by decide) (Nat.le_of_ble_eq_true rfl) ?_
  intro p e s m args below meth c ls hx hb hr hml hown hlk hE hP hl
  have hl : lv_has ls 9 [(0, .ref (am 0)), (1, .int (nI t)), (2, .int (bI bn))] := hl
  have hT8 := hI.T8
  have hR16 := hI.R16
  have hN200 := hI.N200
  refine lv_aload_n hx hb dX6_ahead_0 rfl (lv_at hl 0 rfl) ?_
  refine lv_iload_n hx hb dX6_ahead_1 rfl (lv_at hl 1 rfl) ?_
  refine q_rd (q_runV (rest := []) hx hb hml hown hE (c_X6_scoreOf l D cI cZ cL am M th t hI (by omega)) ck_X6_scoreOf w_991 hP 0 rfl rfl hl.1 rfl ⟨Nat.le_of_ble_eq_true rfl, Nat.le_of_ble_eq_true rfl⟩ (Nat.le_of_ble_eq_true rfl) dX6_ahead_2 ⟨Nat.le_of_ble_eq_true rfl, Nat.le_of_ble_eq_true rfl⟩) ?_
  refine lv_istore_n (lv' := [(3, .int (m_score M t)), (0, .ref (am 0)), (1, .int (nI t)), (2, .int (bI bn))]) hx hb dX6_ahead_5 rfl hl (by decide) rfl (fun ls hl => ?_)
  refine lv_aload_n hx hb dX6_ahead_6 rfl (lv_at hl 1 rfl) ?_
  refine lv_iload_n hx hb dX6_ahead_7 rfl (lv_at hl 2 rfl) ?_
  refine q_rd (q_runV (rest := []) hx hb hml hown hE (c_X6_lastOf l D cI cZ cL am M th t hI (by omega)) ck_X6_lastOf w_1011 hP 0 rfl rfl hl.1 rfl ⟨Nat.le_of_ble_eq_true rfl, Nat.le_of_ble_eq_true rfl⟩ (Nat.le_of_ble_eq_true rfl) dX6_ahead_8 ⟨Nat.le_of_ble_eq_true rfl, Nat.le_of_ble_eq_true rfl⟩) ?_
  refine lv_istore (lv' := [(4, .int (m_last M t)), (3, .int (m_score M t)), (0, .ref (am 0)), (1, .int (nI t)), (2, .int (bI bn))]) hx hb dX6_ahead_11 hl (by decide) rfl (fun ls hl => ?_)
  refine lv_iconst (v := 0) hx hb dX6_ahead_13 (by decide) ?_
  refine lv_istore (lv' := [(5, .int 0), (4, .int (m_last M t)), (3, .int (m_score M t)), (0, .ref (am 0)), (1, .int (nI t)), (2, .int (bI bn))]) hx hb dX6_ahead_14 hl (by decide) rfl (fun ls hl => ?_)
  refine lv_iconst (v := 0) hx hb dX6_ahead_16 (by decide) ?_
  refine lv_istore (lv' := [(6, .int 0), (5, .int 0), (4, .int (m_last M t)), (3, .int (m_score M t)), (0, .ref (am 0)), (1, .int (nI t)), (2, .int (bI bn))]) hx hb dX6_ahead_17 hl (by decide) rfl (fun ls hl => ?_)
  have hloop_19 : ∀ (n i : Nat), i ≤ mT M → mT M < i + n → ∀ ls : Array Slot, lv_has ls 9 [(6, .int (nI i)), (5, .int (nI (m_ah M t bn i))), (4, .int (m_last M t)), (3, .int (m_score M t)), (0, .ref (am 0)), (1, .int (nI t)), (2, .int (bI bn))] → W p l e (rm 8 0 0) s m args below meth c s.heap [] 0 0 (MQ below (Qrd (some (.int (nI (m_ahead M t bn))))) args s 0 0 q_no) (F0 m 19 ls []) := by
    intro n
    induction n with
    | zero => intro i h1 h2; exact absurd h2 (by omega)
    | succ n ih_19 =>
      intro i hi_19 hin_19  ls hl
      refine lv_iload hx hb dX6_ahead_19 (lv_at hl 0 rfl) ?_
      refine lv_aload_n hx hb dX6_ahead_21 rfl (lv_at hl 4 rfl) ?_
      refine q_get (v := .int (M 0 8)) hx hb hown hE inT_X6 hP 0 rfl rfl 8 (by decide) w_766 rfl dX6_ahead_22 ?_
      refine q_top (y := nI (mT M)) (J0.T hI) ?_
      refine lv_icmp_ge (tgt := 96) hx hb dX6_ahead_25 (by decide) (fun c_1 => ?_) (fun c_1 => ?_)
      · skip
        have c_1 : (mT M) ≤ i := n_le (a := mT M) (b := i) (by omega) (by omega) c_1
        have hend_19 : mT M = i := by omega
        subst hend_19
        refine lv_iload hx hb dX6_ahead_96 (lv_at hl 1 rfl) ?_
        refine q_top (y := nI (m_ahead M t bn)) (by rfl) ?_
        exact e_ret hx hb hr hlk rfl dX6_ahead_98
      · skip
        have c_1 : i < (mT M) := n_nle (a := mT M) (b := i) (by omega) (by omega) c_1
        refine lv_aload_n hx hb dX6_ahead_28 rfl (lv_at hl 4 rfl) ?_
        refine lv_iload hx hb dX6_ahead_29 (lv_at hl 0 rfl) ?_
        refine q_rd (q_runV (rest := []) hx hb hml hown hE (c_X6_scoreOf l D cI cZ cL am M th i hI (by omega)) ck_X6_scoreOf w_991 hP 0 rfl rfl hl.1 rfl ⟨Nat.le_of_ble_eq_true rfl, Nat.le_of_ble_eq_true rfl⟩ (Nat.le_of_ble_eq_true rfl) dX6_ahead_31 ⟨Nat.le_of_ble_eq_true rfl, Nat.le_of_ble_eq_true rfl⟩) ?_
        refine lv_istore (lv' := [(7, .int (m_score M i)), (6, .int (nI i)), (5, .int (nI (m_ah M t bn i))), (4, .int (m_last M t)), (3, .int (m_score M t)), (0, .ref (am 0)), (1, .int (nI t)), (2, .int (bI bn))]) hx hb dX6_ahead_34 hl (by decide) rfl (fun ls hl => ?_)
        refine lv_aload_n hx hb dX6_ahead_36 rfl (lv_at hl 5 rfl) ?_
        refine lv_iload hx hb dX6_ahead_37 (lv_at hl 1 rfl) ?_
        refine q_rd (q_runV (rest := []) hx hb hml hown hE (c_X6_lastOf l D cI cZ cL am M th i hI (by omega)) ck_X6_lastOf w_1011 hP 0 rfl rfl hl.1 rfl ⟨Nat.le_of_ble_eq_true rfl, Nat.le_of_ble_eq_true rfl⟩ (Nat.le_of_ble_eq_true rfl) dX6_ahead_39 ⟨Nat.le_of_ble_eq_true rfl, Nat.le_of_ble_eq_true rfl⟩) ?_
        refine lv_istore (lv' := [(8, .int (m_last M i)), (7, .int (m_score M i)), (6, .int (nI i)), (5, .int (nI (m_ah M t bn i))), (4, .int (m_last M t)), (3, .int (m_score M t)), (0, .ref (am 0)), (1, .int (nI t)), (2, .int (bI bn))]) hx hb dX6_ahead_42 hl (by decide) rfl (fun ls hl => ?_)
        refine lv_iload hx hb dX6_ahead_44 (lv_at hl 3 rfl) ?_
        refine lv_iload hx hb dX6_ahead_46 (lv_at hl 1 rfl) ?_
        refine lv_iload_n hx hb dX6_ahead_48 rfl (lv_at hl 5 rfl) ?_
        refine lv_icmp_gt (tgt := 82) hx hb dX6_ahead_49 (by decide) (fun c_2 => ?_) (fun c_2 => ?_)
        · skip
          have g_2 : ¬ (m_score M i) ≤ (m_score M t) := Int32.not_le.mpr c_2
          refine lv_iconst (v := 1) hx hb dX6_ahead_82 (by decide) ?_
          refine lv_goto (tgt := 87) hx hb dX6_ahead_83 (by decide) ?_
          refine lv_iadd hx hb dX6_ahead_87 ?_
          refine q_top (y := nI ((m_ah M t bn i) + 1)) (nI_add (m_ah M t bn i) 1) ?_
          refine lv_istore (lv' := [(5, .int (nI ((m_ah M t bn i) + 1))), (8, .int (m_last M i)), (7, .int (m_score M i)), (6, .int (nI i)), (4, .int (m_last M t)), (3, .int (m_score M t)), (0, .ref (am 0)), (1, .int (nI t)), (2, .int (bI bn))]) hx hb dX6_ahead_88 hl (by decide) rfl (fun ls hl => ?_)
          refine lv_iinc (v := nI (i + 1)) (lv' := [(6, .int (nI (i + 1))), (5, .int (nI ((m_ah M t bn i) + 1))), (8, .int (m_last M i)), (7, .int (m_score M i)), (4, .int (m_last M t)), (3, .int (m_score M t)), (0, .ref (am 0)), (1, .int (nI t)), (2, .int (bI bn))]) hx hb dX6_ahead_90 hl (k := 3) rfl (nI_1 i) (by decide) rfl (fun ls hl => ?_)
          refine lv_goto (tgt := 19) hx hb dX6_ahead_93 (by decide) ?_
          refine ih_19 (i + 1) (by omega) (by omega)  ls ?_
          rw [show m_ah M t bn (i + 1) = (m_ah M t bn i) + 1 from by first | (simp only [bI, m_ah, c_1, c_2, g_2, ↓reduceIte]; done) | (simp [bI, m_ah, c_1, c_2, g_2]; done) | (simp_all [bI, m_ah]; done)]
          exact lv_sub hl [0, 1, 4, 5, 6, 7, 8] rfl
        · skip
          have g_2 : (m_score M i) ≤ (m_score M t) := Int32.not_lt.mp c_2
          refine lv_iload hx hb dX6_ahead_52 (lv_at hl 1 rfl) ?_
          refine lv_iload_n hx hb dX6_ahead_54 rfl (lv_at hl 5 rfl) ?_
          refine lv_icmp_ne (tgt := 86) hx hb dX6_ahead_55 (by decide) (fun c_3 => ?_) (fun c_3 => ?_)
          · skip
            refine lv_iconst (v := 0) hx hb dX6_ahead_86 (by decide) ?_
            refine lv_iadd hx hb dX6_ahead_87 ?_
            refine q_top (y := nI ((m_ah M t bn i) + 0)) (nI_add (m_ah M t bn i) 0) ?_
            refine lv_istore (lv' := [(5, .int (nI ((m_ah M t bn i) + 0))), (8, .int (m_last M i)), (7, .int (m_score M i)), (6, .int (nI i)), (4, .int (m_last M t)), (3, .int (m_score M t)), (0, .ref (am 0)), (1, .int (nI t)), (2, .int (bI bn))]) hx hb dX6_ahead_88 hl (by decide) rfl (fun ls hl => ?_)
            refine lv_iinc (v := nI (i + 1)) (lv' := [(6, .int (nI (i + 1))), (5, .int (nI ((m_ah M t bn i) + 0))), (8, .int (m_last M i)), (7, .int (m_score M i)), (4, .int (m_last M t)), (3, .int (m_score M t)), (0, .ref (am 0)), (1, .int (nI t)), (2, .int (bI bn))]) hx hb dX6_ahead_90 hl (k := 3) rfl (nI_1 i) (by decide) rfl (fun ls hl => ?_)
            refine lv_goto (tgt := 19) hx hb dX6_ahead_93 (by decide) ?_
            refine ih_19 (i + 1) (by omega) (by omega)  ls ?_
            rw [show m_ah M t bn (i + 1) = (m_ah M t bn i) + 0 from by first | (simp only [bI, m_ah, c_1, c_2, g_2, c_3, ↓reduceIte]; done) | (simp [bI, m_ah, c_1, c_2, g_2, c_3]; done) | (simp_all [bI, m_ah]; done)]
            exact lv_sub hl [0, 1, 4, 5, 6, 7, 8] rfl
          · skip
            refine lv_iload hx hb dX6_ahead_58 (lv_at hl 0 rfl) ?_
            refine lv_iload hx hb dX6_ahead_60 (lv_at hl 4 rfl) ?_
            refine lv_icmp_lt (tgt := 82) hx hb dX6_ahead_62 (by decide) (fun c_4 => ?_) (fun c_4 => ?_)
            · skip
              have g_4 : ¬ (m_last M t) ≤ (m_last M i) := Int32.not_le.mpr c_4
              refine lv_iconst (v := 1) hx hb dX6_ahead_82 (by decide) ?_
              refine lv_goto (tgt := 87) hx hb dX6_ahead_83 (by decide) ?_
              refine lv_iadd hx hb dX6_ahead_87 ?_
              refine q_top (y := nI ((m_ah M t bn i) + 1)) (nI_add (m_ah M t bn i) 1) ?_
              refine lv_istore (lv' := [(5, .int (nI ((m_ah M t bn i) + 1))), (8, .int (m_last M i)), (7, .int (m_score M i)), (6, .int (nI i)), (4, .int (m_last M t)), (3, .int (m_score M t)), (0, .ref (am 0)), (1, .int (nI t)), (2, .int (bI bn))]) hx hb dX6_ahead_88 hl (by decide) rfl (fun ls hl => ?_)
              refine lv_iinc (v := nI (i + 1)) (lv' := [(6, .int (nI (i + 1))), (5, .int (nI ((m_ah M t bn i) + 1))), (8, .int (m_last M i)), (7, .int (m_score M i)), (4, .int (m_last M t)), (3, .int (m_score M t)), (0, .ref (am 0)), (1, .int (nI t)), (2, .int (bI bn))]) hx hb dX6_ahead_90 hl (k := 3) rfl (nI_1 i) (by decide) rfl (fun ls hl => ?_)
              refine lv_goto (tgt := 19) hx hb dX6_ahead_93 (by decide) ?_
              refine ih_19 (i + 1) (by omega) (by omega)  ls ?_
              rw [show m_ah M t bn (i + 1) = (m_ah M t bn i) + 1 from by first | (simp only [bI, m_ah, c_1, c_2, g_2, c_3, c_4, g_4, ↓reduceIte]; done) | (simp [bI, m_ah, c_1, c_2, g_2, c_3, c_4, g_4]; done) | (simp_all [bI, m_ah]; done)]
              exact lv_sub hl [0, 1, 4, 5, 6, 7, 8] rfl
            · skip
              have g_4 : (m_last M t) ≤ (m_last M i) := Int32.not_lt.mp c_4
              refine lv_iload hx hb dX6_ahead_65 (lv_at hl 0 rfl) ?_
              refine lv_iload hx hb dX6_ahead_67 (lv_at hl 4 rfl) ?_
              refine lv_icmp_ne (tgt := 86) hx hb dX6_ahead_69 (by decide) (fun c_5 => ?_) (fun c_5 => ?_)
              · skip
                refine lv_iconst (v := 0) hx hb dX6_ahead_86 (by decide) ?_
                refine lv_iadd hx hb dX6_ahead_87 ?_
                refine q_top (y := nI ((m_ah M t bn i) + 0)) (nI_add (m_ah M t bn i) 0) ?_
                refine lv_istore (lv' := [(5, .int (nI ((m_ah M t bn i) + 0))), (8, .int (m_last M i)), (7, .int (m_score M i)), (6, .int (nI i)), (4, .int (m_last M t)), (3, .int (m_score M t)), (0, .ref (am 0)), (1, .int (nI t)), (2, .int (bI bn))]) hx hb dX6_ahead_88 hl (by decide) rfl (fun ls hl => ?_)
                refine lv_iinc (v := nI (i + 1)) (lv' := [(6, .int (nI (i + 1))), (5, .int (nI ((m_ah M t bn i) + 0))), (8, .int (m_last M i)), (7, .int (m_score M i)), (4, .int (m_last M t)), (3, .int (m_score M t)), (0, .ref (am 0)), (1, .int (nI t)), (2, .int (bI bn))]) hx hb dX6_ahead_90 hl (k := 3) rfl (nI_1 i) (by decide) rfl (fun ls hl => ?_)
                refine lv_goto (tgt := 19) hx hb dX6_ahead_93 (by decide) ?_
                refine ih_19 (i + 1) (by omega) (by omega)  ls ?_
                rw [show m_ah M t bn (i + 1) = (m_ah M t bn i) + 0 from by first | (simp only [bI, m_ah, c_1, c_2, g_2, c_3, c_4, g_4, c_5, ↓reduceIte]; done) | (simp [bI, m_ah, c_1, c_2, g_2, c_3, c_4, g_4, c_5]; done) | (simp_all [bI, m_ah]; done)]
                exact lv_sub hl [0, 1, 4, 5, 6, 7, 8] rfl
              · skip
                refine lv_iload_n hx hb dX6_ahead_72 rfl (lv_at hl 8 rfl) ?_
                refine lv_if_eq (tgt := 86) hx hb dX6_ahead_73 (by decide) (fun c_6 => ?_) (fun c_6 => ?_)
                · skip
                  have c_6 : bn = false := b_f c_6
                  refine lv_iconst (v := 0) hx hb dX6_ahead_86 (by decide) ?_
                  refine lv_iadd hx hb dX6_ahead_87 ?_
                  refine q_top (y := nI ((m_ah M t bn i) + 0)) (nI_add (m_ah M t bn i) 0) ?_
                  refine lv_istore (lv' := [(5, .int (nI ((m_ah M t bn i) + 0))), (8, .int (m_last M i)), (7, .int (m_score M i)), (6, .int (nI i)), (4, .int (m_last M t)), (3, .int (m_score M t)), (0, .ref (am 0)), (1, .int (nI t)), (2, .int (bI bn))]) hx hb dX6_ahead_88 hl (by decide) rfl (fun ls hl => ?_)
                  refine lv_iinc (v := nI (i + 1)) (lv' := [(6, .int (nI (i + 1))), (5, .int (nI ((m_ah M t bn i) + 0))), (8, .int (m_last M i)), (7, .int (m_score M i)), (4, .int (m_last M t)), (3, .int (m_score M t)), (0, .ref (am 0)), (1, .int (nI t)), (2, .int (bI bn))]) hx hb dX6_ahead_90 hl (k := 3) rfl (nI_1 i) (by decide) rfl (fun ls hl => ?_)
                  refine lv_goto (tgt := 19) hx hb dX6_ahead_93 (by decide) ?_
                  refine ih_19 (i + 1) (by omega) (by omega)  ls ?_
                  rw [show m_ah M t bn (i + 1) = (m_ah M t bn i) + 0 from by first | (simp only [bI, m_ah, c_1, c_2, g_2, c_3, c_4, g_4, c_5, c_6, ↓reduceIte]; done) | (simp [bI, m_ah, c_1, c_2, g_2, c_3, c_4, g_4, c_5, c_6]; done) | (simp_all [bI, m_ah]; done)]
                  exact lv_sub hl [0, 1, 4, 5, 6, 7, 8] rfl
                · skip
                  have c_6 : bn = true := b_t c_6
                  refine lv_iload hx hb dX6_ahead_76 (lv_at hl 2 rfl) ?_
                  refine lv_iload_n hx hb dX6_ahead_78 rfl (lv_at hl 7 rfl) ?_
                  refine lv_icmp_ge (tgt := 86) hx hb dX6_ahead_79 (by decide) (fun c_7 => ?_) (fun c_7 => ?_)
                  · skip
                    have c_7 : t ≤ i := n_le (a := t) (b := i) (by omega) (by omega) c_7
                    have d_7 : ¬ i < t := Nat.not_lt.mpr c_7
                    refine lv_iconst (v := 0) hx hb dX6_ahead_86 (by decide) ?_
                    refine lv_iadd hx hb dX6_ahead_87 ?_
                    refine q_top (y := nI ((m_ah M t bn i) + 0)) (nI_add (m_ah M t bn i) 0) ?_
                    refine lv_istore (lv' := [(5, .int (nI ((m_ah M t bn i) + 0))), (8, .int (m_last M i)), (7, .int (m_score M i)), (6, .int (nI i)), (4, .int (m_last M t)), (3, .int (m_score M t)), (0, .ref (am 0)), (1, .int (nI t)), (2, .int (bI bn))]) hx hb dX6_ahead_88 hl (by decide) rfl (fun ls hl => ?_)
                    refine lv_iinc (v := nI (i + 1)) (lv' := [(6, .int (nI (i + 1))), (5, .int (nI ((m_ah M t bn i) + 0))), (8, .int (m_last M i)), (7, .int (m_score M i)), (4, .int (m_last M t)), (3, .int (m_score M t)), (0, .ref (am 0)), (1, .int (nI t)), (2, .int (bI bn))]) hx hb dX6_ahead_90 hl (k := 3) rfl (nI_1 i) (by decide) rfl (fun ls hl => ?_)
                    refine lv_goto (tgt := 19) hx hb dX6_ahead_93 (by decide) ?_
                    refine ih_19 (i + 1) (by omega) (by omega)  ls ?_
                    rw [show m_ah M t bn (i + 1) = (m_ah M t bn i) + 0 from by first | (simp only [bI, m_ah, c_1, c_2, g_2, c_3, c_4, g_4, c_5, c_6, c_7, d_7, ↓reduceIte]; done) | (simp [bI, m_ah, c_1, c_2, g_2, c_3, c_4, g_4, c_5, c_6, c_7, d_7]; done) | (simp_all [bI, m_ah]; done)]
                    exact lv_sub hl [0, 1, 4, 5, 6, 7, 8] rfl
                  · skip
                    have c_7 : i < t := n_nle (a := t) (b := i) (by omega) (by omega) c_7
                    refine lv_iconst (v := 1) hx hb dX6_ahead_82 (by decide) ?_
                    refine lv_goto (tgt := 87) hx hb dX6_ahead_83 (by decide) ?_
                    refine lv_iadd hx hb dX6_ahead_87 ?_
                    refine q_top (y := nI ((m_ah M t bn i) + 1)) (nI_add (m_ah M t bn i) 1) ?_
                    refine lv_istore (lv' := [(5, .int (nI ((m_ah M t bn i) + 1))), (8, .int (m_last M i)), (7, .int (m_score M i)), (6, .int (nI i)), (4, .int (m_last M t)), (3, .int (m_score M t)), (0, .ref (am 0)), (1, .int (nI t)), (2, .int (bI bn))]) hx hb dX6_ahead_88 hl (by decide) rfl (fun ls hl => ?_)
                    refine lv_iinc (v := nI (i + 1)) (lv' := [(6, .int (nI (i + 1))), (5, .int (nI ((m_ah M t bn i) + 1))), (8, .int (m_last M i)), (7, .int (m_score M i)), (4, .int (m_last M t)), (3, .int (m_score M t)), (0, .ref (am 0)), (1, .int (nI t)), (2, .int (bI bn))]) hx hb dX6_ahead_90 hl (k := 3) rfl (nI_1 i) (by decide) rfl (fun ls hl => ?_)
                    refine lv_goto (tgt := 19) hx hb dX6_ahead_93 (by decide) ?_
                    refine ih_19 (i + 1) (by omega) (by omega)  ls ?_
                    rw [show m_ah M t bn (i + 1) = (m_ah M t bn i) + 1 from by first | (simp only [bI, m_ah, c_1, c_2, g_2, c_3, c_4, g_4, c_5, c_6, c_7, ↓reduceIte]; done) | (simp [bI, m_ah, c_1, c_2, g_2, c_3, c_4, g_4, c_5, c_6, c_7]; done) | (simp_all [bI, m_ah]; done)]
                    exact lv_sub hl [0, 1, 4, 5, 6, 7, 8] rfl
  refine hloop_19 (mT M + 1) 0 (by omega) (by omega)  ls ?_
  rw [show m_ah M t bn 0 = 0 from by first | rfl | (first | (simp only [bI, m_ah, ↓reduceIte]; done) | (simp [bI, m_ah]; done) | (simp_all [bI, m_ah]; done))]
  exact lv_sub hl [0, 1, 2, 3, 4, 5, 6] rfl
