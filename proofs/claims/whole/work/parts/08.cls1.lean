theorem dX5_has_0 : decode cX5_has 0 = .ok (.iload_n 0, 1) := by decide +kernel
theorem dX5_has_1 : decode cX5_has 1 = .ok (.iload_n 1, 1) := by decide +kernel
theorem dX5_has_2 : decode cX5_has 2 = .ok (.ishr, 1) := by decide +kernel
theorem dX5_has_3 : decode cX5_has 3 = .ok (.iconst 1, 1) := by decide +kernel
theorem dX5_has_4 : decode cX5_has 4 = .ok (.iand, 1) := by decide +kernel
theorem dX5_has_5 : decode cX5_has 5 = .ok (.ifCond .eq 7, 3) := by decide +kernel
theorem dX5_has_8 : decode cX5_has 8 = .ok (.iconst 1, 1) := by decide +kernel
theorem dX5_has_9 : decode cX5_has 9 = .ok (.goto 4, 3) := by decide +kernel
theorem dX5_has_12 : decode cX5_has 12 = .ok (.iconst 0, 1) := by decide +kernel
theorem dX5_has_13 : decode cX5_has 13 = .ok (.ireturn, 1) := by decide +kernel
set_option maxHeartbeats 4000000 in
set_option maxRecDepth 100000 in
theorem c_X5_has (l : Launch) (D : va_G) (cI cZ cL : ClassId) (ws : va_W) (x : Int32) (y : Int32) : RD l D cI cZ cL yX5_has cX5_has 2 (some .boolean) 0 [.int x, .int y] ws (some (.int (bI (hs x y)))) := by
  refine RD.of (by decide) (Nat.le_of_ble_eq_true rfl) ?_
  intro p e s m args below meth c ls hx hb hr hml hown hlk hE hP hl
  have hl : lv_has ls 2 [(0, .int x), (1, .int y)] := hl
  refine lv_iload_n hx hb dX5_has_0 rfl (lv_at hl 0 rfl) ?_
  refine lv_iload_n hx hb dX5_has_1 rfl (lv_at hl 1 rfl) ?_
  refine lv_ishr hx hb dX5_has_2 ?_
  refine lv_iconst (v := 1) hx hb dX5_has_3 (by decide) ?_
  refine lv_iand hx hb dX5_has_4 ?_
  refine lv_if_eq (tgt := 12) hx hb dX5_has_5 (by decide) (fun c_1 => ?_) (fun c_1 => ?_)
  · skip
    refine lv_iconst (v := 0) hx hb dX5_has_12 (by decide) ?_
    refine q_top (y := bI (hs x y)) (by first | (simp only [bI, hs, c_1, ↓reduceIte]; done) | (simp [bI, hs, c_1]; done) | (simp_all [bI, hs]; done)) ?_
    exact e_ret hx hb hr hlk (n_bI _) dX5_has_13
  · skip
    refine lv_iconst (v := 1) hx hb dX5_has_8 (by decide) ?_
    refine lv_goto (tgt := 13) hx hb dX5_has_9 (by decide) ?_
    refine q_top (y := bI (hs x y)) (by first | (simp only [bI, hs, c_1, ↓reduceIte]; done) | (simp [bI, hs, c_1]; done) | (simp_all [bI, hs]; done)) ?_
    exact e_ret hx hb hr hlk (n_bI _) dX5_has_13

theorem dX5_bit_0 : decode cX5_bit 0 = .ok (.iconst 1, 1) := by decide +kernel
theorem dX5_bit_1 : decode cX5_bit 1 = .ok (.iload_n 0, 1) := by decide +kernel
theorem dX5_bit_2 : decode cX5_bit 2 = .ok (.ishl, 1) := by decide +kernel
theorem dX5_bit_3 : decode cX5_bit 3 = .ok (.ireturn, 1) := by decide +kernel
set_option maxHeartbeats 4000000 in
set_option maxRecDepth 100000 in
theorem c_X5_bit (l : Launch) (D : va_G) (cI cZ cL : ClassId) (ws : va_W) (x : Int32) : RD l D cI cZ cL yX5_bit cX5_bit 1 (some .int) 0 [.int x] ws (some (.int (bt x))) := by
  refine RD.of (by decide) (Nat.le_of_ble_eq_true rfl) ?_
  intro p e s m args below meth c ls hx hb hr hml hown hlk hE hP hl
  have hl : lv_has ls 1 [(0, .int x)] := hl
  refine lv_iconst (v := 1) hx hb dX5_bit_0 (by decide) ?_
  refine lv_iload_n hx hb dX5_bit_1 rfl (lv_at hl 0 rfl) ?_
  refine lv_ishl hx hb dX5_bit_2 ?_
  refine q_top (y := bt x) rfl ?_
  exact e_ret hx hb hr hlk rfl dX5_bit_3

theorem dX5_cell_0 : decode cX5_cell 0 = .ok (.iload_n 0, 1) := by decide +kernel
theorem dX5_cell_1 : decode cX5_cell 1 = .ok (.bipush 16, 2) := by decide +kernel
theorem dX5_cell_3 : decode cX5_cell 3 = .ok (.imul, 1) := by decide +kernel
theorem dX5_cell_4 : decode cX5_cell 4 = .ok (.iload_n 1, 1) := by decide +kernel
theorem dX5_cell_5 : decode cX5_cell 5 = .ok (.iadd, 1) := by decide +kernel
theorem dX5_cell_6 : decode cX5_cell 6 = .ok (.ireturn, 1) := by decide +kernel
set_option maxHeartbeats 4000000 in
set_option maxRecDepth 100000 in
theorem c_X5_cell (l : Launch) (D : va_G) (cI cZ cL : ClassId) (ws : va_W) (t : Nat) (r : Nat) : RD l D cI cZ cL yX5_cell cX5_cell 2 (some .int) 0 [.int (nI t), .int (nI r)] ws (some (.int (nI (t * 16 + r)))) := by
  refine RD.of (by decide) (Nat.le_of_ble_eq_true rfl) ?_
  intro p e s m args below meth c ls hx hb hr hml hown hlk hE hP hl
  have hl : lv_has ls 2 [(0, .int (nI t)), (1, .int (nI r))] := hl
  refine lv_iload_n hx hb dX5_cell_0 rfl (lv_at hl 0 rfl) ?_
  refine lv_bipush (v := 16) hx hb dX5_cell_1 (by decide) ?_
  refine lv_imul hx hb dX5_cell_3 ?_
  refine q_top (y := nI (t * 16)) (pk_mul t 16) ?_
  refine lv_iload_n hx hb dX5_cell_4 rfl (lv_at hl 1 rfl) ?_
  refine lv_iadd hx hb dX5_cell_5 ?_
  refine q_top (y := nI ((t * 16) + r)) (nI_add (t * 16) r) ?_
  refine q_top (y := nI (t * 16 + r)) (rfl) ?_
  exact e_ret hx hb hr hlk rfl dX5_cell_6

theorem dX5_sale_0 : decode cX5_sale 0 = .ok (.iload_n 0, 1) := by decide +kernel
theorem dX5_sale_1 : decode cX5_sale 1 = .ok (.iload_n 1, 1) := by decide +kernel
theorem dX5_sale_2 : decode cX5_sale 2 = .ok (.invokestatic 177, 3) := by decide +kernel
theorem dX5_sale_5 : decode cX5_sale 5 = .ok (.iconst 3, 1) := by decide +kernel
theorem dX5_sale_6 : decode cX5_sale 6 = .ok (.imul, 1) := by decide +kernel
theorem dX5_sale_7 : decode cX5_sale 7 = .ok (.iload_n 2, 1) := by decide +kernel
theorem dX5_sale_8 : decode cX5_sale 8 = .ok (.iadd, 1) := by decide +kernel
theorem dX5_sale_9 : decode cX5_sale 9 = .ok (.ireturn, 1) := by decide +kernel
set_option maxHeartbeats 4000000 in
set_option maxRecDepth 100000 in
theorem c_X5_sale (l : Launch) (D : va_G) (cI cZ cL : ClassId) (ws : va_W) (t : Nat) (r : Nat) (n : Nat) : RD l D cI cZ cL yX5_sale cX5_sale 3 (some .int) 1 [.int (nI t), .int (nI r), .int (nI n)] ws (some (.int (nI ((t * 16 + r) * 3 + n)))) := by
  refine RD.of (by decide) (Nat.le_of_ble_eq_true rfl) ?_
  intro p e s m args below meth c ls hx hb hr hml hown hlk hE hP hl
  have hl : lv_has ls 3 [(0, .int (nI t)), (1, .int (nI r)), (2, .int (nI n))] := hl
  refine lv_iload_n hx hb dX5_sale_0 rfl (lv_at hl 0 rfl) ?_
  refine lv_iload_n hx hb dX5_sale_1 rfl (lv_at hl 1 rfl) ?_
  refine q_rd (q_runS (rest := []) hx hb hml hown hE (c_X5_cell l D cI cZ cL _ t r) ck_X5_cell w_299 hP hl.1 rfl ⟨Nat.le_of_ble_eq_true rfl, Nat.le_of_ble_eq_true rfl⟩ (Nat.le_of_ble_eq_true rfl) dX5_sale_2 ⟨Nat.le_of_ble_eq_true rfl, Nat.le_of_ble_eq_true rfl⟩) ?_
  refine lv_iconst (v := 3) hx hb dX5_sale_5 (by decide) ?_
  refine lv_imul hx hb dX5_sale_6 ?_
  refine q_top (y := nI ((t * 16 + r) * 3)) (pk_mul (t * 16 + r) 3) ?_
  refine lv_iload_n hx hb dX5_sale_7 rfl (lv_at hl 2 rfl) ?_
  refine lv_iadd hx hb dX5_sale_8 ?_
  refine q_top (y := nI (((t * 16 + r) * 3) + n)) (nI_add ((t * 16 + r) * 3) n) ?_
  refine q_top (y := nI ((t * 16 + r) * 3 + n)) (rfl) ?_
  exact e_ret hx hb hr hlk rfl dX5_sale_9

theorem dX5_pair_0 : decode cX5_pair 0 = .ok (.iload_n 0, 1) := by decide +kernel
theorem dX5_pair_1 : decode cX5_pair 1 = .ok (.bipush 8, 2) := by decide +kernel
theorem dX5_pair_3 : decode cX5_pair 3 = .ok (.imul, 1) := by decide +kernel
theorem dX5_pair_4 : decode cX5_pair 4 = .ok (.iload_n 1, 1) := by decide +kernel
theorem dX5_pair_5 : decode cX5_pair 5 = .ok (.iadd, 1) := by decide +kernel
theorem dX5_pair_6 : decode cX5_pair 6 = .ok (.ireturn, 1) := by decide +kernel
set_option maxHeartbeats 4000000 in
set_option maxRecDepth 100000 in
theorem c_X5_pair (l : Launch) (D : va_G) (cI cZ cL : ClassId) (ws : va_W) (t : Nat) (o : Nat) : RD l D cI cZ cL yX5_pair cX5_pair 2 (some .int) 0 [.int (nI t), .int (nI o)] ws (some (.int (nI (t * 8 + o)))) := by
  refine RD.of (by decide) (Nat.le_of_ble_eq_true rfl) ?_
  intro p e s m args below meth c ls hx hb hr hml hown hlk hE hP hl
  have hl : lv_has ls 2 [(0, .int (nI t)), (1, .int (nI o))] := hl
  refine lv_iload_n hx hb dX5_pair_0 rfl (lv_at hl 0 rfl) ?_
  refine lv_bipush (v := 8) hx hb dX5_pair_1 (by decide) ?_
  refine lv_imul hx hb dX5_pair_3 ?_
  refine q_top (y := nI (t * 8)) (pk_mul t 8) ?_
  refine lv_iload_n hx hb dX5_pair_4 rfl (lv_at hl 1 rfl) ?_
  refine lv_iadd hx hb dX5_pair_5 ?_
  refine q_top (y := nI ((t * 8) + o)) (nI_add (t * 8) o) ?_
  refine q_top (y := nI (t * 8 + o)) (rfl) ?_
  exact e_ret hx hb hr hlk rfl dX5_pair_6

theorem dX2_lastSolveMinute_0 : decode cX2_lastSolveMinute 0 = .ok (.iload_n 2, 1) := by decide +kernel
theorem dX2_lastSolveMinute_1 : decode cX2_lastSolveMinute 1 = .ok (.aload_n 0, 1) := by decide +kernel
theorem dX2_lastSolveMinute_2 : decode cX2_lastSolveMinute 2 = .ok (.getfield 9, 3) := by decide +kernel
theorem dX2_lastSolveMinute_5 : decode cX2_lastSolveMinute 5 = .ok (.iload_n 1, 1) := by decide +kernel
theorem dX2_lastSolveMinute_6 : decode cX2_lastSolveMinute 6 = .ok (.iaload, 1) := by decide +kernel
theorem dX2_lastSolveMinute_7 : decode cX2_lastSolveMinute 7 = .ok (.iconst (-1), 1) := by decide +kernel
theorem dX2_lastSolveMinute_8 : decode cX2_lastSolveMinute 8 = .ok (.ixor, 1) := by decide +kernel
theorem dX2_lastSolveMinute_9 : decode cX2_lastSolveMinute 9 = .ok (.iand, 1) := by decide +kernel
theorem dX2_lastSolveMinute_10 : decode cX2_lastSolveMinute 10 = .ok (.ifCond .eq 5, 3) := by decide +kernel
theorem dX2_lastSolveMinute_13 : decode cX2_lastSolveMinute 13 = .ok (.iconst (-1), 1) := by decide +kernel
theorem dX2_lastSolveMinute_14 : decode cX2_lastSolveMinute 14 = .ok (.ireturn, 1) := by decide +kernel
theorem dX2_lastSolveMinute_15 : decode cX2_lastSolveMinute 15 = .ok (.iconst 0, 1) := by decide +kernel
theorem dX2_lastSolveMinute_16 : decode cX2_lastSolveMinute 16 = .ok (.istore_n 3, 1) := by decide +kernel
theorem dX2_lastSolveMinute_17 : decode cX2_lastSolveMinute 17 = .ok (.iconst 0, 1) := by decide +kernel
theorem dX2_lastSolveMinute_18 : decode cX2_lastSolveMinute 18 = .ok (.istore 4, 2) := by decide +kernel
theorem dX2_lastSolveMinute_20 : decode cX2_lastSolveMinute 20 = .ok (.iload 4, 2) := by decide +kernel
theorem dX2_lastSolveMinute_22 : decode cX2_lastSolveMinute 22 = .ok (.bipush 16, 2) := by decide +kernel
theorem dX2_lastSolveMinute_24 : decode cX2_lastSolveMinute 24 = .ok (.if_icmp .ge 34, 3) := by decide +kernel
theorem dX2_lastSolveMinute_27 : decode cX2_lastSolveMinute 27 = .ok (.iload_n 2, 1) := by decide +kernel
theorem dX2_lastSolveMinute_28 : decode cX2_lastSolveMinute 28 = .ok (.iload 4, 2) := by decide +kernel
theorem dX2_lastSolveMinute_30 : decode cX2_lastSolveMinute 30 = .ok (.invokestatic 47, 3) := by decide +kernel
theorem dX2_lastSolveMinute_33 : decode cX2_lastSolveMinute 33 = .ok (.ifCond .eq 19, 3) := by decide +kernel
theorem dX2_lastSolveMinute_36 : decode cX2_lastSolveMinute 36 = .ok (.iload_n 3, 1) := by decide +kernel
theorem dX2_lastSolveMinute_37 : decode cX2_lastSolveMinute 37 = .ok (.aload_n 0, 1) := by decide +kernel
theorem dX2_lastSolveMinute_38 : decode cX2_lastSolveMinute 38 = .ok (.getfield 18, 3) := by decide +kernel
theorem dX2_lastSolveMinute_41 : decode cX2_lastSolveMinute 41 = .ok (.iload_n 1, 1) := by decide +kernel
theorem dX2_lastSolveMinute_42 : decode cX2_lastSolveMinute 42 = .ok (.iload 4, 2) := by decide +kernel
theorem dX2_lastSolveMinute_44 : decode cX2_lastSolveMinute 44 = .ok (.invokestatic 40, 3) := by decide +kernel
theorem dX2_lastSolveMinute_47 : decode cX2_lastSolveMinute 47 = .ok (.iaload, 1) := by decide +kernel
theorem dX2_lastSolveMinute_48 : decode cX2_lastSolveMinute 48 = .ok (.invokestatic 51, 3) := by decide +kernel
theorem dX2_lastSolveMinute_51 : decode cX2_lastSolveMinute 51 = .ok (.istore_n 3, 1) := by decide +kernel
theorem dX2_lastSolveMinute_52 : decode cX2_lastSolveMinute 52 = .ok (.iinc 4 1, 3) := by decide +kernel
theorem dX2_lastSolveMinute_55 : decode cX2_lastSolveMinute 55 = .ok (.goto (-35), 3) := by decide +kernel
theorem dX2_lastSolveMinute_58 : decode cX2_lastSolveMinute 58 = .ok (.iload_n 3, 1) := by decide +kernel
theorem dX2_lastSolveMinute_59 : decode cX2_lastSolveMinute 59 = .ok (.ireturn, 1) := by decide +kernel
set_option maxHeartbeats 4000000 in
set_option maxRecDepth 100000 in
theorem c_X2_lastSolveMinute_18 (l : Launch) (D : va_G) (cI cZ cL : ClassId) (ad : Nat → Nat) (S : Mem) (t : Nat) (set : Int32) (ht : t < 8) : RD l D cI cZ cL yX2_lastSolveMinute cX2_lastSolveMinute 5 (some .int) 1 [.ref (ad 18), .int (nI t), .int set] (wC ad cI S) (some (.int (p_last S 18 t set))) := by
  refine RD.of (by decide) (Nat.le_of_ble_eq_true rfl) ?_
  intro p e s m args below meth c ls hx hb hr hml hown hlk hE hP hl
  have hl : lv_has ls 5 [(0, .ref (ad 18)), (1, .int (nI t)), (2, .int set)] := hl
  refine lv_iload_n hx hb dX2_lastSolveMinute_0 rfl (lv_at hl 2 rfl) ?_
  refine lv_aload_n hx hb dX2_lastSolveMinute_1 rfl (lv_at hl 0 rfl) ?_
  refine q_get (v := .ref (ad 19)) hx hb hown hE inT_X2 hP 18 rfl rfl 0 (by decide) w_187 rfl dX2_lastSolveMinute_2 ?_
  refine lv_iload_n hx hb dX2_lastSolveMinute_5 rfl (lv_at hl 1 rfl) ?_
  refine q_iald (f := S 19) (i := t) hx hb hE hP 19 rfl (by omega) (Nat.le_of_ble_eq_true rfl) dX2_lastSolveMinute_6 ?_
  refine lv_iconst (v := (-1)) hx hb dX2_lastSolveMinute_7 (by decide) ?_
  refine lv_ixor hx hb dX2_lastSolveMinute_8 ?_
  refine lv_iand hx hb dX2_lastSolveMinute_9 ?_
  refine lv_if_eq (tgt := 15) hx hb dX2_lastSolveMinute_10 (by decide) (fun c_1 => ?_) (fun c_1 => ?_)
  · skip
    refine lv_iconst (v := 0) hx hb dX2_lastSolveMinute_15 (by decide) ?_
    refine lv_istore_n (lv' := [(3, .int 0), (0, .ref (ad 18)), (1, .int (nI t)), (2, .int set)]) hx hb dX2_lastSolveMinute_16 rfl hl (by decide) rfl (fun ls hl => ?_)
    refine lv_iconst (v := 0) hx hb dX2_lastSolveMinute_17 (by decide) ?_
    refine lv_istore (lv' := [(4, .int 0), (3, .int 0), (0, .ref (ad 18)), (1, .int (nI t)), (2, .int set)]) hx hb dX2_lastSolveMinute_18 hl (by decide) rfl (fun ls hl => ?_)
    have hloop_20 : ∀ (n i : Nat), i ≤ 16 → 16 < i + n → ∀ ls : Array Slot, lv_has ls 5 [(4, .int (nI i)), (3, .int (p_lsm S 18 t set i)), (0, .ref (ad 18)), (1, .int (nI t)), (2, .int set)] → W p l e (rm 1 0 0) s m args below meth c s.heap [] 0 0 (MQ below (Qrd (some (.int (p_last S 18 t set)))) args s 0 0 q_no) (F0 m 20 ls []) := by
      intro n
      induction n with
      | zero => intro i h1 h2; exact absurd h2 (by omega)
      | succ n ih_20 =>
        intro i hi_20 hin_20  ls hl
        refine lv_iload hx hb dX2_lastSolveMinute_20 (lv_at hl 0 rfl) ?_
        refine lv_bipush (v := 16) hx hb dX2_lastSolveMinute_22 (by decide) ?_
        refine lv_icmp_ge (tgt := 58) hx hb dX2_lastSolveMinute_24 (by decide) (fun c_2 => ?_) (fun c_2 => ?_)
        · skip
          have c_2 : 16 ≤ i := n_le (a := 16) (b := i) (by omega) (by omega) c_2
          have hend_20 : i = 16 := by omega
          subst hend_20
          refine lv_iload_n hx hb dX2_lastSolveMinute_58 rfl (lv_at hl 1 rfl) ?_
          refine q_top (y := p_last S 18 t set) (by first | (simp only [bI, p_last, c_1, ↓reduceIte]; done) | (simp [bI, p_last, c_1]; done) | (simp_all [bI, p_last]; done)) ?_
          exact e_ret hx hb hr hlk rfl dX2_lastSolveMinute_59
        · skip
          have c_2 : i < 16 := n_nle (a := 16) (b := i) (by omega) (by omega) c_2
          refine lv_iload_n hx hb dX2_lastSolveMinute_27 rfl (lv_at hl 4 rfl) ?_
          refine lv_iload hx hb dX2_lastSolveMinute_28 (lv_at hl 0 rfl) ?_
          refine q_rd (q_runSN (rest := []) hx hb hml hown hE (c_X5_has l D cI cZ cL _ set (nI i)) ck_X5_has w_306 hP hl.1 rfl ⟨Nat.le_of_ble_eq_true rfl, Nat.le_of_ble_eq_true rfl⟩ (Nat.le_of_ble_eq_true rfl) dX2_lastSolveMinute_30 ⟨Nat.le_of_ble_eq_true rfl, Nat.le_of_ble_eq_true rfl⟩) ?_
          refine lv_if_eq (tgt := 52) hx hb dX2_lastSolveMinute_33 (by decide) (fun c_3 => ?_) (fun c_3 => ?_)
          · skip
            have c_3 : hs set (nI i) = false := b_f c_3
            refine lv_iinc (v := nI (i + 1)) (lv' := [(4, .int (nI (i + 1))), (3, .int (p_lsm S 18 t set i)), (0, .ref (ad 18)), (1, .int (nI t)), (2, .int set)]) hx hb dX2_lastSolveMinute_52 hl (k := 0) rfl (nI_1 i) (by decide) rfl (fun ls hl => ?_)
            refine lv_goto (tgt := 20) hx hb dX2_lastSolveMinute_55 (by decide) ?_
            refine ih_20 (i + 1) (by omega) (by omega)  ls ?_
            rw [show p_lsm S 18 t set (i + 1) = p_lsm S 18 t set i from by first | (simp only [bI, p_lsm, c_2, c_3, ↓reduceIte]; done) | (simp [bI, p_lsm, c_2, c_3]; done) | (simp_all [bI, p_lsm]; done)]
            exact lv_sub hl [0, 1, 2, 3, 4] rfl
          · skip
            have c_3 : hs set (nI i) = true := b_t c_3
            refine lv_iload_n hx hb dX2_lastSolveMinute_36 rfl (lv_at hl 1 rfl) ?_
            refine lv_aload_n hx hb dX2_lastSolveMinute_37 rfl (lv_at hl 2 rfl) ?_
            refine q_get (v := .ref (ad 21)) hx hb hown hE inT_X2 hP 18 rfl rfl 2 (by decide) w_191 rfl dX2_lastSolveMinute_38 ?_
            refine lv_iload_n hx hb dX2_lastSolveMinute_41 rfl (lv_at hl 3 rfl) ?_
            refine lv_iload hx hb dX2_lastSolveMinute_42 (lv_at hl 0 rfl) ?_
            refine q_rd (q_runSN (rest := [.ref (ad 21), .int (p_lsm S 18 t set i)]) hx hb hml hown hE (c_X5_cell l D cI cZ cL _ t i) ck_X5_cell w_307 hP hl.1 rfl ⟨Nat.le_of_ble_eq_true rfl, Nat.le_of_ble_eq_true rfl⟩ (Nat.le_of_ble_eq_true rfl) dX2_lastSolveMinute_44 ⟨Nat.le_of_ble_eq_true rfl, Nat.le_of_ble_eq_true rfl⟩) ?_
            refine q_iald (f := S 21) (i := (t * 16 + i)) hx hb hE hP 21 rfl (by omega) (Nat.le_of_ble_eq_true rfl) dX2_lastSolveMinute_47 ?_
            refine va_mmax hx hb (hml.trans hl.1.symm) hown (hE.1 _ w_308 args) (hE.1 _ w_309 args) (hE.1 _ w_75 args) (hE.1 _ w_310 args) (Nat.le_of_ble_eq_true rfl) (Nat.le_of_ble_eq_true rfl) (Nat.le_of_ble_eq_true rfl) (Nat.le_of_ble_eq_true rfl) dX2_lastSolveMinute_48 ?_
            refine q_top (y := imax (p_lsm S 18 t set i) (S 21 (t * 16 + i))) rfl ?_
            refine lv_istore_n (lv' := [(3, .int (imax (p_lsm S 18 t set i) (S 21 (t * 16 + i)))), (4, .int (nI i)), (0, .ref (ad 18)), (1, .int (nI t)), (2, .int set)]) hx hb dX2_lastSolveMinute_51 rfl hl (by decide) rfl (fun ls hl => ?_)
            refine lv_iinc (v := nI (i + 1)) (lv' := [(4, .int (nI (i + 1))), (3, .int (imax (p_lsm S 18 t set i) (S 21 (t * 16 + i)))), (0, .ref (ad 18)), (1, .int (nI t)), (2, .int set)]) hx hb dX2_lastSolveMinute_52 hl (k := 1) rfl (nI_1 i) (by decide) rfl (fun ls hl => ?_)
            refine lv_goto (tgt := 20) hx hb dX2_lastSolveMinute_55 (by decide) ?_
            refine ih_20 (i + 1) (by omega) (by omega)  ls ?_
            rw [show p_lsm S 18 t set (i + 1) = imax (p_lsm S 18 t set i) (S 21 (t * 16 + i)) from by first | (simp only [bI, p_lsm, c_2, c_3, ↓reduceIte]; done) | (simp [bI, p_lsm, c_2, c_3]; done) | (simp_all [bI, p_lsm]; done)]
            exact lv_sub hl [0, 1, 2, 3, 4] rfl
    refine hloop_20 (16 + 1) 0 (by omega) (by omega)  ls ?_
    rw [show p_lsm S 18 t set 0 = 0 from by first | rfl | (first | (simp only [bI, p_lsm, c_1, ↓reduceIte]; done) | (simp [bI, p_lsm, c_1]; done) | (simp_all [bI, p_lsm]; done))]
    exact lv_sub hl [0, 1, 2, 3, 4] rfl
  · skip
    refine lv_iconst (v := (-1)) hx hb dX2_lastSolveMinute_13 (by decide) ?_
    refine q_top (y := p_last S 18 t set) (by first | (simp only [bI, p_last, c_1, ↓reduceIte]; done) | (simp [bI, p_last, c_1]; done) | (simp_all [bI, p_last]; done)) ?_
    exact e_ret hx hb hr hlk rfl dX2_lastSolveMinute_14


set_option maxHeartbeats 4000000 in
set_option maxRecDepth 100000 in
theorem c_X2_lastSolveMinute_25 (l : Launch) (D : va_G) (cI cZ cL : ClassId) (ad : Nat → Nat) (S : Mem) (t : Nat) (set : Int32) (ht : t < 8) : RD l D cI cZ cL yX2_lastSolveMinute cX2_lastSolveMinute 5 (some .int) 1 [.ref (ad 25), .int (nI t), .int set] (wC ad cI S) (some (.int (p_last S 25 t set))) := by
  refine RD.of (by decide) (Nat.le_of_ble_eq_true rfl) ?_
  intro p e s m args below meth c ls hx hb hr hml hown hlk hE hP hl
  have hl : lv_has ls 5 [(0, .ref (ad 25)), (1, .int (nI t)), (2, .int set)] := hl
  refine lv_iload_n hx hb dX2_lastSolveMinute_0 rfl (lv_at hl 2 rfl) ?_
  refine lv_aload_n hx hb dX2_lastSolveMinute_1 rfl (lv_at hl 0 rfl) ?_
  refine q_get (v := .ref (ad 26)) hx hb hown hE inT_X2 hP 25 rfl rfl 0 (by decide) w_187 rfl dX2_lastSolveMinute_2 ?_
  refine lv_iload_n hx hb dX2_lastSolveMinute_5 rfl (lv_at hl 1 rfl) ?_
  refine q_iald (f := S 26) (i := t) hx hb hE hP 26 rfl (by omega) (Nat.le_of_ble_eq_true rfl) dX2_lastSolveMinute_6 ?_
  refine lv_iconst (v := (-1)) hx hb dX2_lastSolveMinute_7 (by decide) ?_
  refine lv_ixor hx hb dX2_lastSolveMinute_8 ?_
  refine lv_iand hx hb dX2_lastSolveMinute_9 ?_
  refine lv_if_eq (tgt := 15) hx hb dX2_lastSolveMinute_10 (by decide) (fun c_1 => ?_) (fun c_1 => ?_)
  · skip
    refine lv_iconst (v := 0) hx hb dX2_lastSolveMinute_15 (by decide) ?_
    refine lv_istore_n (lv' := [(3, .int 0), (0, .ref (ad 25)), (1, .int (nI t)), (2, .int set)]) hx hb dX2_lastSolveMinute_16 rfl hl (by decide) rfl (fun ls hl => ?_)
    refine lv_iconst (v := 0) hx hb dX2_lastSolveMinute_17 (by decide) ?_
    refine lv_istore (lv' := [(4, .int 0), (3, .int 0), (0, .ref (ad 25)), (1, .int (nI t)), (2, .int set)]) hx hb dX2_lastSolveMinute_18 hl (by decide) rfl (fun ls hl => ?_)
    have hloop_20 : ∀ (n i : Nat), i ≤ 16 → 16 < i + n → ∀ ls : Array Slot, lv_has ls 5 [(4, .int (nI i)), (3, .int (p_lsm S 25 t set i)), (0, .ref (ad 25)), (1, .int (nI t)), (2, .int set)] → W p l e (rm 1 0 0) s m args below meth c s.heap [] 0 0 (MQ below (Qrd (some (.int (p_last S 25 t set)))) args s 0 0 q_no) (F0 m 20 ls []) := by
      intro n
      induction n with
      | zero => intro i h1 h2; exact absurd h2 (by omega)
      | succ n ih_20 =>
        intro i hi_20 hin_20  ls hl
        refine lv_iload hx hb dX2_lastSolveMinute_20 (lv_at hl 0 rfl) ?_
        refine lv_bipush (v := 16) hx hb dX2_lastSolveMinute_22 (by decide) ?_
        refine lv_icmp_ge (tgt := 58) hx hb dX2_lastSolveMinute_24 (by decide) (fun c_2 => ?_) (fun c_2 => ?_)
        · skip
          have c_2 : 16 ≤ i := n_le (a := 16) (b := i) (by omega) (by omega) c_2
          have hend_20 : i = 16 := by omega
          subst hend_20
          refine lv_iload_n hx hb dX2_lastSolveMinute_58 rfl (lv_at hl 1 rfl) ?_
          refine q_top (y := p_last S 25 t set) (by first | (simp only [bI, p_last, c_1, ↓reduceIte]; done) | (simp [bI, p_last, c_1]; done) | (simp_all [bI, p_last]; done)) ?_
          exact e_ret hx hb hr hlk rfl dX2_lastSolveMinute_59
        · skip
          have c_2 : i < 16 := n_nle (a := 16) (b := i) (by omega) (by omega) c_2
          refine lv_iload_n hx hb dX2_lastSolveMinute_27 rfl (lv_at hl 4 rfl) ?_
          refine lv_iload hx hb dX2_lastSolveMinute_28 (lv_at hl 0 rfl) ?_
          refine q_rd (q_runSN (rest := []) hx hb hml hown hE (c_X5_has l D cI cZ cL _ set (nI i)) ck_X5_has w_306 hP hl.1 rfl ⟨Nat.le_of_ble_eq_true rfl, Nat.le_of_ble_eq_true rfl⟩ (Nat.le_of_ble_eq_true rfl) dX2_lastSolveMinute_30 ⟨Nat.le_of_ble_eq_true rfl, Nat.le_of_ble_eq_true rfl⟩) ?_
          refine lv_if_eq (tgt := 52) hx hb dX2_lastSolveMinute_33 (by decide) (fun c_3 => ?_) (fun c_3 => ?_)
          · skip
            have c_3 : hs set (nI i) = false := b_f c_3
            refine lv_iinc (v := nI (i + 1)) (lv' := [(4, .int (nI (i + 1))), (3, .int (p_lsm S 25 t set i)), (0, .ref (ad 25)), (1, .int (nI t)), (2, .int set)]) hx hb dX2_lastSolveMinute_52 hl (k := 0) rfl (nI_1 i) (by decide) rfl (fun ls hl => ?_)
            refine lv_goto (tgt := 20) hx hb dX2_lastSolveMinute_55 (by decide) ?_
            refine ih_20 (i + 1) (by omega) (by omega)  ls ?_
            rw [show p_lsm S 25 t set (i + 1) = p_lsm S 25 t set i from by first | (simp only [bI, p_lsm, c_2, c_3, ↓reduceIte]; done) | (simp [bI, p_lsm, c_2, c_3]; done) | (simp_all [bI, p_lsm]; done)]
            exact lv_sub hl [0, 1, 2, 3, 4] rfl
          · skip
            have c_3 : hs set (nI i) = true := b_t c_3
            refine lv_iload_n hx hb dX2_lastSolveMinute_36 rfl (lv_at hl 1 rfl) ?_
            refine lv_aload_n hx hb dX2_lastSolveMinute_37 rfl (lv_at hl 2 rfl) ?_
            refine q_get (v := .ref (ad 28)) hx hb hown hE inT_X2 hP 25 rfl rfl 2 (by decide) w_191 rfl dX2_lastSolveMinute_38 ?_
            refine lv_iload_n hx hb dX2_lastSolveMinute_41 rfl (lv_at hl 3 rfl) ?_
            refine lv_iload hx hb dX2_lastSolveMinute_42 (lv_at hl 0 rfl) ?_
            refine q_rd (q_runSN (rest := [.ref (ad 28), .int (p_lsm S 25 t set i)]) hx hb hml hown hE (c_X5_cell l D cI cZ cL _ t i) ck_X5_cell w_307 hP hl.1 rfl ⟨Nat.le_of_ble_eq_true rfl, Nat.le_of_ble_eq_true rfl⟩ (Nat.le_of_ble_eq_true rfl) dX2_lastSolveMinute_44 ⟨Nat.le_of_ble_eq_true rfl, Nat.le_of_ble_eq_true rfl⟩) ?_
            refine q_iald (f := S 28) (i := (t * 16 + i)) hx hb hE hP 28 rfl (by omega) (Nat.le_of_ble_eq_true rfl) dX2_lastSolveMinute_47 ?_
            refine va_mmax hx hb (hml.trans hl.1.symm) hown (hE.1 _ w_308 args) (hE.1 _ w_309 args) (hE.1 _ w_75 args) (hE.1 _ w_310 args) (Nat.le_of_ble_eq_true rfl) (Nat.le_of_ble_eq_true rfl) (Nat.le_of_ble_eq_true rfl) (Nat.le_of_ble_eq_true rfl) dX2_lastSolveMinute_48 ?_
            refine q_top (y := imax (p_lsm S 25 t set i) (S 28 (t * 16 + i))) rfl ?_
            refine lv_istore_n (lv' := [(3, .int (imax (p_lsm S 25 t set i) (S 28 (t * 16 + i)))), (4, .int (nI i)), (0, .ref (ad 25)), (1, .int (nI t)), (2, .int set)]) hx hb dX2_lastSolveMinute_51 rfl hl (by decide) rfl (fun ls hl => ?_)
            refine lv_iinc (v := nI (i + 1)) (lv' := [(4, .int (nI (i + 1))), (3, .int (imax (p_lsm S 25 t set i) (S 28 (t * 16 + i)))), (0, .ref (ad 25)), (1, .int (nI t)), (2, .int set)]) hx hb dX2_lastSolveMinute_52 hl (k := 1) rfl (nI_1 i) (by decide) rfl (fun ls hl => ?_)
            refine lv_goto (tgt := 20) hx hb dX2_lastSolveMinute_55 (by decide) ?_
            refine ih_20 (i + 1) (by omega) (by omega)  ls ?_
            rw [show p_lsm S 25 t set (i + 1) = imax (p_lsm S 25 t set i) (S 28 (t * 16 + i)) from by first | (simp only [bI, p_lsm, c_2, c_3, ↓reduceIte]; done) | (simp [bI, p_lsm, c_2, c_3]; done) | (simp_all [bI, p_lsm]; done)]
            exact lv_sub hl [0, 1, 2, 3, 4] rfl
    refine hloop_20 (16 + 1) 0 (by omega) (by omega)  ls ?_
    rw [show p_lsm S 25 t set 0 = 0 from by first | rfl | (first | (simp only [bI, p_lsm, c_1, ↓reduceIte]; done) | (simp [bI, p_lsm, c_1]; done) | (simp_all [bI, p_lsm]; done))]
    exact lv_sub hl [0, 1, 2, 3, 4] rfl
  · skip
    refine lv_iconst (v := (-1)) hx hb dX2_lastSolveMinute_13 (by decide) ?_
    refine q_top (y := p_last S 25 t set) (by first | (simp only [bI, p_last, c_1, ↓reduceIte]; done) | (simp [bI, p_last, c_1]; done) | (simp_all [bI, p_last]; done)) ?_
    exact e_ret hx hb hr hlk rfl dX2_lastSolveMinute_14

theorem dX5_openMinute_0 : decode cX5_openMinute 0 = .ok (.aload_n 1, 1) := by decide +kernel
theorem dX5_openMinute_1 : decode cX5_openMinute 1 = .ok (.iload_n 2, 1) := by decide +kernel
theorem dX5_openMinute_2 : decode cX5_openMinute 2 = .ok (.aload_n 0, 1) := by decide +kernel
theorem dX5_openMinute_3 : decode cX5_openMinute 3 = .ok (.getfield 10, 3) := by decide +kernel
theorem dX5_openMinute_6 : decode cX5_openMinute 6 = .ok (.getfield 101, 3) := by decide +kernel
theorem dX5_openMinute_9 : decode cX5_openMinute 9 = .ok (.iload_n 3, 1) := by decide +kernel
theorem dX5_openMinute_10 : decode cX5_openMinute 10 = .ok (.iaload, 1) := by decide +kernel
theorem dX5_openMinute_11 : decode cX5_openMinute 11 = .ok (.invokevirtual 257, 3) := by decide +kernel
theorem dX5_openMinute_14 : decode cX5_openMinute 14 = .ok (.ireturn, 1) := by decide +kernel
set_option maxHeartbeats 4000000 in
set_option maxRecDepth 100000 in
theorem c_X5_openMinute_18 (l : Launch) (D : va_G) (cI cZ cL : ClassId) (ad : Nat → Nat) (S : Mem) (t : Nat) (r : Nat) (ht : t < 8) (hr : r < 16) : RD l D cI cZ cL yX5_openMinute cX5_openMinute 4 (some .int) 2 [.ref (ad 0), .ref (ad 18), .int (nI t), .int (nI r)] (wC ad cI S) (some (.int (p_open S 18 t r))) := by
  refine RD.of (by decide) (Nat.le_of_ble_eq_true rfl) ?_
  intro p e s m args below meth c ls hx hb hr hml hown hlk hE hP hl
  have hl : lv_has ls 4 [(0, .ref (ad 0)), (1, .ref (ad 18)), (2, .int (nI t)), (3, .int (nI r))] := hl
  refine lv_aload_n hx hb dX5_openMinute_0 rfl (lv_at hl 1 rfl) ?_
  refine lv_iload_n hx hb dX5_openMinute_1 rfl (lv_at hl 2 rfl) ?_
  refine lv_aload_n hx hb dX5_openMinute_2 rfl (lv_at hl 0 rfl) ?_
  refine q_get (v := .ref (ad 1)) hx hb hown hE inT_X5 hP 0 rfl rfl 0 (by decide) w_212 rfl dX5_openMinute_3 ?_
  refine q_getN (v := .ref (ad 6)) hx hb hown hE inT_X3 hP 1 rfl rfl 4 (by decide) w_101 rfl dX5_openMinute_6 ?_
  refine lv_iload_n hx hb dX5_openMinute_9 rfl (lv_at hl 3 rfl) ?_
  refine q_iald (f := S 6) (i := r) hx hb hE hP 6 rfl (by omega) (Nat.le_of_ble_eq_true rfl) dX5_openMinute_10 ?_
  refine q_rd (q_runVN (rest := []) hx hb hml hown hE (c_X2_lastSolveMinute_18 l D cI cZ cL ad S t (S 6 r) (by omega)) ck_X2_lastSolveMinute w_302 hP 18 rfl rfl hl.1 rfl ⟨Nat.le_of_ble_eq_true rfl, Nat.le_of_ble_eq_true rfl⟩ (Nat.le_of_ble_eq_true rfl) dX5_openMinute_11 ⟨Nat.le_of_ble_eq_true rfl, Nat.le_of_ble_eq_true rfl⟩) ?_
  refine q_top (y := p_open S 18 t r) (by rfl) ?_
  exact e_ret hx hb hr hlk rfl dX5_openMinute_14

theorem dX5_freeSet_0 : decode cX5_freeSet 0 = .ok (.iconst 0, 1) := by decide +kernel
theorem dX5_freeSet_1 : decode cX5_freeSet 1 = .ok (.istore_n 2, 1) := by decide +kernel
theorem dX5_freeSet_2 : decode cX5_freeSet 2 = .ok (.iconst 0, 1) := by decide +kernel
theorem dX5_freeSet_3 : decode cX5_freeSet 3 = .ok (.istore_n 3, 1) := by decide +kernel
theorem dX5_freeSet_4 : decode cX5_freeSet 4 = .ok (.iload_n 3, 1) := by decide +kernel
theorem dX5_freeSet_5 : decode cX5_freeSet 5 = .ok (.aload_n 0, 1) := by decide +kernel
theorem dX5_freeSet_6 : decode cX5_freeSet 6 = .ok (.getfield 115, 3) := by decide +kernel
theorem dX5_freeSet_9 : decode cX5_freeSet 9 = .ok (.if_icmp .ge 30, 3) := by decide +kernel
theorem dX5_freeSet_12 : decode cX5_freeSet 12 = .ok (.iload_n 2, 1) := by decide +kernel
theorem dX5_freeSet_13 : decode cX5_freeSet 13 = .ok (.aload_n 1, 1) := by decide +kernel
theorem dX5_freeSet_14 : decode cX5_freeSet 14 = .ok (.getfield 180, 3) := by decide +kernel
theorem dX5_freeSet_17 : decode cX5_freeSet 17 = .ok (.iload_n 3, 1) := by decide +kernel
theorem dX5_freeSet_18 : decode cX5_freeSet 18 = .ok (.iaload, 1) := by decide +kernel
theorem dX5_freeSet_19 : decode cX5_freeSet 19 = .ok (.aload_n 0, 1) := by decide +kernel
theorem dX5_freeSet_20 : decode cX5_freeSet 20 = .ok (.getfield 33, 3) := by decide +kernel
theorem dX5_freeSet_23 : decode cX5_freeSet 23 = .ok (.getfield 183, 3) := by decide +kernel
theorem dX5_freeSet_26 : decode cX5_freeSet 26 = .ok (.iload_n 3, 1) := by decide +kernel
theorem dX5_freeSet_27 : decode cX5_freeSet 27 = .ok (.iaload, 1) := by decide +kernel
theorem dX5_freeSet_28 : decode cX5_freeSet 28 = .ok (.iconst (-1), 1) := by decide +kernel
theorem dX5_freeSet_29 : decode cX5_freeSet 29 = .ok (.ixor, 1) := by decide +kernel
theorem dX5_freeSet_30 : decode cX5_freeSet 30 = .ok (.iand, 1) := by decide +kernel
theorem dX5_freeSet_31 : decode cX5_freeSet 31 = .ok (.ior, 1) := by decide +kernel
theorem dX5_freeSet_32 : decode cX5_freeSet 32 = .ok (.istore_n 2, 1) := by decide +kernel
theorem dX5_freeSet_33 : decode cX5_freeSet 33 = .ok (.iinc 3 1, 3) := by decide +kernel
theorem dX5_freeSet_36 : decode cX5_freeSet 36 = .ok (.goto (-32), 3) := by decide +kernel
theorem dX5_freeSet_39 : decode cX5_freeSet 39 = .ok (.iload_n 2, 1) := by decide +kernel
theorem dX5_freeSet_40 : decode cX5_freeSet 40 = .ok (.ireturn, 1) := by decide +kernel
set_option maxHeartbeats 4000000 in
set_option maxRecDepth 100000 in
theorem c_X5_freeSet_18 (l : Launch) (D : va_G) (cI cZ cL : ClassId) (ad : Nat → Nat) (S : Mem) (hI : I0 S) : RD l D cI cZ cL yX5_freeSet cX5_freeSet 4 (some .int) 0 [.ref (ad 0), .ref (ad 18)] (wC ad cI S) (some (.int (p_free S 18 (cT S)))) := by
  refine RD.of (by decide) (Nat.le_of_ble_eq_true rfl) ?_
  intro p e s m args below meth c ls hx hb hr hml hown hlk hE hP hl
  have hl : lv_has ls 4 [(0, .ref (ad 0)), (1, .ref (ad 18))] := hl
  have hT8 := hI.T8
  refine lv_iconst (v := 0) hx hb dX5_freeSet_0 (by decide) ?_
  refine lv_istore_n (lv' := [(2, .int 0), (0, .ref (ad 0)), (1, .ref (ad 18))]) hx hb dX5_freeSet_1 rfl hl (by decide) rfl (fun ls hl => ?_)
  refine lv_iconst (v := 0) hx hb dX5_freeSet_2 (by decide) ?_
  refine lv_istore_n (lv' := [(3, .int 0), (2, .int 0), (0, .ref (ad 0)), (1, .ref (ad 18))]) hx hb dX5_freeSet_3 rfl hl (by decide) rfl (fun ls hl => ?_)
  have hloop_4 : ∀ (n i : Nat), i ≤ cT S → cT S < i + n → ∀ ls : Array Slot, lv_has ls 4 [(3, .int (nI i)), (2, .int (p_free S 18 i)), (0, .ref (ad 0)), (1, .ref (ad 18))] → W p l e (rm 0 0 0) s m args below meth c s.heap [] 0 0 (MQ below (Qrd (some (.int (p_free S 18 (cT S))))) args s 0 0 q_no) (F0 m 4 ls []) := by
    intro n
    induction n with
    | zero => intro i h1 h2; exact absurd h2 (by omega)
    | succ n ih_4 =>
      intro i hi_4 hin_4  ls hl
      refine lv_iload_n hx hb dX5_freeSet_4 rfl (lv_at hl 0 rfl) ?_
      refine lv_aload_n hx hb dX5_freeSet_5 rfl (lv_at hl 2 rfl) ?_
      refine q_get (v := .int (S 0 9)) hx hb hown hE inT_X5 hP 0 rfl rfl 9 (by decide) w_221 rfl dX5_freeSet_6 ?_
      refine q_top (y := nI (cT S)) (I0.T hI) ?_
      refine lv_icmp_ge (tgt := 39) hx hb dX5_freeSet_9 (by decide) (fun c_1 => ?_) (fun c_1 => ?_)
      · skip
        have c_1 : (cT S) ≤ i := n_le (a := cT S) (b := i) (by omega) (by omega) c_1
        have hend_4 : i = cT S := by omega
        subst hend_4
        refine lv_iload_n hx hb dX5_freeSet_39 rfl (lv_at hl 1 rfl) ?_
        exact e_ret hx hb hr hlk rfl dX5_freeSet_40
      · skip
        have c_1 : i < (cT S) := n_nle (a := cT S) (b := i) (by omega) (by omega) c_1
        refine lv_iload_n hx hb dX5_freeSet_12 rfl (lv_at hl 1 rfl) ?_
        refine lv_aload_n hx hb dX5_freeSet_13 rfl (lv_at hl 3 rfl) ?_
        refine q_getN (v := .ref (ad 20)) hx hb hown hE inT_X2 hP 18 rfl rfl 1 (by decide) w_190 rfl dX5_freeSet_14 ?_
        refine lv_iload_n hx hb dX5_freeSet_17 rfl (lv_at hl 0 rfl) ?_
        refine q_iald (f := S 20) (i := i) hx hb hE hP 20 rfl (by omega) (Nat.le_of_ble_eq_true rfl) dX5_freeSet_18 ?_
        refine lv_aload_n hx hb dX5_freeSet_19 rfl (lv_at hl 2 rfl) ?_
        refine q_get (v := .ref (ad 15)) hx hb hown hE inT_X5 hP 0 rfl rfl 3 (by decide) w_215 rfl dX5_freeSet_20 ?_
        refine q_getN (v := .ref (ad 16)) hx hb hown hE inT_X1 hP 15 rfl rfl 0 (by decide) w_170 rfl dX5_freeSet_23 ?_
        refine lv_iload_n hx hb dX5_freeSet_26 rfl (lv_at hl 0 rfl) ?_
        refine q_iald (f := S 16) (i := i) hx hb hE hP 16 rfl (by omega) (Nat.le_of_ble_eq_true rfl) dX5_freeSet_27 ?_
        refine lv_iconst (v := (-1)) hx hb dX5_freeSet_28 (by decide) ?_
        refine lv_ixor hx hb dX5_freeSet_29 ?_
        refine lv_iand hx hb dX5_freeSet_30 ?_
        refine lv_ior hx hb dX5_freeSet_31 ?_
        refine lv_istore_n (lv' := [(2, .int ((p_free S 18 i) ||| ((S 20 i) &&& ((S 16 i) ^^^ (-1))))), (3, .int (nI i)), (0, .ref (ad 0)), (1, .ref (ad 18))]) hx hb dX5_freeSet_32 rfl hl (by decide) rfl (fun ls hl => ?_)
        refine lv_iinc (v := nI (i + 1)) (lv' := [(3, .int (nI (i + 1))), (2, .int ((p_free S 18 i) ||| ((S 20 i) &&& ((S 16 i) ^^^ (-1))))), (0, .ref (ad 0)), (1, .ref (ad 18))]) hx hb dX5_freeSet_33 hl (k := 1) rfl (nI_1 i) (by decide) rfl (fun ls hl => ?_)
        refine lv_goto (tgt := 4) hx hb dX5_freeSet_36 (by decide) ?_
        refine ih_4 (i + 1) (by omega) (by omega)  ls ?_
        rw [show p_free S 18 (i + 1) = (p_free S 18 i) ||| ((S 20 i) &&& ((S 16 i) ^^^ (-1))) from by first | (simp only [bI, p_free, c_1, ↓reduceIte]; done) | (simp [bI, p_free, c_1]; done) | (simp_all [bI, p_free]; done)]
        exact lv_sub hl [0, 1, 2, 3] rfl
  refine hloop_4 (cT S + 1) 0 (by omega) (by omega)  ls ?_
  rw [show p_free S 18 0 = 0 from by first | rfl | (first | (simp only [bI, p_free, ↓reduceIte]; done) | (simp [bI, p_free]; done) | (simp_all [bI, p_free]; done))]
  exact lv_sub hl [0, 1, 2, 3] rfl


set_option maxHeartbeats 4000000 in
set_option maxRecDepth 100000 in
theorem c_X5_openMinute_25 (l : Launch) (D : va_G) (cI cZ cL : ClassId) (ad : Nat → Nat) (S : Mem) (t : Nat) (r : Nat) (ht : t < 8) (hr : r < 16) : RD l D cI cZ cL yX5_openMinute cX5_openMinute 4 (some .int) 2 [.ref (ad 0), .ref (ad 25), .int (nI t), .int (nI r)] (wC ad cI S) (some (.int (p_open S 25 t r))) := by
  refine RD.of (by decide) (Nat.le_of_ble_eq_true rfl) ?_
  intro p e s m args below meth c ls hx hb hr hml hown hlk hE hP hl
  have hl : lv_has ls 4 [(0, .ref (ad 0)), (1, .ref (ad 25)), (2, .int (nI t)), (3, .int (nI r))] := hl
  refine lv_aload_n hx hb dX5_openMinute_0 rfl (lv_at hl 1 rfl) ?_
  refine lv_iload_n hx hb dX5_openMinute_1 rfl (lv_at hl 2 rfl) ?_
  refine lv_aload_n hx hb dX5_openMinute_2 rfl (lv_at hl 0 rfl) ?_
  refine q_get (v := .ref (ad 1)) hx hb hown hE inT_X5 hP 0 rfl rfl 0 (by decide) w_212 rfl dX5_openMinute_3 ?_
  refine q_getN (v := .ref (ad 6)) hx hb hown hE inT_X3 hP 1 rfl rfl 4 (by decide) w_101 rfl dX5_openMinute_6 ?_
  refine lv_iload_n hx hb dX5_openMinute_9 rfl (lv_at hl 3 rfl) ?_
  refine q_iald (f := S 6) (i := r) hx hb hE hP 6 rfl (by omega) (Nat.le_of_ble_eq_true rfl) dX5_openMinute_10 ?_
  refine q_rd (q_runVN (rest := []) hx hb hml hown hE (c_X2_lastSolveMinute_25 l D cI cZ cL ad S t (S 6 r) (by omega)) ck_X2_lastSolveMinute w_302 hP 25 rfl rfl hl.1 rfl ⟨Nat.le_of_ble_eq_true rfl, Nat.le_of_ble_eq_true rfl⟩ (Nat.le_of_ble_eq_true rfl) dX5_openMinute_11 ⟨Nat.le_of_ble_eq_true rfl, Nat.le_of_ble_eq_true rfl⟩) ?_
  refine q_top (y := p_open S 25 t r) (by rfl) ?_
  exact e_ret hx hb hr hlk rfl dX5_openMinute_14


set_option maxHeartbeats 4000000 in
set_option maxRecDepth 100000 in
theorem c_X5_freeSet_25 (l : Launch) (D : va_G) (cI cZ cL : ClassId) (ad : Nat → Nat) (S : Mem) (hI : I0 S) : RD l D cI cZ cL yX5_freeSet cX5_freeSet 4 (some .int) 0 [.ref (ad 0), .ref (ad 25)] (wC ad cI S) (some (.int (p_free S 25 (cT S)))) := by
  refine RD.of (by decide) (Nat.le_of_ble_eq_true rfl) ?_
  intro p e s m args below meth c ls hx hb hr hml hown hlk hE hP hl
  have hl : lv_has ls 4 [(0, .ref (ad 0)), (1, .ref (ad 25))] := hl
  have hT8 := hI.T8
  refine lv_iconst (v := 0) hx hb dX5_freeSet_0 (by decide) ?_
  refine lv_istore_n (lv' := [(2, .int 0), (0, .ref (ad 0)), (1, .ref (ad 25))]) hx hb dX5_freeSet_1 rfl hl (by decide) rfl (fun ls hl => ?_)
  refine lv_iconst (v := 0) hx hb dX5_freeSet_2 (by decide) ?_
  refine lv_istore_n (lv' := [(3, .int 0), (2, .int 0), (0, .ref (ad 0)), (1, .ref (ad 25))]) hx hb dX5_freeSet_3 rfl hl (by decide) rfl (fun ls hl => ?_)
  have hloop_4 : ∀ (n i : Nat), i ≤ cT S → cT S < i + n → ∀ ls : Array Slot, lv_has ls 4 [(3, .int (nI i)), (2, .int (p_free S 25 i)), (0, .ref (ad 0)), (1, .ref (ad 25))] → W p l e (rm 0 0 0) s m args below meth c s.heap [] 0 0 (MQ below (Qrd (some (.int (p_free S 25 (cT S))))) args s 0 0 q_no) (F0 m 4 ls []) := by
    intro n
    induction n with
    | zero => intro i h1 h2; exact absurd h2 (by omega)
    | succ n ih_4 =>
      intro i hi_4 hin_4  ls hl
      refine lv_iload_n hx hb dX5_freeSet_4 rfl (lv_at hl 0 rfl) ?_
      refine lv_aload_n hx hb dX5_freeSet_5 rfl (lv_at hl 2 rfl) ?_
      refine q_get (v := .int (S 0 9)) hx hb hown hE inT_X5 hP 0 rfl rfl 9 (by decide) w_221 rfl dX5_freeSet_6 ?_
      refine q_top (y := nI (cT S)) (I0.T hI) ?_
      refine lv_icmp_ge (tgt := 39) hx hb dX5_freeSet_9 (by decide) (fun c_1 => ?_) (fun c_1 => ?_)
      · skip
        have c_1 : (cT S) ≤ i := n_le (a := cT S) (b := i) (by omega) (by omega) c_1
        have hend_4 : i = cT S := by omega
        subst hend_4
        refine lv_iload_n hx hb dX5_freeSet_39 rfl (lv_at hl 1 rfl) ?_
        exact e_ret hx hb hr hlk rfl dX5_freeSet_40
      · skip
        have c_1 : i < (cT S) := n_nle (a := cT S) (b := i) (by omega) (by omega) c_1
        refine lv_iload_n hx hb dX5_freeSet_12 rfl (lv_at hl 1 rfl) ?_
        refine lv_aload_n hx hb dX5_freeSet_13 rfl (lv_at hl 3 rfl) ?_
        refine q_getN (v := .ref (ad 27)) hx hb hown hE inT_X2 hP 25 rfl rfl 1 (by decide) w_190 rfl dX5_freeSet_14 ?_
        refine lv_iload_n hx hb dX5_freeSet_17 rfl (lv_at hl 0 rfl) ?_
        refine q_iald (f := S 27) (i := i) hx hb hE hP 27 rfl (by omega) (Nat.le_of_ble_eq_true rfl) dX5_freeSet_18 ?_
        refine lv_aload_n hx hb dX5_freeSet_19 rfl (lv_at hl 2 rfl) ?_
        refine q_get (v := .ref (ad 15)) hx hb hown hE inT_X5 hP 0 rfl rfl 3 (by decide) w_215 rfl dX5_freeSet_20 ?_
        refine q_getN (v := .ref (ad 16)) hx hb hown hE inT_X1 hP 15 rfl rfl 0 (by decide) w_170 rfl dX5_freeSet_23 ?_
        refine lv_iload_n hx hb dX5_freeSet_26 rfl (lv_at hl 0 rfl) ?_
        refine q_iald (f := S 16) (i := i) hx hb hE hP 16 rfl (by omega) (Nat.le_of_ble_eq_true rfl) dX5_freeSet_27 ?_
        refine lv_iconst (v := (-1)) hx hb dX5_freeSet_28 (by decide) ?_
        refine lv_ixor hx hb dX5_freeSet_29 ?_
        refine lv_iand hx hb dX5_freeSet_30 ?_
        refine lv_ior hx hb dX5_freeSet_31 ?_
        refine lv_istore_n (lv' := [(2, .int ((p_free S 25 i) ||| ((S 27 i) &&& ((S 16 i) ^^^ (-1))))), (3, .int (nI i)), (0, .ref (ad 0)), (1, .ref (ad 25))]) hx hb dX5_freeSet_32 rfl hl (by decide) rfl (fun ls hl => ?_)
        refine lv_iinc (v := nI (i + 1)) (lv' := [(3, .int (nI (i + 1))), (2, .int ((p_free S 25 i) ||| ((S 27 i) &&& ((S 16 i) ^^^ (-1))))), (0, .ref (ad 0)), (1, .ref (ad 25))]) hx hb dX5_freeSet_33 hl (k := 1) rfl (nI_1 i) (by decide) rfl (fun ls hl => ?_)
        refine lv_goto (tgt := 4) hx hb dX5_freeSet_36 (by decide) ?_
        refine ih_4 (i + 1) (by omega) (by omega)  ls ?_
        rw [show p_free S 25 (i + 1) = (p_free S 25 i) ||| ((S 27 i) &&& ((S 16 i) ^^^ (-1))) from by first | (simp only [bI, p_free, c_1, ↓reduceIte]; done) | (simp [bI, p_free, c_1]; done) | (simp_all [bI, p_free]; done)]
        exact lv_sub hl [0, 1, 2, 3] rfl
  refine hloop_4 (cT S + 1) 0 (by omega) (by omega)  ls ?_
  rw [show p_free S 25 0 = 0 from by first | rfl | (first | (simp only [bI, p_free, ↓reduceIte]; done) | (simp [bI, p_free]; done) | (simp_all [bI, p_free]; done))]
  exact lv_sub hl [0, 1, 2, 3] rfl
