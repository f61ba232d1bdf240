theorem dX5_has_0 : decode cX5_has 0 = .ok (.iload_n 0, 1) := by decide +kernel
theorem dX5_has_1 : decode cX5_has 1 = .ok (.iload_n 1, 1) := by decide +kernel
theorem dX5_has_2 : decode cX5_has 2 = .ok (.ishr, 1) := by decide +kernel
theorem dX5_has_3 : decode cX5_has 3 = .ok (.iconst 1, 1) := by decide +kernel
theorem dX5_has_4 : decode cX5_has 4 = .ok (.iand, 1) := by decide +kernel
theorem dX5_has_5 : decode cX5_has 5 = .ok (.ifCond .eq 7, 3) := by decide +kernel
theorem dX5_has_8 : decode cX5_has 8 = .ok (.iconst 1, 1) := by decide +kernel
theorem dX5_has_9 : decode cX5_has 9 = .ok (.goto 4, 3) := by decide +kernel
theorem dX5_has_12 : decode cX5_has 12 = .ok (.iconst 0, 1) := by decide +kernel
theorem dX5_has_13 : decode cX5_has 13 = .ok (.ireturn, 1) := by decide +kernel
set_option maxHeartbeats 4000000 in
set_option maxRecDepth 100000 in
theorem c_X5_has (l : Launch) (D : va_G) (cI cZ cL : ClassId) (ws : va_W) (x : Int32) (y : Int32) : RD l D cI cZ cL yX5_has cX5_has 2 (some .boolean) 0 [.int x, .int y] ws (some (.int (bI (hs x y)))) := by
  refine RD.of (by decide) (Nat.le_of_ble_eq_true rfl) ?_
  intro p e s m args below meth c ls hx hb hr hml hown hlk hE hP hl
  have hl : lv_has ls 2 [(0, .int x), (1, .int y)] := hl
  refine lv_iload_n hx hb dX5_has_0 rfl (lv_at hl 0 rfl) ?_
  refine lv_iload_n hx hb dX5_has_1 rfl (lv_at hl 1 rfl) ?_
  refine lv_ishr hx hb dX5_has_2 ?_
  refine lv_iconst (v := 1) hx hb dX5_has_3 (by decide) ?_
  refine lv_iand hx hb dX5_has_4 ?_
  refine lv_if_eq (tgt := 12) hx hb dX5_has_5 (by decide) (fun c_1 => ?_) (fun c_1 => ?_)
  · skip
    refine lv_iconst (v := 0) hx hb dX5_has_12 (by decide) ?_
    refine q_top (y := bI (hs x y)) (by first | (simp only [bI, hs, c_1, ↓reduceIte]; done) | (simp [bI, hs, c_1]; done) | (simp_all [bI, hs]; done)) ?_
    exact e_ret hx hb hr hlk (n_bI _) dX5_has_13
  · skip
    refine lv_iconst (v := 1) hx hb dX5_has_8 (by decide) ?_
    refine lv_goto (tgt := 13) hx hb dX5_has_9 (by decide) ?_
    refine q_top (y := bI (hs x y)) (by first | (simp only [bI, hs, c_1, ↓reduceIte]; done) | (simp [bI, hs, c_1]; done) | (simp_all [bI, hs]; done)) ?_
    exact e_ret hx hb hr hlk (n_bI _) dX5_has_13

theorem dX5_bit_0 : decode cX5_bit 0 = .ok (.iconst 1, 1) := by decide +kernel
theorem dX5_bit_1 : decode cX5_bit 1 = .ok (.iload_n 0, 1) := by decide +kernel
theorem dX5_bit_2 : decode cX5_bit 2 = .ok (.ishl, 1) := by decide +kernel
theorem dX5_bit_3 : decode cX5_bit 3 = .ok (.ireturn, 1) := by decide +kernel
set_option maxHeartbeats 4000000 in
set_option maxRecDepth 100000 in
theorem c_X5_bit (l : Launch) (D : va_G) (cI cZ cL : ClassId) (ws : va_W) (x : Int32) : RD l D cI cZ cL yX5_bit cX5_bit 1 (some .int) 0 [.int x] ws (some (.int (bt x))) := by
  refine RD.of (by decide) (Nat.le_of_ble_eq_true rfl) ?_
  intro p e s m args below meth c ls hx hb hr hml hown hlk hE hP hl
  have hl : lv_has ls 1 [(0, .int x)] := hl
  refine lv_iconst (v := 1) hx hb dX5_bit_0 (by decide) ?_
  refine lv_iload_n hx hb dX5_bit_1 rfl (lv_at hl 0 rfl) ?_
  refine lv_ishl hx hb dX5_bit_2 ?_
  refine q_top (y := bt x) rfl ?_
  exact e_ret hx hb hr hlk rfl dX5_bit_3

theorem dX5_cell_0 : decode cX5_cell 0 = .ok (.iload_n 0, 1) := by decide +kernel
theorem dX5_cell_1 : decode cX5_cell 1 = .ok (.bipush 16, 2) := by decide +kernel
theorem dX5_cell_3 : decode cX5_cell 3 = .ok (.imul, 1) := by decide +kernel
theorem dX5_cell_4 : decode cX5_cell 4 = .ok (.iload_n 1, 1) := by decide +kernel
theorem dX5_cell_5 : decode cX5_cell 5 = .ok (.iadd, 1) := by decide +kernel
theorem dX5_cell_6 : decode cX5_cell 6 = .ok (.ireturn, 1) := by decide +kernel
set_option maxHeartbeats 4000000 in
set_option maxRecDepth 100000 in
theorem c_X5_cell (l : Launch) (D : va_G) (cI cZ cL : ClassId) (ws : va_W) (t : Nat) (r : Nat) : RD l D cI cZ cL yX5_cell cX5_cell 2 (some .int) 0 [.int (nI t), .int (nI r)] ws (some (.int (nI (t * 16 + r)))) := by
  refine RD.of (by decide) (Nat.le_of_ble_eq_true rfl) ?_
  intro p e s m args below meth c ls hx hb hr hml hown hlk hE hP hl
  have hl : lv_has ls 2 [(0, .int (nI t)), (1, .int (nI r))] := hl
  refine lv_iload_n hx hb dX5_cell_0 rfl (lv_at hl 0 rfl) ?_
  refine lv_bipush (v := 16) hx hb dX5_cell_1 (by decide) ?_
  refine lv_imul hx hb dX5_cell_3 ?_
  refine q_top (y := nI (t * 16)) (pk_mul t 16) ?_
  refine lv_iload_n hx hb dX5_cell_4 rfl (lv_at hl 1 rfl) ?_
  refine lv_iadd hx hb dX5_cell_5 ?_
  refine q_top (y := nI ((t * 16) + r)) (nI_add (t * 16) r) ?_
  refine q_top (y := nI (t * 16 + r)) (rfl) ?_
  exact e_ret hx hb hr hlk rfl dX5_cell_6

theorem dX5_sale_0 : decode cX5_sale 0 = .ok (.iload_n 0, 1) := by decide +kernel
theorem dX5_sale_1 : decode cX5_sale 1 = .ok (.iload_n 1, 1) := by decide +kernel
theorem dX5_sale_2 : decode cX5_sale 2 = .ok (.invokestatic 177, 3) := by decide +kernel
theorem dX5_sale_5 : decode cX5_sale 5 = .ok (.iconst 3, 1) := by decide +kernel
theorem dX5_sale_6 : decode cX5_sale 6 = .ok (.imul, 1) := by decide +kernel
theorem dX5_sale_7 : decode cX5_sale 7 = .ok (.iload_n 2, 1) := by decide +kernel
theorem dX5_sale_8 : decode cX5_sale 8 = .ok (.iadd, 1) := by decide +kernel
theorem dX5_sale_9 : decode cX5_sale 9 = .ok (.ireturn, 1) := by decide +kernel
set_option maxHeartbeats 4000000 in
set_option maxRecDepth 100000 in
theorem c_X5_sale (l : Launch) (D : va_G) (cI cZ cL : ClassId) (ws : va_W) (t : Nat) (r : Nat) (u : Nat) : RD l D cI cZ cL yX5_sale cX5_sale 3 (some .int) 1 [.int (nI t), .int (nI r), .int (nI u)] ws (some (.int (nI ((t * 16 + r) * 3 + u)))) := by
  refine RD.of (by decide) (Nat.le_of_ble_eq_true rfl) ?_
  intro p e s m args below meth c ls hx hb hr hml hown hlk hE hP hl
  have hl : lv_has ls 3 [(0, .int (nI t)), (1, .int (nI r)), (2, .int (nI u))] := hl
  refine lv_iload_n hx hb dX5_sale_0 rfl (lv_at hl 0 rfl) ?_
  refine lv_iload_n hx hb dX5_sale_1 rfl (lv_at hl 1 rfl) ?_
  refine q_rd (q_runS (rest := []) hx hb hml hown hE (c_X5_cell l D cI cZ cL _ t r) ck_X5_cell w_299 hP hl.1 rfl ⟨Nat.le_of_ble_eq_true rfl, Nat.le_of_ble_eq_true rfl⟩ (Nat.le_of_ble_eq_true rfl) dX5_sale_2 ⟨Nat.le_of_ble_eq_true rfl, Nat.le_of_ble_eq_true rfl⟩) ?_
  refine lv_iconst (v := 3) hx hb dX5_sale_5 (by decide) ?_
  refine lv_imul hx hb dX5_sale_6 ?_
  refine q_top (y := nI ((t * 16 + r) * 3)) (pk_mul (t * 16 + r) 3) ?_
  refine lv_iload_n hx hb dX5_sale_7 rfl (lv_at hl 2 rfl) ?_
  refine lv_iadd hx hb dX5_sale_8 ?_
  refine q_top (y := nI (((t * 16 + r) * 3) + u)) (nI_add ((t * 16 + r) * 3) u) ?_
  refine q_top (y := nI ((t * 16 + r) * 3 + u)) (rfl) ?_
  exact e_ret hx hb hr hlk rfl dX5_sale_9

theorem dX5_pair_0 : decode cX5_pair 0 = .ok (.iload_n 0, 1) := by decide +kernel
theorem dX5_pair_1 : decode cX5_pair 1 = .ok (.bipush 8, 2) := by decide +kernel
theorem dX5_pair_3 : decode cX5_pair 3 = .ok (.imul, 1) := by decide +kernel
theorem dX5_pair_4 : decode cX5_pair 4 = .ok (.iload_n 1, 1) := by decide +kernel
theorem dX5_pair_5 : decode cX5_pair 5 = .ok (.iadd, 1) := by decide +kernel
theorem dX5_pair_6 : decode cX5_pair 6 = .ok (.ireturn, 1) := by decide +kernel
set_option maxHeartbeats 4000000 in
set_option maxRecDepth 100000 in
theorem c_X5_pair (l : Launch) (D : va_G) (cI cZ cL : ClassId) (ws : va_W) (t : Nat) (o : Nat) : RD l D cI cZ cL yX5_pair cX5_pair 2 (some .int) 0 [.int (nI t), .int (nI o)] ws (some (.int (nI (t * 8 + o)))) := by
  refine RD.of (by decide) (Nat.le_of_ble_eq_true rfl) ?_
  intro p e s m args below meth c ls hx hb hr hml hown hlk hE hP hl
  have hl : lv_has ls 2 [(0, .int (nI t)), (1, .int (nI o))] := hl
  refine lv_iload_n hx hb dX5_pair_0 rfl (lv_at hl 0 rfl) ?_
  refine lv_bipush (v := 8) hx hb dX5_pair_1 (by decide) ?_
  refine lv_imul hx hb dX5_pair_3 ?_
  refine q_top (y := nI (t * 8)) (pk_mul t 8) ?_
  refine lv_iload_n hx hb dX5_pair_4 rfl (lv_at hl 1 rfl) ?_
  refine lv_iadd hx hb dX5_pair_5 ?_
  refine q_top (y := nI ((t * 8) + o)) (nI_add (t * 8) o) ?_
  refine q_top (y := nI (t * 8 + o)) (rfl) ?_
  exact e_ret hx hb hr hlk rfl dX5_pair_6

theorem dX1_links_0 : decode cX1_links 0 = .ok (.iload_n 1, 1) := by decide +kernel
theorem dX1_links_1 : decode cX1_links 1 = .ok (.iload_n 2, 1) := by decide +kernel
theorem dX1_links_2 : decode cX1_links 2 = .ok (.if_icmp .eq 28, 3) := by decide +kernel
theorem dX1_links_5 : decode cX1_links 5 = .ok (.iload_n 3, 1) := by decide +kernel
theorem dX1_links_6 : decode cX1_links 6 = .ok (.aload_n 0, 1) := by decide +kernel
theorem dX1_links_7 : decode cX1_links 7 = .ok (.getfield 18, 3) := by decide +kernel
theorem dX1_links_10 : decode cX1_links 10 = .ok (.if_icmp .lt 20, 3) := by decide +kernel
theorem dX1_links_13 : decode cX1_links 13 = .ok (.aload_n 0, 1) := by decide +kernel
theorem dX1_links_14 : decode cX1_links 14 = .ok (.getfield 15, 3) := by decide +kernel
theorem dX1_links_17 : decode cX1_links 17 = .ok (.iload_n 1, 1) := by decide +kernel
theorem dX1_links_18 : decode cX1_links 18 = .ok (.iaload, 1) := by decide +kernel
theorem dX1_links_19 : decode cX1_links 19 = .ok (.iload_n 2, 1) := by decide +kernel
theorem dX1_links_20 : decode cX1_links 20 = .ok (.invokestatic 26, 3) := by decide +kernel
theorem dX1_links_23 : decode cX1_links 23 = .ok (.ifCond .ne 7, 3) := by decide +kernel
theorem dX1_links_26 : decode cX1_links 26 = .ok (.iconst 1, 1) := by decide +kernel
theorem dX1_links_27 : decode cX1_links 27 = .ok (.goto 4, 3) := by decide +kernel
theorem dX1_links_30 : decode cX1_links 30 = .ok (.iconst 0, 1) := by decide +kernel
theorem dX1_links_31 : decode cX1_links 31 = .ok (.ireturn, 1) := by decide +kernel
set_option maxHeartbeats 4000000 in
set_option maxRecDepth 100000 in
theorem c_X1_links (l : Launch) (D : va_G) (cI cZ cL : ClassId) (ad : Nat → Nat) (S : Mem) (t : Nat) (o : Nat) (x : Int32) (ht : t < 8) (ho : o < 8) : RD l D cI cZ cL yX1_links cX1_links 4 (some .boolean) 1 [.ref (ad 15), .int (nI t), .int (nI o), .int x] (wC ad cI S) (some (.int (bI (p_links S t o x)))) := by
  refine RD.of (by decide) (Nat.le_of_ble_eq_true rfl) ?_
  intro p e s m args below meth c ls hx hb hr hml hown hlk hE hP hl
  have hl : lv_has ls 4 [(0, .ref (ad 15)), (1, .int (nI t)), (2, .int (nI o)), (3, .int x)] := hl
  refine lv_iload_n hx hb dX1_links_0 rfl (lv_at hl 1 rfl) ?_
  refine lv_iload_n hx hb dX1_links_1 rfl (lv_at hl 2 rfl) ?_
  refine lv_icmp_eq (tgt := 30) hx hb dX1_links_2 (by decide) (fun c_1 => ?_) (fun c_1 => ?_)
  · skip
    have c_1 : t = o := n_eq (a := t) (b := o) (by omega) (by omega) c_1
    refine lv_iconst (v := 0) hx hb dX1_links_30 (by decide) ?_
    refine q_top (y := bI (p_links S t o x)) (by first | (simp only [bI, p_links, c_1, ↓reduceIte]; done) | (simp [bI, p_links, c_1]; done) | (simp_all [bI, p_links]; done)) ?_
    exact e_ret hx hb hr hlk (n_bI _) dX1_links_31
  · skip
    have c_1 : ¬ t = o := n_ne (a := t) (b := o) (by omega) (by omega) c_1
    refine lv_iload_n hx hb dX1_links_5 rfl (lv_at hl 3 rfl) ?_
    refine lv_aload_n hx hb dX1_links_6 rfl (lv_at hl 0 rfl) ?_
    refine q_get (v := .int (S 15 2)) hx hb hown hE inT_X1 hP 15 rfl rfl 2 (by decide) w_172 rfl dX1_links_7 ?_
    refine lv_icmp_lt (tgt := 30) hx hb dX1_links_10 (by decide) (fun c_2 => ?_) (fun c_2 => ?_)
    · skip
      refine lv_iconst (v := 0) hx hb dX1_links_30 (by decide) ?_
      refine q_top (y := bI (p_links S t o x)) (by first | (simp only [bI, p_links, c_1, c_2, ↓reduceIte]; done) | (simp [bI, p_links, c_1, c_2]; done) | (simp_all [bI, p_links]; done)) ?_
      exact e_ret hx hb hr hlk (n_bI _) dX1_links_31
    · skip
      refine lv_aload_n hx hb dX1_links_13 rfl (lv_at hl 0 rfl) ?_
      refine q_get (v := .ref (ad 17)) hx hb hown hE inT_X1 hP 15 rfl rfl 1 (by decide) w_171 rfl dX1_links_14 ?_
      refine lv_iload_n hx hb dX1_links_17 rfl (lv_at hl 1 rfl) ?_
      refine q_iald (f := S 17) (i := t) hx hb hE hP 17 rfl (by omega) (Nat.le_of_ble_eq_true rfl) dX1_links_18 ?_
      refine lv_iload_n hx hb dX1_links_19 rfl (lv_at hl 2 rfl) ?_
      refine q_rd (q_runSN (rest := []) hx hb hml hown hE (c_X5_has l D cI cZ cL _ (S 17 t) (nI o)) ck_X5_has w_280 hP hl.1 rfl ⟨Nat.le_of_ble_eq_true rfl, Nat.le_of_ble_eq_true rfl⟩ (Nat.le_of_ble_eq_true rfl) dX1_links_20 ⟨Nat.le_of_ble_eq_true rfl, Nat.le_of_ble_eq_true rfl⟩) ?_
      refine lv_if_ne (tgt := 30) hx hb dX1_links_23 (by decide) (fun c_3 => ?_) (fun c_3 => ?_)
      · skip
        have c_3 : hs (S 17 t) (nI o) = true := b_t c_3
        refine lv_iconst (v := 0) hx hb dX1_links_30 (by decide) ?_
        refine q_top (y := bI (p_links S t o x)) (by first | (simp only [bI, p_links, c_1, c_2, c_3, ↓reduceIte]; done) | (simp [bI, p_links, c_1, c_2, c_3]; done) | (simp_all [bI, p_links]; done)) ?_
        exact e_ret hx hb hr hlk (n_bI _) dX1_links_31
      · skip
        have c_3 : hs (S 17 t) (nI o) = false := b_f c_3
        refine lv_iconst (v := 1) hx hb dX1_links_26 (by decide) ?_
        refine lv_goto (tgt := 31) hx hb dX1_links_27 (by decide) ?_
        refine q_top (y := bI (p_links S t o x)) (by first | (simp only [bI, p_links, c_1, c_2, c_3, ↓reduceIte]; done) | (simp [bI, p_links, c_1, c_2, c_3]; done) | (simp_all [bI, p_links]; done)) ?_
        exact e_ret hx hb hr hlk (n_bI _) dX1_links_31

theorem dX3_spread_0 : decode cX3_spread 0 = .ok (.iload_n 1, 1) := by decide +kernel
theorem dX3_spread_1 : decode cX3_spread 1 = .ok (.istore_n 2, 1) := by decide +kernel
theorem dX3_spread_2 : decode cX3_spread 2 = .ok (.iconst 0, 1) := by decide +kernel
theorem dX3_spread_3 : decode cX3_spread 3 = .ok (.istore_n 3, 1) := by decide +kernel
theorem dX3_spread_4 : decode cX3_spread 4 = .ok (.iload_n 3, 1) := by decide +kernel
theorem dX3_spread_5 : decode cX3_spread 5 = .ok (.aload_n 0, 1) := by decide +kernel
theorem dX3_spread_6 : decode cX3_spread 6 = .ok (.getfield 27, 3) := by decide +kernel
theorem dX3_spread_9 : decode cX3_spread 9 = .ok (.if_icmp .ge 27, 3) := by decide +kernel
theorem dX3_spread_12 : decode cX3_spread 12 = .ok (.aload_n 0, 1) := by decide +kernel
theorem dX3_spread_13 : decode cX3_spread 13 = .ok (.getfield 24, 3) := by decide +kernel
theorem dX3_spread_16 : decode cX3_spread 16 = .ok (.iload_n 3, 1) := by decide +kernel
theorem dX3_spread_17 : decode cX3_spread 17 = .ok (.iaload, 1) := by decide +kernel
theorem dX3_spread_18 : decode cX3_spread 18 = .ok (.iload_n 2, 1) := by decide +kernel
theorem dX3_spread_19 : decode cX3_spread 19 = .ok (.iand, 1) := by decide +kernel
theorem dX3_spread_20 : decode cX3_spread 20 = .ok (.ifCond .eq 10, 3) := by decide +kernel
theorem dX3_spread_23 : decode cX3_spread 23 = .ok (.iload_n 2, 1) := by decide +kernel
theorem dX3_spread_24 : decode cX3_spread 24 = .ok (.iload_n 3, 1) := by decide +kernel
theorem dX3_spread_25 : decode cX3_spread 25 = .ok (.invokestatic 31, 3) := by decide +kernel
theorem dX3_spread_28 : decode cX3_spread 28 = .ok (.ior, 1) := by decide +kernel
theorem dX3_spread_29 : decode cX3_spread 29 = .ok (.istore_n 2, 1) := by decide +kernel
theorem dX3_spread_30 : decode cX3_spread 30 = .ok (.iinc 3 1, 3) := by decide +kernel
theorem dX3_spread_33 : decode cX3_spread 33 = .ok (.goto (-29), 3) := by decide +kernel
theorem dX3_spread_36 : decode cX3_spread 36 = .ok (.iload_n 2, 1) := by decide +kernel
theorem dX3_spread_37 : decode cX3_spread 37 = .ok (.ireturn, 1) := by decide +kernel
set_option maxHeartbeats 4000000 in
set_option maxRecDepth 100000 in
theorem c_X3_spread (l : Launch) (D : va_G) (cI cZ cL : ClassId) (ad : Nat → Nat) (S : Mem) (set : Int32) (hI : I0 S) : RD l D cI cZ cL yX3_spread cX3_spread 4 (some .int) 1 [.ref (ad 1), .int set] (wC ad cI S) (some (.int (p_spread S set (cR S)))) := by
  refine RD.of (by decide) (Nat.le_of_ble_eq_true rfl) ?_
  intro p e s m args below meth c ls hx hb hr hml hown hlk hE hP hl
  have hl : lv_has ls 4 [(0, .ref (ad 1)), (1, .int set)] := hl
  have hT8 := hI.T8
  have hR16 := hI.R16
  have hN200 := hI.N200
  refine lv_iload_n hx hb dX3_spread_0 rfl (lv_at hl 1 rfl) ?_
  refine lv_istore_n (lv' := [(2, .int set), (0, .ref (ad 1)), (1, .int set)]) hx hb dX3_spread_1 rfl hl (by decide) rfl (fun ls hl => ?_)
  refine lv_iconst (v := 0) hx hb dX3_spread_2 (by decide) ?_
  refine lv_istore_n (lv' := [(3, .int 0), (2, .int set), (0, .ref (ad 1)), (1, .int set)]) hx hb dX3_spread_3 rfl hl (by decide) rfl (fun ls hl => ?_)
  have hloop_4 : ∀ (n i : Nat), i ≤ cR S → cR S < i + n → ∀ ls : Array Slot, lv_has ls 4 [(3, .int (nI i)), (2, .int (p_spread S set i)), (0, .ref (ad 1)), (1, .int set)] → W p l e (rm 1 0 0) s m args below meth c s.heap [] 0 0 (MQ below (Qrd (some (.int (p_spread S set (cR S))))) args s 0 0 q_no) (F0 m 4 ls []) := by
    intro n
    induction n with
    | zero => intro i h1 h2; exact absurd h2 (by omega)
    | succ n ih_4 =>
      intro i hi_4 hin_4  ls hl
      refine lv_iload_n hx hb dX3_spread_4 rfl (lv_at hl 0 rfl) ?_
      refine lv_aload_n hx hb dX3_spread_5 rfl (lv_at hl 2 rfl) ?_
      refine q_get (v := .int (S 1 6)) hx hb hown hE inT_X3 hP 1 rfl rfl 6 (by decide) w_103 rfl dX3_spread_6 ?_
      refine q_top (y := nI (cR S)) (I0.R hI) ?_
      refine lv_icmp_ge (tgt := 36) hx hb dX3_spread_9 (by decide) (fun c_1 => ?_) (fun c_1 => ?_)
      · skip
        have c_1 : (cR S) ≤ i := n_le (a := cR S) (b := i) (by omega) (by omega) c_1
        have hend_4 : cR S = i := by omega
        subst hend_4
        refine lv_iload_n hx hb dX3_spread_36 rfl (lv_at hl 1 rfl) ?_
        exact e_ret hx hb hr hlk rfl dX3_spread_37
      · skip
        have c_1 : i < (cR S) := n_nle (a := cR S) (b := i) (by omega) (by omega) c_1
        refine lv_aload_n hx hb dX3_spread_12 rfl (lv_at hl 2 rfl) ?_
        refine q_get (v := .ref (ad 6)) hx hb hown hE inT_X3 hP 1 rfl rfl 4 (by decide) w_100 rfl dX3_spread_13 ?_
        refine lv_iload_n hx hb dX3_spread_16 rfl (lv_at hl 0 rfl) ?_
        refine q_iald (f := S 6) (i := i) hx hb hE hP 6 rfl (by omega) (Nat.le_of_ble_eq_true rfl) dX3_spread_17 ?_
        refine lv_iload_n hx hb dX3_spread_18 rfl (lv_at hl 1 rfl) ?_
        refine lv_iand hx hb dX3_spread_19 ?_
        refine lv_if_eq (tgt := 30) hx hb dX3_spread_20 (by decide) (fun c_2 => ?_) (fun c_2 => ?_)
        · skip
          refine lv_iinc (v := nI (i + 1)) (lv' := [(3, .int (nI (i + 1))), (2, .int (p_spread S set i)), (0, .ref (ad 1)), (1, .int set)]) hx hb dX3_spread_30 hl (k := 0) rfl (nI_1 i) (by decide) rfl (fun ls hl => ?_)
          refine lv_goto (tgt := 4) hx hb dX3_spread_33 (by decide) ?_
          refine ih_4 (i + 1) (by omega) (by omega)  ls ?_
          rw [show p_spread S set (i + 1) = p_spread S set i from by first | (simp only [bI, p_spread, c_1, c_2, ↓reduceIte]; done) | (simp [bI, p_spread, c_1, c_2]; done) | (simp_all [bI, p_spread]; done)]
          exact lv_sub hl [0, 1, 2, 3] rfl
        · skip
          refine lv_iload_n hx hb dX3_spread_23 rfl (lv_at hl 1 rfl) ?_
          refine lv_iload_n hx hb dX3_spread_24 rfl (lv_at hl 0 rfl) ?_
          refine q_rd (q_runSN (rest := [.int (p_spread S set i)]) hx hb hml hown hE (c_X5_bit l D cI cZ cL _ (nI i)) ck_X5_bit w_287 hP hl.1 rfl ⟨Nat.le_of_ble_eq_true rfl, Nat.le_of_ble_eq_true rfl⟩ (Nat.le_of_ble_eq_true rfl) dX3_spread_25 ⟨Nat.le_of_ble_eq_true rfl, Nat.le_of_ble_eq_true rfl⟩) ?_
          refine lv_ior hx hb dX3_spread_28 ?_
          refine lv_istore_n (lv' := [(2, .int ((p_spread S set i) ||| (bt (nI i)))), (3, .int (nI i)), (0, .ref (ad 1)), (1, .int set)]) hx hb dX3_spread_29 rfl hl (by decide) rfl (fun ls hl => ?_)
          refine lv_iinc (v := nI (i + 1)) (lv' := [(3, .int (nI (i + 1))), (2, .int ((p_spread S set i) ||| (bt (nI i)))), (0, .ref (ad 1)), (1, .int set)]) hx hb dX3_spread_30 hl (k := 1) rfl (nI_1 i) (by decide) rfl (fun ls hl => ?_)
          refine lv_goto (tgt := 4) hx hb dX3_spread_33 (by decide) ?_
          refine ih_4 (i + 1) (by omega) (by omega)  ls ?_
          rw [show p_spread S set (i + 1) = (p_spread S set i) ||| (bt (nI i)) from by first | (simp only [bI, p_spread, c_1, c_2, ↓reduceIte]; done) | (simp [bI, p_spread, c_1, c_2]; done) | (simp_all [bI, p_spread]; done)]
          exact lv_sub hl [0, 1, 2, 3] rfl
  refine hloop_4 (cR S + 1) 0 (by omega) (by omega)  ls ?_
  rw [show p_spread S set 0 = set from by first | rfl | (first | (simp only [bI, p_spread, ↓reduceIte]; done) | (simp [bI, p_spread]; done) | (simp_all [bI, p_spread]; done))]
  exact lv_sub hl [0, 1, 2, 3] rfl

theorem dX3_hangingOn_0 : decode cX3_hangingOn 0 = .ok (.aload_n 0, 1) := by decide +kernel
theorem dX3_hangingOn_1 : decode cX3_hangingOn 1 = .ok (.iload_n 1, 1) := by decide +kernel
theorem dX3_hangingOn_2 : decode cX3_hangingOn 2 = .ok (.invokestatic 31, 3) := by decide +kernel
theorem dX3_hangingOn_5 : decode cX3_hangingOn 5 = .ok (.invokevirtual 35, 3) := by decide +kernel
theorem dX3_hangingOn_8 : decode cX3_hangingOn 8 = .ok (.iload_n 1, 1) := by decide +kernel
theorem dX3_hangingOn_9 : decode cX3_hangingOn 9 = .ok (.invokestatic 31, 3) := by decide +kernel
theorem dX3_hangingOn_12 : decode cX3_hangingOn 12 = .ok (.iconst (-1), 1) := by decide +kernel
theorem dX3_hangingOn_13 : decode cX3_hangingOn 13 = .ok (.ixor, 1) := by decide +kernel
theorem dX3_hangingOn_14 : decode cX3_hangingOn 14 = .ok (.iand, 1) := by decide +kernel
theorem dX3_hangingOn_15 : decode cX3_hangingOn 15 = .ok (.ireturn, 1) := by decide +kernel
set_option maxHeartbeats 4000000 in
set_option maxRecDepth 100000 in
theorem c_X3_hangingOn (l : Launch) (D : va_G) (cI cZ cL : ClassId) (ad : Nat → Nat) (S : Mem) (r : Nat) (hI : I0 S) : RD l D cI cZ cL yX3_hangingOn cX3_hangingOn 2 (some .int) 2 [.ref (ad 1), .int (nI r)] (wC ad cI S) (some (.int (p_hang S r))) := by
  refine RD.of (by decide) (Nat.le_of_ble_eq_true rfl) ?_
  intro p e s m args below meth c ls hx hb hr hml hown hlk hE hP hl
  have hl : lv_has ls 2 [(0, .ref (ad 1)), (1, .int (nI r))] := hl
  refine lv_aload_n hx hb dX3_hangingOn_0 rfl (lv_at hl 0 rfl) ?_
  refine lv_iload_n hx hb dX3_hangingOn_1 rfl (lv_at hl 1 rfl) ?_
  refine q_rd (q_runSN (rest := [.ref (ad 1)]) hx hb hml hown hE (c_X5_bit l D cI cZ cL _ (nI r)) ck_X5_bit w_287 hP hl.1 rfl ⟨Nat.le_of_ble_eq_true rfl, Nat.le_of_ble_eq_true rfl⟩ (Nat.le_of_ble_eq_true rfl) dX3_hangingOn_2 ⟨Nat.le_of_ble_eq_true rfl, Nat.le_of_ble_eq_true rfl⟩) ?_
  refine q_rd (q_runV (rest := []) hx hb hml hown hE (c_X3_spread l D cI cZ cL ad S (bt (nI r)) hI) ck_X3_spread w_674 hP 1 rfl rfl hl.1 rfl ⟨Nat.le_of_ble_eq_true rfl, Nat.le_of_ble_eq_true rfl⟩ (Nat.le_of_ble_eq_true rfl) dX3_hangingOn_5 ⟨Nat.le_of_ble_eq_true rfl, Nat.le_of_ble_eq_true rfl⟩) ?_
  refine lv_iload_n hx hb dX3_hangingOn_8 rfl (lv_at hl 1 rfl) ?_
  refine q_rd (q_runSN (rest := [.int (p_spread S (bt (nI r)) (cR S))]) hx hb hml hown hE (c_X5_bit l D cI cZ cL _ (nI r)) ck_X5_bit w_287 hP hl.1 rfl ⟨Nat.le_of_ble_eq_true rfl, Nat.le_of_ble_eq_true rfl⟩ (Nat.le_of_ble_eq_true rfl) dX3_hangingOn_9 ⟨Nat.le_of_ble_eq_true rfl, Nat.le_of_ble_eq_true rfl⟩) ?_
  refine lv_iconst (v := (-1)) hx hb dX3_hangingOn_12 (by decide) ?_
  refine lv_ixor hx hb dX3_hangingOn_13 ?_
  refine lv_iand hx hb dX3_hangingOn_14 ?_
  refine q_top (y := p_hang S r) (by rfl) ?_
  exact e_ret hx hb hr hlk rfl dX3_hangingOn_15

theorem dX0_giversOf_0 : decode cX0_giversOf 0 = .ok (.iconst 0, 1) := by decide +kernel
theorem dX0_giversOf_1 : decode cX0_giversOf 1 = .ok (.istore_n 3, 1) := by decide +kernel
theorem dX0_giversOf_2 : decode cX0_giversOf 2 = .ok (.iconst 0, 1) := by decide +kernel
theorem dX0_giversOf_3 : decode cX0_giversOf 3 = .ok (.istore 4, 2) := by decide +kernel
theorem dX0_giversOf_5 : decode cX0_giversOf 5 = .ok (.iload 4, 2) := by decide +kernel
theorem dX0_giversOf_7 : decode cX0_giversOf 7 = .ok (.aload_n 0, 1) := by decide +kernel
theorem dX0_giversOf_8 : decode cX0_giversOf 8 = .ok (.getfield 24, 3) := by decide +kernel
theorem dX0_giversOf_11 : decode cX0_giversOf 11 = .ok (.if_icmp .ge 44, 3) := by decide +kernel
theorem dX0_giversOf_14 : decode cX0_giversOf 14 = .ok (.aload_n 0, 1) := by decide +kernel
theorem dX0_giversOf_15 : decode cX0_giversOf 15 = .ok (.getfield 15, 3) := by decide +kernel
theorem dX0_giversOf_18 : decode cX0_giversOf 18 = .ok (.iload 4, 2) := by decide +kernel
theorem dX0_giversOf_20 : decode cX0_giversOf 20 = .ok (.iaload, 1) := by decide +kernel
theorem dX0_giversOf_21 : decode cX0_giversOf 21 = .ok (.iload_n 1, 1) := by decide +kernel
theorem dX0_giversOf_22 : decode cX0_giversOf 22 = .ok (.if_icmp .ne 27, 3) := by decide +kernel
theorem dX0_giversOf_25 : decode cX0_giversOf 25 = .ok (.aload_n 0, 1) := by decide +kernel
theorem dX0_giversOf_26 : decode cX0_giversOf 26 = .ok (.getfield 18, 3) := by decide +kernel
theorem dX0_giversOf_29 : decode cX0_giversOf 29 = .ok (.iload 4, 2) := by decide +kernel
theorem dX0_giversOf_31 : decode cX0_giversOf 31 = .ok (.iaload, 1) := by decide +kernel
theorem dX0_giversOf_32 : decode cX0_giversOf 32 = .ok (.iload_n 2, 1) := by decide +kernel
theorem dX0_giversOf_33 : decode cX0_giversOf 33 = .ok (.if_icmp .ne 16, 3) := by decide +kernel
theorem dX0_giversOf_36 : decode cX0_giversOf 36 = .ok (.iload_n 3, 1) := by decide +kernel
theorem dX0_giversOf_37 : decode cX0_giversOf 37 = .ok (.aload_n 0, 1) := by decide +kernel
theorem dX0_giversOf_38 : decode cX0_giversOf 38 = .ok (.getfield 9, 3) := by decide +kernel
theorem dX0_giversOf_41 : decode cX0_giversOf 41 = .ok (.iload 4, 2) := by decide +kernel
theorem dX0_giversOf_43 : decode cX0_giversOf 43 = .ok (.iaload, 1) := by decide +kernel
theorem dX0_giversOf_44 : decode cX0_giversOf 44 = .ok (.invokestatic 28, 3) := by decide +kernel
theorem dX0_giversOf_47 : decode cX0_giversOf 47 = .ok (.ior, 1) := by decide +kernel
theorem dX0_giversOf_48 : decode cX0_giversOf 48 = .ok (.istore_n 3, 1) := by decide +kernel
theorem dX0_giversOf_49 : decode cX0_giversOf 49 = .ok (.iinc 4 1, 3) := by decide +kernel
theorem dX0_giversOf_52 : decode cX0_giversOf 52 = .ok (.goto (-47), 3) := by decide +kernel
theorem dX0_giversOf_55 : decode cX0_giversOf 55 = .ok (.iload_n 3, 1) := by decide +kernel
theorem dX0_giversOf_56 : decode cX0_giversOf 56 = .ok (.ireturn, 1) := by decide +kernel
set_option maxHeartbeats 4000000 in
set_option maxRecDepth 100000 in
theorem c_X0_giversOf (l : Launch) (D : va_G) (cI cZ cL : ClassId) (ad : Nat → Nat) (S : Mem) (r : Nat) (w : Int32) (hI : I0 S) : RD l D cI cZ cL yX0_giversOf cX0_giversOf 5 (some .int) 1 [.ref (ad 7), .int (nI r), .int w] (wC ad cI S) (some (.int (p_give S r w (cN S)))) := by
  refine RD.of (by decide) (Nat.le_of_ble_eq_true rfl) ?_
  intro p e s m args below meth c ls hx hb hr hml hown hlk hE hP hl
  have hl : lv_has ls 5 [(0, .ref (ad 7)), (1, .int (nI r)), (2, .int w)] := hl
  have hT8 := hI.T8
  have hR16 := hI.R16
  have hN200 := hI.N200
  refine lv_iconst (v := 0) hx hb dX0_giversOf_0 (by decide) ?_
  refine lv_istore_n (lv' := [(3, .int 0), (0, .ref (ad 7)), (1, .int (nI r)), (2, .int w)]) hx hb dX0_giversOf_1 rfl hl (by decide) rfl (fun ls hl => ?_)
  refine lv_iconst (v := 0) hx hb dX0_giversOf_2 (by decide) ?_
  refine lv_istore (lv' := [(4, .int 0), (3, .int 0), (0, .ref (ad 7)), (1, .int (nI r)), (2, .int w)]) hx hb dX0_giversOf_3 hl (by decide) rfl (fun ls hl => ?_)
  have hloop_5 : ∀ (n i : Nat), i ≤ cN S → cN S < i + n → ∀ ls : Array Slot, lv_has ls 5 [(4, .int (nI i)), (3, .int (p_give S r w i)), (0, .ref (ad 7)), (1, .int (nI r)), (2, .int w)] → W p l e (rm 1 0 0) s m args below meth c s.heap [] 0 0 (MQ below (Qrd (some (.int (p_give S r w (cN S))))) args s 0 0 q_no) (F0 m 5 ls []) := by
    intro n
    induction n with
    | zero => intro i h1 h2; exact absurd h2 (by omega)
    | succ n ih_5 =>
      intro i hi_5 hin_5  ls hl
      refine lv_iload hx hb dX0_giversOf_5 (lv_at hl 0 rfl) ?_
      refine lv_aload_n hx hb dX0_giversOf_7 rfl (lv_at hl 2 rfl) ?_
      refine q_get (v := .int (S 7 4)) hx hb hown hE inT_X0 hP 7 rfl rfl 4 (by decide) w_135 rfl dX0_giversOf_8 ?_
      refine q_top (y := nI (cN S)) (I0.N hI) ?_
      refine lv_icmp_ge (tgt := 55) hx hb dX0_giversOf_11 (by decide) (fun c_1 => ?_) (fun c_1 => ?_)
      · skip
        have c_1 : (cN S) ≤ i := n_le (a := cN S) (b := i) (by omega) (by omega) c_1
        have hend_5 : cN S = i := by omega
        subst hend_5
        refine lv_iload_n hx hb dX0_giversOf_55 rfl (lv_at hl 1 rfl) ?_
        exact e_ret hx hb hr hlk rfl dX0_giversOf_56
      · skip
        have c_1 : i < (cN S) := n_nle (a := cN S) (b := i) (by omega) (by omega) c_1
        refine lv_aload_n hx hb dX0_giversOf_14 rfl (lv_at hl 2 rfl) ?_
        refine q_get (v := .ref (ad 9)) hx hb hown hE inT_X0 hP 7 rfl rfl 1 (by decide) w_129 rfl dX0_giversOf_15 ?_
        refine lv_iload hx hb dX0_giversOf_18 (lv_at hl 0 rfl) ?_
        refine q_iald (f := S 9) (i := i) hx hb hE hP 9 rfl (by omega) (Nat.le_of_ble_eq_true rfl) dX0_giversOf_20 ?_
        refine lv_iload_n hx hb dX0_giversOf_21 rfl (lv_at hl 3 rfl) ?_
        refine lv_icmp_ne (tgt := 49) hx hb dX0_giversOf_22 (by decide) (fun c_2 => ?_) (fun c_2 => ?_)
        · skip
          refine lv_iinc (v := nI (i + 1)) (lv' := [(4, .int (nI (i + 1))), (3, .int (p_give S r w i)), (0, .ref (ad 7)), (1, .int (nI r)), (2, .int w)]) hx hb dX0_giversOf_49 hl (k := 0) rfl (nI_1 i) (by decide) rfl (fun ls hl => ?_)
          refine lv_goto (tgt := 5) hx hb dX0_giversOf_52 (by decide) ?_
          refine ih_5 (i + 1) (by omega) (by omega)  ls ?_
          rw [show p_give S r w (i + 1) = p_give S r w i from by first | (simp only [bI, p_give, c_1, c_2, ↓reduceIte]; done) | (simp [bI, p_give, c_1, c_2]; done) | (simp_all [bI, p_give]; done)]
          exact lv_sub hl [0, 1, 2, 3, 4] rfl
        · skip
          refine lv_aload_n hx hb dX0_giversOf_25 rfl (lv_at hl 2 rfl) ?_
          refine q_get (v := .ref (ad 10)) hx hb hown hE inT_X0 hP 7 rfl rfl 2 (by decide) w_131 rfl dX0_giversOf_26 ?_
          refine lv_iload hx hb dX0_giversOf_29 (lv_at hl 0 rfl) ?_
          refine q_iald (f := S 10) (i := i) hx hb hE hP 10 rfl (by omega) (Nat.le_of_ble_eq_true rfl) dX0_giversOf_31 ?_
          refine lv_iload_n hx hb dX0_giversOf_32 rfl (lv_at hl 4 rfl) ?_
          refine lv_icmp_ne (tgt := 49) hx hb dX0_giversOf_33 (by decide) (fun c_3 => ?_) (fun c_3 => ?_)
          · skip
            refine lv_iinc (v := nI (i + 1)) (lv' := [(4, .int (nI (i + 1))), (3, .int (p_give S r w i)), (0, .ref (ad 7)), (1, .int (nI r)), (2, .int w)]) hx hb dX0_giversOf_49 hl (k := 0) rfl (nI_1 i) (by decide) rfl (fun ls hl => ?_)
            refine lv_goto (tgt := 5) hx hb dX0_giversOf_52 (by decide) ?_
            refine ih_5 (i + 1) (by omega) (by omega)  ls ?_
            rw [show p_give S r w (i + 1) = p_give S r w i from by first | (simp only [bI, p_give, c_1, c_2, c_3, ↓reduceIte]; done) | (simp [bI, p_give, c_1, c_2, c_3]; done) | (simp_all [bI, p_give]; done)]
            exact lv_sub hl [0, 1, 2, 3, 4] rfl
          · skip
            refine lv_iload_n hx hb dX0_giversOf_36 rfl (lv_at hl 1 rfl) ?_
            refine lv_aload_n hx hb dX0_giversOf_37 rfl (lv_at hl 2 rfl) ?_
            refine q_get (v := .ref (ad 8)) hx hb hown hE inT_X0 hP 7 rfl rfl 0 (by decide) w_127 rfl dX0_giversOf_38 ?_
            refine lv_iload hx hb dX0_giversOf_41 (lv_at hl 0 rfl) ?_
            refine q_iald (f := S 8) (i := i) hx hb hE hP 8 rfl (by omega) (Nat.le_of_ble_eq_true rfl) dX0_giversOf_43 ?_
            refine q_rd (q_runSN (rest := [.int (p_give S r w i)]) hx hb hml hown hE (c_X5_bit l D cI cZ cL _ (S 8 i)) ck_X5_bit w_519 hP hl.1 rfl ⟨Nat.le_of_ble_eq_true rfl, Nat.le_of_ble_eq_true rfl⟩ (Nat.le_of_ble_eq_true rfl) dX0_giversOf_44 ⟨Nat.le_of_ble_eq_true rfl, Nat.le_of_ble_eq_true rfl⟩) ?_
            refine lv_ior hx hb dX0_giversOf_47 ?_
            refine lv_istore_n (lv' := [(3, .int ((p_give S r w i) ||| (bt (S 8 i)))), (4, .int (nI i)), (0, .ref (ad 7)), (1, .int (nI r)), (2, .int w)]) hx hb dX0_giversOf_48 rfl hl (by decide) rfl (fun ls hl => ?_)
            refine lv_iinc (v := nI (i + 1)) (lv' := [(4, .int (nI (i + 1))), (3, .int ((p_give S r w i) ||| (bt (S 8 i)))), (0, .ref (ad 7)), (1, .int (nI r)), (2, .int w)]) hx hb dX0_giversOf_49 hl (k := 1) rfl (nI_1 i) (by decide) rfl (fun ls hl => ?_)
            refine lv_goto (tgt := 5) hx hb dX0_giversOf_52 (by decide) ?_
            refine ih_5 (i + 1) (by omega) (by omega)  ls ?_
            rw [show p_give S r w (i + 1) = (p_give S r w i) ||| (bt (S 8 i)) from by first | (simp only [bI, p_give, c_1, c_2, c_3, ↓reduceIte]; done) | (simp [bI, p_give, c_1, c_2, c_3]; done) | (simp_all [bI, p_give]; done)]
            exact lv_sub hl [0, 1, 2, 3, 4] rfl
  refine hloop_5 (cN S + 1) 0 (by omega) (by omega)  ls ?_
  rw [show p_give S r w 0 = 0 from by first | rfl | (first | (simp only [bI, p_give, ↓reduceIte]; done) | (simp [bI, p_give]; done) | (simp_all [bI, p_give]; done))]
  exact lv_sub hl [0, 1, 2, 3, 4] rfl

theorem dX0_areSame_0 : decode cX0_areSame 0 = .ok (.aload_n 0, 1) := by decide +kernel
theorem dX0_areSame_1 : decode cX0_areSame 1 = .ok (.getfield 15, 3) := by decide +kernel
theorem dX0_areSame_4 : decode cX0_areSame 4 = .ok (.iload_n 1, 1) := by decide +kernel
theorem dX0_areSame_5 : decode cX0_areSame 5 = .ok (.iaload, 1) := by decide +kernel
theorem dX0_areSame_6 : decode cX0_areSame 6 = .ok (.aload_n 0, 1) := by decide +kernel
theorem dX0_areSame_7 : decode cX0_areSame 7 = .ok (.getfield 15, 3) := by decide +kernel
theorem dX0_areSame_10 : decode cX0_areSame 10 = .ok (.iload_n 2, 1) := by decide +kernel
theorem dX0_areSame_11 : decode cX0_areSame 11 = .ok (.iaload, 1) := by decide +kernel
theorem dX0_areSame_12 : decode cX0_areSame 12 = .ok (.if_icmp .ne 22, 3) := by decide +kernel
theorem dX0_areSame_15 : decode cX0_areSame 15 = .ok (.aload_n 0, 1) := by decide +kernel
theorem dX0_areSame_16 : decode cX0_areSame 16 = .ok (.getfield 18, 3) := by decide +kernel
theorem dX0_areSame_19 : decode cX0_areSame 19 = .ok (.iload_n 1, 1) := by decide +kernel
theorem dX0_areSame_20 : decode cX0_areSame 20 = .ok (.iaload, 1) := by decide +kernel
theorem dX0_areSame_21 : decode cX0_areSame 21 = .ok (.aload_n 0, 1) := by decide +kernel
theorem dX0_areSame_22 : decode cX0_areSame 22 = .ok (.getfield 18, 3) := by decide +kernel
theorem dX0_areSame_25 : decode cX0_areSame 25 = .ok (.iload_n 2, 1) := by decide +kernel
theorem dX0_areSame_26 : decode cX0_areSame 26 = .ok (.iaload, 1) := by decide +kernel
theorem dX0_areSame_27 : decode cX0_areSame 27 = .ok (.if_icmp .ne 7, 3) := by decide +kernel
theorem dX0_areSame_30 : decode cX0_areSame 30 = .ok (.iconst 1, 1) := by decide +kernel
theorem dX0_areSame_31 : decode cX0_areSame 31 = .ok (.goto 4, 3) := by decide +kernel
theorem dX0_areSame_34 : decode cX0_areSame 34 = .ok (.iconst 0, 1) := by decide +kernel
theorem dX0_areSame_35 : decode cX0_areSame 35 = .ok (.ireturn, 1) := by decide +kernel
set_option maxHeartbeats 4000000 in
set_option maxRecDepth 100000 in
theorem c_X0_areSame (l : Launch) (D : va_G) (cI cZ cL : ClassId) (ad : Nat → Nat) (S : Mem) (i : Nat) (j : Nat) (hi : i < 200) (hj : j < 200) : RD l D cI cZ cL yX0_areSame cX0_areSame 3 (some .boolean) 0 [.ref (ad 7), .int (nI i), .int (nI j)] (wC ad cI S) (some (.int (bI (p_same S i j)))) := by
  refine RD.of (by decide) (Nat.le_of_ble_eq_true rfl) ?_
  intro p e s m args below meth c ls hx hb hr hml hown hlk hE hP hl
  have hl : lv_has ls 3 [(0, .ref (ad 7)), (1, .int (nI i)), (2, .int (nI j))] := hl
  refine lv_aload_n hx hb dX0_areSame_0 rfl (lv_at hl 0 rfl) ?_
  refine q_get (v := .ref (ad 9)) hx hb hown hE inT_X0 hP 7 rfl rfl 1 (by decide) w_129 rfl dX0_areSame_1 ?_
  refine lv_iload_n hx hb dX0_areSame_4 rfl (lv_at hl 1 rfl) ?_
  refine q_iald (f := S 9) (i := i) hx hb hE hP 9 rfl (by omega) (Nat.le_of_ble_eq_true rfl) dX0_areSame_5 ?_
  refine lv_aload_n hx hb dX0_areSame_6 rfl (lv_at hl 0 rfl) ?_
  refine q_get (v := .ref (ad 9)) hx hb hown hE inT_X0 hP 7 rfl rfl 1 (by decide) w_129 rfl dX0_areSame_7 ?_
  refine lv_iload_n hx hb dX0_areSame_10 rfl (lv_at hl 2 rfl) ?_
  refine q_iald (f := S 9) (i := j) hx hb hE hP 9 rfl (by omega) (Nat.le_of_ble_eq_true rfl) dX0_areSame_11 ?_
  refine lv_icmp_ne (tgt := 34) hx hb dX0_areSame_12 (by decide) (fun c_1 => ?_) (fun c_1 => ?_)
  · skip
    refine lv_iconst (v := 0) hx hb dX0_areSame_34 (by decide) ?_
    refine q_top (y := bI (p_same S i j)) (by first | (simp only [bI, p_same, c_1, ↓reduceIte]; done) | (simp [bI, p_same, c_1]; done) | (simp_all [bI, p_same]; done)) ?_
    exact e_ret hx hb hr hlk (n_bI _) dX0_areSame_35
  · skip
    refine lv_aload_n hx hb dX0_areSame_15 rfl (lv_at hl 0 rfl) ?_
    refine q_get (v := .ref (ad 10)) hx hb hown hE inT_X0 hP 7 rfl rfl 2 (by decide) w_131 rfl dX0_areSame_16 ?_
    refine lv_iload_n hx hb dX0_areSame_19 rfl (lv_at hl 1 rfl) ?_
    refine q_iald (f := S 10) (i := i) hx hb hE hP 10 rfl (by omega) (Nat.le_of_ble_eq_true rfl) dX0_areSame_20 ?_
    refine lv_aload_n hx hb dX0_areSame_21 rfl (lv_at hl 0 rfl) ?_
    refine q_get (v := .ref (ad 10)) hx hb hown hE inT_X0 hP 7 rfl rfl 2 (by decide) w_131 rfl dX0_areSame_22 ?_
    refine lv_iload_n hx hb dX0_areSame_25 rfl (lv_at hl 2 rfl) ?_
    refine q_iald (f := S 10) (i := j) hx hb hE hP 10 rfl (by omega) (Nat.le_of_ble_eq_true rfl) dX0_areSame_26 ?_
    refine lv_icmp_ne (tgt := 34) hx hb dX0_areSame_27 (by decide) (fun c_2 => ?_) (fun c_2 => ?_)
    · skip
      refine lv_iconst (v := 0) hx hb dX0_areSame_34 (by decide) ?_
      refine q_top (y := bI (p_same S i j)) (by first | (simp only [bI, p_same, c_1, c_2, ↓reduceIte]; done) | (simp [bI, p_same, c_1, c_2]; done) | (simp_all [bI, p_same]; done)) ?_
      exact e_ret hx hb hr hlk (n_bI _) dX0_areSame_35
    · skip
      refine lv_iconst (v := 1) hx hb dX0_areSame_30 (by decide) ?_
      refine lv_goto (tgt := 35) hx hb dX0_areSame_31 (by decide) ?_
      refine q_top (y := bI (p_same S i j)) (by first | (simp only [bI, p_same, c_1, c_2, ↓reduceIte]; done) | (simp [bI, p_same, c_1, c_2]; done) | (simp_all [bI, p_same]; done)) ?_
      exact e_ret hx hb hr hlk (n_bI _) dX0_areSame_35

theorem dX0_isRepeated_0 : decode cX0_isRepeated 0 = .ok (.iconst 0, 1) := by decide +kernel
theorem dX0_isRepeated_1 : decode cX0_isRepeated 1 = .ok (.istore_n 2, 1) := by decide +kernel
theorem dX0_isRepeated_2 : decode cX0_isRepeated 2 = .ok (.iload_n 2, 1) := by decide +kernel
theorem dX0_isRepeated_3 : decode cX0_isRepeated 3 = .ok (.iload_n 1, 1) := by decide +kernel
theorem dX0_isRepeated_4 : decode cX0_isRepeated 4 = .ok (.if_icmp .ge 35, 3) := by decide +kernel
theorem dX0_isRepeated_7 : decode cX0_isRepeated 7 = .ok (.aload_n 0, 1) := by decide +kernel
theorem dX0_isRepeated_8 : decode cX0_isRepeated 8 = .ok (.getfield 9, 3) := by decide +kernel
theorem dX0_isRepeated_11 : decode cX0_isRepeated 11 = .ok (.iload_n 2, 1) := by decide +kernel
theorem dX0_isRepeated_12 : decode cX0_isRepeated 12 = .ok (.iaload, 1) := by decide +kernel
theorem dX0_isRepeated_13 : decode cX0_isRepeated 13 = .ok (.aload_n 0, 1) := by decide +kernel
theorem dX0_isRepeated_14 : decode cX0_isRepeated 14 = .ok (.getfield 9, 3) := by decide +kernel
theorem dX0_isRepeated_17 : decode cX0_isRepeated 17 = .ok (.iload_n 1, 1) := by decide +kernel
theorem dX0_isRepeated_18 : decode cX0_isRepeated 18 = .ok (.iaload, 1) := by decide +kernel
theorem dX0_isRepeated_19 : decode cX0_isRepeated 19 = .ok (.if_icmp .ne 14, 3) := by decide +kernel
theorem dX0_isRepeated_22 : decode cX0_isRepeated 22 = .ok (.aload_n 0, 1) := by decide +kernel
theorem dX0_isRepeated_23 : decode cX0_isRepeated 23 = .ok (.iload_n 2, 1) := by decide +kernel
theorem dX0_isRepeated_24 : decode cX0_isRepeated 24 = .ok (.iload_n 1, 1) := by decide +kernel
theorem dX0_isRepeated_25 : decode cX0_isRepeated 25 = .ok (.invokevirtual 32, 3) := by decide +kernel
theorem dX0_isRepeated_28 : decode cX0_isRepeated 28 = .ok (.ifCond .eq 5, 3) := by decide +kernel
theorem dX0_isRepeated_31 : decode cX0_isRepeated 31 = .ok (.iconst 1, 1) := by decide +kernel
theorem dX0_isRepeated_32 : decode cX0_isRepeated 32 = .ok (.ireturn, 1) := by decide +kernel
theorem dX0_isRepeated_33 : decode cX0_isRepeated 33 = .ok (.iinc 2 1, 3) := by decide +kernel
theorem dX0_isRepeated_36 : decode cX0_isRepeated 36 = .ok (.goto (-34), 3) := by decide +kernel
theorem dX0_isRepeated_39 : decode cX0_isRepeated 39 = .ok (.iconst 0, 1) := by decide +kernel
theorem dX0_isRepeated_40 : decode cX0_isRepeated 40 = .ok (.ireturn, 1) := by decide +kernel
set_option maxHeartbeats 4000000 in
set_option maxRecDepth 100000 in
theorem c_X0_isRepeated (l : Launch) (D : va_G) (cI cZ cL : ClassId) (ad : Nat → Nat) (S : Mem) (a : Nat) (ha : a < 200) : RD l D cI cZ cL yX0_isRepeated cX0_isRepeated 3 (some .boolean) 1 [.ref (ad 7), .int (nI a)] (wC ad cI S) (some (.int (bI (p_rep S a)))) := by
  refine RD.of (by decide) (Nat.le_of_ble_eq_true rfl) ?_
  intro p e s m args below meth c ls hx hb hr hml hown hlk hE hP hl
  have hl : lv_has ls 3 [(0, .ref (ad 7)), (1, .int (nI a))] := hl
  refine lv_iconst (v := 0) hx hb dX0_isRepeated_0 (by decide) ?_
  refine lv_istore_n (lv' := [(2, .int 0), (0, .ref (ad 7)), (1, .int (nI a))]) hx hb dX0_isRepeated_1 rfl hl (by decide) rfl (fun ls hl => ?_)
  have hloop_2 : ∀ (n i : Nat), i ≤ a → a < i + n → (∀ k, k < i → p_again S a k = false) → ∀ ls : Array Slot, lv_has ls 3 [(2, .int (nI i)), (0, .ref (ad 7)), (1, .int (nI a))] → W p l e (rm 1 0 0) s m args below meth c s.heap [] 0 0 (MQ below (Qrd (some (.int (bI (p_rep S a))))) args s 0 0 q_no) (F0 m 2 ls []) := by
    intro n
    induction n with
    | zero => intro i h1 h2; exact absurd h2 (by omega)
    | succ n ih_2 =>
      intro i hi_2 hin_2 hno ls hl
      refine lv_iload_n hx hb dX0_isRepeated_2 rfl (lv_at hl 0 rfl) ?_
      refine lv_iload_n hx hb dX0_isRepeated_3 rfl (lv_at hl 2 rfl) ?_
      refine lv_icmp_ge (tgt := 39) hx hb dX0_isRepeated_4 (by decide) (fun c_1 => ?_) (fun c_1 => ?_)
      · skip
        have c_1 : a ≤ i := n_le (a := a) (b := i) (by omega) (by omega) c_1
        have hend_2 : a = i := by omega
        subst hend_2
        refine lv_iconst (v := 0) hx hb dX0_isRepeated_39 (by decide) ?_
        refine q_top (y := bI (p_rep S a)) (by simp only [bI, p_rep_f hno]; rfl) ?_
        exact e_ret hx hb hr hlk (n_bI _) dX0_isRepeated_40
      · skip
        have c_1 : i < a := n_nle (a := a) (b := i) (by omega) (by omega) c_1
        refine lv_aload_n hx hb dX0_isRepeated_7 rfl (lv_at hl 1 rfl) ?_
        refine q_get (v := .ref (ad 8)) hx hb hown hE inT_X0 hP 7 rfl rfl 0 (by decide) w_127 rfl dX0_isRepeated_8 ?_
        refine lv_iload_n hx hb dX0_isRepeated_11 rfl (lv_at hl 0 rfl) ?_
        refine q_iald (f := S 8) (i := i) hx hb hE hP 8 rfl (by omega) (Nat.le_of_ble_eq_true rfl) dX0_isRepeated_12 ?_
        refine lv_aload_n hx hb dX0_isRepeated_13 rfl (lv_at hl 1 rfl) ?_
        refine q_get (v := .ref (ad 8)) hx hb hown hE inT_X0 hP 7 rfl rfl 0 (by decide) w_127 rfl dX0_isRepeated_14 ?_
        refine lv_iload_n hx hb dX0_isRepeated_17 rfl (lv_at hl 2 rfl) ?_
        refine q_iald (f := S 8) (i := a) hx hb hE hP 8 rfl (by omega) (Nat.le_of_ble_eq_true rfl) dX0_isRepeated_18 ?_
        refine lv_icmp_ne (tgt := 33) hx hb dX0_isRepeated_19 (by decide) (fun c_2 => ?_) (fun c_2 => ?_)
        · skip
          refine lv_iinc (v := nI (i + 1)) (lv' := [(2, .int (nI (i + 1))), (0, .ref (ad 7)), (1, .int (nI a))]) hx hb dX0_isRepeated_33 hl (k := 0) rfl (nI_1 i) (by decide) rfl (fun ls hl => ?_)
          refine lv_goto (tgt := 2) hx hb dX0_isRepeated_36 (by decide) ?_
          refine ih_2 (i + 1) (by omega) (by omega) (fun k hk => by rcases Nat.lt_or_eq_of_le (Nat.le_of_lt_succ hk) with q | q; exact hno k q; subst q; simp [p_again, c_1, c_2]) ls ?_
          exact lv_sub hl [0, 1, 2] rfl
        · skip
          refine lv_aload_n hx hb dX0_isRepeated_22 rfl (lv_at hl 1 rfl) ?_
          refine lv_iload_n hx hb dX0_isRepeated_23 rfl (lv_at hl 0 rfl) ?_
          refine lv_iload_n hx hb dX0_isRepeated_24 rfl (lv_at hl 2 rfl) ?_
          refine q_rd (q_runV (rest := []) hx hb hml hown hE (c_X0_areSame l D cI cZ cL ad S i a (by omega) (by omega)) ck_X0_areSame w_712 hP 7 rfl rfl hl.1 rfl ⟨Nat.le_of_ble_eq_true rfl, Nat.le_of_ble_eq_true rfl⟩ (Nat.le_of_ble_eq_true rfl) dX0_isRepeated_25 ⟨Nat.le_of_ble_eq_true rfl, Nat.le_of_ble_eq_true rfl⟩) ?_
          refine lv_if_eq (tgt := 33) hx hb dX0_isRepeated_28 (by decide) (fun c_3 => ?_) (fun c_3 => ?_)
          · skip
            have c_3 : p_same S i a = false := b_f c_3
            refine lv_iinc (v := nI (i + 1)) (lv' := [(2, .int (nI (i + 1))), (0, .ref (ad 7)), (1, .int (nI a))]) hx hb dX0_isRepeated_33 hl (k := 0) rfl (nI_1 i) (by decide) rfl (fun ls hl => ?_)
            refine lv_goto (tgt := 2) hx hb dX0_isRepeated_36 (by decide) ?_
            refine ih_2 (i + 1) (by omega) (by omega) (fun k hk => by rcases Nat.lt_or_eq_of_le (Nat.le_of_lt_succ hk) with q | q; exact hno k q; subst q; simp [p_again, c_1, c_2, c_3]) ls ?_
            exact lv_sub hl [0, 1, 2] rfl
          · skip
            have c_3 : p_same S i a = true := b_t c_3
            refine lv_iconst (v := 1) hx hb dX0_isRepeated_31 (by decide) ?_
            refine q_top (y := bI (p_rep S a)) (by simp only [bI, p_rep_t (S := S) (k := i) c_1 (by simp only [p_again, c_1, c_2, c_3, decide_true, Bool.and_true]), ↓reduceIte]) ?_
            exact e_ret hx hb hr hlk (n_bI _) dX0_isRepeated_32
  refine hloop_2 (a + 1) 0 (by omega) (by omega) (fun k hk => absurd hk (Nat.not_lt_zero k)) ls ?_
  exact lv_sub hl [0, 1, 2] rfl

theorem dX4_countBuyers_0 : decode cX4_countBuyers 0 = .ok (.iconst 0, 1) := by decide +kernel
theorem dX4_countBuyers_1 : decode cX4_countBuyers 1 = .ok (.istore_n 3, 1) := by decide +kernel
theorem dX4_countBuyers_2 : decode cX4_countBuyers 2 = .ok (.iconst 0, 1) := by decide +kernel
theorem dX4_countBuyers_3 : decode cX4_countBuyers 3 = .ok (.istore 4, 2) := by decide +kernel
theorem dX4_countBuyers_5 : decode cX4_countBuyers 5 = .ok (.iload 4, 2) := by decide +kernel
theorem dX4_countBuyers_7 : decode cX4_countBuyers 7 = .ok (.bipush 8, 2) := by decide +kernel
theorem dX4_countBuyers_9 : decode cX4_countBuyers 9 = .ok (.if_icmp .ge 27, 3) := by decide +kernel
theorem dX4_countBuyers_12 : decode cX4_countBuyers 12 = .ok (.aload_n 0, 1) := by decide +kernel
theorem dX4_countBuyers_13 : decode cX4_countBuyers 13 = .ok (.getfield 9, 3) := by decide +kernel
theorem dX4_countBuyers_16 : decode cX4_countBuyers 16 = .ok (.iload 4, 2) := by decide +kernel
theorem dX4_countBuyers_18 : decode cX4_countBuyers 18 = .ok (.iload_n 1, 1) := by decide +kernel
theorem dX4_countBuyers_19 : decode cX4_countBuyers 19 = .ok (.invokestatic 18, 3) := by decide +kernel
theorem dX4_countBuyers_22 : decode cX4_countBuyers 22 = .ok (.iaload, 1) := by decide +kernel
theorem dX4_countBuyers_23 : decode cX4_countBuyers 23 = .ok (.iload_n 2, 1) := by decide +kernel
theorem dX4_countBuyers_24 : decode cX4_countBuyers 24 = .ok (.if_icmp .le 6, 3) := by decide +kernel
theorem dX4_countBuyers_27 : decode cX4_countBuyers 27 = .ok (.iinc 3 1, 3) := by decide +kernel
theorem dX4_countBuyers_30 : decode cX4_countBuyers 30 = .ok (.iinc 4 1, 3) := by decide +kernel
theorem dX4_countBuyers_33 : decode cX4_countBuyers 33 = .ok (.goto (-28), 3) := by decide +kernel
theorem dX4_countBuyers_36 : decode cX4_countBuyers 36 = .ok (.iload_n 3, 1) := by decide +kernel
theorem dX4_countBuyers_37 : decode cX4_countBuyers 37 = .ok (.ireturn, 1) := by decide +kernel
set_option maxHeartbeats 4000000 in
set_option maxRecDepth 100000 in
theorem c_X4_countBuyers (l : Launch) (D : va_G) (cI cZ cL : ClassId) (ad : Nat → Nat) (S : Mem) (r : Nat) (x : Int32) (hr : r < 16) : RD l D cI cZ cL yX4_countBuyers cX4_countBuyers 5 (some .int) 1 [.ref (ad 12), .int (nI r), .int x] (wC ad cI S) (some (.int (nI (p_buy S r x 8)))) := by
  refine RD.of (by decide) (Nat.le_of_ble_eq_true rfl) ?_
  intro p e s m args below meth c ls hx hb hr hml hown hlk hE hP hl
  have hl : lv_has ls 5 [(0, .ref (ad 12)), (1, .int (nI r)), (2, .int x)] := hl
  refine lv_iconst (v := 0) hx hb dX4_countBuyers_0 (by decide) ?_
  refine lv_istore_n (lv' := [(3, .int 0), (0, .ref (ad 12)), (1, .int (nI r)), (2, .int x)]) hx hb dX4_countBuyers_1 rfl hl (by decide) rfl (fun ls hl => ?_)
  refine lv_iconst (v := 0) hx hb dX4_countBuyers_2 (by decide) ?_
  refine lv_istore (lv' := [(4, .int 0), (3, .int 0), (0, .ref (ad 12)), (1, .int (nI r)), (2, .int x)]) hx hb dX4_countBuyers_3 hl (by decide) rfl (fun ls hl => ?_)
  have hloop_5 : ∀ (n i : Nat), i ≤ 8 → 8 < i + n → ∀ ls : Array Slot, lv_has ls 5 [(4, .int (nI i)), (3, .int (nI (p_buy S r x i))), (0, .ref (ad 12)), (1, .int (nI r)), (2, .int x)] → W p l e (rm 1 0 0) s m args below meth c s.heap [] 0 0 (MQ below (Qrd (some (.int (nI (p_buy S r x 8))))) args s 0 0 q_no) (F0 m 5 ls []) := by
    intro n
    induction n with
    | zero => intro i h1 h2; exact absurd h2 (by omega)
    | succ n ih_5 =>
      intro i hi_5 hin_5  ls hl
      refine lv_iload hx hb dX4_countBuyers_5 (lv_at hl 0 rfl) ?_
      refine lv_bipush (v := 8) hx hb dX4_countBuyers_7 (by decide) ?_
      refine lv_icmp_ge (tgt := 36) hx hb dX4_countBuyers_9 (by decide) (fun c_1 => ?_) (fun c_1 => ?_)
      · skip
        have c_1 : 8 ≤ i := n_le (a := 8) (b := i) (by omega) (by omega) c_1
        have hend_5 : 8 = i := by omega
        subst hend_5
        refine lv_iload_n hx hb dX4_countBuyers_36 rfl (lv_at hl 1 rfl) ?_
        exact e_ret hx hb hr hlk rfl dX4_countBuyers_37
      · skip
        have c_1 : i < 8 := n_nle (a := 8) (b := i) (by omega) (by omega) c_1
        refine lv_aload_n hx hb dX4_countBuyers_12 rfl (lv_at hl 2 rfl) ?_
        refine q_get (v := .ref (ad 13)) hx hb hown hE inT_X4 hP 12 rfl rfl 0 (by decide) w_154 rfl dX4_countBuyers_13 ?_
        refine lv_iload hx hb dX4_countBuyers_16 (lv_at hl 0 rfl) ?_
        refine lv_iload_n hx hb dX4_countBuyers_18 rfl (lv_at hl 3 rfl) ?_
        refine q_rd (q_runSN (rest := [.ref (ad 13)]) hx hb hml hown hE (c_X5_cell l D cI cZ cL _ i r) ck_X5_cell w_549 hP hl.1 rfl ⟨Nat.le_of_ble_eq_true rfl, Nat.le_of_ble_eq_true rfl⟩ (Nat.le_of_ble_eq_true rfl) dX4_countBuyers_19 ⟨Nat.le_of_ble_eq_true rfl, Nat.le_of_ble_eq_true rfl⟩) ?_
        refine q_iald (f := S 13) (i := (i * 16 + r)) hx hb hE hP 13 rfl (by omega) (Nat.le_of_ble_eq_true rfl) dX4_countBuyers_22 ?_
        refine lv_iload_n hx hb dX4_countBuyers_23 rfl (lv_at hl 4 rfl) ?_
        refine lv_icmp_le (tgt := 30) hx hb dX4_countBuyers_24 (by decide) (fun c_2 => ?_) (fun c_2 => ?_)
        · skip
          refine lv_iinc (v := nI (i + 1)) (lv' := [(4, .int (nI (i + 1))), (3, .int (nI (p_buy S r x i))), (0, .ref (ad 12)), (1, .int (nI r)), (2, .int x)]) hx hb dX4_countBuyers_30 hl (k := 0) rfl (nI_1 i) (by decide) rfl (fun ls hl => ?_)
          refine lv_goto (tgt := 5) hx hb dX4_countBuyers_33 (by decide) ?_
          refine ih_5 (i + 1) (by omega) (by omega)  ls ?_
          rw [show p_buy S r x (i + 1) = p_buy S r x i from by first | (simp only [bI, p_buy, c_1, c_2, ↓reduceIte]; done) | (simp [bI, p_buy, c_1, c_2]; done) | (simp_all [bI, p_buy]; done)]
          exact lv_sub hl [0, 1, 2, 3, 4] rfl
        · skip
          refine lv_iinc (v := nI ((p_buy S r x i) + 1)) (lv' := [(3, .int (nI ((p_buy S r x i) + 1))), (4, .int (nI i)), (0, .ref (ad 12)), (1, .int (nI r)), (2, .int x)]) hx hb dX4_countBuyers_27 hl (k := 1) rfl (nI_1 (p_buy S r x i)) (by decide) rfl (fun ls hl => ?_)
          refine lv_iinc (v := nI (i + 1)) (lv' := [(4, .int (nI (i + 1))), (3, .int (nI ((p_buy S r x i) + 1))), (0, .ref (ad 12)), (1, .int (nI r)), (2, .int x)]) hx hb dX4_countBuyers_30 hl (k := 1) rfl (nI_1 i) (by decide) rfl (fun ls hl => ?_)
          refine lv_goto (tgt := 5) hx hb dX4_countBuyers_33 (by decide) ?_
          refine ih_5 (i + 1) (by omega) (by omega)  ls ?_
          rw [show p_buy S r x (i + 1) = (p_buy S r x i) + 1 from by first | (simp only [bI, p_buy, c_1, c_2, ↓reduceIte]; done) | (simp [bI, p_buy, c_1, c_2]; done) | (simp_all [bI, p_buy]; done)]
          exact lv_sub hl [0, 1, 2, 3, 4] rfl
  refine hloop_5 (8 + 1) 0 (by omega) (by omega)  ls ?_
  rw [show p_buy S r x 0 = 0 from by first | rfl | (first | (simp only [bI, p_buy, ↓reduceIte]; done) | (simp [bI, p_buy]; done) | (simp_all [bI, p_buy]; done))]
  exact lv_sub hl [0, 1, 2, 3, 4] rfl

theorem dX2_lastSolveMinute_0 : decode cX2_lastSolveMinute 0 = .ok (.iload_n 2, 1) := by decide +kernel
theorem dX2_lastSolveMinute_1 : decode cX2_lastSolveMinute 1 = .ok (.aload_n 0, 1) := by decide +kernel
theorem dX2_lastSolveMinute_2 : decode cX2_lastSolveMinute 2 = .ok (.getfield 9, 3) := by decide +kernel
theorem dX2_lastSolveMinute_5 : decode cX2_lastSolveMinute 5 = .ok (.iload_n 1, 1) := by decide +kernel
theorem dX2_lastSolveMinute_6 : decode cX2_lastSolveMinute 6 = .ok (.iaload, 1) := by decide +kernel
theorem dX2_lastSolveMinute_7 : decode cX2_lastSolveMinute 7 = .ok (.iconst (-1), 1) := by decide +kernel
theorem dX2_lastSolveMinute_8 : decode cX2_lastSolveMinute 8 = .ok (.ixor, 1) := by decide +kernel
theorem dX2_lastSolveMinute_9 : decode cX2_lastSolveMinute 9 = .ok (.iand, 1) := by decide +kernel
theorem dX2_lastSolveMinute_10 : decode cX2_lastSolveMinute 10 = .ok (.ifCond .eq 5, 3) := by decide +kernel
theorem dX2_lastSolveMinute_13 : decode cX2_lastSolveMinute 13 = .ok (.iconst (-1), 1) := by decide +kernel
theorem dX2_lastSolveMinute_14 : decode cX2_lastSolveMinute 14 = .ok (.ireturn, 1) := by decide +kernel
theorem dX2_lastSolveMinute_15 : decode cX2_lastSolveMinute 15 = .ok (.iconst 0, 1) := by decide +kernel
theorem dX2_lastSolveMinute_16 : decode cX2_lastSolveMinute 16 = .ok (.istore_n 3, 1) := by decide +kernel
theorem dX2_lastSolveMinute_17 : decode cX2_lastSolveMinute 17 = .ok (.iconst 0, 1) := by decide +kernel
theorem dX2_lastSolveMinute_18 : decode cX2_lastSolveMinute 18 = .ok (.istore 4, 2) := by decide +kernel
theorem dX2_lastSolveMinute_20 : decode cX2_lastSolveMinute 20 = .ok (.iload 4, 2) := by decide +kernel
theorem dX2_lastSolveMinute_22 : decode cX2_lastSolveMinute 22 = .ok (.bipush 16, 2) := by decide +kernel
theorem dX2_lastSolveMinute_24 : decode cX2_lastSolveMinute 24 = .ok (.if_icmp .ge 34, 3) := by decide +kernel
theorem dX2_lastSolveMinute_27 : decode cX2_lastSolveMinute 27 = .ok (.iload_n 2, 1) := by decide +kernel
theorem dX2_lastSolveMinute_28 : decode cX2_lastSolveMinute 28 = .ok (.iload 4, 2) := by decide +kernel
theorem dX2_lastSolveMinute_30 : decode cX2_lastSolveMinute 30 = .ok (.invokestatic 47, 3) := by decide +kernel
theorem dX2_lastSolveMinute_33 : decode cX2_lastSolveMinute 33 = .ok (.ifCond .eq 19, 3) := by decide +kernel
theorem dX2_lastSolveMinute_36 : decode cX2_lastSolveMinute 36 = .ok (.iload_n 3, 1) := by decide +kernel
theorem dX2_lastSolveMinute_37 : decode cX2_lastSolveMinute 37 = .ok (.aload_n 0, 1) := by decide +kernel
theorem dX2_lastSolveMinute_38 : decode cX2_lastSolveMinute 38 = .ok (.getfield 18, 3) := by decide +kernel
theorem dX2_lastSolveMinute_41 : decode cX2_lastSolveMinute 41 = .ok (.iload_n 1, 1) := by decide +kernel
theorem dX2_lastSolveMinute_42 : decode cX2_lastSolveMinute 42 = .ok (.iload 4, 2) := by decide +kernel
theorem dX2_lastSolveMinute_44 : decode cX2_lastSolveMinute 44 = .ok (.invokestatic 40, 3) := by decide +kernel
theorem dX2_lastSolveMinute_47 : decode cX2_lastSolveMinute 47 = .ok (.iaload, 1) := by decide +kernel
theorem dX2_lastSolveMinute_48 : decode cX2_lastSolveMinute 48 = .ok (.invokestatic 51, 3) := by decide +kernel
theorem dX2_lastSolveMinute_51 : decode cX2_lastSolveMinute 51 = .ok (.istore_n 3, 1) := by decide +kernel
theorem dX2_lastSolveMinute_52 : decode cX2_lastSolveMinute 52 = .ok (.iinc 4 1, 3) := by decide +kernel
theorem dX2_lastSolveMinute_55 : decode cX2_lastSolveMinute 55 = .ok (.goto (-35), 3) := by decide +kernel
theorem dX2_lastSolveMinute_58 : decode cX2_lastSolveMinute 58 = .ok (.iload_n 3, 1) := by decide +kernel
theorem dX2_lastSolveMinute_59 : decode cX2_lastSolveMinute 59 = .ok (.ireturn, 1) := by decide +kernel
set_option maxHeartbeats 4000000 in
set_option maxRecDepth 100000 in
theorem c_X2_lastSolveMinute_18 (l : Launch) (D : va_G) (cI cZ cL : ClassId) (ad : Nat → Nat) (S : Mem) (t : Nat) (set : Int32) (ht : t < 8) : RD l D cI cZ cL yX2_lastSolveMinute cX2_lastSolveMinute 5 (some .int) 1 [.ref (ad 18), .int (nI t), .int set] (wC ad cI S) (some (.int (p_last S 18 t set))) := by
  refine RD.of (by decide) (Nat.le_of_ble_eq_true rfl) ?_
  intro p e s m args below meth c ls hx hb hr hml hown hlk hE hP hl
  have hl : lv_has ls 5 [(0, .ref (ad 18)), (1, .int (nI t)), (2, .int set)] := hl
  refine lv_iload_n hx hb dX2_lastSolveMinute_0 rfl (lv_at hl 2 rfl) ?_
  refine lv_aload_n hx hb dX2_lastSolveMinute_1 rfl (lv_at hl 0 rfl) ?_
  refine q_get (v := .ref (ad 19)) hx hb hown hE inT_X2 hP 18 rfl rfl 0 (by decide) w_187 rfl dX2_lastSolveMinute_2 ?_
  refine lv_iload_n hx hb dX2_lastSolveMinute_5 rfl (lv_at hl 1 rfl) ?_
  refine q_iald (f := S 19) (i := t) hx hb hE hP 19 rfl (by omega) (Nat.le_of_ble_eq_true rfl) dX2_lastSolveMinute_6 ?_
  refine lv_iconst (v := (-1)) hx hb dX2_lastSolveMinute_7 (by decide) ?_
  refine lv_ixor hx hb dX2_lastSolveMinute_8 ?_
  refine lv_iand hx hb dX2_lastSolveMinute_9 ?_
  refine lv_if_eq (tgt := 15) hx hb dX2_lastSolveMinute_10 (by decide) (fun c_1 => ?_) (fun c_1 => ?_)
  · skip
    refine lv_iconst (v := 0) hx hb dX2_lastSolveMinute_15 (by decide) ?_
    refine lv_istore_n (lv' := [(3, .int 0), (0, .ref (ad 18)), (1, .int (nI t)), (2, .int set)]) hx hb dX2_lastSolveMinute_16 rfl hl (by decide) rfl (fun ls hl => ?_)
    refine lv_iconst (v := 0) hx hb dX2_lastSolveMinute_17 (by decide) ?_
    refine lv_istore (lv' := [(4, .int 0), (3, .int 0), (0, .ref (ad 18)), (1, .int (nI t)), (2, .int set)]) hx hb dX2_lastSolveMinute_18 hl (by decide) rfl (fun ls hl => ?_)
    have hloop_20 : ∀ (n i : Nat), i ≤ 16 → 16 < i + n → ∀ ls : Array Slot, lv_has ls 5 [(4, .int (nI i)), (3, .int (p_lsm S 18 t set i)), (0, .ref (ad 18)), (1, .int (nI t)), (2, .int set)] → W p l e (rm 1 0 0) s m args below meth c s.heap [] 0 0 (MQ below (Qrd (some (.int (p_last S 18 t set)))) args s 0 0 q_no) (F0 m 20 ls []) := by
      intro n
      induction n with
      | zero => intro i h1 h2; exact absurd h2 (by omega)
      | succ n ih_20 =>
        intro i hi_20 hin_20  ls hl
        refine lv_iload hx hb dX2_lastSolveMinute_20 (lv_at hl 0 rfl) ?_
        refine lv_bipush (v := 16) hx hb dX2_lastSolveMinute_22 (by decide) ?_
        refine lv_icmp_ge (tgt := 58) hx hb dX2_lastSolveMinute_24 (by decide) (fun c_2 => ?_) (fun c_2 => ?_)
        · skip
          have c_2 : 16 ≤ i := n_le (a := 16) (b := i) (by omega) (by omega) c_2
          have hend_20 : 16 = i := by omega
          subst hend_20
          refine lv_iload_n hx hb dX2_lastSolveMinute_58 rfl (lv_at hl 1 rfl) ?_
          refine q_top (y := p_last S 18 t set) (by first | (simp only [bI, p_last, c_1, ↓reduceIte]; done) | (simp [bI, p_last, c_1]; done) | (simp_all [bI, p_last]; done)) ?_
          exact e_ret hx hb hr hlk rfl dX2_lastSolveMinute_59
        · skip
          have c_2 : i < 16 := n_nle (a := 16) (b := i) (by omega) (by omega) c_2
          refine lv_iload_n hx hb dX2_lastSolveMinute_27 rfl (lv_at hl 4 rfl) ?_
          refine lv_iload hx hb dX2_lastSolveMinute_28 (lv_at hl 0 rfl) ?_
          refine q_rd (q_runSN (rest := []) hx hb hml hown hE (c_X5_has l D cI cZ cL _ set (nI i)) ck_X5_has w_306 hP hl.1 rfl ⟨Nat.le_of_ble_eq_true rfl, Nat.le_of_ble_eq_true rfl⟩ (Nat.le_of_ble_eq_true rfl) dX2_lastSolveMinute_30 ⟨Nat.le_of_ble_eq_true rfl, Nat.le_of_ble_eq_true rfl⟩) ?_
          refine lv_if_eq (tgt := 52) hx hb dX2_lastSolveMinute_33 (by decide) (fun c_3 => ?_) (fun c_3 => ?_)
          · skip
            have c_3 : hs set (nI i) = false := b_f c_3
            refine lv_iinc (v := nI (i + 1)) (lv' := [(4, .int (nI (i + 1))), (3, .int (p_lsm S 18 t set i)), (0, .ref (ad 18)), (1, .int (nI t)), (2, .int set)]) hx hb dX2_lastSolveMinute_52 hl (k := 0) rfl (nI_1 i) (by decide) rfl (fun ls hl => ?_)
            refine lv_goto (tgt := 20) hx hb dX2_lastSolveMinute_55 (by decide) ?_
            refine ih_20 (i + 1) (by omega) (by omega)  ls ?_
            rw [show p_lsm S 18 t set (i + 1) = p_lsm S 18 t set i from by first | (simp only [bI, p_lsm, c_2, c_3, ↓reduceIte]; done) | (simp [bI, p_lsm, c_2, c_3]; done) | (simp_all [bI, p_lsm]; done)]
            exact lv_sub hl [0, 1, 2, 3, 4] rfl
          · skip
            have c_3 : hs set (nI i) = true := b_t c_3
            refine lv_iload_n hx hb dX2_lastSolveMinute_36 rfl (lv_at hl 1 rfl) ?_
            refine lv_aload_n hx hb dX2_lastSolveMinute_37 rfl (lv_at hl 2 rfl) ?_
            refine q_get (v := .ref (ad 21)) hx hb hown hE inT_X2 hP 18 rfl rfl 2 (by decide) w_191 rfl dX2_lastSolveMinute_38 ?_
            refine lv_iload_n hx hb dX2_lastSolveMinute_41 rfl (lv_at hl 3 rfl) ?_
            refine lv_iload hx hb dX2_lastSolveMinute_42 (lv_at hl 0 rfl) ?_
            refine q_rd (q_runSN (rest := [.ref (ad 21), .int (p_lsm S 18 t set i)]) hx hb hml hown hE (c_X5_cell l D cI cZ cL _ t i) ck_X5_cell w_307 hP hl.1 rfl ⟨Nat.le_of_ble_eq_true rfl, Nat.le_of_ble_eq_true rfl⟩ (Nat.le_of_ble_eq_true rfl) dX2_lastSolveMinute_44 ⟨Nat.le_of_ble_eq_true rfl, Nat.le_of_ble_eq_true rfl⟩) ?_
            refine q_iald (f := S 21) (i := (t * 16 + i)) hx hb hE hP 21 rfl (by omega) (Nat.le_of_ble_eq_true rfl) dX2_lastSolveMinute_47 ?_
            refine va_mmax hx hb (hml.trans hl.1.symm) hown (hE.1 _ w_308 args) (hE.1 _ w_309 args) (hE.1 _ w_75 args) (hE.1 _ w_310 args) (Nat.le_of_ble_eq_true rfl) (Nat.le_of_ble_eq_true rfl) (Nat.le_of_ble_eq_true rfl) (Nat.le_of_ble_eq_true rfl) dX2_lastSolveMinute_48 ?_
            refine q_top (y := imax (p_lsm S 18 t set i) (S 21 (t * 16 + i))) rfl ?_
            refine lv_istore_n (lv' := [(3, .int (imax (p_lsm S 18 t set i) (S 21 (t * 16 + i)))), (4, .int (nI i)), (0, .ref (ad 18)), (1, .int (nI t)), (2, .int set)]) hx hb dX2_lastSolveMinute_51 rfl hl (by decide) rfl (fun ls hl => ?_)
            refine lv_iinc (v := nI (i + 1)) (lv' := [(4, .int (nI (i + 1))), (3, .int (imax (p_lsm S 18 t set i) (S 21 (t * 16 + i)))), (0, .ref (ad 18)), (1, .int (nI t)), (2, .int set)]) hx hb dX2_lastSolveMinute_52 hl (k := 1) rfl (nI_1 i) (by decide) rfl (fun ls hl => ?_)
            refine lv_goto (tgt := 20) hx hb dX2_lastSolveMinute_55 (by decide) ?_
            refine ih_20 (i + 1) (by omega) (by omega)  ls ?_
            rw [show p_lsm S 18 t set (i + 1) = imax (p_lsm S 18 t set i) (S 21 (t * 16 + i)) from by first | (simp only [bI, p_lsm, c_2, c_3, ↓reduceIte]; done) | (simp [bI, p_lsm, c_2, c_3]; done) | (simp_all [bI, p_lsm]; done)]
            exact lv_sub hl [0, 1, 2, 3, 4] rfl
    refine hloop_20 (16 + 1) 0 (by omega) (by omega)  ls ?_
    rw [show p_lsm S 18 t set 0 = 0 from by first | rfl | (first | (simp only [bI, p_lsm, c_1, ↓reduceIte]; done) | (simp [bI, p_lsm, c_1]; done) | (simp_all [bI, p_lsm]; done))]
    exact lv_sub hl [0, 1, 2, 3, 4] rfl
  · skip
    refine lv_iconst (v := (-1)) hx hb dX2_lastSolveMinute_13 (by decide) ?_
    refine q_top (y := p_last S 18 t set) (by first | (simp only [bI, p_last, c_1, ↓reduceIte]; done) | (simp [bI, p_last, c_1]; done) | (simp_all [bI, p_last]; done)) ?_
    exact e_ret hx hb hr hlk rfl dX2_lastSolveMinute_14


set_option maxHeartbeats 4000000 in
set_option maxRecDepth 100000 in
theorem c_X2_lastSolveMinute_25 (l : Launch) (D : va_G) (cI cZ cL : ClassId) (ad : Nat → Nat) (S : Mem) (t : Nat) (set : Int32) (ht : t < 8) : RD l D cI cZ cL yX2_lastSolveMinute cX2_lastSolveMinute 5 (some .int) 1 [.ref (ad 25), .int (nI t), .int set] (wC ad cI S) (some (.int (p_last S 25 t set))) := by
  refine RD.of (by decide) (Nat.le_of_ble_eq_true rfl) ?_
  intro p e s m args below meth c ls hx hb hr hml hown hlk hE hP hl
  have hl : lv_has ls 5 [(0, .ref (ad 25)), (1, .int (nI t)), (2, .int set)] := hl
  refine lv_iload_n hx hb dX2_lastSolveMinute_0 rfl (lv_at hl 2 rfl) ?_
  refine lv_aload_n hx hb dX2_lastSolveMinute_1 rfl (lv_at hl 0 rfl) ?_
  refine q_get (v := .ref (ad 26)) hx hb hown hE inT_X2 hP 25 rfl rfl 0 (by decide) w_187 rfl dX2_lastSolveMinute_2 ?_
  refine lv_iload_n hx hb dX2_lastSolveMinute_5 rfl (lv_at hl 1 rfl) ?_
  refine q_iald (f := S 26) (i := t) hx hb hE hP 26 rfl (by omega) (Nat.le_of_ble_eq_true rfl) dX2_lastSolveMinute_6 ?_
  refine lv_iconst (v := (-1)) hx hb dX2_lastSolveMinute_7 (by decide) ?_
  refine lv_ixor hx hb dX2_lastSolveMinute_8 ?_
  refine lv_iand hx hb dX2_lastSolveMinute_9 ?_
  refine lv_if_eq (tgt := 15) hx hb dX2_lastSolveMinute_10 (by decide) (fun c_1 => ?_) (fun c_1 => ?_)
  · skip
    refine lv_iconst (v := 0) hx hb dX2_lastSolveMinute_15 (by decide) ?_
    refine lv_istore_n (lv' := [(3, .int 0), (0, .ref (ad 25)), (1, .int (nI t)), (2, .int set)]) hx hb dX2_lastSolveMinute_16 rfl hl (by decide) rfl (fun ls hl => ?_)
    refine lv_iconst (v := 0) hx hb dX2_lastSolveMinute_17 (by decide) ?_
    refine lv_istore (lv' := [(4, .int 0), (3, .int 0), (0, .ref (ad 25)), (1, .int (nI t)), (2, .int set)]) hx hb dX2_lastSolveMinute_18 hl (by decide) rfl (fun ls hl => ?_)
    have hloop_20 : ∀ (n i : Nat), i ≤ 16 → 16 < i + n → ∀ ls : Array Slot, lv_has ls 5 [(4, .int (nI i)), (3, .int (p_lsm S 25 t set i)), (0, .ref (ad 25)), (1, .int (nI t)), (2, .int set)] → W p l e (rm 1 0 0) s m args below meth c s.heap [] 0 0 (MQ below (Qrd (some (.int (p_last S 25 t set)))) args s 0 0 q_no) (F0 m 20 ls []) := by
      intro n
      induction n with
      | zero => intro i h1 h2; exact absurd h2 (by omega)
      | succ n ih_20 =>
        intro i hi_20 hin_20  ls hl
        refine lv_iload hx hb dX2_lastSolveMinute_20 (lv_at hl 0 rfl) ?_
        refine lv_bipush (v := 16) hx hb dX2_lastSolveMinute_22 (by decide) ?_
        refine lv_icmp_ge (tgt := 58) hx hb dX2_lastSolveMinute_24 (by decide) (fun c_2 => ?_) (fun c_2 => ?_)
        · skip
          have c_2 : 16 ≤ i := n_le (a := 16) (b := i) (by omega) (by omega) c_2
          have hend_20 : 16 = i := by omega
          subst hend_20
          refine lv_iload_n hx hb dX2_lastSolveMinute_58 rfl (lv_at hl 1 rfl) ?_
          refine q_top (y := p_last S 25 t set) (by first | (simp only [bI, p_last, c_1, ↓reduceIte]; done) | (simp [bI, p_last, c_1]; done) | (simp_all [bI, p_last]; done)) ?_
          exact e_ret hx hb hr hlk rfl dX2_lastSolveMinute_59
        · skip
          have c_2 : i < 16 := n_nle (a := 16) (b := i) (by omega) (by omega) c_2
          refine lv_iload_n hx hb dX2_lastSolveMinute_27 rfl (lv_at hl 4 rfl) ?_
          refine lv_iload hx hb dX2_lastSolveMinute_28 (lv_at hl 0 rfl) ?_
          refine q_rd (q_runSN (rest := []) hx hb hml hown hE (c_X5_has l D cI cZ cL _ set (nI i)) ck_X5_has w_306 hP hl.1 rfl ⟨Nat.le_of_ble_eq_true rfl, Nat.le_of_ble_eq_true rfl⟩ (Nat.le_of_ble_eq_true rfl) dX2_lastSolveMinute_30 ⟨Nat.le_of_ble_eq_true rfl, Nat.le_of_ble_eq_true rfl⟩) ?_
          refine lv_if_eq (tgt := 52) hx hb dX2_lastSolveMinute_33 (by decide) (fun c_3 => ?_) (fun c_3 => ?_)
          · skip
            have c_3 : hs set (nI i) = false := b_f c_3
            refine lv_iinc (v := nI (i + 1)) (lv' := [(4, .int (nI (i + 1))), (3, .int (p_lsm S 25 t set i)), (0, .ref (ad 25)), (1, .int (nI t)), (2, .int set)]) hx hb dX2_lastSolveMinute_52 hl (k := 0) rfl (nI_1 i) (by decide) rfl (fun ls hl => ?_)
            refine lv_goto (tgt := 20) hx hb dX2_lastSolveMinute_55 (by decide) ?_
            refine ih_20 (i + 1) (by omega) (by omega)  ls ?_
            rw [show p_lsm S 25 t set (i + 1) = p_lsm S 25 t set i from by first | (simp only [bI, p_lsm, c_2, c_3, ↓reduceIte]; done) | (simp [bI, p_lsm, c_2, c_3]; done) | (simp_all [bI, p_lsm]; done)]
            exact lv_sub hl [0, 1, 2, 3, 4] rfl
          · skip
            have c_3 : hs set (nI i) = true := b_t c_3
            refine lv_iload_n hx hb dX2_lastSolveMinute_36 rfl (lv_at hl 1 rfl) ?_
            refine lv_aload_n hx hb dX2_lastSolveMinute_37 rfl (lv_at hl 2 rfl) ?_
            refine q_get (v := .ref (ad 28)) hx hb hown hE inT_X2 hP 25 rfl rfl 2 (by decide) w_191 rfl dX2_lastSolveMinute_38 ?_
            refine lv_iload_n hx hb dX2_lastSolveMinute_41 rfl (lv_at hl 3 rfl) ?_
            refine lv_iload hx hb dX2_lastSolveMinute_42 (lv_at hl 0 rfl) ?_
            refine q_rd (q_runSN (rest := [.ref (ad 28), .int (p_lsm S 25 t set i)]) hx hb hml hown hE (c_X5_cell l D cI cZ cL _ t i) ck_X5_cell w_307 hP hl.1 rfl ⟨Nat.le_of_ble_eq_true rfl, Nat.le_of_ble_eq_true rfl⟩ (Nat.le_of_ble_eq_true rfl) dX2_lastSolveMinute_44 ⟨Nat.le_of_ble_eq_true rfl, Nat.le_of_ble_eq_true rfl⟩) ?_
            refine q_iald (f := S 28) (i := (t * 16 + i)) hx hb hE hP 28 rfl (by omega) (Nat.le_of_ble_eq_true rfl) dX2_lastSolveMinute_47 ?_
            refine va_mmax hx hb (hml.trans hl.1.symm) hown (hE.1 _ w_308 args) (hE.1 _ w_309 args) (hE.1 _ w_75 args) (hE.1 _ w_310 args) (Nat.le_of_ble_eq_true rfl) (Nat.le_of_ble_eq_true rfl) (Nat.le_of_ble_eq_true rfl) (Nat.le_of_ble_eq_true rfl) dX2_lastSolveMinute_48 ?_
            refine q_top (y := imax (p_lsm S 25 t set i) (S 28 (t * 16 + i))) rfl ?_
            refine lv_istore_n (lv' := [(3, .int (imax (p_lsm S 25 t set i) (S 28 (t * 16 + i)))), (4, .int (nI i)), (0, .ref (ad 25)), (1, .int (nI t)), (2, .int set)]) hx hb dX2_lastSolveMinute_51 rfl hl (by decide) rfl (fun ls hl => ?_)
            refine lv_iinc (v := nI (i + 1)) (lv' := [(4, .int (nI (i + 1))), (3, .int (imax (p_lsm S 25 t set i) (S 28 (t * 16 + i)))), (0, .ref (ad 25)), (1, .int (nI t)), (2, .int set)]) hx hb dX2_lastSolveMinute_52 hl (k := 1) rfl (nI_1 i) (by decide) rfl (fun ls hl => ?_)
            refine lv_goto (tgt := 20) hx hb dX2_lastSolveMinute_55 (by decide) ?_
            refine ih_20 (i + 1) (by omega) (by omega)  ls ?_
            rw [show p_lsm S 25 t set (i + 1) = imax (p_lsm S 25 t set i) (S 28 (t * 16 + i)) from by first | (simp only [bI, p_lsm, c_2, c_3, ↓reduceIte]; done) | (simp [bI, p_lsm, c_2, c_3]; done) | (simp_all [bI, p_lsm]; done)]
            exact lv_sub hl [0, 1, 2, 3, 4] rfl
    refine hloop_20 (16 + 1) 0 (by omega) (by omega)  ls ?_
    rw [show p_lsm S 25 t set 0 = 0 from by first | rfl | (first | (simp only [bI, p_lsm, c_1, ↓reduceIte]; done) | (simp [bI, p_lsm, c_1]; done) | (simp_all [bI, p_lsm]; done))]
    exact lv_sub hl [0, 1, 2, 3, 4] rfl
  · skip
    refine lv_iconst (v := (-1)) hx hb dX2_lastSolveMinute_13 (by decide) ?_
    refine q_top (y := p_last S 25 t set) (by first | (simp only [bI, p_last, c_1, ↓reduceIte]; done) | (simp [bI, p_last, c_1]; done) | (simp_all [bI, p_last]; done)) ?_
    exact e_ret hx hb hr hlk rfl dX2_lastSolveMinute_14

theorem dX5_openMinute_0 : decode cX5_openMinute 0 = .ok (.aload_n 1, 1) := by decide +kernel
theorem dX5_openMinute_1 : decode cX5_openMinute 1 = .ok (.iload_n 2, 1) := by decide +kernel
theorem dX5_openMinute_2 : decode cX5_openMinute 2 = .ok (.aload_n 0, 1) := by decide +kernel
theorem dX5_openMinute_3 : decode cX5_openMinute 3 = .ok (.getfield 10, 3) := by decide +kernel
theorem dX5_openMinute_6 : decode cX5_openMinute 6 = .ok (.getfield 101, 3) := by decide +kernel
theorem dX5_openMinute_9 : decode cX5_openMinute 9 = .ok (.iload_n 3, 1) := by decide +kernel
theorem dX5_openMinute_10 : decode cX5_openMinute 10 = .ok (.iaload, 1) := by decide +kernel
theorem dX5_openMinute_11 : decode cX5_openMinute 11 = .ok (.invokevirtual 257, 3) := by decide +kernel
theorem dX5_openMinute_14 : decode cX5_openMinute 14 = .ok (.ireturn, 1) := by decide +kernel
set_option maxHeartbeats 4000000 in
set_option maxRecDepth 100000 in
theorem c_X5_openMinute_18 (l : Launch) (D : va_G) (cI cZ cL : ClassId) (ad : Nat → Nat) (S : Mem) (t : Nat) (r : Nat) (ht : t < 8) (hr : r < 16) : RD l D cI cZ cL yX5_openMinute cX5_openMinute 4 (some .int) 2 [.ref (ad 0), .ref (ad 18), .int (nI t), .int (nI r)] (wC ad cI S) (some (.int (p_open S 18 t r))) := by
  refine RD.of (by decide) (Nat.le_of_ble_eq_true rfl) ?_
  intro p e s m args below meth c ls hx hb hr hml hown hlk hE hP hl
  have hl : lv_has ls 4 [(0, .ref (ad 0)), (1, .ref (ad 18)), (2, .int (nI t)), (3, .int (nI r))] := hl
  refine lv_aload_n hx hb dX5_openMinute_0 rfl (lv_at hl 1 rfl) ?_
  refine lv_iload_n hx hb dX5_openMinute_1 rfl (lv_at hl 2 rfl) ?_
  refine lv_aload_n hx hb dX5_openMinute_2 rfl (lv_at hl 0 rfl) ?_
  refine q_get (v := .ref (ad 1)) hx hb hown hE inT_X5 hP 0 rfl rfl 0 (by decide) w_212 rfl dX5_openMinute_3 ?_
  refine q_getN (v := .ref (ad 6)) hx hb hown hE inT_X3 hP 1 rfl rfl 4 (by decide) w_101 rfl dX5_openMinute_6 ?_
  refine lv_iload_n hx hb dX5_openMinute_9 rfl (lv_at hl 3 rfl) ?_
  refine q_iald (f := S 6) (i := r) hx hb hE hP 6 rfl (by omega) (Nat.le_of_ble_eq_true rfl) dX5_openMinute_10 ?_
  refine q_rd (q_runVN (rest := []) hx hb hml hown hE (c_X2_lastSolveMinute_18 l D cI cZ cL ad S t (S 6 r) (by omega)) ck_X2_lastSolveMinute w_302 hP 18 rfl rfl hl.1 rfl ⟨Nat.le_of_ble_eq_true rfl, Nat.le_of_ble_eq_true rfl⟩ (Nat.le_of_ble_eq_true rfl) dX5_openMinute_11 ⟨Nat.le_of_ble_eq_true rfl, Nat.le_of_ble_eq_true rfl⟩) ?_
  refine q_top (y := p_open S 18 t r) (by rfl) ?_
  exact e_ret hx hb hr hlk rfl dX5_openMinute_14

theorem dX5_freeSet_0 : decode cX5_freeSet 0 = .ok (.iconst 0, 1) := by decide +kernel
theorem dX5_freeSet_1 : decode cX5_freeSet 1 = .ok (.istore_n 2, 1) := by decide +kernel
theorem dX5_freeSet_2 : decode cX5_freeSet 2 = .ok (.iconst 0, 1) := by decide +kernel
theorem dX5_freeSet_3 : decode cX5_freeSet 3 = .ok (.istore_n 3, 1) := by decide +kernel
theorem dX5_freeSet_4 : decode cX5_freeSet 4 = .ok (.iload_n 3, 1) := by decide +kernel
theorem dX5_freeSet_5 : decode cX5_freeSet 5 = .ok (.aload_n 0, 1) := by decide +kernel
theorem dX5_freeSet_6 : decode cX5_freeSet 6 = .ok (.getfield 115, 3) := by decide +kernel
theorem dX5_freeSet_9 : decode cX5_freeSet 9 = .ok (.if_icmp .ge 30, 3) := by decide +kernel
theorem dX5_freeSet_12 : decode cX5_freeSet 12 = .ok (.iload_n 2, 1) := by decide +kernel
theorem dX5_freeSet_13 : decode cX5_freeSet 13 = .ok (.aload_n 1, 1) := by decide +kernel
theorem dX5_freeSet_14 : decode cX5_freeSet 14 = .ok (.getfield 180, 3) := by decide +kernel
theorem dX5_freeSet_17 : decode cX5_freeSet 17 = .ok (.iload_n 3, 1) := by decide +kernel
theorem dX5_freeSet_18 : decode cX5_freeSet 18 = .ok (.iaload, 1) := by decide +kernel
theorem dX5_freeSet_19 : decode cX5_freeSet 19 = .ok (.aload_n 0, 1) := by decide +kernel
theorem dX5_freeSet_20 : decode cX5_freeSet 20 = .ok (.getfield 33, 3) := by decide +kernel
theorem dX5_freeSet_23 : decode cX5_freeSet 23 = .ok (.getfield 183, 3) := by decide +kernel
theorem dX5_freeSet_26 : decode cX5_freeSet 26 = .ok (.iload_n 3, 1) := by decide +kernel
theorem dX5_freeSet_27 : decode cX5_freeSet 27 = .ok (.iaload, 1) := by decide +kernel
theorem dX5_freeSet_28 : decode cX5_freeSet 28 = .ok (.iconst (-1), 1) := by decide +kernel
theorem dX5_freeSet_29 : decode cX5_freeSet 29 = .ok (.ixor, 1) := by decide +kernel
theorem dX5_freeSet_30 : decode cX5_freeSet 30 = .ok (.iand, 1) := by decide +kernel
theorem dX5_freeSet_31 : decode cX5_freeSet 31 = .ok (.ior, 1) := by decide +kernel
theorem dX5_freeSet_32 : decode cX5_freeSet 32 = .ok (.istore_n 2, 1) := by decide +kernel
theorem dX5_freeSet_33 : decode cX5_freeSet 33 = .ok (.iinc 3 1, 3) := by decide +kernel
theorem dX5_freeSet_36 : decode cX5_freeSet 36 = .ok (.goto (-32), 3) := by decide +kernel
theorem dX5_freeSet_39 : decode cX5_freeSet 39 = .ok (.iload_n 2, 1) := by decide +kernel
theorem dX5_freeSet_40 : decode cX5_freeSet 40 = .ok (.ireturn, 1) := by decide +kernel
set_option maxHeartbeats 4000000 in
set_option maxRecDepth 100000 in
theorem c_X5_freeSet_18 (l : Launch) (D : va_G) (cI cZ cL : ClassId) (ad : Nat → Nat) (S : Mem) (hI : I0 S) : RD l D cI cZ cL yX5_freeSet cX5_freeSet 4 (some .int) 0 [.ref (ad 0), .ref (ad 18)] (wC ad cI S) (some (.int (p_free S 18 (cT S)))) := by
  refine RD.of (by decide) (Nat.le_of_ble_eq_true rfl) ?_
  intro p e s m args below meth c ls hx hb hr hml hown hlk hE hP hl
  have hl : lv_has ls 4 [(0, .ref (ad 0)), (1, .ref (ad 18))] := hl
  have hT8 := hI.T8
  have hR16 := hI.R16
  have hN200 := hI.N200
  refine lv_iconst (v := 0) hx hb dX5_freeSet_0 (by decide) ?_
  refine lv_istore_n (lv' := [(2, .int 0), (0, .ref (ad 0)), (1, .ref (ad 18))]) hx hb dX5_freeSet_1 rfl hl (by decide) rfl (fun ls hl => ?_)
  refine lv_iconst (v := 0) hx hb dX5_freeSet_2 (by decide) ?_
  refine lv_istore_n (lv' := [(3, .int 0), (2, .int 0), (0, .ref (ad 0)), (1, .ref (ad 18))]) hx hb dX5_freeSet_3 rfl hl (by decide) rfl (fun ls hl => ?_)
  have hloop_4 : ∀ (n i : Nat), i ≤ cT S → cT S < i + n → ∀ ls : Array Slot, lv_has ls 4 [(3, .int (nI i)), (2, .int (p_free S 18 i)), (0, .ref (ad 0)), (1, .ref (ad 18))] → W p l e (rm 0 0 0) s m args below meth c s.heap [] 0 0 (MQ below (Qrd (some (.int (p_free S 18 (cT S))))) args s 0 0 q_no) (F0 m 4 ls []) := by
    intro n
    induction n with
    | zero => intro i h1 h2; exact absurd h2 (by omega)
    | succ n ih_4 =>
      intro i hi_4 hin_4  ls hl
      refine lv_iload_n hx hb dX5_freeSet_4 rfl (lv_at hl 0 rfl) ?_
      refine lv_aload_n hx hb dX5_freeSet_5 rfl (lv_at hl 2 rfl) ?_
      refine q_get (v := .int (S 0 9)) hx hb hown hE inT_X5 hP 0 rfl rfl 9 (by decide) w_221 rfl dX5_freeSet_6 ?_
      refine q_top (y := nI (cT S)) (I0.T hI) ?_
      refine lv_icmp_ge (tgt := 39) hx hb dX5_freeSet_9 (by decide) (fun c_1 => ?_) (fun c_1 => ?_)
      · skip
        have c_1 : (cT S) ≤ i := n_le (a := cT S) (b := i) (by omega) (by omega) c_1
        have hend_4 : cT S = i := by omega
        subst hend_4
        refine lv_iload_n hx hb dX5_freeSet_39 rfl (lv_at hl 1 rfl) ?_
        exact e_ret hx hb hr hlk rfl dX5_freeSet_40
      · skip
        have c_1 : i < (cT S) := n_nle (a := cT S) (b := i) (by omega) (by omega) c_1
        refine lv_iload_n hx hb dX5_freeSet_12 rfl (lv_at hl 1 rfl) ?_
        refine lv_aload_n hx hb dX5_freeSet_13 rfl (lv_at hl 3 rfl) ?_
        refine q_getN (v := .ref (ad 20)) hx hb hown hE inT_X2 hP 18 rfl rfl 1 (by decide) w_190 rfl dX5_freeSet_14 ?_
        refine lv_iload_n hx hb dX5_freeSet_17 rfl (lv_at hl 0 rfl) ?_
        refine q_iald (f := S 20) (i := i) hx hb hE hP 20 rfl (by omega) (Nat.le_of_ble_eq_true rfl) dX5_freeSet_18 ?_
        refine lv_aload_n hx hb dX5_freeSet_19 rfl (lv_at hl 2 rfl) ?_
        refine q_get (v := .ref (ad 15)) hx hb hown hE inT_X5 hP 0 rfl rfl 3 (by decide) w_215 rfl dX5_freeSet_20 ?_
        refine q_getN (v := .ref (ad 16)) hx hb hown hE inT_X1 hP 15 rfl rfl 0 (by decide) w_170 rfl dX5_freeSet_23 ?_
        refine lv_iload_n hx hb dX5_freeSet_26 rfl (lv_at hl 0 rfl) ?_
        refine q_iald (f := S 16) (i := i) hx hb hE hP 16 rfl (by omega) (Nat.le_of_ble_eq_true rfl) dX5_freeSet_27 ?_
        refine lv_iconst (v := (-1)) hx hb dX5_freeSet_28 (by decide) ?_
        refine lv_ixor hx hb dX5_freeSet_29 ?_
        refine lv_iand hx hb dX5_freeSet_30 ?_
        refine lv_ior hx hb dX5_freeSet_31 ?_
        refine lv_istore_n (lv' := [(2, .int ((p_free S 18 i) ||| ((S 20 i) &&& ((S 16 i) ^^^ (-1))))), (3, .int (nI i)), (0, .ref (ad 0)), (1, .ref (ad 18))]) hx hb dX5_freeSet_32 rfl hl (by decide) rfl (fun ls hl => ?_)
        refine lv_iinc (v := nI (i + 1)) (lv' := [(3, .int (nI (i + 1))), (2, .int ((p_free S 18 i) ||| ((S 20 i) &&& ((S 16 i) ^^^ (-1))))), (0, .ref (ad 0)), (1, .ref (ad 18))]) hx hb dX5_freeSet_33 hl (k := 1) rfl (nI_1 i) (by decide) rfl (fun ls hl => ?_)
        refine lv_goto (tgt := 4) hx hb dX5_freeSet_36 (by decide) ?_
        refine ih_4 (i + 1) (by omega) (by omega)  ls ?_
        rw [show p_free S 18 (i + 1) = (p_free S 18 i) ||| ((S 20 i) &&& ((S 16 i) ^^^ (-1))) from by first | (simp only [bI, p_free, c_1, ↓reduceIte]; done) | (simp [bI, p_free, c_1]; done) | (simp_all [bI, p_free]; done)]
        exact lv_sub hl [0, 1, 2, 3] rfl
  refine hloop_4 (cT S + 1) 0 (by omega) (by omega)  ls ?_
  rw [show p_free S 18 0 = 0 from by first | rfl | (first | (simp only [bI, p_free, ↓reduceIte]; done) | (simp [bI, p_free]; done) | (simp_all [bI, p_free]; done))]
  exact lv_sub hl [0, 1, 2, 3] rfl

theorem dX5_cheatedSet_0 : decode cX5_cheatedSet 0 = .ok (.iconst 0, 1) := by decide +kernel
theorem dX5_cheatedSet_1 : decode cX5_cheatedSet 1 = .ok (.istore_n 3, 1) := by decide +kernel
theorem dX5_cheatedSet_2 : decode cX5_cheatedSet 2 = .ok (.iconst 0, 1) := by decide +kernel
theorem dX5_cheatedSet_3 : decode cX5_cheatedSet 3 = .ok (.istore 4, 2) := by decide +kernel
theorem dX5_cheatedSet_5 : decode cX5_cheatedSet 5 = .ok (.iload 4, 2) := by decide +kernel
theorem dX5_cheatedSet_7 : decode cX5_cheatedSet 7 = .ok (.aload_n 0, 1) := by decide +kernel
theorem dX5_cheatedSet_8 : decode cX5_cheatedSet 8 = .ok (.getfield 115, 3) := by decide +kernel
theorem dX5_cheatedSet_11 : decode cX5_cheatedSet 11 = .ok (.if_icmp .ge 47, 3) := by decide +kernel
theorem dX5_cheatedSet_14 : decode cX5_cheatedSet 14 = .ok (.aload_n 0, 1) := by decide +kernel
theorem dX5_cheatedSet_15 : decode cX5_cheatedSet 15 = .ok (.getfield 33, 3) := by decide +kernel
theorem dX5_cheatedSet_18 : decode cX5_cheatedSet 18 = .ok (.iload_n 2, 1) := by decide +kernel
theorem dX5_cheatedSet_19 : decode cX5_cheatedSet 19 = .ok (.iload 4, 2) := by decide +kernel
theorem dX5_cheatedSet_21 : decode cX5_cheatedSet 21 = .ok (.aload_n 1, 1) := by decide +kernel
theorem dX5_cheatedSet_22 : decode cX5_cheatedSet 22 = .ok (.getfield 196, 3) := by decide +kernel
theorem dX5_cheatedSet_25 : decode cX5_cheatedSet 25 = .ok (.iload_n 2, 1) := by decide +kernel
theorem dX5_cheatedSet_26 : decode cX5_cheatedSet 26 = .ok (.iload 4, 2) := by decide +kernel
theorem dX5_cheatedSet_28 : decode cX5_cheatedSet 28 = .ok (.invokestatic 199, 3) := by decide +kernel
theorem dX5_cheatedSet_31 : decode cX5_cheatedSet 31 = .ok (.iaload, 1) := by decide +kernel
theorem dX5_cheatedSet_32 : decode cX5_cheatedSet 32 = .ok (.invokevirtual 202, 3) := by decide +kernel
theorem dX5_cheatedSet_35 : decode cX5_cheatedSet 35 = .ok (.ifCond .eq 17, 3) := by decide +kernel
theorem dX5_cheatedSet_38 : decode cX5_cheatedSet 38 = .ok (.iload_n 3, 1) := by decide +kernel
theorem dX5_cheatedSet_39 : decode cX5_cheatedSet 39 = .ok (.aload_n 1, 1) := by decide +kernel
theorem dX5_cheatedSet_40 : decode cX5_cheatedSet 40 = .ok (.getfield 287, 3) := by decide +kernel
theorem dX5_cheatedSet_43 : decode cX5_cheatedSet 43 = .ok (.iload_n 2, 1) := by decide +kernel
theorem dX5_cheatedSet_44 : decode cX5_cheatedSet 44 = .ok (.iload 4, 2) := by decide +kernel
theorem dX5_cheatedSet_46 : decode cX5_cheatedSet 46 = .ok (.invokestatic 199, 3) := by decide +kernel
theorem dX5_cheatedSet_49 : decode cX5_cheatedSet 49 = .ok (.iaload, 1) := by decide +kernel
theorem dX5_cheatedSet_50 : decode cX5_cheatedSet 50 = .ok (.ior, 1) := by decide +kernel
theorem dX5_cheatedSet_51 : decode cX5_cheatedSet 51 = .ok (.istore_n 3, 1) := by decide +kernel
theorem dX5_cheatedSet_52 : decode cX5_cheatedSet 52 = .ok (.iinc 4 1, 3) := by decide +kernel
theorem dX5_cheatedSet_55 : decode cX5_cheatedSet 55 = .ok (.goto (-50), 3) := by decide +kernel
theorem dX5_cheatedSet_58 : decode cX5_cheatedSet 58 = .ok (.iload_n 3, 1) := by decide +kernel
theorem dX5_cheatedSet_59 : decode cX5_cheatedSet 59 = .ok (.ireturn, 1) := by decide +kernel
set_option maxHeartbeats 4000000 in
set_option maxRecDepth 100000 in
theorem c_X5_cheatedSet_18 (l : Launch) (D : va_G) (cI cZ cL : ClassId) (ad : Nat → Nat) (S : Mem) (t : Nat) (hI : I0 S) (ht : t < 8) : RD l D cI cZ cL yX5_cheatedSet cX5_cheatedSet 5 (some .int) 2 [.ref (ad 0), .ref (ad 18), .int (nI t)] (wC ad cI S) (some (.int (p_cheat S 18 t (cT S)))) := by
  refine RD.of (by decide) (Nat.le_of_ble_eq_true rfl) ?_
  intro p e s m args below meth c ls hx hb hr hml hown hlk hE hP hl
  have hl : lv_has ls 5 [(0, .ref (ad 0)), (1, .ref (ad 18)), (2, .int (nI t))] := hl
  have hT8 := hI.T8
  have hR16 := hI.R16
  have hN200 := hI.N200
  refine lv_iconst (v := 0) hx hb dX5_cheatedSet_0 (by decide) ?_
  refine lv_istore_n (lv' := [(3, .int 0), (0, .ref (ad 0)), (1, .ref (ad 18)), (2, .int (nI t))]) hx hb dX5_cheatedSet_1 rfl hl (by decide) rfl (fun ls hl => ?_)
  refine lv_iconst (v := 0) hx hb dX5_cheatedSet_2 (by decide) ?_
  refine lv_istore (lv' := [(4, .int 0), (3, .int 0), (0, .ref (ad 0)), (1, .ref (ad 18)), (2, .int (nI t))]) hx hb dX5_cheatedSet_3 hl (by decide) rfl (fun ls hl => ?_)
  have hloop_5 : ∀ (n i : Nat), i ≤ cT S → cT S < i + n → ∀ ls : Array Slot, lv_has ls 5 [(4, .int (nI i)), (3, .int (p_cheat S 18 t i)), (0, .ref (ad 0)), (1, .ref (ad 18)), (2, .int (nI t))] → W p l e (rm 2 0 0) s m args below meth c s.heap [] 0 0 (MQ below (Qrd (some (.int (p_cheat S 18 t (cT S))))) args s 0 0 q_no) (F0 m 5 ls []) := by
    intro n
    induction n with
    | zero => intro i h1 h2; exact absurd h2 (by omega)
    | succ n ih_5 =>
      intro i hi_5 hin_5  ls hl
      refine lv_iload hx hb dX5_cheatedSet_5 (lv_at hl 0 rfl) ?_
      refine lv_aload_n hx hb dX5_cheatedSet_7 rfl (lv_at hl 2 rfl) ?_
      refine q_get (v := .int (S 0 9)) hx hb hown hE inT_X5 hP 0 rfl rfl 9 (by decide) w_221 rfl dX5_cheatedSet_8 ?_
      refine q_top (y := nI (cT S)) (I0.T hI) ?_
      refine lv_icmp_ge (tgt := 58) hx hb dX5_cheatedSet_11 (by decide) (fun c_1 => ?_) (fun c_1 => ?_)
      · skip
        have c_1 : (cT S) ≤ i := n_le (a := cT S) (b := i) (by omega) (by omega) c_1
        have hend_5 : cT S = i := by omega
        subst hend_5
        refine lv_iload_n hx hb dX5_cheatedSet_58 rfl (lv_at hl 1 rfl) ?_
        exact e_ret hx hb hr hlk rfl dX5_cheatedSet_59
      · skip
        have c_1 : i < (cT S) := n_nle (a := cT S) (b := i) (by omega) (by omega) c_1
        refine lv_aload_n hx hb dX5_cheatedSet_14 rfl (lv_at hl 2 rfl) ?_
        refine q_get (v := .ref (ad 15)) hx hb hown hE inT_X5 hP 0 rfl rfl 3 (by decide) w_215 rfl dX5_cheatedSet_15 ?_
        refine lv_iload_n hx hb dX5_cheatedSet_18 rfl (lv_at hl 4 rfl) ?_
        refine lv_iload hx hb dX5_cheatedSet_19 (lv_at hl 0 rfl) ?_
        refine lv_aload_n hx hb dX5_cheatedSet_21 rfl (lv_at hl 3 rfl) ?_
        refine q_getN (v := .ref (ad 23)) hx hb hown hE inT_X2 hP 18 rfl rfl 4 (by decide) w_196 rfl dX5_cheatedSet_22 ?_
        refine lv_iload_n hx hb dX5_cheatedSet_25 rfl (lv_at hl 4 rfl) ?_
        refine lv_iload hx hb dX5_cheatedSet_26 (lv_at hl 0 rfl) ?_
        refine q_rd (q_runS (rest := [.ref (ad 23), .int (nI i), .int (nI t), .ref (ad 15)]) hx hb hml hown hE (c_X5_pair l D cI cZ cL _ t i) ck_X5_pair w_273 hP hl.1 rfl ⟨Nat.le_of_ble_eq_true rfl, Nat.le_of_ble_eq_true rfl⟩ (Nat.le_of_ble_eq_true rfl) dX5_cheatedSet_28 ⟨Nat.le_of_ble_eq_true rfl, Nat.le_of_ble_eq_true rfl⟩) ?_
        refine q_iald (f := S 23) (i := (t * 8 + i)) hx hb hE hP 23 rfl (by omega) (Nat.le_of_ble_eq_true rfl) dX5_cheatedSet_31 ?_
        refine q_rd (q_runVN (rest := []) hx hb hml hown hE (c_X1_links l D cI cZ cL ad S t i (S 23 (t * 8 + i)) (by omega) (by omega)) ck_X1_links w_276 hP 15 rfl rfl hl.1 rfl ⟨Nat.le_of_ble_eq_true rfl, Nat.le_of_ble_eq_true rfl⟩ (Nat.le_of_ble_eq_true rfl) dX5_cheatedSet_32 ⟨Nat.le_of_ble_eq_true rfl, Nat.le_of_ble_eq_true rfl⟩) ?_
        refine lv_if_eq (tgt := 52) hx hb dX5_cheatedSet_35 (by decide) (fun c_2 => ?_) (fun c_2 => ?_)
        · skip
          have c_2 : p_links S t i (S 23 (t * 8 + i)) = false := b_f c_2
          refine lv_iinc (v := nI (i + 1)) (lv' := [(4, .int (nI (i + 1))), (3, .int (p_cheat S 18 t i)), (0, .ref (ad 0)), (1, .ref (ad 18)), (2, .int (nI t))]) hx hb dX5_cheatedSet_52 hl (k := 0) rfl (nI_1 i) (by decide) rfl (fun ls hl => ?_)
          refine lv_goto (tgt := 5) hx hb dX5_cheatedSet_55 (by decide) ?_
          refine ih_5 (i + 1) (by omega) (by omega)  ls ?_
          rw [show p_cheat S 18 t (i + 1) = p_cheat S 18 t i from by first | (simp only [bI, p_cheat, c_1, c_2, ↓reduceIte]; done) | (simp [bI, p_cheat, c_1, c_2]; done) | (simp_all [bI, p_cheat]; done)]
          exact lv_sub hl [0, 1, 2, 3, 4] rfl
        · skip
          have c_2 : p_links S t i (S 23 (t * 8 + i)) = true := b_t c_2
          refine lv_iload_n hx hb dX5_cheatedSet_38 rfl (lv_at hl 1 rfl) ?_
          refine lv_aload_n hx hb dX5_cheatedSet_39 rfl (lv_at hl 3 rfl) ?_
          refine q_getN (v := .ref (ad 24)) hx hb hown hE inT_X2 hP 18 rfl rfl 5 (by decide) w_198 rfl dX5_cheatedSet_40 ?_
          refine lv_iload_n hx hb dX5_cheatedSet_43 rfl (lv_at hl 4 rfl) ?_
          refine lv_iload hx hb dX5_cheatedSet_44 (lv_at hl 0 rfl) ?_
          refine q_rd (q_runS (rest := [.ref (ad 24), .int (p_cheat S 18 t i)]) hx hb hml hown hE (c_X5_pair l D cI cZ cL _ t i) ck_X5_pair w_273 hP hl.1 rfl ⟨Nat.le_of_ble_eq_true rfl, Nat.le_of_ble_eq_true rfl⟩ (Nat.le_of_ble_eq_true rfl) dX5_cheatedSet_46 ⟨Nat.le_of_ble_eq_true rfl, Nat.le_of_ble_eq_true rfl⟩) ?_
          refine q_iald (f := S 24) (i := (t * 8 + i)) hx hb hE hP 24 rfl (by omega) (Nat.le_of_ble_eq_true rfl) dX5_cheatedSet_49 ?_
          refine lv_ior hx hb dX5_cheatedSet_50 ?_
          refine lv_istore_n (lv' := [(3, .int ((p_cheat S 18 t i) ||| (S 24 (t * 8 + i)))), (4, .int (nI i)), (0, .ref (ad 0)), (1, .ref (ad 18)), (2, .int (nI t))]) hx hb dX5_cheatedSet_51 rfl hl (by decide) rfl (fun ls hl => ?_)
          refine lv_iinc (v := nI (i + 1)) (lv' := [(4, .int (nI (i + 1))), (3, .int ((p_cheat S 18 t i) ||| (S 24 (t * 8 + i)))), (0, .ref (ad 0)), (1, .ref (ad 18)), (2, .int (nI t))]) hx hb dX5_cheatedSet_52 hl (k := 1) rfl (nI_1 i) (by decide) rfl (fun ls hl => ?_)
          refine lv_goto (tgt := 5) hx hb dX5_cheatedSet_55 (by decide) ?_
          refine ih_5 (i + 1) (by omega) (by omega)  ls ?_
          rw [show p_cheat S 18 t (i + 1) = (p_cheat S 18 t i) ||| (S 24 (t * 8 + i)) from by first | (simp only [bI, p_cheat, c_1, c_2, ↓reduceIte]; done) | (simp [bI, p_cheat, c_1, c_2]; done) | (simp_all [bI, p_cheat]; done)]
          exact lv_sub hl [0, 1, 2, 3, 4] rfl
  refine hloop_5 (cT S + 1) 0 (by omega) (by omega)  ls ?_
  rw [show p_cheat S 18 t 0 = 0 from by first | rfl | (first | (simp only [bI, p_cheat, ↓reduceIte]; done) | (simp [bI, p_cheat]; done) | (simp_all [bI, p_cheat]; done))]
  exact lv_sub hl [0, 1, 2, 3, 4] rfl

theorem dX5_voidSet_0 : decode cX5_voidSet 0 = .ok (.aload_n 0, 1) := by decide +kernel
theorem dX5_voidSet_1 : decode cX5_voidSet 1 = .ok (.getfield 10, 3) := by decide +kernel
theorem dX5_voidSet_4 : decode cX5_voidSet 4 = .ok (.aload_n 0, 1) := by decide +kernel
theorem dX5_voidSet_5 : decode cX5_voidSet 5 = .ok (.aload_n 1, 1) := by decide +kernel
theorem dX5_voidSet_6 : decode cX5_voidSet 6 = .ok (.iload_n 2, 1) := by decide +kernel
theorem dX5_voidSet_7 : decode cX5_voidSet 7 = .ok (.invokevirtual 206, 3) := by decide +kernel
theorem dX5_voidSet_10 : decode cX5_voidSet 10 = .ok (.aload_n 1, 1) := by decide +kernel
theorem dX5_voidSet_11 : decode cX5_voidSet 11 = .ok (.getfield 171, 3) := by decide +kernel
theorem dX5_voidSet_14 : decode cX5_voidSet 14 = .ok (.iload_n 2, 1) := by decide +kernel
theorem dX5_voidSet_15 : decode cX5_voidSet 15 = .ok (.iaload, 1) := by decide +kernel
theorem dX5_voidSet_16 : decode cX5_voidSet 16 = .ok (.iand, 1) := by decide +kernel
theorem dX5_voidSet_17 : decode cX5_voidSet 17 = .ok (.invokevirtual 290, 3) := by decide +kernel
theorem dX5_voidSet_20 : decode cX5_voidSet 20 = .ok (.aload_n 1, 1) := by decide +kernel
theorem dX5_voidSet_21 : decode cX5_voidSet 21 = .ok (.getfield 171, 3) := by decide +kernel
theorem dX5_voidSet_24 : decode cX5_voidSet 24 = .ok (.iload_n 2, 1) := by decide +kernel
theorem dX5_voidSet_25 : decode cX5_voidSet 25 = .ok (.iaload, 1) := by decide +kernel
theorem dX5_voidSet_26 : decode cX5_voidSet 26 = .ok (.iand, 1) := by decide +kernel
theorem dX5_voidSet_27 : decode cX5_voidSet 27 = .ok (.ireturn, 1) := by decide +kernel
set_option maxHeartbeats 4000000 in
set_option maxRecDepth 100000 in
theorem c_X5_voidSet_18 (l : Launch) (D : va_G) (cI cZ cL : ClassId) (ad : Nat → Nat) (S : Mem) (t : Nat) (hI : I0 S) (ht : t < 8) : RD l D cI cZ cL yX5_voidSet cX5_voidSet 3 (some .int) 3 [.ref (ad 0), .ref (ad 18), .int (nI t)] (wC ad cI S) (some (.int (p_void S 18 t))) := by
  refine RD.of (by decide) (Nat.le_of_ble_eq_true rfl) ?_
  intro p e s m args below meth c ls hx hb hr hml hown hlk hE hP hl
  have hl : lv_has ls 3 [(0, .ref (ad 0)), (1, .ref (ad 18)), (2, .int (nI t))] := hl
  refine lv_aload_n hx hb dX5_voidSet_0 rfl (lv_at hl 0 rfl) ?_
  refine q_get (v := .ref (ad 1)) hx hb hown hE inT_X5 hP 0 rfl rfl 0 (by decide) w_212 rfl dX5_voidSet_1 ?_
  refine lv_aload_n hx hb dX5_voidSet_4 rfl (lv_at hl 0 rfl) ?_
  refine lv_aload_n hx hb dX5_voidSet_5 rfl (lv_at hl 1 rfl) ?_
  refine lv_iload_n hx hb dX5_voidSet_6 rfl (lv_at hl 2 rfl) ?_
  refine q_rd (q_runV (rest := [.ref (ad 1)]) hx hb hml hown hE (c_X5_cheatedSet_18 l D cI cZ cL ad S t hI (by omega)) ck_X5_cheatedSet w_269 hP 0 rfl rfl hl.1 rfl ⟨Nat.le_of_ble_eq_true rfl, Nat.le_of_ble_eq_true rfl⟩ (Nat.le_of_ble_eq_true rfl) dX5_voidSet_7 ⟨Nat.le_of_ble_eq_true rfl, Nat.le_of_ble_eq_true rfl⟩) ?_
  refine lv_aload_n hx hb dX5_voidSet_10 rfl (lv_at hl 1 rfl) ?_
  refine q_getN (v := .ref (ad 19)) hx hb hown hE inT_X2 hP 18 rfl rfl 0 (by decide) w_188 rfl dX5_voidSet_11 ?_
  refine lv_iload_n hx hb dX5_voidSet_14 rfl (lv_at hl 2 rfl) ?_
  refine q_iald (f := S 19) (i := t) hx hb hE hP 19 rfl (by omega) (Nat.le_of_ble_eq_true rfl) dX5_voidSet_15 ?_
  refine lv_iand hx hb dX5_voidSet_16 ?_
  refine q_rd (q_runVN (rest := []) hx hb hml hown hE (c_X3_spread l D cI cZ cL ad S ((p_cheat S 18 t (cT S)) &&& (S 19 t)) hI) ck_X3_spread w_283 hP 1 rfl rfl hl.1 rfl ⟨Nat.le_of_ble_eq_true rfl, Nat.le_of_ble_eq_true rfl⟩ (Nat.le_of_ble_eq_true rfl) dX5_voidSet_17 ⟨Nat.le_of_ble_eq_true rfl, Nat.le_of_ble_eq_true rfl⟩) ?_
  refine lv_aload_n hx hb dX5_voidSet_20 rfl (lv_at hl 1 rfl) ?_
  refine q_getN (v := .ref (ad 19)) hx hb hown hE inT_X2 hP 18 rfl rfl 0 (by decide) w_188 rfl dX5_voidSet_21 ?_
  refine lv_iload_n hx hb dX5_voidSet_24 rfl (lv_at hl 2 rfl) ?_
  refine q_iald (f := S 19) (i := t) hx hb hE hP 19 rfl (by omega) (Nat.le_of_ble_eq_true rfl) dX5_voidSet_25 ?_
  refine lv_iand hx hb dX5_voidSet_26 ?_
  refine q_top (y := p_void S 18 t) (by rfl) ?_
  exact e_ret hx hb hr hlk rfl dX5_voidSet_27

theorem dX5_countingSet_0 : decode cX5_countingSet 0 = .ok (.aload_n 1, 1) := by decide +kernel
theorem dX5_countingSet_1 : decode cX5_countingSet 1 = .ok (.getfield 171, 3) := by decide +kernel
theorem dX5_countingSet_4 : decode cX5_countingSet 4 = .ok (.iload_n 2, 1) := by decide +kernel
theorem dX5_countingSet_5 : decode cX5_countingSet 5 = .ok (.iaload, 1) := by decide +kernel
theorem dX5_countingSet_6 : decode cX5_countingSet 6 = .ok (.aload_n 0, 1) := by decide +kernel
theorem dX5_countingSet_7 : decode cX5_countingSet 7 = .ok (.aload_n 1, 1) := by decide +kernel
theorem dX5_countingSet_8 : decode cX5_countingSet 8 = .ok (.iload_n 2, 1) := by decide +kernel
theorem dX5_countingSet_9 : decode cX5_countingSet 9 = .ok (.invokevirtual 210, 3) := by decide +kernel
theorem dX5_countingSet_12 : decode cX5_countingSet 12 = .ok (.iconst (-1), 1) := by decide +kernel
theorem dX5_countingSet_13 : decode cX5_countingSet 13 = .ok (.ixor, 1) := by decide +kernel
theorem dX5_countingSet_14 : decode cX5_countingSet 14 = .ok (.iand, 1) := by decide +kernel
theorem dX5_countingSet_15 : decode cX5_countingSet 15 = .ok (.aload_n 0, 1) := by decide +kernel
theorem dX5_countingSet_16 : decode cX5_countingSet 16 = .ok (.aload_n 1, 1) := by decide +kernel
theorem dX5_countingSet_17 : decode cX5_countingSet 17 = .ok (.invokevirtual 122, 3) := by decide +kernel
theorem dX5_countingSet_20 : decode cX5_countingSet 20 = .ok (.iconst (-1), 1) := by decide +kernel
theorem dX5_countingSet_21 : decode cX5_countingSet 21 = .ok (.ixor, 1) := by decide +kernel
theorem dX5_countingSet_22 : decode cX5_countingSet 22 = .ok (.iand, 1) := by decide +kernel
theorem dX5_countingSet_23 : decode cX5_countingSet 23 = .ok (.ireturn, 1) := by decide +kernel
set_option maxHeartbeats 4000000 in
set_option maxRecDepth 100000 in
theorem c_X5_countingSet_18 (l : Launch) (D : va_G) (cI cZ cL : ClassId) (ad : Nat → Nat) (S : Mem) (t : Nat) (hI : I0 S) (ht : t < 8) : RD l D cI cZ cL yX5_countingSet cX5_countingSet 3 (some .int) 4 [.ref (ad 0), .ref (ad 18), .int (nI t)] (wC ad cI S) (some (.int (p_count S 18 t))) := by
  refine RD.of (by decide) (Nat.le_of_ble_eq_true rfl) ?_
  intro p e s m args below meth c ls hx hb hr hml hown hlk hE hP hl
  have hl : lv_has ls 3 [(0, .ref (ad 0)), (1, .ref (ad 18)), (2, .int (nI t))] := hl
  refine lv_aload_n hx hb dX5_countingSet_0 rfl (lv_at hl 1 rfl) ?_
  refine q_getN (v := .ref (ad 19)) hx hb hown hE inT_X2 hP 18 rfl rfl 0 (by decide) w_188 rfl dX5_countingSet_1 ?_
  refine lv_iload_n hx hb dX5_countingSet_4 rfl (lv_at hl 2 rfl) ?_
  refine q_iald (f := S 19) (i := t) hx hb hE hP 19 rfl (by omega) (Nat.le_of_ble_eq_true rfl) dX5_countingSet_5 ?_
  refine lv_aload_n hx hb dX5_countingSet_6 rfl (lv_at hl 0 rfl) ?_
  refine lv_aload_n hx hb dX5_countingSet_7 rfl (lv_at hl 1 rfl) ?_
  refine lv_iload_n hx hb dX5_countingSet_8 rfl (lv_at hl 2 rfl) ?_
  refine q_rd (q_runV (rest := [.int (S 19 t)]) hx hb hml hown hE (c_X5_voidSet_18 l D cI cZ cL ad S t hI (by omega)) ck_X5_voidSet w_265 hP 0 rfl rfl hl.1 rfl ⟨Nat.le_of_ble_eq_true rfl, Nat.le_of_ble_eq_true rfl⟩ (Nat.le_of_ble_eq_true rfl) dX5_countingSet_9 ⟨Nat.le_of_ble_eq_true rfl, Nat.le_of_ble_eq_true rfl⟩) ?_
  refine lv_iconst (v := (-1)) hx hb dX5_countingSet_12 (by decide) ?_
  refine lv_ixor hx hb dX5_countingSet_13 ?_
  refine lv_iand hx hb dX5_countingSet_14 ?_
  refine lv_aload_n hx hb dX5_countingSet_15 rfl (lv_at hl 0 rfl) ?_
  refine lv_aload_n hx hb dX5_countingSet_16 rfl (lv_at hl 1 rfl) ?_
  refine q_rd (q_runV (rest := [.int ((S 19 t) &&& ((p_void S 18 t) ^^^ (-1)))]) hx hb hml hown hE (c_X5_freeSet_18 l D cI cZ cL ad S hI) ck_X5_freeSet w_290 hP 0 rfl rfl hl.1 rfl ⟨Nat.le_of_ble_eq_true rfl, Nat.le_of_ble_eq_true rfl⟩ (Nat.le_of_ble_eq_true rfl) dX5_countingSet_17 ⟨Nat.le_of_ble_eq_true rfl, Nat.le_of_ble_eq_true rfl⟩) ?_
  refine lv_iconst (v := (-1)) hx hb dX5_countingSet_20 (by decide) ?_
  refine lv_ixor hx hb dX5_countingSet_21 ?_
  refine lv_iand hx hb dX5_countingSet_22 ?_
  refine q_top (y := p_count S 18 t) (by rfl) ?_
  exact e_ret hx hb hr hlk rfl dX5_countingSet_23

theorem dX5_sumUp_0 : decode cX5_sumUp 0 = .ok (.aload_n 0, 1) := by decide +kernel
theorem dX5_sumUp_1 : decode cX5_sumUp 1 = .ok (.aload_n 1, 1) := by decide +kernel
theorem dX5_sumUp_2 : decode cX5_sumUp 2 = .ok (.invokevirtual 122, 3) := by decide +kernel
theorem dX5_sumUp_5 : decode cX5_sumUp 5 = .ok (.istore 4, 2) := by decide +kernel
theorem dX5_sumUp_7 : decode cX5_sumUp 7 = .ok (.iconst 0, 1) := by decide +kernel
theorem dX5_sumUp_8 : decode cX5_sumUp 8 = .ok (.istore 5, 2) := by decide +kernel
theorem dX5_sumUp_10 : decode cX5_sumUp 10 = .ok (.iconst 0, 1) := by decide +kernel
theorem dX5_sumUp_11 : decode cX5_sumUp 11 = .ok (.istore 6, 2) := by decide +kernel
theorem dX5_sumUp_13 : decode cX5_sumUp 13 = .ok (.iload 6, 2) := by decide +kernel
theorem dX5_sumUp_15 : decode cX5_sumUp 15 = .ok (.aload_n 0, 1) := by decide +kernel
theorem dX5_sumUp_16 : decode cX5_sumUp 16 = .ok (.getfield 10, 3) := by decide +kernel
theorem dX5_sumUp_19 : decode cX5_sumUp 19 = .ok (.getfield 76, 3) := by decide +kernel
theorem dX5_sumUp_22 : decode cX5_sumUp 22 = .ok (.if_icmp .ge 59, 3) := by decide +kernel
theorem dX5_sumUp_25 : decode cX5_sumUp 25 = .ok (.iload_n 3, 1) := by decide +kernel
theorem dX5_sumUp_26 : decode cX5_sumUp 26 = .ok (.iload 6, 2) := by decide +kernel
theorem dX5_sumUp_28 : decode cX5_sumUp 28 = .ok (.invokestatic 97, 3) := by decide +kernel
theorem dX5_sumUp_31 : decode cX5_sumUp 31 = .ok (.ifCond .eq 18, 3) := by decide +kernel
theorem dX5_sumUp_34 : decode cX5_sumUp 34 = .ok (.iload 5, 2) := by decide +kernel
theorem dX5_sumUp_36 : decode cX5_sumUp 36 = .ok (.aload_n 0, 1) := by decide +kernel
theorem dX5_sumUp_37 : decode cX5_sumUp 37 = .ok (.getfield 10, 3) := by decide +kernel
theorem dX5_sumUp_40 : decode cX5_sumUp 40 = .ok (.getfield 293, 3) := by decide +kernel
theorem dX5_sumUp_43 : decode cX5_sumUp 43 = .ok (.iload 6, 2) := by decide +kernel
theorem dX5_sumUp_45 : decode cX5_sumUp 45 = .ok (.iaload, 1) := by decide +kernel
theorem dX5_sumUp_46 : decode cX5_sumUp 46 = .ok (.iadd, 1) := by decide +kernel
theorem dX5_sumUp_47 : decode cX5_sumUp 47 = .ok (.istore 5, 2) := by decide +kernel
theorem dX5_sumUp_49 : decode cX5_sumUp 49 = .ok (.iload 4, 2) := by decide +kernel
theorem dX5_sumUp_51 : decode cX5_sumUp 51 = .ok (.iload 6, 2) := by decide +kernel
theorem dX5_sumUp_53 : decode cX5_sumUp 53 = .ok (.invokestatic 97, 3) := by decide +kernel
theorem dX5_sumUp_56 : decode cX5_sumUp 56 = .ok (.ifCond .ne 19, 3) := by decide +kernel
theorem dX5_sumUp_59 : decode cX5_sumUp 59 = .ok (.iload 5, 2) := by decide +kernel
theorem dX5_sumUp_61 : decode cX5_sumUp 61 = .ok (.aload_n 1, 1) := by decide +kernel
theorem dX5_sumUp_62 : decode cX5_sumUp 62 = .ok (.getfield 296, 3) := by decide +kernel
theorem dX5_sumUp_65 : decode cX5_sumUp 65 = .ok (.iload_n 2, 1) := by decide +kernel
theorem dX5_sumUp_66 : decode cX5_sumUp 66 = .ok (.iload 6, 2) := by decide +kernel
theorem dX5_sumUp_68 : decode cX5_sumUp 68 = .ok (.invokestatic 177, 3) := by decide +kernel
theorem dX5_sumUp_71 : decode cX5_sumUp 71 = .ok (.iaload, 1) := by decide +kernel
theorem dX5_sumUp_72 : decode cX5_sumUp 72 = .ok (.isub, 1) := by decide +kernel
theorem dX5_sumUp_73 : decode cX5_sumUp 73 = .ok (.istore 5, 2) := by decide +kernel
theorem dX5_sumUp_75 : decode cX5_sumUp 75 = .ok (.iinc 6 1, 3) := by decide +kernel
theorem dX5_sumUp_78 : decode cX5_sumUp 78 = .ok (.goto (-65), 3) := by decide +kernel
theorem dX5_sumUp_81 : decode cX5_sumUp 81 = .ok (.iload 5, 2) := by decide +kernel
theorem dX5_sumUp_83 : decode cX5_sumUp 83 = .ok (.ireturn, 1) := by decide +kernel
set_option maxHeartbeats 4000000 in
set_option maxRecDepth 100000 in
theorem c_X5_sumUp_18 (l : Launch) (D : va_G) (cI cZ cL : ClassId) (ad : Nat → Nat) (S : Mem) (t : Nat) (cnt : Int32) (hI : I0 S) (ht : t < 8) : RD l D cI cZ cL yX5_sumUp cX5_sumUp 7 (some .int) 1 [.ref (ad 0), .ref (ad 18), .int (nI t), .int cnt] (wC ad cI S) (some (.int (p_sumUp S 18 t cnt))) := by
  refine RD.of (by decide) (Nat.le_of_ble_eq_true rfl) ?_
  intro p e s m args below meth c ls hx hb hr hml hown hlk hE hP hl
  have hl : lv_has ls 7 [(0, .ref (ad 0)), (1, .ref (ad 18)), (2, .int (nI t)), (3, .int cnt)] := hl
  have hT8 := hI.T8
  have hR16 := hI.R16
  have hN200 := hI.N200
  refine lv_aload_n hx hb dX5_sumUp_0 rfl (lv_at hl 0 rfl) ?_
  refine lv_aload_n hx hb dX5_sumUp_1 rfl (lv_at hl 1 rfl) ?_
  refine q_rd (q_runV (rest := []) hx hb hml hown hE (c_X5_freeSet_18 l D cI cZ cL ad S hI) ck_X5_freeSet w_290 hP 0 rfl rfl hl.1 rfl ⟨Nat.le_of_ble_eq_true rfl, Nat.le_of_ble_eq_true rfl⟩ (Nat.le_of_ble_eq_true rfl) dX5_sumUp_2 ⟨Nat.le_of_ble_eq_true rfl, Nat.le_of_ble_eq_true rfl⟩) ?_
  refine lv_istore (lv' := [(4, .int (p_free S 18 (cT S))), (0, .ref (ad 0)), (1, .ref (ad 18)), (2, .int (nI t)), (3, .int cnt)]) hx hb dX5_sumUp_5 hl (by decide) rfl (fun ls hl => ?_)
  refine lv_iconst (v := 0) hx hb dX5_sumUp_7 (by decide) ?_
  refine lv_istore (lv' := [(5, .int 0), (4, .int (p_free S 18 (cT S))), (0, .ref (ad 0)), (1, .ref (ad 18)), (2, .int (nI t)), (3, .int cnt)]) hx hb dX5_sumUp_8 hl (by decide) rfl (fun ls hl => ?_)
  refine lv_iconst (v := 0) hx hb dX5_sumUp_10 (by decide) ?_
  refine lv_istore (lv' := [(6, .int 0), (5, .int 0), (4, .int (p_free S 18 (cT S))), (0, .ref (ad 0)), (1, .ref (ad 18)), (2, .int (nI t)), (3, .int cnt)]) hx hb dX5_sumUp_11 hl (by decide) rfl (fun ls hl => ?_)
  have hloop_13 : ∀ (n i : Nat), i ≤ cR S → cR S < i + n → ∀ ls : Array Slot, lv_has ls 7 [(6, .int (nI i)), (5, .int (p_sum S 18 t cnt (p_free S 18 (cT S)) i)), (4, .int (p_free S 18 (cT S))), (0, .ref (ad 0)), (1, .ref (ad 18)), (2, .int (nI t)), (3, .int cnt)] → W p l e (rm 1 0 0) s m args below meth c s.heap [] 0 0 (MQ below (Qrd (some (.int (p_sumUp S 18 t cnt)))) args s 0 0 q_no) (F0 m 13 ls []) := by
    intro n
    induction n with
    | zero => intro i h1 h2; exact absurd h2 (by omega)
    | succ n ih_13 =>
      intro i hi_13 hin_13  ls hl
      refine lv_iload hx hb dX5_sumUp_13 (lv_at hl 0 rfl) ?_
      refine lv_aload_n hx hb dX5_sumUp_15 rfl (lv_at hl 3 rfl) ?_
      refine q_get (v := .ref (ad 1)) hx hb hown hE inT_X5 hP 0 rfl rfl 0 (by decide) w_212 rfl dX5_sumUp_16 ?_
      refine q_getN (v := .int (S 1 6)) hx hb hown hE inT_X3 hP 1 rfl rfl 6 (by decide) w_104 rfl dX5_sumUp_19 ?_
      refine q_top (y := nI (cR S)) (I0.R hI) ?_
      refine lv_icmp_ge (tgt := 81) hx hb dX5_sumUp_22 (by decide) (fun c_1 => ?_) (fun c_1 => ?_)
      · skip
        have c_1 : (cR S) ≤ i := n_le (a := cR S) (b := i) (by omega) (by omega) c_1
        have hend_13 : cR S = i := by omega
        subst hend_13
        refine lv_iload hx hb dX5_sumUp_81 (lv_at hl 1 rfl) ?_
        refine q_top (y := p_sumUp S 18 t cnt) (by rfl) ?_
        exact e_ret hx hb hr hlk rfl dX5_sumUp_83
      · skip
        have c_1 : i < (cR S) := n_nle (a := cR S) (b := i) (by omega) (by omega) c_1
        refine lv_iload_n hx hb dX5_sumUp_25 rfl (lv_at hl 6 rfl) ?_
        refine lv_iload hx hb dX5_sumUp_26 (lv_at hl 0 rfl) ?_
        refine q_rd (q_runS (rest := []) hx hb hml hown hE (c_X5_has l D cI cZ cL _ cnt (nI i)) ck_X5_has w_298 hP hl.1 rfl ⟨Nat.le_of_ble_eq_true rfl, Nat.le_of_ble_eq_true rfl⟩ (Nat.le_of_ble_eq_true rfl) dX5_sumUp_28 ⟨Nat.le_of_ble_eq_true rfl, Nat.le_of_ble_eq_true rfl⟩) ?_
        refine lv_if_eq (tgt := 49) hx hb dX5_sumUp_31 (by decide) (fun c_2 => ?_) (fun c_2 => ?_)
        · skip
          have c_2 : hs cnt (nI i) = false := b_f c_2
          refine lv_iload hx hb dX5_sumUp_49 (lv_at hl 2 rfl) ?_
          refine lv_iload hx hb dX5_sumUp_51 (lv_at hl 0 rfl) ?_
          refine q_rd (q_runS (rest := []) hx hb hml hown hE (c_X5_has l D cI cZ cL _ (p_free S 18 (cT S)) (nI i)) ck_X5_has w_298 hP hl.1 rfl ⟨Nat.le_of_ble_eq_true rfl, Nat.le_of_ble_eq_true rfl⟩ (Nat.le_of_ble_eq_true rfl) dX5_sumUp_53 ⟨Nat.le_of_ble_eq_true rfl, Nat.le_of_ble_eq_true rfl⟩) ?_
          refine lv_if_ne (tgt := 75) hx hb dX5_sumUp_56 (by decide) (fun c_3 => ?_) (fun c_3 => ?_)
          · skip
            have c_3 : hs (p_free S 18 (cT S)) (nI i) = true := b_t c_3
            refine lv_iinc (v := nI (i + 1)) (lv' := [(6, .int (nI (i + 1))), (5, .int (p_sum S 18 t cnt (p_free S 18 (cT S)) i)), (4, .int (p_free S 18 (cT S))), (0, .ref (ad 0)), (1, .ref (ad 18)), (2, .int (nI t)), (3, .int cnt)]) hx hb dX5_sumUp_75 hl (k := 0) rfl (nI_1 i) (by decide) rfl (fun ls hl => ?_)
            refine lv_goto (tgt := 13) hx hb dX5_sumUp_78 (by decide) ?_
            refine ih_13 (i + 1) (by omega) (by omega)  ls ?_
            rw [show p_sum S 18 t cnt (p_free S 18 (cT S)) (i + 1) = p_sum S 18 t cnt (p_free S 18 (cT S)) i from by first | (simp only [bI, p_sum, c_1, c_2, c_3, ↓reduceIte]; done) | (simp [bI, p_sum, c_1, c_2, c_3]; done) | (simp_all [bI, p_sum]; done)]
            exact lv_sub hl [0, 1, 2, 3, 4, 5, 6] rfl
          · skip
            have c_3 : hs (p_free S 18 (cT S)) (nI i) = false := b_f c_3
            refine lv_iload hx hb dX5_sumUp_59 (lv_at hl 1 rfl) ?_
            refine lv_aload_n hx hb dX5_sumUp_61 rfl (lv_at hl 4 rfl) ?_
            refine q_getN (v := .ref (ad 22)) hx hb hown hE inT_X2 hP 18 rfl rfl 3 (by decide) w_194 rfl dX5_sumUp_62 ?_
            refine lv_iload_n hx hb dX5_sumUp_65 rfl (lv_at hl 5 rfl) ?_
            refine lv_iload hx hb dX5_sumUp_66 (lv_at hl 0 rfl) ?_
            refine q_rd (q_runS (rest := [.ref (ad 22), .int (p_sum S 18 t cnt (p_free S 18 (cT S)) i)]) hx hb hml hown hE (c_X5_cell l D cI cZ cL _ t i) ck_X5_cell w_299 hP hl.1 rfl ⟨Nat.le_of_ble_eq_true rfl, Nat.le_of_ble_eq_true rfl⟩ (Nat.le_of_ble_eq_true rfl) dX5_sumUp_68 ⟨Nat.le_of_ble_eq_true rfl, Nat.le_of_ble_eq_true rfl⟩) ?_
            refine q_iald (f := S 22) (i := (t * 16 + i)) hx hb hE hP 22 rfl (by omega) (Nat.le_of_ble_eq_true rfl) dX5_sumUp_71 ?_
            refine lv_isub hx hb dX5_sumUp_72 ?_
            refine lv_istore (lv' := [(5, .int ((p_sum S 18 t cnt (p_free S 18 (cT S)) i) - (S 22 (t * 16 + i)))), (6, .int (nI i)), (4, .int (p_free S 18 (cT S))), (0, .ref (ad 0)), (1, .ref (ad 18)), (2, .int (nI t)), (3, .int cnt)]) hx hb dX5_sumUp_73 hl (by decide) rfl (fun ls hl => ?_)
            refine lv_iinc (v := nI (i + 1)) (lv' := [(6, .int (nI (i + 1))), (5, .int ((p_sum S 18 t cnt (p_free S 18 (cT S)) i) - (S 22 (t * 16 + i)))), (4, .int (p_free S 18 (cT S))), (0, .ref (ad 0)), (1, .ref (ad 18)), (2, .int (nI t)), (3, .int cnt)]) hx hb dX5_sumUp_75 hl (k := 1) rfl (nI_1 i) (by decide) rfl (fun ls hl => ?_)
            refine lv_goto (tgt := 13) hx hb dX5_sumUp_78 (by decide) ?_
            refine ih_13 (i + 1) (by omega) (by omega)  ls ?_
            rw [show p_sum S 18 t cnt (p_free S 18 (cT S)) (i + 1) = (p_sum S 18 t cnt (p_free S 18 (cT S)) i) - (S 22 (t * 16 + i)) from by first | (simp only [bI, p_sum, c_1, c_2, c_3, ↓reduceIte]; done) | (simp [bI, p_sum, c_1, c_2, c_3]; done) | (simp_all [bI, p_sum]; done)]
            exact lv_sub hl [0, 1, 2, 3, 4, 5, 6] rfl
        · skip
          have c_2 : hs cnt (nI i) = true := b_t c_2
          refine lv_iload hx hb dX5_sumUp_34 (lv_at hl 1 rfl) ?_
          refine lv_aload_n hx hb dX5_sumUp_36 rfl (lv_at hl 3 rfl) ?_
          refine q_get (v := .ref (ad 1)) hx hb hown hE inT_X5 hP 0 rfl rfl 0 (by decide) w_212 rfl dX5_sumUp_37 ?_
          refine q_getN (v := .ref (ad 2)) hx hb hown hE inT_X3 hP 1 rfl rfl 0 (by decide) w_93 rfl dX5_sumUp_40 ?_
          refine lv_iload hx hb dX5_sumUp_43 (lv_at hl 0 rfl) ?_
          refine q_iald (f := S 2) (i := i) hx hb hE hP 2 rfl (by omega) (Nat.le_of_ble_eq_true rfl) dX5_sumUp_45 ?_
          refine lv_iadd hx hb dX5_sumUp_46 ?_
          refine lv_istore (lv' := [(5, .int ((p_sum S 18 t cnt (p_free S 18 (cT S)) i) + (S 2 i))), (6, .int (nI i)), (4, .int (p_free S 18 (cT S))), (0, .ref (ad 0)), (1, .ref (ad 18)), (2, .int (nI t)), (3, .int cnt)]) hx hb dX5_sumUp_47 hl (by decide) rfl (fun ls hl => ?_)
          refine lv_iload hx hb dX5_sumUp_49 (lv_at hl 2 rfl) ?_
          refine lv_iload hx hb dX5_sumUp_51 (lv_at hl 1 rfl) ?_
          refine q_rd (q_runS (rest := []) hx hb hml hown hE (c_X5_has l D cI cZ cL _ (p_free S 18 (cT S)) (nI i)) ck_X5_has w_298 hP hl.1 rfl ⟨Nat.le_of_ble_eq_true rfl, Nat.le_of_ble_eq_true rfl⟩ (Nat.le_of_ble_eq_true rfl) dX5_sumUp_53 ⟨Nat.le_of_ble_eq_true rfl, Nat.le_of_ble_eq_true rfl⟩) ?_
          refine lv_if_ne (tgt := 75) hx hb dX5_sumUp_56 (by decide) (fun c_4 => ?_) (fun c_4 => ?_)
          · skip
            have c_4 : hs (p_free S 18 (cT S)) (nI i) = true := b_t c_4
            refine lv_iinc (v := nI (i + 1)) (lv' := [(6, .int (nI (i + 1))), (5, .int ((p_sum S 18 t cnt (p_free S 18 (cT S)) i) + (S 2 i))), (4, .int (p_free S 18 (cT S))), (0, .ref (ad 0)), (1, .ref (ad 18)), (2, .int (nI t)), (3, .int cnt)]) hx hb dX5_sumUp_75 hl (k := 1) rfl (nI_1 i) (by decide) rfl (fun ls hl => ?_)
            refine lv_goto (tgt := 13) hx hb dX5_sumUp_78 (by decide) ?_
            refine ih_13 (i + 1) (by omega) (by omega)  ls ?_
            rw [show p_sum S 18 t cnt (p_free S 18 (cT S)) (i + 1) = (p_sum S 18 t cnt (p_free S 18 (cT S)) i) + (S 2 i) from by first | (simp only [bI, p_sum, c_1, c_2, c_4, ↓reduceIte]; done) | (simp [bI, p_sum, c_1, c_2, c_4]; done) | (simp_all [bI, p_sum]; done)]
            exact lv_sub hl [0, 1, 2, 3, 4, 5, 6] rfl
          · skip
            have c_4 : hs (p_free S 18 (cT S)) (nI i) = false := b_f c_4
            refine lv_iload hx hb dX5_sumUp_59 (lv_at hl 0 rfl) ?_
            refine lv_aload_n hx hb dX5_sumUp_61 rfl (lv_at hl 4 rfl) ?_
            refine q_getN (v := .ref (ad 22)) hx hb hown hE inT_X2 hP 18 rfl rfl 3 (by decide) w_194 rfl dX5_sumUp_62 ?_
            refine lv_iload_n hx hb dX5_sumUp_65 rfl (lv_at hl 5 rfl) ?_
            refine lv_iload hx hb dX5_sumUp_66 (lv_at hl 1 rfl) ?_
            refine q_rd (q_runS (rest := [.ref (ad 22), .int ((p_sum S 18 t cnt (p_free S 18 (cT S)) i) + (S 2 i))]) hx hb hml hown hE (c_X5_cell l D cI cZ cL _ t i) ck_X5_cell w_299 hP hl.1 rfl ⟨Nat.le_of_ble_eq_true rfl, Nat.le_of_ble_eq_true rfl⟩ (Nat.le_of_ble_eq_true rfl) dX5_sumUp_68 ⟨Nat.le_of_ble_eq_true rfl, Nat.le_of_ble_eq_true rfl⟩) ?_
            refine q_iald (f := S 22) (i := (t * 16 + i)) hx hb hE hP 22 rfl (by omega) (Nat.le_of_ble_eq_true rfl) dX5_sumUp_71 ?_
            refine lv_isub hx hb dX5_sumUp_72 ?_
            refine lv_istore (lv' := [(5, .int (((p_sum S 18 t cnt (p_free S 18 (cT S)) i) + (S 2 i)) - (S 22 (t * 16 + i)))), (6, .int (nI i)), (4, .int (p_free S 18 (cT S))), (0, .ref (ad 0)), (1, .ref (ad 18)), (2, .int (nI t)), (3, .int cnt)]) hx hb dX5_sumUp_73 hl (by decide) rfl (fun ls hl => ?_)
            refine lv_iinc (v := nI (i + 1)) (lv' := [(6, .int (nI (i + 1))), (5, .int (((p_sum S 18 t cnt (p_free S 18 (cT S)) i) + (S 2 i)) - (S 22 (t * 16 + i)))), (4, .int (p_free S 18 (cT S))), (0, .ref (ad 0)), (1, .ref (ad 18)), (2, .int (nI t)), (3, .int cnt)]) hx hb dX5_sumUp_75 hl (k := 1) rfl (nI_1 i) (by decide) rfl (fun ls hl => ?_)
            refine lv_goto (tgt := 13) hx hb dX5_sumUp_78 (by decide) ?_
            refine ih_13 (i + 1) (by omega) (by omega)  ls ?_
            rw [show p_sum S 18 t cnt (p_free S 18 (cT S)) (i + 1) = ((p_sum S 18 t cnt (p_free S 18 (cT S)) i) + (S 2 i)) - (S 22 (t * 16 + i)) from by first | (simp only [bI, p_sum, c_1, c_2, c_4, ↓reduceIte]; done) | (simp [bI, p_sum, c_1, c_2, c_4]; done) | (simp_all [bI, p_sum]; done)]
            exact lv_sub hl [0, 1, 2, 3, 4, 5, 6] rfl
  refine hloop_13 (cR S + 1) 0 (by omega) (by omega)  ls ?_
  rw [show p_sum S 18 t cnt (p_free S 18 (cT S)) 0 = 0 from by first | rfl | (first | (simp only [bI, p_sum, ↓reduceIte]; done) | (simp [bI, p_sum]; done) | (simp_all [bI, p_sum]; done))]
  exact lv_sub hl [0, 1, 2, 3, 4, 5, 6] rfl


set_option maxHeartbeats 4000000 in
set_option maxRecDepth 100000 in
theorem c_X5_openMinute_25 (l : Launch) (D : va_G) (cI cZ cL : ClassId) (ad : Nat → Nat) (S : Mem) (t : Nat) (r : Nat) (ht : t < 8) (hr : r < 16) : RD l D cI cZ cL yX5_openMinute cX5_openMinute 4 (some .int) 2 [.ref (ad 0), .ref (ad 25), .int (nI t), .int (nI r)] (wC ad cI S) (some (.int (p_open S 25 t r))) := by
  refine RD.of (by decide) (Nat.le_of_ble_eq_true rfl) ?_
  intro p e s m args below meth c ls hx hb hr hml hown hlk hE hP hl
  have hl : lv_has ls 4 [(0, .ref (ad 0)), (1, .ref (ad 25)), (2, .int (nI t)), (3, .int (nI r))] := hl
  refine lv_aload_n hx hb dX5_openMinute_0 rfl (lv_at hl 1 rfl) ?_
  refine lv_iload_n hx hb dX5_openMinute_1 rfl (lv_at hl 2 rfl) ?_
  refine lv_aload_n hx hb dX5_openMinute_2 rfl (lv_at hl 0 rfl) ?_
  refine q_get (v := .ref (ad 1)) hx hb hown hE inT_X5 hP 0 rfl rfl 0 (by decide) w_212 rfl dX5_openMinute_3 ?_
  refine q_getN (v := .ref (ad 6)) hx hb hown hE inT_X3 hP 1 rfl rfl 4 (by decide) w_101 rfl dX5_openMinute_6 ?_
  refine lv_iload_n hx hb dX5_openMinute_9 rfl (lv_at hl 3 rfl) ?_
  refine q_iald (f := S 6) (i := r) hx hb hE hP 6 rfl (by omega) (Nat.le_of_ble_eq_true rfl) dX5_openMinute_10 ?_
  refine q_rd (q_runVN (rest := []) hx hb hml hown hE (c_X2_lastSolveMinute_25 l D cI cZ cL ad S t (S 6 r) (by omega)) ck_X2_lastSolveMinute w_302 hP 25 rfl rfl hl.1 rfl ⟨Nat.le_of_ble_eq_true rfl, Nat.le_of_ble_eq_true rfl⟩ (Nat.le_of_ble_eq_true rfl) dX5_openMinute_11 ⟨Nat.le_of_ble_eq_true rfl, Nat.le_of_ble_eq_true rfl⟩) ?_
  refine q_top (y := p_open S 25 t r) (by rfl) ?_
  exact e_ret hx hb hr hlk rfl dX5_openMinute_14


set_option maxHeartbeats 4000000 in
set_option maxRecDepth 100000 in
theorem c_X5_freeSet_25 (l : Launch) (D : va_G) (cI cZ cL : ClassId) (ad : Nat → Nat) (S : Mem) (hI : I0 S) : RD l D cI cZ cL yX5_freeSet cX5_freeSet 4 (some .int) 0 [.ref (ad 0), .ref (ad 25)] (wC ad cI S) (some (.int (p_free S 25 (cT S)))) := by
  refine RD.of (by decide) (Nat.le_of_ble_eq_true rfl) ?_
  intro p e s m args below meth c ls hx hb hr hml hown hlk hE hP hl
  have hl : lv_has ls 4 [(0, .ref (ad 0)), (1, .ref (ad 25))] := hl
  have hT8 := hI.T8
  have hR16 := hI.R16
  have hN200 := hI.N200
  refine lv_iconst (v := 0) hx hb dX5_freeSet_0 (by decide) ?_
  refine lv_istore_n (lv' := [(2, .int 0), (0, .ref (ad 0)), (1, .ref (ad 25))]) hx hb dX5_freeSet_1 rfl hl (by decide) rfl (fun ls hl => ?_)
  refine lv_iconst (v := 0) hx hb dX5_freeSet_2 (by decide) ?_
  refine lv_istore_n (lv' := [(3, .int 0), (2, .int 0), (0, .ref (ad 0)), (1, .ref (ad 25))]) hx hb dX5_freeSet_3 rfl hl (by decide) rfl (fun ls hl => ?_)
  have hloop_4 : ∀ (n i : Nat), i ≤ cT S → cT S < i + n → ∀ ls : Array Slot, lv_has ls 4 [(3, .int (nI i)), (2, .int (p_free S 25 i)), (0, .ref (ad 0)), (1, .ref (ad 25))] → W p l e (rm 0 0 0) s m args below meth c s.heap [] 0 0 (MQ below (Qrd (some (.int (p_free S 25 (cT S))))) args s 0 0 q_no) (F0 m 4 ls []) := by
    intro n
    induction n with
    | zero => intro i h1 h2; exact absurd h2 (by omega)
    | succ n ih_4 =>
      intro i hi_4 hin_4  ls hl
      refine lv_iload_n hx hb dX5_freeSet_4 rfl (lv_at hl 0 rfl) ?_
      refine lv_aload_n hx hb dX5_freeSet_5 rfl (lv_at hl 2 rfl) ?_
      refine q_get (v := .int (S 0 9)) hx hb hown hE inT_X5 hP 0 rfl rfl 9 (by decide) w_221 rfl dX5_freeSet_6 ?_
      refine q_top (y := nI (cT S)) (I0.T hI) ?_
      refine lv_icmp_ge (tgt := 39) hx hb dX5_freeSet_9 (by decide) (fun c_1 => ?_) (fun c_1 => ?_)
      · skip
        have c_1 : (cT S) ≤ i := n_le (a := cT S) (b := i) (by omega) (by omega) c_1
        have hend_4 : cT S = i := by omega
        subst hend_4
        refine lv_iload_n hx hb dX5_freeSet_39 rfl (lv_at hl 1 rfl) ?_
        exact e_ret hx hb hr hlk rfl dX5_freeSet_40
      · skip
        have c_1 : i < (cT S) := n_nle (a := cT S) (b := i) (by omega) (by omega) c_1
        refine lv_iload_n hx hb dX5_freeSet_12 rfl (lv_at hl 1 rfl) ?_
        refine lv_aload_n hx hb dX5_freeSet_13 rfl (lv_at hl 3 rfl) ?_
        refine q_getN (v := .ref (ad 27)) hx hb hown hE inT_X2 hP 25 rfl rfl 1 (by decide) w_190 rfl dX5_freeSet_14 ?_
        refine lv_iload_n hx hb dX5_freeSet_17 rfl (lv_at hl 0 rfl) ?_
        refine q_iald (f := S 27) (i := i) hx hb hE hP 27 rfl (by omega) (Nat.le_of_ble_eq_true rfl) dX5_freeSet_18 ?_
        refine lv_aload_n hx hb dX5_freeSet_19 rfl (lv_at hl 2 rfl) ?_
        refine q_get (v := .ref (ad 15)) hx hb hown hE inT_X5 hP 0 rfl rfl 3 (by decide) w_215 rfl dX5_freeSet_20 ?_
        refine q_getN (v := .ref (ad 16)) hx hb hown hE inT_X1 hP 15 rfl rfl 0 (by decide) w_170 rfl dX5_freeSet_23 ?_
        refine lv_iload_n hx hb dX5_freeSet_26 rfl (lv_at hl 0 rfl) ?_
        refine q_iald (f := S 16) (i := i) hx hb hE hP 16 rfl (by omega) (Nat.le_of_ble_eq_true rfl) dX5_freeSet_27 ?_
        refine lv_iconst (v := (-1)) hx hb dX5_freeSet_28 (by decide) ?_
        refine lv_ixor hx hb dX5_freeSet_29 ?_
        refine lv_iand hx hb dX5_freeSet_30 ?_
        refine lv_ior hx hb dX5_freeSet_31 ?_
        refine lv_istore_n (lv' := [(2, .int ((p_free S 25 i) ||| ((S 27 i) &&& ((S 16 i) ^^^ (-1))))), (3, .int (nI i)), (0, .ref (ad 0)), (1, .ref (ad 25))]) hx hb dX5_freeSet_32 rfl hl (by decide) rfl (fun ls hl => ?_)
        refine lv_iinc (v := nI (i + 1)) (lv' := [(3, .int (nI (i + 1))), (2, .int ((p_free S 25 i) ||| ((S 27 i) &&& ((S 16 i) ^^^ (-1))))), (0, .ref (ad 0)), (1, .ref (ad 25))]) hx hb dX5_freeSet_33 hl (k := 1) rfl (nI_1 i) (by decide) rfl (fun ls hl => ?_)
        refine lv_goto (tgt := 4) hx hb dX5_freeSet_36 (by decide) ?_
        refine ih_4 (i + 1) (by omega) (by omega)  ls ?_
        rw [show p_free S 25 (i + 1) = (p_free S 25 i) ||| ((S 27 i) &&& ((S 16 i) ^^^ (-1))) from by first | (simp only [bI, p_free, c_1, ↓reduceIte]; done) | (simp [bI, p_free, c_1]; done) | (simp_all [bI, p_free]; done)]
        exact lv_sub hl [0, 1, 2, 3] rfl
  refine hloop_4 (cT S + 1) 0 (by omega) (by omega)  ls ?_
  rw [show p_free S 25 0 = 0 from by first | rfl | (first | (simp only [bI, p_free, ↓reduceIte]; done) | (simp [bI, p_free]; done) | (simp_all [bI, p_free]; done))]
  exact lv_sub hl [0, 1, 2, 3] rfl


set_option maxHeartbeats 4000000 in
set_option maxRecDepth 100000 in
theorem c_X5_cheatedSet_25 (l : Launch) (D : va_G) (cI cZ cL : ClassId) (ad : Nat → Nat) (S : Mem) (t : Nat) (hI : I0 S) (ht : t < 8) : RD l D cI cZ cL yX5_cheatedSet cX5_cheatedSet 5 (some .int) 2 [.ref (ad 0), .ref (ad 25), .int (nI t)] (wC ad cI S) (some (.int (p_cheat S 25 t (cT S)))) := by
  refine RD.of (by decide) (Nat.le_of_ble_eq_true rfl) ?_
  intro p e s m args below meth c ls hx hb hr hml hown hlk hE hP hl
  have hl : lv_has ls 5 [(0, .ref (ad 0)), (1, .ref (ad 25)), (2, .int (nI t))] := hl
  have hT8 := hI.T8
  have hR16 := hI.R16
  have hN200 := hI.N200
  refine lv_iconst (v := 0) hx hb dX5_cheatedSet_0 (by decide) ?_
  refine lv_istore_n (lv' := [(3, .int 0), (0, .ref (ad 0)), (1, .ref (ad 25)), (2, .int (nI t))]) hx hb dX5_cheatedSet_1 rfl hl (by decide) rfl (fun ls hl => ?_)
  refine lv_iconst (v := 0) hx hb dX5_cheatedSet_2 (by decide) ?_
  refine lv_istore (lv' := [(4, .int 0), (3, .int 0), (0, .ref (ad 0)), (1, .ref (ad 25)), (2, .int (nI t))]) hx hb dX5_cheatedSet_3 hl (by decide) rfl (fun ls hl => ?_)
  have hloop_5 : ∀ (n i : Nat), i ≤ cT S → cT S < i + n → ∀ ls : Array Slot, lv_has ls 5 [(4, .int (nI i)), (3, .int (p_cheat S 25 t i)), (0, .ref (ad 0)), (1, .ref (ad 25)), (2, .int (nI t))] → W p l e (rm 2 0 0) s m args below meth c s.heap [] 0 0 (MQ below (Qrd (some (.int (p_cheat S 25 t (cT S))))) args s 0 0 q_no) (F0 m 5 ls []) := by
    intro n
    induction n with
    | zero => intro i h1 h2; exact absurd h2 (by omega)
    | succ n ih_5 =>
      intro i hi_5 hin_5  ls hl
      refine lv_iload hx hb dX5_cheatedSet_5 (lv_at hl 0 rfl) ?_
      refine lv_aload_n hx hb dX5_cheatedSet_7 rfl (lv_at hl 2 rfl) ?_
      refine q_get (v := .int (S 0 9)) hx hb hown hE inT_X5 hP 0 rfl rfl 9 (by decide) w_221 rfl dX5_cheatedSet_8 ?_
      refine q_top (y := nI (cT S)) (I0.T hI) ?_
      refine lv_icmp_ge (tgt := 58) hx hb dX5_cheatedSet_11 (by decide) (fun c_1 => ?_) (fun c_1 => ?_)
      · skip
        have c_1 : (cT S) ≤ i := n_le (a := cT S) (b := i) (by omega) (by omega) c_1
        have hend_5 : cT S = i := by omega
        subst hend_5
        refine lv_iload_n hx hb dX5_cheatedSet_58 rfl (lv_at hl 1 rfl) ?_
        exact e_ret hx hb hr hlk rfl dX5_cheatedSet_59
      · skip
        have c_1 : i < (cT S) := n_nle (a := cT S) (b := i) (by omega) (by omega) c_1
        refine lv_aload_n hx hb dX5_cheatedSet_14 rfl (lv_at hl 2 rfl) ?_
        refine q_get (v := .ref (ad 15)) hx hb hown hE inT_X5 hP 0 rfl rfl 3 (by decide) w_215 rfl dX5_cheatedSet_15 ?_
        refine lv_iload_n hx hb dX5_cheatedSet_18 rfl (lv_at hl 4 rfl) ?_
        refine lv_iload hx hb dX5_cheatedSet_19 (lv_at hl 0 rfl) ?_
        refine lv_aload_n hx hb dX5_cheatedSet_21 rfl (lv_at hl 3 rfl) ?_
        refine q_getN (v := .ref (ad 30)) hx hb hown hE inT_X2 hP 25 rfl rfl 4 (by decide) w_196 rfl dX5_cheatedSet_22 ?_
        refine lv_iload_n hx hb dX5_cheatedSet_25 rfl (lv_at hl 4 rfl) ?_
        refine lv_iload hx hb dX5_cheatedSet_26 (lv_at hl 0 rfl) ?_
        refine q_rd (q_runS (rest := [.ref (ad 30), .int (nI i), .int (nI t), .ref (ad 15)]) hx hb hml hown hE (c_X5_pair l D cI cZ cL _ t i) ck_X5_pair w_273 hP hl.1 rfl ⟨Nat.le_of_ble_eq_true rfl, Nat.le_of_ble_eq_true rfl⟩ (Nat.le_of_ble_eq_true rfl) dX5_cheatedSet_28 ⟨Nat.le_of_ble_eq_true rfl, Nat.le_of_ble_eq_true rfl⟩) ?_
        refine q_iald (f := S 30) (i := (t * 8 + i)) hx hb hE hP 30 rfl (by omega) (Nat.le_of_ble_eq_true rfl) dX5_cheatedSet_31 ?_
        refine q_rd (q_runVN (rest := []) hx hb hml hown hE (c_X1_links l D cI cZ cL ad S t i (S 30 (t * 8 + i)) (by omega) (by omega)) ck_X1_links w_276 hP 15 rfl rfl hl.1 rfl ⟨Nat.le_of_ble_eq_true rfl, Nat.le_of_ble_eq_true rfl⟩ (Nat.le_of_ble_eq_true rfl) dX5_cheatedSet_32 ⟨Nat.le_of_ble_eq_true rfl, Nat.le_of_ble_eq_true rfl⟩) ?_
        refine lv_if_eq (tgt := 52) hx hb dX5_cheatedSet_35 (by decide) (fun c_2 => ?_) (fun c_2 => ?_)
        · skip
          have c_2 : p_links S t i (S 30 (t * 8 + i)) = false := b_f c_2
          refine lv_iinc (v := nI (i + 1)) (lv' := [(4, .int (nI (i + 1))), (3, .int (p_cheat S 25 t i)), (0, .ref (ad 0)), (1, .ref (ad 25)), (2, .int (nI t))]) hx hb dX5_cheatedSet_52 hl (k := 0) rfl (nI_1 i) (by decide) rfl (fun ls hl => ?_)
          refine lv_goto (tgt := 5) hx hb dX5_cheatedSet_55 (by decide) ?_
          refine ih_5 (i + 1) (by omega) (by omega)  ls ?_
          rw [show p_cheat S 25 t (i + 1) = p_cheat S 25 t i from by first | (simp only [bI, p_cheat, c_1, c_2, ↓reduceIte]; done) | (simp [bI, p_cheat, c_1, c_2]; done) | (simp_all [bI, p_cheat]; done)]
          exact lv_sub hl [0, 1, 2, 3, 4] rfl
        · skip
          have c_2 : p_links S t i (S 30 (t * 8 + i)) = true := b_t c_2
          refine lv_iload_n hx hb dX5_cheatedSet_38 rfl (lv_at hl 1 rfl) ?_
          refine lv_aload_n hx hb dX5_cheatedSet_39 rfl (lv_at hl 3 rfl) ?_
          refine q_getN (v := .ref (ad 31)) hx hb hown hE inT_X2 hP 25 rfl rfl 5 (by decide) w_198 rfl dX5_cheatedSet_40 ?_
          refine lv_iload_n hx hb dX5_cheatedSet_43 rfl (lv_at hl 4 rfl) ?_
          refine lv_iload hx hb dX5_cheatedSet_44 (lv_at hl 0 rfl) ?_
          refine q_rd (q_runS (rest := [.ref (ad 31), .int (p_cheat S 25 t i)]) hx hb hml hown hE (c_X5_pair l D cI cZ cL _ t i) ck_X5_pair w_273 hP hl.1 rfl ⟨Nat.le_of_ble_eq_true rfl, Nat.le_of_ble_eq_true rfl⟩ (Nat.le_of_ble_eq_true rfl) dX5_cheatedSet_46 ⟨Nat.le_of_ble_eq_true rfl, Nat.le_of_ble_eq_true rfl⟩) ?_
          refine q_iald (f := S 31) (i := (t * 8 + i)) hx hb hE hP 31 rfl (by omega) (Nat.le_of_ble_eq_true rfl) dX5_cheatedSet_49 ?_
          refine lv_ior hx hb dX5_cheatedSet_50 ?_
          refine lv_istore_n (lv' := [(3, .int ((p_cheat S 25 t i) ||| (S 31 (t * 8 + i)))), (4, .int (nI i)), (0, .ref (ad 0)), (1, .ref (ad 25)), (2, .int (nI t))]) hx hb dX5_cheatedSet_51 rfl hl (by decide) rfl (fun ls hl => ?_)
          refine lv_iinc (v := nI (i + 1)) (lv' := [(4, .int (nI (i + 1))), (3, .int ((p_cheat S 25 t i) ||| (S 31 (t * 8 + i)))), (0, .ref (ad 0)), (1, .ref (ad 25)), (2, .int (nI t))]) hx hb dX5_cheatedSet_52 hl (k := 1) rfl (nI_1 i) (by decide) rfl (fun ls hl => ?_)
          refine lv_goto (tgt := 5) hx hb dX5_cheatedSet_55 (by decide) ?_
          refine ih_5 (i + 1) (by omega) (by omega)  ls ?_
          rw [show p_cheat S 25 t (i + 1) = (p_cheat S 25 t i) ||| (S 31 (t * 8 + i)) from by first | (simp only [bI, p_cheat, c_1, c_2, ↓reduceIte]; done) | (simp [bI, p_cheat, c_1, c_2]; done) | (simp_all [bI, p_cheat]; done)]
          exact lv_sub hl [0, 1, 2, 3, 4] rfl
  refine hloop_5 (cT S + 1) 0 (by omega) (by omega)  ls ?_
  rw [show p_cheat S 25 t 0 = 0 from by first | rfl | (first | (simp only [bI, p_cheat, ↓reduceIte]; done) | (simp [bI, p_cheat]; done) | (simp_all [bI, p_cheat]; done))]
  exact lv_sub hl [0, 1, 2, 3, 4] rfl


set_option maxHeartbeats 4000000 in
set_option maxRecDepth 100000 in
theorem c_X5_voidSet_25 (l : Launch) (D : va_G) (cI cZ cL : ClassId) (ad : Nat → Nat) (S : Mem) (t : Nat) (hI : I0 S) (ht : t < 8) : RD l D cI cZ cL yX5_voidSet cX5_voidSet 3 (some .int) 3 [.ref (ad 0), .ref (ad 25), .int (nI t)] (wC ad cI S) (some (.int (p_void S 25 t))) := by
  refine RD.of (by decide) (Nat.le_of_ble_eq_true rfl) ?_
  intro p e s m args below meth c ls hx hb hr hml hown hlk hE hP hl
  have hl : lv_has ls 3 [(0, .ref (ad 0)), (1, .ref (ad 25)), (2, .int (nI t))] := hl
  refine lv_aload_n hx hb dX5_voidSet_0 rfl (lv_at hl 0 rfl) ?_
  refine q_get (v := .ref (ad 1)) hx hb hown hE inT_X5 hP 0 rfl rfl 0 (by decide) w_212 rfl dX5_voidSet_1 ?_
  refine lv_aload_n hx hb dX5_voidSet_4 rfl (lv_at hl 0 rfl) ?_
  refine lv_aload_n hx hb dX5_voidSet_5 rfl (lv_at hl 1 rfl) ?_
  refine lv_iload_n hx hb dX5_voidSet_6 rfl (lv_at hl 2 rfl) ?_
  refine q_rd (q_runV (rest := [.ref (ad 1)]) hx hb hml hown hE (c_X5_cheatedSet_25 l D cI cZ cL ad S t hI (by omega)) ck_X5_cheatedSet w_269 hP 0 rfl rfl hl.1 rfl ⟨Nat.le_of_ble_eq_true rfl, Nat.le_of_ble_eq_true rfl⟩ (Nat.le_of_ble_eq_true rfl) dX5_voidSet_7 ⟨Nat.le_of_ble_eq_true rfl, Nat.le_of_ble_eq_true rfl⟩) ?_
  refine lv_aload_n hx hb dX5_voidSet_10 rfl (lv_at hl 1 rfl) ?_
  refine q_getN (v := .ref (ad 26)) hx hb hown hE inT_X2 hP 25 rfl rfl 0 (by decide) w_188 rfl dX5_voidSet_11 ?_
  refine lv_iload_n hx hb dX5_voidSet_14 rfl (lv_at hl 2 rfl) ?_
  refine q_iald (f := S 26) (i := t) hx hb hE hP 26 rfl (by omega) (Nat.le_of_ble_eq_true rfl) dX5_voidSet_15 ?_
  refine lv_iand hx hb dX5_voidSet_16 ?_
  refine q_rd (q_runVN (rest := []) hx hb hml hown hE (c_X3_spread l D cI cZ cL ad S ((p_cheat S 25 t (cT S)) &&& (S 26 t)) hI) ck_X3_spread w_283 hP 1 rfl rfl hl.1 rfl ⟨Nat.le_of_ble_eq_true rfl, Nat.le_of_ble_eq_true rfl⟩ (Nat.le_of_ble_eq_true rfl) dX5_voidSet_17 ⟨Nat.le_of_ble_eq_true rfl, Nat.le_of_ble_eq_true rfl⟩) ?_
  refine lv_aload_n hx hb dX5_voidSet_20 rfl (lv_at hl 1 rfl) ?_
  refine q_getN (v := .ref (ad 26)) hx hb hown hE inT_X2 hP 25 rfl rfl 0 (by decide) w_188 rfl dX5_voidSet_21 ?_
  refine lv_iload_n hx hb dX5_voidSet_24 rfl (lv_at hl 2 rfl) ?_
  refine q_iald (f := S 26) (i := t) hx hb hE hP 26 rfl (by omega) (Nat.le_of_ble_eq_true rfl) dX5_voidSet_25 ?_
  refine lv_iand hx hb dX5_voidSet_26 ?_
  refine q_top (y := p_void S 25 t) (by rfl) ?_
  exact e_ret hx hb hr hlk rfl dX5_voidSet_27


set_option maxHeartbeats 4000000 in
set_option maxRecDepth 100000 in
theorem c_X5_countingSet_25 (l : Launch) (D : va_G) (cI cZ cL : ClassId) (ad : Nat → Nat) (S : Mem) (t : Nat) (hI : I0 S) (ht : t < 8) : RD l D cI cZ cL yX5_countingSet cX5_countingSet 3 (some .int) 4 [.ref (ad 0), .ref (ad 25), .int (nI t)] (wC ad cI S) (some (.int (p_count S 25 t))) := by
  refine RD.of (by decide) (Nat.le_of_ble_eq_true rfl) ?_
  intro p e s m args below meth c ls hx hb hr hml hown hlk hE hP hl
  have hl : lv_has ls 3 [(0, .ref (ad 0)), (1, .ref (ad 25)), (2, .int (nI t))] := hl
  refine lv_aload_n hx hb dX5_countingSet_0 rfl (lv_at hl 1 rfl) ?_
  refine q_getN (v := .ref (ad 26)) hx hb hown hE inT_X2 hP 25 rfl rfl 0 (by decide) w_188 rfl dX5_countingSet_1 ?_
  refine lv_iload_n hx hb dX5_countingSet_4 rfl (lv_at hl 2 rfl) ?_
  refine q_iald (f := S 26) (i := t) hx hb hE hP 26 rfl (by omega) (Nat.le_of_ble_eq_true rfl) dX5_countingSet_5 ?_
  refine lv_aload_n hx hb dX5_countingSet_6 rfl (lv_at hl 0 rfl) ?_
  refine lv_aload_n hx hb dX5_countingSet_7 rfl (lv_at hl 1 rfl) ?_
  refine lv_iload_n hx hb dX5_countingSet_8 rfl (lv_at hl 2 rfl) ?_
  refine q_rd (q_runV (rest := [.int (S 26 t)]) hx hb hml hown hE (c_X5_voidSet_25 l D cI cZ cL ad S t hI (by omega)) ck_X5_voidSet w_265 hP 0 rfl rfl hl.1 rfl ⟨Nat.le_of_ble_eq_true rfl, Nat.le_of_ble_eq_true rfl⟩ (Nat.le_of_ble_eq_true rfl) dX5_countingSet_9 ⟨Nat.le_of_ble_eq_true rfl, Nat.le_of_ble_eq_true rfl⟩) ?_
  refine lv_iconst (v := (-1)) hx hb dX5_countingSet_12 (by decide) ?_
  refine lv_ixor hx hb dX5_countingSet_13 ?_
  refine lv_iand hx hb dX5_countingSet_14 ?_
  refine lv_aload_n hx hb dX5_countingSet_15 rfl (lv_at hl 0 rfl) ?_
  refine lv_aload_n hx hb dX5_countingSet_16 rfl (lv_at hl 1 rfl) ?_
  refine q_rd (q_runV (rest := [.int ((S 26 t) &&& ((p_void S 25 t) ^^^ (-1)))]) hx hb hml hown hE (c_X5_freeSet_25 l D cI cZ cL ad S hI) ck_X5_freeSet w_290 hP 0 rfl rfl hl.1 rfl ⟨Nat.le_of_ble_eq_true rfl, Nat.le_of_ble_eq_true rfl⟩ (Nat.le_of_ble_eq_true rfl) dX5_countingSet_17 ⟨Nat.le_of_ble_eq_true rfl, Nat.le_of_ble_eq_true rfl⟩) ?_
  refine lv_iconst (v := (-1)) hx hb dX5_countingSet_20 (by decide) ?_
  refine lv_ixor hx hb dX5_countingSet_21 ?_
  refine lv_iand hx hb dX5_countingSet_22 ?_
  refine q_top (y := p_count S 25 t) (by rfl) ?_
  exact e_ret hx hb hr hlk rfl dX5_countingSet_23


set_option maxHeartbeats 4000000 in
set_option maxRecDepth 100000 in
theorem c_X5_sumUp_25 (l : Launch) (D : va_G) (cI cZ cL : ClassId) (ad : Nat → Nat) (S : Mem) (t : Nat) (cnt : Int32) (hI : I0 S) (ht : t < 8) : RD l D cI cZ cL yX5_sumUp cX5_sumUp 7 (some .int) 1 [.ref (ad 0), .ref (ad 25), .int (nI t), .int cnt] (wC ad cI S) (some (.int (p_sumUp S 25 t cnt))) := by
  refine RD.of (by decide) (Nat.le_of_ble_eq_true rfl) ?_
  intro p e s m args below meth c ls hx hb hr hml hown hlk hE hP hl
  have hl : lv_has ls 7 [(0, .ref (ad 0)), (1, .ref (ad 25)), (2, .int (nI t)), (3, .int cnt)] := hl
  have hT8 := hI.T8
  have hR16 := hI.R16
  have hN200 := hI.N200
  refine lv_aload_n hx hb dX5_sumUp_0 rfl (lv_at hl 0 rfl) ?_
  refine lv_aload_n hx hb dX5_sumUp_1 rfl (lv_at hl 1 rfl) ?_
  refine q_rd (q_runV (rest := []) hx hb hml hown hE (c_X5_freeSet_25 l D cI cZ cL ad S hI) ck_X5_freeSet w_290 hP 0 rfl rfl hl.1 rfl ⟨Nat.le_of_ble_eq_true rfl, Nat.le_of_ble_eq_true rfl⟩ (Nat.le_of_ble_eq_true rfl) dX5_sumUp_2 ⟨Nat.le_of_ble_eq_true rfl, Nat.le_of_ble_eq_true rfl⟩) ?_
  refine lv_istore (lv' := [(4, .int (p_free S 25 (cT S))), (0, .ref (ad 0)), (1, .ref (ad 25)), (2, .int (nI t)), (3, .int cnt)]) hx hb dX5_sumUp_5 hl (by decide) rfl (fun ls hl => ?_)
  refine lv_iconst (v := 0) hx hb dX5_sumUp_7 (by decide) ?_
  refine lv_istore (lv' := [(5, .int 0), (4, .int (p_free S 25 (cT S))), (0, .ref (ad 0)), (1, .ref (ad 25)), (2, .int (nI t)), (3, .int cnt)]) hx hb dX5_sumUp_8 hl (by decide) rfl (fun ls hl => ?_)
  refine lv_iconst (v := 0) hx hb dX5_sumUp_10 (by decide) ?_
  refine lv_istore (lv' := [(6, .int 0), (5, .int 0), (4, .int (p_free S 25 (cT S))), (0, .ref (ad 0)), (1, .ref (ad 25)), (2, .int (nI t)), (3, .int cnt)]) hx hb dX5_sumUp_11 hl (by decide) rfl (fun ls hl => ?_)
  have hloop_13 : ∀ (n i : Nat), i ≤ cR S → cR S < i + n → ∀ ls : Array Slot, lv_has ls 7 [(6, .int (nI i)), (5, .int (p_sum S 25 t cnt (p_free S 25 (cT S)) i)), (4, .int (p_free S 25 (cT S))), (0, .ref (ad 0)), (1, .ref (ad 25)), (2, .int (nI t)), (3, .int cnt)] → W p l e (rm 1 0 0) s m args below meth c s.heap [] 0 0 (MQ below (Qrd (some (.int (p_sumUp S 25 t cnt)))) args s 0 0 q_no) (F0 m 13 ls []) := by
    intro n
    induction n with
    | zero => intro i h1 h2; exact absurd h2 (by omega)
    | succ n ih_13 =>
      intro i hi_13 hin_13  ls hl
      refine lv_iload hx hb dX5_sumUp_13 (lv_at hl 0 rfl) ?_
      refine lv_aload_n hx hb dX5_sumUp_15 rfl (lv_at hl 3 rfl) ?_
      refine q_get (v := .ref (ad 1)) hx hb hown hE inT_X5 hP 0 rfl rfl 0 (by decide) w_212 rfl dX5_sumUp_16 ?_
      refine q_getN (v := .int (S 1 6)) hx hb hown hE inT_X3 hP 1 rfl rfl 6 (by decide) w_104 rfl dX5_sumUp_19 ?_
      refine q_top (y := nI (cR S)) (I0.R hI) ?_
      refine lv_icmp_ge (tgt := 81) hx hb dX5_sumUp_22 (by decide) (fun c_1 => ?_) (fun c_1 => ?_)
      · skip
        have c_1 : (cR S) ≤ i := n_le (a := cR S) (b := i) (by omega) (by omega) c_1
        have hend_13 : cR S = i := by omega
        subst hend_13
        refine lv_iload hx hb dX5_sumUp_81 (lv_at hl 1 rfl) ?_
        refine q_top (y := p_sumUp S 25 t cnt) (by rfl) ?_
        exact e_ret hx hb hr hlk rfl dX5_sumUp_83
      · skip
        have c_1 : i < (cR S) := n_nle (a := cR S) (b := i) (by omega) (by omega) c_1
        refine lv_iload_n hx hb dX5_sumUp_25 rfl (lv_at hl 6 rfl) ?_
        refine lv_iload hx hb dX5_sumUp_26 (lv_at hl 0 rfl) ?_
        refine q_rd (q_runS (rest := []) hx hb hml hown hE (c_X5_has l D cI cZ cL _ cnt (nI i)) ck_X5_has w_298 hP hl.1 rfl ⟨Nat.le_of_ble_eq_true rfl, Nat.le_of_ble_eq_true rfl⟩ (Nat.le_of_ble_eq_true rfl) dX5_sumUp_28 ⟨Nat.le_of_ble_eq_true rfl, Nat.le_of_ble_eq_true rfl⟩) ?_
        refine lv_if_eq (tgt := 49) hx hb dX5_sumUp_31 (by decide) (fun c_2 => ?_) (fun c_2 => ?_)
        · skip
          have c_2 : hs cnt (nI i) = false := b_f c_2
          refine lv_iload hx hb dX5_sumUp_49 (lv_at hl 2 rfl) ?_
          refine lv_iload hx hb dX5_sumUp_51 (lv_at hl 0 rfl) ?_
          refine q_rd (q_runS (rest := []) hx hb hml hown hE (c_X5_has l D cI cZ cL _ (p_free S 25 (cT S)) (nI i)) ck_X5_has w_298 hP hl.1 rfl ⟨Nat.le_of_ble_eq_true rfl, Nat.le_of_ble_eq_true rfl⟩ (Nat.le_of_ble_eq_true rfl) dX5_sumUp_53 ⟨Nat.le_of_ble_eq_true rfl, Nat.le_of_ble_eq_true rfl⟩) ?_
          refine lv_if_ne (tgt := 75) hx hb dX5_sumUp_56 (by decide) (fun c_3 => ?_) (fun c_3 => ?_)
          · skip
            have c_3 : hs (p_free S 25 (cT S)) (nI i) = true := b_t c_3
            refine lv_iinc (v := nI (i + 1)) (lv' := [(6, .int (nI (i + 1))), (5, .int (p_sum S 25 t cnt (p_free S 25 (cT S)) i)), (4, .int (p_free S 25 (cT S))), (0, .ref (ad 0)), (1, .ref (ad 25)), (2, .int (nI t)), (3, .int cnt)]) hx hb dX5_sumUp_75 hl (k := 0) rfl (nI_1 i) (by decide) rfl (fun ls hl => ?_)
            refine lv_goto (tgt := 13) hx hb dX5_sumUp_78 (by decide) ?_
            refine ih_13 (i + 1) (by omega) (by omega)  ls ?_
            rw [show p_sum S 25 t cnt (p_free S 25 (cT S)) (i + 1) = p_sum S 25 t cnt (p_free S 25 (cT S)) i from by first | (simp only [bI, p_sum, c_1, c_2, c_3, ↓reduceIte]; done) | (simp [bI, p_sum, c_1, c_2, c_3]; done) | (simp_all [bI, p_sum]; done)]
            exact lv_sub hl [0, 1, 2, 3, 4, 5, 6] rfl
          · skip
            have c_3 : hs (p_free S 25 (cT S)) (nI i) = false := b_f c_3
            refine lv_iload hx hb dX5_sumUp_59 (lv_at hl 1 rfl) ?_
            refine lv_aload_n hx hb dX5_sumUp_61 rfl (lv_at hl 4 rfl) ?_
            refine q_getN (v := .ref (ad 29)) hx hb hown hE inT_X2 hP 25 rfl rfl 3 (by decide) w_194 rfl dX5_sumUp_62 ?_
            refine lv_iload_n hx hb dX5_sumUp_65 rfl (lv_at hl 5 rfl) ?_
            refine lv_iload hx hb dX5_sumUp_66 (lv_at hl 0 rfl) ?_
            refine q_rd (q_runS (rest := [.ref (ad 29), .int (p_sum S 25 t cnt (p_free S 25 (cT S)) i)]) hx hb hml hown hE (c_X5_cell l D cI cZ cL _ t i) ck_X5_cell w_299 hP hl.1 rfl ⟨Nat.le_of_ble_eq_true rfl, Nat.le_of_ble_eq_true rfl⟩ (Nat.le_of_ble_eq_true rfl) dX5_sumUp_68 ⟨Nat.le_of_ble_eq_true rfl, Nat.le_of_ble_eq_true rfl⟩) ?_
            refine q_iald (f := S 29) (i := (t * 16 + i)) hx hb hE hP 29 rfl (by omega) (Nat.le_of_ble_eq_true rfl) dX5_sumUp_71 ?_
            refine lv_isub hx hb dX5_sumUp_72 ?_
            refine lv_istore (lv' := [(5, .int ((p_sum S 25 t cnt (p_free S 25 (cT S)) i) - (S 29 (t * 16 + i)))), (6, .int (nI i)), (4, .int (p_free S 25 (cT S))), (0, .ref (ad 0)), (1, .ref (ad 25)), (2, .int (nI t)), (3, .int cnt)]) hx hb dX5_sumUp_73 hl (by decide) rfl (fun ls hl => ?_)
            refine lv_iinc (v := nI (i + 1)) (lv' := [(6, .int (nI (i + 1))), (5, .int ((p_sum S 25 t cnt (p_free S 25 (cT S)) i) - (S 29 (t * 16 + i)))), (4, .int (p_free S 25 (cT S))), (0, .ref (ad 0)), (1, .ref (ad 25)), (2, .int (nI t)), (3, .int cnt)]) hx hb dX5_sumUp_75 hl (k := 1) rfl (nI_1 i) (by decide) rfl (fun ls hl => ?_)
            refine lv_goto (tgt := 13) hx hb dX5_sumUp_78 (by decide) ?_
            refine ih_13 (i + 1) (by omega) (by omega)  ls ?_
            rw [show p_sum S 25 t cnt (p_free S 25 (cT S)) (i + 1) = (p_sum S 25 t cnt (p_free S 25 (cT S)) i) - (S 29 (t * 16 + i)) from by first | (simp only [bI, p_sum, c_1, c_2, c_3, ↓reduceIte]; done) | (simp [bI, p_sum, c_1, c_2, c_3]; done) | (simp_all [bI, p_sum]; done)]
            exact lv_sub hl [0, 1, 2, 3, 4, 5, 6] rfl
        · skip
          have c_2 : hs cnt (nI i) = true := b_t c_2
          refine lv_iload hx hb dX5_sumUp_34 (lv_at hl 1 rfl) ?_
          refine lv_aload_n hx hb dX5_sumUp_36 rfl (lv_at hl 3 rfl) ?_
          refine q_get (v := .ref (ad 1)) hx hb hown hE inT_X5 hP 0 rfl rfl 0 (by decide) w_212 rfl dX5_sumUp_37 ?_
          refine q_getN (v := .ref (ad 2)) hx hb hown hE inT_X3 hP 1 rfl rfl 0 (by decide) w_93 rfl dX5_sumUp_40 ?_
          refine lv_iload hx hb dX5_sumUp_43 (lv_at hl 0 rfl) ?_
          refine q_iald (f := S 2) (i := i) hx hb hE hP 2 rfl (by omega) (Nat.le_of_ble_eq_true rfl) dX5_sumUp_45 ?_
          refine lv_iadd hx hb dX5_sumUp_46 ?_
          refine lv_istore (lv' := [(5, .int ((p_sum S 25 t cnt (p_free S 25 (cT S)) i) + (S 2 i))), (6, .int (nI i)), (4, .int (p_free S 25 (cT S))), (0, .ref (ad 0)), (1, .ref (ad 25)), (2, .int (nI t)), (3, .int cnt)]) hx hb dX5_sumUp_47 hl (by decide) rfl (fun ls hl => ?_)
          refine lv_iload hx hb dX5_sumUp_49 (lv_at hl 2 rfl) ?_
          refine lv_iload hx hb dX5_sumUp_51 (lv_at hl 1 rfl) ?_
          refine q_rd (q_runS (rest := []) hx hb hml hown hE (c_X5_has l D cI cZ cL _ (p_free S 25 (cT S)) (nI i)) ck_X5_has w_298 hP hl.1 rfl ⟨Nat.le_of_ble_eq_true rfl, Nat.le_of_ble_eq_true rfl⟩ (Nat.le_of_ble_eq_true rfl) dX5_sumUp_53 ⟨Nat.le_of_ble_eq_true rfl, Nat.le_of_ble_eq_true rfl⟩) ?_
          refine lv_if_ne (tgt := 75) hx hb dX5_sumUp_56 (by decide) (fun c_4 => ?_) (fun c_4 => ?_)
          · skip
            have c_4 : hs (p_free S 25 (cT S)) (nI i) = true := b_t c_4
            refine lv_iinc (v := nI (i + 1)) (lv' := [(6, .int (nI (i + 1))), (5, .int ((p_sum S 25 t cnt (p_free S 25 (cT S)) i) + (S 2 i))), (4, .int (p_free S 25 (cT S))), (0, .ref (ad 0)), (1, .ref (ad 25)), (2, .int (nI t)), (3, .int cnt)]) hx hb dX5_sumUp_75 hl (k := 1) rfl (nI_1 i) (by decide) rfl (fun ls hl => ?_)
            refine lv_goto (tgt := 13) hx hb dX5_sumUp_78 (by decide) ?_
            refine ih_13 (i + 1) (by omega) (by omega)  ls ?_
            rw [show p_sum S 25 t cnt (p_free S 25 (cT S)) (i + 1) = (p_sum S 25 t cnt (p_free S 25 (cT S)) i) + (S 2 i) from by first | (simp only [bI, p_sum, c_1, c_2, c_4, ↓reduceIte]; done) | (simp [bI, p_sum, c_1, c_2, c_4]; done) | (simp_all [bI, p_sum]; done)]
            exact lv_sub hl [0, 1, 2, 3, 4, 5, 6] rfl
          · skip
            have c_4 : hs (p_free S 25 (cT S)) (nI i) = false := b_f c_4
            refine lv_iload hx hb dX5_sumUp_59 (lv_at hl 0 rfl) ?_
            refine lv_aload_n hx hb dX5_sumUp_61 rfl (lv_at hl 4 rfl) ?_
            refine q_getN (v := .ref (ad 29)) hx hb hown hE inT_X2 hP 25 rfl rfl 3 (by decide) w_194 rfl dX5_sumUp_62 ?_
            refine lv_iload_n hx hb dX5_sumUp_65 rfl (lv_at hl 5 rfl) ?_
            refine lv_iload hx hb dX5_sumUp_66 (lv_at hl 1 rfl) ?_
            refine q_rd (q_runS (rest := [.ref (ad 29), .int ((p_sum S 25 t cnt (p_free S 25 (cT S)) i) + (S 2 i))]) hx hb hml hown hE (c_X5_cell l D cI cZ cL _ t i) ck_X5_cell w_299 hP hl.1 rfl ⟨Nat.le_of_ble_eq_true rfl, Nat.le_of_ble_eq_true rfl⟩ (Nat.le_of_ble_eq_true rfl) dX5_sumUp_68 ⟨Nat.le_of_ble_eq_true rfl, Nat.le_of_ble_eq_true rfl⟩) ?_
            refine q_iald (f := S 29) (i := (t * 16 + i)) hx hb hE hP 29 rfl (by omega) (Nat.le_of_ble_eq_true rfl) dX5_sumUp_71 ?_
            refine lv_isub hx hb dX5_sumUp_72 ?_
            refine lv_istore (lv' := [(5, .int (((p_sum S 25 t cnt (p_free S 25 (cT S)) i) + (S 2 i)) - (S 29 (t * 16 + i)))), (6, .int (nI i)), (4, .int (p_free S 25 (cT S))), (0, .ref (ad 0)), (1, .ref (ad 25)), (2, .int (nI t)), (3, .int cnt)]) hx hb dX5_sumUp_73 hl (by decide) rfl (fun ls hl => ?_)
            refine lv_iinc (v := nI (i + 1)) (lv' := [(6, .int (nI (i + 1))), (5, .int (((p_sum S 25 t cnt (p_free S 25 (cT S)) i) + (S 2 i)) - (S 29 (t * 16 + i)))), (4, .int (p_free S 25 (cT S))), (0, .ref (ad 0)), (1, .ref (ad 25)), (2, .int (nI t)), (3, .int cnt)]) hx hb dX5_sumUp_75 hl (k := 1) rfl (nI_1 i) (by decide) rfl (fun ls hl => ?_)
            refine lv_goto (tgt := 13) hx hb dX5_sumUp_78 (by decide) ?_
            refine ih_13 (i + 1) (by omega) (by omega)  ls ?_
            rw [show p_sum S 25 t cnt (p_free S 25 (cT S)) (i + 1) = ((p_sum S 25 t cnt (p_free S 25 (cT S)) i) + (S 2 i)) - (S 29 (t * 16 + i)) from by first | (simp only [bI, p_sum, c_1, c_2, c_4, ↓reduceIte]; done) | (simp [bI, p_sum, c_1, c_2, c_4]; done) | (simp_all [bI, p_sum]; done)]
            exact lv_sub hl [0, 1, 2, 3, 4, 5, 6] rfl
  refine hloop_13 (cR S + 1) 0 (by omega) (by omega)  ls ?_
  rw [show p_sum S 25 t cnt (p_free S 25 (cT S)) 0 = 0 from by first | rfl | (first | (simp only [bI, p_sum, ↓reduceIte]; done) | (simp [bI, p_sum]; done) | (simp_all [bI, p_sum]; done))]
  exact lv_sub hl [0, 1, 2, 3, 4, 5, 6] rfl

theorem dX5_isUnderWay_0 : decode cX5_isUnderWay 0 = .ok (.aload_n 0, 1) := by decide +kernel
theorem dX5_isUnderWay_1 : decode cX5_isUnderWay 1 = .ok (.getfield 72, 3) := by decide +kernel
theorem dX5_isUnderWay_4 : decode cX5_isUnderWay 4 = .ok (.ifCond .ne 37, 3) := by decide +kernel
theorem dX5_isUnderWay_7 : decode cX5_isUnderWay 7 = .ok (.aload_n 0, 1) := by decide +kernel
theorem dX5_isUnderWay_8 : decode cX5_isUnderWay 8 = .ok (.aload_n 0, 1) := by decide +kernel
theorem dX5_isUnderWay_9 : decode cX5_isUnderWay 9 = .ok (.getfield 40, 3) := by decide +kernel
theorem dX5_isUnderWay_12 : decode cX5_isUnderWay 12 = .ok (.iload_n 1, 1) := by decide +kernel
theorem dX5_isUnderWay_13 : decode cX5_isUnderWay 13 = .ok (.iload_n 2, 1) := by decide +kernel
theorem dX5_isUnderWay_14 : decode cX5_isUnderWay 14 = .ok (.invokevirtual 162, 3) := by decide +kernel
theorem dX5_isUnderWay_17 : decode cX5_isUnderWay 17 = .ok (.iconst (-1), 1) := by decide +kernel
theorem dX5_isUnderWay_18 : decode cX5_isUnderWay 18 = .ok (.if_icmp .eq 23, 3) := by decide +kernel
theorem dX5_isUnderWay_21 : decode cX5_isUnderWay 21 = .ok (.aload_n 0, 1) := by decide +kernel
theorem dX5_isUnderWay_22 : decode cX5_isUnderWay 22 = .ok (.getfield 40, 3) := by decide +kernel
theorem dX5_isUnderWay_25 : decode cX5_isUnderWay 25 = .ok (.getfield 171, 3) := by decide +kernel
theorem dX5_isUnderWay_28 : decode cX5_isUnderWay 28 = .ok (.iload_n 1, 1) := by decide +kernel
theorem dX5_isUnderWay_29 : decode cX5_isUnderWay 29 = .ok (.iaload, 1) := by decide +kernel
theorem dX5_isUnderWay_30 : decode cX5_isUnderWay 30 = .ok (.iload_n 2, 1) := by decide +kernel
theorem dX5_isUnderWay_31 : decode cX5_isUnderWay 31 = .ok (.invokestatic 97, 3) := by decide +kernel
theorem dX5_isUnderWay_34 : decode cX5_isUnderWay 34 = .ok (.ifCond .ne 7, 3) := by decide +kernel
theorem dX5_isUnderWay_37 : decode cX5_isUnderWay 37 = .ok (.iconst 1, 1) := by decide +kernel
theorem dX5_isUnderWay_38 : decode cX5_isUnderWay 38 = .ok (.goto 4, 3) := by decide +kernel
theorem dX5_isUnderWay_41 : decode cX5_isUnderWay 41 = .ok (.iconst 0, 1) := by decide +kernel
theorem dX5_isUnderWay_42 : decode cX5_isUnderWay 42 = .ok (.ireturn, 1) := by decide +kernel
set_option maxHeartbeats 4000000 in
set_option maxRecDepth 100000 in
theorem c_X5_isUnderWay (l : Launch) (D : va_G) (cI cZ cL : ClassId) (ad : Nat → Nat) (S : Mem) (t : Nat) (r : Nat) (ht : t < 8) (hr : r < 16) : RD l D cI cZ cL yX5_isUnderWay cX5_isUnderWay 3 (some .boolean) 3 [.ref (ad 0), .int (nI t), .int (nI r)] (wC ad cI S) (some (.int (bI (p_under S t r)))) := by
  refine RD.of (by decide) (Nat.le_of_ble_eq_true rfl) ?_
  intro p e s m args below meth c ls hx hb hr hml hown hlk hE hP hl
  have hl : lv_has ls 3 [(0, .ref (ad 0)), (1, .int (nI t)), (2, .int (nI r))] := hl
  refine lv_aload_n hx hb dX5_isUnderWay_0 rfl (lv_at hl 0 rfl) ?_
  refine q_get (v := .int (S 0 11)) hx hb hown hE inT_X5 hP 0 rfl rfl 11 (by decide) w_223 rfl dX5_isUnderWay_1 ?_
  refine lv_if_ne (tgt := 41) hx hb dX5_isUnderWay_4 (by decide) (fun c_1 => ?_) (fun c_1 => ?_)
  · skip
    refine lv_iconst (v := 0) hx hb dX5_isUnderWay_41 (by decide) ?_
    refine q_top (y := bI (p_under S t r)) (by first | (simp only [bI, p_under, c_1, ↓reduceIte]; done) | (simp [bI, p_under, c_1]; done) | (simp_all [bI, p_under]; done)) ?_
    exact e_ret hx hb hr hlk (n_bI _) dX5_isUnderWay_42
  · skip
    refine lv_aload_n hx hb dX5_isUnderWay_7 rfl (lv_at hl 0 rfl) ?_
    refine lv_aload_n hx hb dX5_isUnderWay_8 rfl (lv_at hl 0 rfl) ?_
    refine q_get (v := .ref (ad 18)) hx hb hown hE inT_X5 hP 0 rfl rfl 4 (by decide) w_216 rfl dX5_isUnderWay_9 ?_
    refine lv_iload_n hx hb dX5_isUnderWay_12 rfl (lv_at hl 1 rfl) ?_
    refine lv_iload_n hx hb dX5_isUnderWay_13 rfl (lv_at hl 2 rfl) ?_
    refine q_rd (q_runV (rest := []) hx hb hml hown hE (c_X5_openMinute_18 l D cI cZ cL ad S t r (by omega) (by omega)) ck_X5_openMinute w_497 hP 0 rfl rfl hl.1 rfl ⟨Nat.le_of_ble_eq_true rfl, Nat.le_of_ble_eq_true rfl⟩ (Nat.le_of_ble_eq_true rfl) dX5_isUnderWay_14 ⟨Nat.le_of_ble_eq_true rfl, Nat.le_of_ble_eq_true rfl⟩) ?_
    refine lv_iconst (v := (-1)) hx hb dX5_isUnderWay_17 (by decide) ?_
    refine lv_icmp_eq (tgt := 41) hx hb dX5_isUnderWay_18 (by decide) (fun c_2 => ?_) (fun c_2 => ?_)
    · skip
      refine lv_iconst (v := 0) hx hb dX5_isUnderWay_41 (by decide) ?_
      refine q_top (y := bI (p_under S t r)) (by first | (simp only [bI, p_under, c_1, c_2, ↓reduceIte]; done) | (simp [bI, p_under, c_1, c_2]; done) | (simp_all [bI, p_under]; done)) ?_
      exact e_ret hx hb hr hlk (n_bI _) dX5_isUnderWay_42
    · skip
      refine lv_aload_n hx hb dX5_isUnderWay_21 rfl (lv_at hl 0 rfl) ?_
      refine q_get (v := .ref (ad 18)) hx hb hown hE inT_X5 hP 0 rfl rfl 4 (by decide) w_216 rfl dX5_isUnderWay_22 ?_
      refine q_getN (v := .ref (ad 19)) hx hb hown hE inT_X2 hP 18 rfl rfl 0 (by decide) w_188 rfl dX5_isUnderWay_25 ?_
      refine lv_iload_n hx hb dX5_isUnderWay_28 rfl (lv_at hl 1 rfl) ?_
      refine q_iald (f := S 19) (i := t) hx hb hE hP 19 rfl (by omega) (Nat.le_of_ble_eq_true rfl) dX5_isUnderWay_29 ?_
      refine lv_iload_n hx hb dX5_isUnderWay_30 rfl (lv_at hl 2 rfl) ?_
      refine q_rd (q_runS (rest := []) hx hb hml hown hE (c_X5_has l D cI cZ cL _ (S 19 t) (nI r)) ck_X5_has w_298 hP hl.1 rfl ⟨Nat.le_of_ble_eq_true rfl, Nat.le_of_ble_eq_true rfl⟩ (Nat.le_of_ble_eq_true rfl) dX5_isUnderWay_31 ⟨Nat.le_of_ble_eq_true rfl, Nat.le_of_ble_eq_true rfl⟩) ?_
      refine lv_if_ne (tgt := 41) hx hb dX5_isUnderWay_34 (by decide) (fun c_3 => ?_) (fun c_3 => ?_)
      · skip
        have c_3 : hs (S 19 t) (nI r) = true := b_t c_3
        refine lv_iconst (v := 0) hx hb dX5_isUnderWay_41 (by decide) ?_
        refine q_top (y := bI (p_under S t r)) (by first | (simp only [bI, p_under, c_1, c_2, c_3, ↓reduceIte]; done) | (simp [bI, p_under, c_1, c_2, c_3]; done) | (simp_all [bI, p_under]; done)) ?_
        exact e_ret hx hb hr hlk (n_bI _) dX5_isUnderWay_42
      · skip
        have c_3 : hs (S 19 t) (nI r) = false := b_f c_3
        refine lv_iconst (v := 1) hx hb dX5_isUnderWay_37 (by decide) ?_
        refine lv_goto (tgt := 42) hx hb dX5_isUnderWay_38 (by decide) ?_
        refine q_top (y := bI (p_under S t r)) (by first | (simp only [bI, p_under, c_1, c_2, c_3, ↓reduceIte]; done) | (simp [bI, p_under, c_1, c_2, c_3]; done) | (simp_all [bI, p_under]; done)) ?_
        exact e_ret hx hb hr hlk (n_bI _) dX5_isUnderWay_42

theorem dX5_hasHintsLeft_0 : decode cX5_hasHintsLeft 0 = .ok (.aload_n 0, 1) := by decide +kernel
theorem dX5_hasHintsLeft_1 : decode cX5_hasHintsLeft 1 = .ok (.getfield 26, 3) := by decide +kernel
theorem dX5_hasHintsLeft_4 : decode cX5_hasHintsLeft 4 = .ok (.getfield 260, 3) := by decide +kernel
theorem dX5_hasHintsLeft_7 : decode cX5_hasHintsLeft 7 = .ok (.iload_n 1, 1) := by decide +kernel
theorem dX5_hasHintsLeft_8 : decode cX5_hasHintsLeft 8 = .ok (.iload_n 2, 1) := by decide +kernel
theorem dX5_hasHintsLeft_9 : decode cX5_hasHintsLeft 9 = .ok (.invokestatic 177, 3) := by decide +kernel
theorem dX5_hasHintsLeft_12 : decode cX5_hasHintsLeft 12 = .ok (.iaload, 1) := by decide +kernel
theorem dX5_hasHintsLeft_13 : decode cX5_hasHintsLeft 13 = .ok (.iconst 3, 1) := by decide +kernel
theorem dX5_hasHintsLeft_14 : decode cX5_hasHintsLeft 14 = .ok (.if_icmp .ge 7, 3) := by decide +kernel
theorem dX5_hasHintsLeft_17 : decode cX5_hasHintsLeft 17 = .ok (.iconst 1, 1) := by decide +kernel
theorem dX5_hasHintsLeft_18 : decode cX5_hasHintsLeft 18 = .ok (.goto 4, 3) := by decide +kernel
theorem dX5_hasHintsLeft_21 : decode cX5_hasHintsLeft 21 = .ok (.iconst 0, 1) := by decide +kernel
theorem dX5_hasHintsLeft_22 : decode cX5_hasHintsLeft 22 = .ok (.ireturn, 1) := by decide +kernel
set_option maxHeartbeats 4000000 in
set_option maxRecDepth 100000 in
theorem c_X5_hasHintsLeft (l : Launch) (D : va_G) (cI cZ cL : ClassId) (ad : Nat → Nat) (S : Mem) (t : Nat) (r : Nat) (ht : t < 8) (hr : r < 16) : RD l D cI cZ cL yX5_hasHintsLeft cX5_hasHintsLeft 3 (some .boolean) 1 [.ref (ad 0), .int (nI t), .int (nI r)] (wC ad cI S) (some (.int (bI (p_left S t r)))) := by
  refine RD.of (by decide) (Nat.le_of_ble_eq_true rfl) ?_
  intro p e s m args below meth c ls hx hb hr hml hown hlk hE hP hl
  have hl : lv_has ls 3 [(0, .ref (ad 0)), (1, .int (nI t)), (2, .int (nI r))] := hl
  refine lv_aload_n hx hb dX5_hasHintsLeft_0 rfl (lv_at hl 0 rfl) ?_
  refine q_get (v := .ref (ad 12)) hx hb hown hE inT_X5 hP 0 rfl rfl 2 (by decide) w_214 rfl dX5_hasHintsLeft_1 ?_
  refine q_getN (v := .ref (ad 13)) hx hb hown hE inT_X4 hP 12 rfl rfl 0 (by decide) w_155 rfl dX5_hasHintsLeft_4 ?_
  refine lv_iload_n hx hb dX5_hasHintsLeft_7 rfl (lv_at hl 1 rfl) ?_
  refine lv_iload_n hx hb dX5_hasHintsLeft_8 rfl (lv_at hl 2 rfl) ?_
  refine q_rd (q_runS (rest := [.ref (ad 13)]) hx hb hml hown hE (c_X5_cell l D cI cZ cL _ t r) ck_X5_cell w_299 hP hl.1 rfl ⟨Nat.le_of_ble_eq_true rfl, Nat.le_of_ble_eq_true rfl⟩ (Nat.le_of_ble_eq_true rfl) dX5_hasHintsLeft_9 ⟨Nat.le_of_ble_eq_true rfl, Nat.le_of_ble_eq_true rfl⟩) ?_
  refine q_iald (f := S 13) (i := (t * 16 + r)) hx hb hE hP 13 rfl (by omega) (Nat.le_of_ble_eq_true rfl) dX5_hasHintsLeft_12 ?_
  refine lv_iconst (v := 3) hx hb dX5_hasHintsLeft_13 (by decide) ?_
  refine lv_icmp_ge (tgt := 21) hx hb dX5_hasHintsLeft_14 (by decide) (fun c_1 => ?_) (fun c_1 => ?_)
  · skip
    refine lv_iconst (v := 0) hx hb dX5_hasHintsLeft_21 (by decide) ?_
    refine q_top (y := bI (p_left S t r)) (by first | (simp only [bI, p_left, c_1, ↓reduceIte]; done) | (simp [bI, p_left, c_1]; done) | (simp_all [bI, p_left]; done)) ?_
    exact e_ret hx hb hr hlk (n_bI _) dX5_hasHintsLeft_22
  · skip
    refine lv_iconst (v := 1) hx hb dX5_hasHintsLeft_17 (by decide) ?_
    refine lv_goto (tgt := 22) hx hb dX5_hasHintsLeft_18 (by decide) ?_
    refine q_top (y := bI (p_left S t r)) (by first | (simp only [bI, p_left, c_1, ↓reduceIte]; done) | (simp [bI, p_left, c_1]; done) | (simp_all [bI, p_left]; done)) ?_
    exact e_ret hx hb hr hlk (n_bI _) dX5_hasHintsLeft_22

theorem dX5_nextPrice_0 : decode cX5_nextPrice 0 = .ok (.aload_n 0, 1) := by decide +kernel
theorem dX5_nextPrice_1 : decode cX5_nextPrice 1 = .ok (.getfield 61, 3) := by decide +kernel
theorem dX5_nextPrice_4 : decode cX5_nextPrice 4 = .ok (.aload_n 0, 1) := by decide +kernel
theorem dX5_nextPrice_5 : decode cX5_nextPrice 5 = .ok (.aload_n 0, 1) := by decide +kernel
theorem dX5_nextPrice_6 : decode cX5_nextPrice 6 = .ok (.getfield 40, 3) := by decide +kernel
theorem dX5_nextPrice_9 : decode cX5_nextPrice 9 = .ok (.iload_n 1, 1) := by decide +kernel
theorem dX5_nextPrice_10 : decode cX5_nextPrice 10 = .ok (.iload_n 2, 1) := by decide +kernel
theorem dX5_nextPrice_11 : decode cX5_nextPrice 11 = .ok (.invokevirtual 162, 3) := by decide +kernel
theorem dX5_nextPrice_14 : decode cX5_nextPrice 14 = .ok (.isub, 1) := by decide +kernel
theorem dX5_nextPrice_15 : decode cX5_nextPrice 15 = .ok (.istore_n 3, 1) := by decide +kernel
theorem dX5_nextPrice_16 : decode cX5_nextPrice 16 = .ok (.aload_n 0, 1) := by decide +kernel
theorem dX5_nextPrice_17 : decode cX5_nextPrice 17 = .ok (.getfield 26, 3) := by decide +kernel
theorem dX5_nextPrice_20 : decode cX5_nextPrice 20 = .ok (.iload_n 2, 1) := by decide +kernel
theorem dX5_nextPrice_21 : decode cX5_nextPrice 21 = .ok (.aload_n 0, 1) := by decide +kernel
theorem dX5_nextPrice_22 : decode cX5_nextPrice 22 = .ok (.getfield 26, 3) := by decide +kernel
theorem dX5_nextPrice_25 : decode cX5_nextPrice 25 = .ok (.getfield 260, 3) := by decide +kernel
theorem dX5_nextPrice_28 : decode cX5_nextPrice 28 = .ok (.iload_n 1, 1) := by decide +kernel
theorem dX5_nextPrice_29 : decode cX5_nextPrice 29 = .ok (.iload_n 2, 1) := by decide +kernel
theorem dX5_nextPrice_30 : decode cX5_nextPrice 30 = .ok (.invokestatic 177, 3) := by decide +kernel
theorem dX5_nextPrice_33 : decode cX5_nextPrice 33 = .ok (.iaload, 1) := by decide +kernel
theorem dX5_nextPrice_34 : decode cX5_nextPrice 34 = .ok (.invokevirtual 263, 3) := by decide +kernel
theorem dX5_nextPrice_37 : decode cX5_nextPrice 37 = .ok (.istore 4, 2) := by decide +kernel
theorem dX5_nextPrice_39 : decode cX5_nextPrice 39 = .ok (.iconst 1, 1) := by decide +kernel
theorem dX5_nextPrice_40 : decode cX5_nextPrice 40 = .ok (.aload_n 0, 1) := by decide +kernel
theorem dX5_nextPrice_41 : decode cX5_nextPrice 41 = .ok (.getfield 10, 3) := by decide +kernel
theorem dX5_nextPrice_44 : decode cX5_nextPrice 44 = .ok (.getfield 266, 3) := by decide +kernel
theorem dX5_nextPrice_47 : decode cX5_nextPrice 47 = .ok (.iload_n 2, 1) := by decide +kernel
theorem dX5_nextPrice_48 : decode cX5_nextPrice 48 = .ok (.iaload, 1) := by decide +kernel
theorem dX5_nextPrice_49 : decode cX5_nextPrice 49 = .ok (.iload_n 3, 1) := by decide +kernel
theorem dX5_nextPrice_50 : decode cX5_nextPrice 50 = .ok (.bipush 10, 2) := by decide +kernel
theorem dX5_nextPrice_52 : decode cX5_nextPrice 52 = .ok (.idiv, 1) := by decide +kernel
theorem dX5_nextPrice_53 : decode cX5_nextPrice 53 = .ok (.isub, 1) := by decide +kernel
theorem dX5_nextPrice_54 : decode cX5_nextPrice 54 = .ok (.iload 4, 2) := by decide +kernel
theorem dX5_nextPrice_56 : decode cX5_nextPrice 56 = .ok (.isub, 1) := by decide +kernel
theorem dX5_nextPrice_57 : decode cX5_nextPrice 57 = .ok (.invokestatic 269, 3) := by decide +kernel
theorem dX5_nextPrice_60 : decode cX5_nextPrice 60 = .ok (.ireturn, 1) := by decide +kernel
set_option maxHeartbeats 4000000 in
set_option maxRecDepth 100000 in
theorem c_X5_nextPrice (l : Launch) (D : va_G) (cI cZ cL : ClassId) (ad : Nat → Nat) (S : Mem) (t : Nat) (r : Nat) (ht : t < 8) (hr : r < 16) : RD l D cI cZ cL yX5_nextPrice cX5_nextPrice 5 (some .int) 3 [.ref (ad 0), .int (nI t), .int (nI r)] (wC ad cI S) (some (.int (p_price S t r))) := by
  refine RD.of (by decide) (Nat.le_of_ble_eq_true rfl) ?_
  intro p e s m args below meth c ls hx hb hr hml hown hlk hE hP hl
  have hl : lv_has ls 5 [(0, .ref (ad 0)), (1, .int (nI t)), (2, .int (nI r))] := hl
  refine lv_aload_n hx hb dX5_nextPrice_0 rfl (lv_at hl 0 rfl) ?_
  refine q_get (v := .int (S 0 10)) hx hb hown hE inT_X5 hP 0 rfl rfl 10 (by decide) w_222 rfl dX5_nextPrice_1 ?_
  refine lv_aload_n hx hb dX5_nextPrice_4 rfl (lv_at hl 0 rfl) ?_
  refine lv_aload_n hx hb dX5_nextPrice_5 rfl (lv_at hl 0 rfl) ?_
  refine q_get (v := .ref (ad 18)) hx hb hown hE inT_X5 hP 0 rfl rfl 4 (by decide) w_216 rfl dX5_nextPrice_6 ?_
  refine lv_iload_n hx hb dX5_nextPrice_9 rfl (lv_at hl 1 rfl) ?_
  refine lv_iload_n hx hb dX5_nextPrice_10 rfl (lv_at hl 2 rfl) ?_
  refine q_rd (q_runV (rest := [.int (S 0 10)]) hx hb hml hown hE (c_X5_openMinute_18 l D cI cZ cL ad S t r (by omega) (by omega)) ck_X5_openMinute w_497 hP 0 rfl rfl hl.1 rfl ⟨Nat.le_of_ble_eq_true rfl, Nat.le_of_ble_eq_true rfl⟩ (Nat.le_of_ble_eq_true rfl) dX5_nextPrice_11 ⟨Nat.le_of_ble_eq_true rfl, Nat.le_of_ble_eq_true rfl⟩) ?_
  refine lv_isub hx hb dX5_nextPrice_14 ?_
  refine lv_istore_n (lv' := [(3, .int ((S 0 10) - (p_open S 18 t r))), (0, .ref (ad 0)), (1, .int (nI t)), (2, .int (nI r))]) hx hb dX5_nextPrice_15 rfl hl (by decide) rfl (fun ls hl => ?_)
  refine lv_aload_n hx hb dX5_nextPrice_16 rfl (lv_at hl 1 rfl) ?_
  refine q_get (v := .ref (ad 12)) hx hb hown hE inT_X5 hP 0 rfl rfl 2 (by decide) w_214 rfl dX5_nextPrice_17 ?_
  refine lv_iload_n hx hb dX5_nextPrice_20 rfl (lv_at hl 3 rfl) ?_
  refine lv_aload_n hx hb dX5_nextPrice_21 rfl (lv_at hl 1 rfl) ?_
  refine q_get (v := .ref (ad 12)) hx hb hown hE inT_X5 hP 0 rfl rfl 2 (by decide) w_214 rfl dX5_nextPrice_22 ?_
  refine q_getN (v := .ref (ad 13)) hx hb hown hE inT_X4 hP 12 rfl rfl 0 (by decide) w_155 rfl dX5_nextPrice_25 ?_
  refine lv_iload_n hx hb dX5_nextPrice_28 rfl (lv_at hl 2 rfl) ?_
  refine lv_iload_n hx hb dX5_nextPrice_29 rfl (lv_at hl 3 rfl) ?_
  refine q_rd (q_runS (rest := [.ref (ad 13), .int (nI r), .ref (ad 12)]) hx hb hml hown hE (c_X5_cell l D cI cZ cL _ t r) ck_X5_cell w_299 hP hl.1 rfl ⟨Nat.le_of_ble_eq_true rfl, Nat.le_of_ble_eq_true rfl⟩ (Nat.le_of_ble_eq_true rfl) dX5_nextPrice_30 ⟨Nat.le_of_ble_eq_true rfl, Nat.le_of_ble_eq_true rfl⟩) ?_
  refine q_iald (f := S 13) (i := (t * 16 + r)) hx hb hE hP 13 rfl (by omega) (Nat.le_of_ble_eq_true rfl) dX5_nextPrice_33 ?_
  refine q_rd (q_runVN (rest := []) hx hb hml hown hE (c_X4_countBuyers l D cI cZ cL ad S r (S 13 (t * 16 + r)) (by omega)) ck_X4_countBuyers w_545 hP 12 rfl rfl hl.1 rfl ⟨Nat.le_of_ble_eq_true rfl, Nat.le_of_ble_eq_true rfl⟩ (Nat.le_of_ble_eq_true rfl) dX5_nextPrice_34 ⟨Nat.le_of_ble_eq_true rfl, Nat.le_of_ble_eq_true rfl⟩) ?_
  refine lv_istore (lv' := [(4, .int (nI (p_buy S r (S 13 (t * 16 + r)) 8))), (3, .int ((S 0 10) - (p_open S 18 t r))), (0, .ref (ad 0)), (1, .int (nI t)), (2, .int (nI r))]) hx hb dX5_nextPrice_37 hl (by decide) rfl (fun ls hl => ?_)
  refine lv_iconst (v := 1) hx hb dX5_nextPrice_39 (by decide) ?_
  refine lv_aload_n hx hb dX5_nextPrice_40 rfl (lv_at hl 2 rfl) ?_
  refine q_get (v := .ref (ad 1)) hx hb hown hE inT_X5 hP 0 rfl rfl 0 (by decide) w_212 rfl dX5_nextPrice_41 ?_
  refine q_getN (v := .ref (ad 5)) hx hb hown hE inT_X3 hP 1 rfl rfl 3 (by decide) w_99 rfl dX5_nextPrice_44 ?_
  refine lv_iload_n hx hb dX5_nextPrice_47 rfl (lv_at hl 4 rfl) ?_
  refine q_iald (f := S 5) (i := r) hx hb hE hP 5 rfl (by omega) (Nat.le_of_ble_eq_true rfl) dX5_nextPrice_48 ?_
  refine lv_iload_n hx hb dX5_nextPrice_49 rfl (lv_at hl 1 rfl) ?_
  refine lv_bipush (v := 10) hx hb dX5_nextPrice_50 (by decide) ?_
  refine lv_idiv hx hb dX5_nextPrice_52 (by decide) ?_
  refine lv_isub hx hb dX5_nextPrice_53 ?_
  refine lv_iload hx hb dX5_nextPrice_54 (lv_at hl 0 rfl) ?_
  refine lv_isub hx hb dX5_nextPrice_56 ?_
  refine va_mmax hx hb (hml.trans hl.1.symm) hown (hE.1 _ w_550 args) (hE.1 _ w_309 args) (hE.1 _ w_75 args) (hE.1 _ w_310 args) (Nat.le_of_ble_eq_true rfl) (Nat.le_of_ble_eq_true rfl) (Nat.le_of_ble_eq_true rfl) (Nat.le_of_ble_eq_true rfl) dX5_nextPrice_57 ?_
  refine q_top (y := imax 1 (((S 5 r) - (((S 0 10) - (p_open S 18 t r)) / 10)) - (nI (p_buy S r (S 13 (t * 16 + r)) 8)))) rfl ?_
  refine q_top (y := p_price S t r) (by rfl) ?_
  exact e_ret hx hb hr hlk rfl dX5_nextPrice_60

theorem dX5_isRight_0 : decode cX5_isRight 0 = .ok (.aload_n 0, 1) := by decide +kernel
theorem dX5_isRight_1 : decode cX5_isRight 1 = .ok (.getfield 19, 3) := by decide +kernel
theorem dX5_isRight_4 : decode cX5_isRight 4 = .ok (.getfield 327, 3) := by decide +kernel
theorem dX5_isRight_7 : decode cX5_isRight 7 = .ok (.iload_n 1, 1) := by decide +kernel
theorem dX5_isRight_8 : decode cX5_isRight 8 = .ok (.iaload, 1) := by decide +kernel
theorem dX5_isRight_9 : decode cX5_isRight 9 = .ok (.aload_n 0, 1) := by decide +kernel
theorem dX5_isRight_10 : decode cX5_isRight 10 = .ok (.getfield 10, 3) := by decide +kernel
theorem dX5_isRight_13 : decode cX5_isRight 13 = .ok (.getfield 135, 3) := by decide +kernel
theorem dX5_isRight_16 : decode cX5_isRight 16 = .ok (.aload_n 0, 1) := by decide +kernel
theorem dX5_isRight_17 : decode cX5_isRight 17 = .ok (.getfield 19, 3) := by decide +kernel
theorem dX5_isRight_20 : decode cX5_isRight 20 = .ok (.getfield 306, 3) := by decide +kernel
theorem dX5_isRight_23 : decode cX5_isRight 23 = .ok (.iload_n 1, 1) := by decide +kernel
theorem dX5_isRight_24 : decode cX5_isRight 24 = .ok (.iaload, 1) := by decide +kernel
theorem dX5_isRight_25 : decode cX5_isRight 25 = .ok (.iaload, 1) := by decide +kernel
theorem dX5_isRight_26 : decode cX5_isRight 26 = .ok (.if_icmp .ne 7, 3) := by decide +kernel
theorem dX5_isRight_29 : decode cX5_isRight 29 = .ok (.iconst 1, 1) := by decide +kernel
theorem dX5_isRight_30 : decode cX5_isRight 30 = .ok (.goto 4, 3) := by decide +kernel
theorem dX5_isRight_33 : decode cX5_isRight 33 = .ok (.iconst 0, 1) := by decide +kernel
theorem dX5_isRight_34 : decode cX5_isRight 34 = .ok (.ireturn, 1) := by decide +kernel
set_option maxHeartbeats 4000000 in
set_option maxRecDepth 100000 in
theorem c_X5_isRight (l : Launch) (D : va_G) (cI cZ cL : ClassId) (ad : Nat → Nat) (S : Mem) (k : Nat) (hI : I0 S) (hk : k < cN S) : RD l D cI cZ cL yX5_isRight cX5_isRight 2 (some .boolean) 0 [.ref (ad 0), .int (nI k)] (wC ad cI S) (some (.int (bI (p_right S k)))) := by
  refine RD.of (by decide) (Nat.le_of_ble_eq_true rfl) ?_
  intro p e s m args below meth c ls hx hb hr hml hown hlk hE hP hl
  have hl : lv_has ls 2 [(0, .ref (ad 0)), (1, .int (nI k))] := hl
  have hT8 := hI.T8
  have hR16 := hI.R16
  have hN200 := hI.N200
  have hxR := hI.xR16 hk
  refine lv_aload_n hx hb dX5_isRight_0 rfl (lv_at hl 0 rfl) ?_
  refine q_get (v := .ref (ad 7)) hx hb hown hE inT_X5 hP 0 rfl rfl 1 (by decide) w_213 rfl dX5_isRight_1 ?_
  refine q_getN (v := .ref (ad 10)) hx hb hown hE inT_X0 hP 7 rfl rfl 2 (by decide) w_132 rfl dX5_isRight_4 ?_
  refine lv_iload_n hx hb dX5_isRight_7 rfl (lv_at hl 1 rfl) ?_
  refine q_iald (f := S 10) (i := k) hx hb hE hP 10 rfl (by omega) (Nat.le_of_ble_eq_true rfl) dX5_isRight_8 ?_
  refine lv_aload_n hx hb dX5_isRight_9 rfl (lv_at hl 0 rfl) ?_
  refine q_get (v := .ref (ad 1)) hx hb hown hE inT_X5 hP 0 rfl rfl 0 (by decide) w_212 rfl dX5_isRight_10 ?_
  refine q_getN (v := .ref (ad 3)) hx hb hown hE inT_X3 hP 1 rfl rfl 1 (by decide) w_95 rfl dX5_isRight_13 ?_
  refine lv_aload_n hx hb dX5_isRight_16 rfl (lv_at hl 0 rfl) ?_
  refine q_get (v := .ref (ad 7)) hx hb hown hE inT_X5 hP 0 rfl rfl 1 (by decide) w_213 rfl dX5_isRight_17 ?_
  refine q_getN (v := .ref (ad 9)) hx hb hown hE inT_X0 hP 7 rfl rfl 1 (by decide) w_130 rfl dX5_isRight_20 ?_
  refine lv_iload_n hx hb dX5_isRight_23 rfl (lv_at hl 1 rfl) ?_
  refine q_iald (f := S 9) (i := k) hx hb hE hP 9 rfl (by omega) (Nat.le_of_ble_eq_true rfl) dX5_isRight_24 ?_
  refine q_top (y := nI (aR S k)) (hI.xR hk) ?_
  refine q_iald (f := S 3) (i := (aR S k)) hx hb hE hP 3 rfl (by omega) (Nat.le_of_ble_eq_true rfl) dX5_isRight_25 ?_
  refine lv_icmp_ne (tgt := 33) hx hb dX5_isRight_26 (by decide) (fun c_1 => ?_) (fun c_1 => ?_)
  · skip
    refine lv_iconst (v := 0) hx hb dX5_isRight_33 (by decide) ?_
    refine q_top (y := bI (p_right S k)) (by first | (simp only [bI, p_right, c_1, ↓reduceIte]; done) | (simp [bI, p_right, c_1]; done) | (simp_all [bI, p_right]; done)) ?_
    exact e_ret hx hb hr hlk (n_bI _) dX5_isRight_34
  · skip
    refine lv_iconst (v := 1) hx hb dX5_isRight_29 (by decide) ?_
    refine lv_goto (tgt := 34) hx hb dX5_isRight_30 (by decide) ?_
    refine q_top (y := bI (p_right S k)) (by first | (simp only [bI, p_right, c_1, ↓reduceIte]; done) | (simp [bI, p_right, c_1]; done) | (simp_all [bI, p_right]; done)) ?_
    exact e_ret hx hb hr hlk (n_bI _) dX5_isRight_34

theorem dX5_countBetter_0 : decode cX5_countBetter 0 = .ok (.iconst 0, 1) := by decide +kernel
theorem dX5_countBetter_1 : decode cX5_countBetter 1 = .ok (.istore_n 2, 1) := by decide +kernel
theorem dX5_countBetter_2 : decode cX5_countBetter 2 = .ok (.iconst 0, 1) := by decide +kernel
theorem dX5_countBetter_3 : decode cX5_countBetter 3 = .ok (.istore_n 3, 1) := by decide +kernel
theorem dX5_countBetter_4 : decode cX5_countBetter 4 = .ok (.iload_n 3, 1) := by decide +kernel
theorem dX5_countBetter_5 : decode cX5_countBetter 5 = .ok (.aload_n 0, 1) := by decide +kernel
theorem dX5_countBetter_6 : decode cX5_countBetter 6 = .ok (.getfield 115, 3) := by decide +kernel
theorem dX5_countBetter_9 : decode cX5_countBetter 9 = .ok (.if_icmp .ge 81, 3) := by decide +kernel
theorem dX5_countBetter_12 : decode cX5_countBetter 12 = .ok (.aload_n 0, 1) := by decide +kernel
theorem dX5_countBetter_13 : decode cX5_countBetter 13 = .ok (.getfield 47, 3) := by decide +kernel
theorem dX5_countBetter_16 : decode cX5_countBetter 16 = .ok (.iload_n 3, 1) := by decide +kernel
theorem dX5_countBetter_17 : decode cX5_countBetter 17 = .ok (.iaload, 1) := by decide +kernel
theorem dX5_countBetter_18 : decode cX5_countBetter 18 = .ok (.aload_n 0, 1) := by decide +kernel
theorem dX5_countBetter_19 : decode cX5_countBetter 19 = .ok (.getfield 47, 3) := by decide +kernel
theorem dX5_countBetter_22 : decode cX5_countBetter 22 = .ok (.iload_n 1, 1) := by decide +kernel
theorem dX5_countBetter_23 : decode cX5_countBetter 23 = .ok (.iaload, 1) := by decide +kernel
theorem dX5_countBetter_24 : decode cX5_countBetter 24 = .ok (.if_icmp .le 7, 3) := by decide +kernel
theorem dX5_countBetter_27 : decode cX5_countBetter 27 = .ok (.iconst 1, 1) := by decide +kernel
theorem dX5_countBetter_28 : decode cX5_countBetter 28 = .ok (.goto 4, 3) := by decide +kernel
theorem dX5_countBetter_31 : decode cX5_countBetter 31 = .ok (.iconst 0, 1) := by decide +kernel
theorem dX5_countBetter_32 : decode cX5_countBetter 32 = .ok (.istore 4, 2) := by decide +kernel
theorem dX5_countBetter_34 : decode cX5_countBetter 34 = .ok (.aload_n 0, 1) := by decide +kernel
theorem dX5_countBetter_35 : decode cX5_countBetter 35 = .ok (.getfield 47, 3) := by decide +kernel
theorem dX5_countBetter_38 : decode cX5_countBetter 38 = .ok (.iload_n 3, 1) := by decide +kernel
theorem dX5_countBetter_39 : decode cX5_countBetter 39 = .ok (.iaload, 1) := by decide +kernel
theorem dX5_countBetter_40 : decode cX5_countBetter 40 = .ok (.aload_n 0, 1) := by decide +kernel
theorem dX5_countBetter_41 : decode cX5_countBetter 41 = .ok (.getfield 47, 3) := by decide +kernel
theorem dX5_countBetter_44 : decode cX5_countBetter 44 = .ok (.iload_n 1, 1) := by decide +kernel
theorem dX5_countBetter_45 : decode cX5_countBetter 45 = .ok (.iaload, 1) := by decide +kernel
theorem dX5_countBetter_46 : decode cX5_countBetter 46 = .ok (.if_icmp .ne 22, 3) := by decide +kernel
theorem dX5_countBetter_49 : decode cX5_countBetter 49 = .ok (.aload_n 0, 1) := by decide +kernel
theorem dX5_countBetter_50 : decode cX5_countBetter 50 = .ok (.getfield 51, 3) := by decide +kernel
theorem dX5_countBetter_53 : decode cX5_countBetter 53 = .ok (.iload_n 3, 1) := by decide +kernel
theorem dX5_countBetter_54 : decode cX5_countBetter 54 = .ok (.iaload, 1) := by decide +kernel
theorem dX5_countBetter_55 : decode cX5_countBetter 55 = .ok (.aload_n 0, 1) := by decide +kernel
theorem dX5_countBetter_56 : decode cX5_countBetter 56 = .ok (.getfield 51, 3) := by decide +kernel
theorem dX5_countBetter_59 : decode cX5_countBetter 59 = .ok (.iload_n 1, 1) := by decide +kernel
theorem dX5_countBetter_60 : decode cX5_countBetter 60 = .ok (.iaload, 1) := by decide +kernel
theorem dX5_countBetter_61 : decode cX5_countBetter 61 = .ok (.if_icmp .ge 7, 3) := by decide +kernel
theorem dX5_countBetter_64 : decode cX5_countBetter 64 = .ok (.iconst 1, 1) := by decide +kernel
theorem dX5_countBetter_65 : decode cX5_countBetter 65 = .ok (.goto 4, 3) := by decide +kernel
theorem dX5_countBetter_68 : decode cX5_countBetter 68 = .ok (.iconst 0, 1) := by decide +kernel
theorem dX5_countBetter_69 : decode cX5_countBetter 69 = .ok (.istore 5, 2) := by decide +kernel
theorem dX5_countBetter_71 : decode cX5_countBetter 71 = .ok (.iload 4, 2) := by decide +kernel
theorem dX5_countBetter_73 : decode cX5_countBetter 73 = .ok (.ifCond .ne 8, 3) := by decide +kernel
theorem dX5_countBetter_76 : decode cX5_countBetter 76 = .ok (.iload 5, 2) := by decide +kernel
theorem dX5_countBetter_78 : decode cX5_countBetter 78 = .ok (.ifCond .eq 6, 3) := by decide +kernel
theorem dX5_countBetter_81 : decode cX5_countBetter 81 = .ok (.iinc 2 1, 3) := by decide +kernel
theorem dX5_countBetter_84 : decode cX5_countBetter 84 = .ok (.iinc 3 1, 3) := by decide +kernel
theorem dX5_countBetter_87 : decode cX5_countBetter 87 = .ok (.goto (-83), 3) := by decide +kernel
theorem dX5_countBetter_90 : decode cX5_countBetter 90 = .ok (.iload_n 2, 1) := by decide +kernel
theorem dX5_countBetter_91 : decode cX5_countBetter 91 = .ok (.ireturn, 1) := by decide +kernel
set_option maxHeartbeats 4000000 in
set_option maxRecDepth 100000 in
theorem c_X5_countBetter (l : Launch) (D : va_G) (cI cZ cL : ClassId) (ad : Nat → Nat) (S : Mem) (t : Nat) (hI : I0 S) (ht : t < 8) : RD l D cI cZ cL yX5_countBetter cX5_countBetter 6 (some .int) 0 [.ref (ad 0), .int (nI t)] (wC ad cI S) (some (.int (nI (p_better S t (cT S))))) := by
  refine RD.of (by decide) (Nat.le_of_ble_eq_true rfl) ?_
  intro p e s m args below meth c ls hx hb hr hml hown hlk hE hP hl
  have hl : lv_has ls 6 [(0, .ref (ad 0)), (1, .int (nI t))] := hl
  have hT8 := hI.T8
  have hR16 := hI.R16
  have hN200 := hI.N200
  refine lv_iconst (v := 0) hx hb dX5_countBetter_0 (by decide) ?_
  refine lv_istore_n (lv' := [(2, .int 0), (0, .ref (ad 0)), (1, .int (nI t))]) hx hb dX5_countBetter_1 rfl hl (by decide) rfl (fun ls hl => ?_)
  refine lv_iconst (v := 0) hx hb dX5_countBetter_2 (by decide) ?_
  refine lv_istore_n (lv' := [(3, .int 0), (2, .int 0), (0, .ref (ad 0)), (1, .int (nI t))]) hx hb dX5_countBetter_3 rfl hl (by decide) rfl (fun ls hl => ?_)
  have hloop_4 : ∀ (n i : Nat), i ≤ cT S → cT S < i + n → ∀ ls : Array Slot, lv_has ls 6 [(3, .int (nI i)), (2, .int (nI (p_better S t i))), (0, .ref (ad 0)), (1, .int (nI t))] → W p l e (rm 0 0 0) s m args below meth c s.heap [] 0 0 (MQ below (Qrd (some (.int (nI (p_better S t (cT S)))))) args s 0 0 q_no) (F0 m 4 ls []) := by
    intro n
    induction n with
    | zero => intro i h1 h2; exact absurd h2 (by omega)
    | succ n ih_4 =>
      intro i hi_4 hin_4  ls hl
      refine lv_iload_n hx hb dX5_countBetter_4 rfl (lv_at hl 0 rfl) ?_
      refine lv_aload_n hx hb dX5_countBetter_5 rfl (lv_at hl 2 rfl) ?_
      refine q_get (v := .int (S 0 9)) hx hb hown hE inT_X5 hP 0 rfl rfl 9 (by decide) w_221 rfl dX5_countBetter_6 ?_
      refine q_top (y := nI (cT S)) (I0.T hI) ?_
      refine lv_icmp_ge (tgt := 90) hx hb dX5_countBetter_9 (by decide) (fun c_1 => ?_) (fun c_1 => ?_)
      · skip
        have c_1 : (cT S) ≤ i := n_le (a := cT S) (b := i) (by omega) (by omega) c_1
        have hend_4 : cT S = i := by omega
        subst hend_4
        refine lv_iload_n hx hb dX5_countBetter_90 rfl (lv_at hl 1 rfl) ?_
        exact e_ret hx hb hr hlk rfl dX5_countBetter_91
      · skip
        have c_1 : i < (cT S) := n_nle (a := cT S) (b := i) (by omega) (by omega) c_1
        refine lv_aload_n hx hb dX5_countBetter_12 rfl (lv_at hl 2 rfl) ?_
        refine q_get (v := .ref (ad 32)) hx hb hown hE inT_X5 hP 0 rfl rfl 6 (by decide) w_218 rfl dX5_countBetter_13 ?_
        refine lv_iload_n hx hb dX5_countBetter_16 rfl (lv_at hl 0 rfl) ?_
        refine q_iald (f := S 32) (i := i) hx hb hE hP 32 rfl (by omega) (Nat.le_of_ble_eq_true rfl) dX5_countBetter_17 ?_
        refine lv_aload_n hx hb dX5_countBetter_18 rfl (lv_at hl 2 rfl) ?_
        refine q_get (v := .ref (ad 32)) hx hb hown hE inT_X5 hP 0 rfl rfl 6 (by decide) w_218 rfl dX5_countBetter_19 ?_
        refine lv_iload_n hx hb dX5_countBetter_22 rfl (lv_at hl 3 rfl) ?_
        refine q_iald (f := S 32) (i := t) hx hb hE hP 32 rfl (by omega) (Nat.le_of_ble_eq_true rfl) dX5_countBetter_23 ?_
        refine lv_icmp_le (tgt := 31) hx hb dX5_countBetter_24 (by decide) (fun c_2 => ?_) (fun c_2 => ?_)
        · skip
          refine lv_iconst (v := 0) hx hb dX5_countBetter_31 (by decide) ?_
          refine lv_istore (lv' := [(4, .int 0), (3, .int (nI i)), (2, .int (nI (p_better S t i))), (0, .ref (ad 0)), (1, .int (nI t))]) hx hb dX5_countBetter_32 hl (by decide) rfl (fun ls hl => ?_)
          refine lv_aload_n hx hb dX5_countBetter_34 rfl (lv_at hl 3 rfl) ?_
          refine q_get (v := .ref (ad 32)) hx hb hown hE inT_X5 hP 0 rfl rfl 6 (by decide) w_218 rfl dX5_countBetter_35 ?_
          refine lv_iload_n hx hb dX5_countBetter_38 rfl (lv_at hl 1 rfl) ?_
          refine q_iald (f := S 32) (i := i) hx hb hE hP 32 rfl (by omega) (Nat.le_of_ble_eq_true rfl) dX5_countBetter_39 ?_
          refine lv_aload_n hx hb dX5_countBetter_40 rfl (lv_at hl 3 rfl) ?_
          refine q_get (v := .ref (ad 32)) hx hb hown hE inT_X5 hP 0 rfl rfl 6 (by decide) w_218 rfl dX5_countBetter_41 ?_
          refine lv_iload_n hx hb dX5_countBetter_44 rfl (lv_at hl 4 rfl) ?_
          refine q_iald (f := S 32) (i := t) hx hb hE hP 32 rfl (by omega) (Nat.le_of_ble_eq_true rfl) dX5_countBetter_45 ?_
          refine lv_icmp_ne (tgt := 68) hx hb dX5_countBetter_46 (by decide) (fun c_3 => ?_) (fun c_3 => ?_)
          · skip
            refine lv_iconst (v := 0) hx hb dX5_countBetter_68 (by decide) ?_
            refine lv_istore (lv' := [(5, .int 0), (4, .int 0), (3, .int (nI i)), (2, .int (nI (p_better S t i))), (0, .ref (ad 0)), (1, .int (nI t))]) hx hb dX5_countBetter_69 hl (by decide) rfl (fun ls hl => ?_)
            refine lv_iload hx hb dX5_countBetter_71 (lv_at hl 1 rfl) ?_
            refine lv_if_ne (tgt := 81) hx hb dX5_countBetter_73 (by decide) (fun c_4 => ?_) (fun c_4 => ?_)
            · skip
              exact absurd c_4 (by decide)
            · skip
              refine lv_iload hx hb dX5_countBetter_76 (lv_at hl 0 rfl) ?_
              refine lv_if_eq (tgt := 84) hx hb dX5_countBetter_78 (by decide) (fun c_5 => ?_) (fun c_5 => ?_)
              · skip
                refine lv_iinc (v := nI (i + 1)) (lv' := [(3, .int (nI (i + 1))), (5, .int 0), (4, .int 0), (2, .int (nI (p_better S t i))), (0, .ref (ad 0)), (1, .int (nI t))]) hx hb dX5_countBetter_84 hl (k := 2) rfl (nI_1 i) (by decide) rfl (fun ls hl => ?_)
                refine lv_goto (tgt := 4) hx hb dX5_countBetter_87 (by decide) ?_
                refine ih_4 (i + 1) (by omega) (by omega)  ls ?_
                rw [show p_better S t (i + 1) = p_better S t i from by first | (simp only [bI, p_better, c_1, c_2, c_3, ↓reduceIte]; done) | (simp [bI, p_better, c_1, c_2, c_3]; done) | (simp_all [bI, p_better]; done)]
                exact lv_sub hl [0, 3, 4, 5] rfl
              · skip
                exact absurd c_5 (by decide)
          · skip
            refine lv_aload_n hx hb dX5_countBetter_49 rfl (lv_at hl 3 rfl) ?_
            refine q_get (v := .ref (ad 33)) hx hb hown hE inT_X5 hP 0 rfl rfl 7 (by decide) w_219 rfl dX5_countBetter_50 ?_
            refine lv_iload_n hx hb dX5_countBetter_53 rfl (lv_at hl 1 rfl) ?_
            refine q_iald (f := S 33) (i := i) hx hb hE hP 33 rfl (by omega) (Nat.le_of_ble_eq_true rfl) dX5_countBetter_54 ?_
            refine lv_aload_n hx hb dX5_countBetter_55 rfl (lv_at hl 3 rfl) ?_
            refine q_get (v := .ref (ad 33)) hx hb hown hE inT_X5 hP 0 rfl rfl 7 (by decide) w_219 rfl dX5_countBetter_56 ?_
            refine lv_iload_n hx hb dX5_countBetter_59 rfl (lv_at hl 4 rfl) ?_
            refine q_iald (f := S 33) (i := t) hx hb hE hP 33 rfl (by omega) (Nat.le_of_ble_eq_true rfl) dX5_countBetter_60 ?_
            refine lv_icmp_ge (tgt := 68) hx hb dX5_countBetter_61 (by decide) (fun c_6 => ?_) (fun c_6 => ?_)
            · skip
              refine lv_iconst (v := 0) hx hb dX5_countBetter_68 (by decide) ?_
              refine lv_istore (lv' := [(5, .int 0), (4, .int 0), (3, .int (nI i)), (2, .int (nI (p_better S t i))), (0, .ref (ad 0)), (1, .int (nI t))]) hx hb dX5_countBetter_69 hl (by decide) rfl (fun ls hl => ?_)
              refine lv_iload hx hb dX5_countBetter_71 (lv_at hl 1 rfl) ?_
              refine lv_if_ne (tgt := 81) hx hb dX5_countBetter_73 (by decide) (fun c_7 => ?_) (fun c_7 => ?_)
              · skip
                exact absurd c_7 (by decide)
              · skip
                refine lv_iload hx hb dX5_countBetter_76 (lv_at hl 0 rfl) ?_
                refine lv_if_eq (tgt := 84) hx hb dX5_countBetter_78 (by decide) (fun c_8 => ?_) (fun c_8 => ?_)
                · skip
                  refine lv_iinc (v := nI (i + 1)) (lv' := [(3, .int (nI (i + 1))), (5, .int 0), (4, .int 0), (2, .int (nI (p_better S t i))), (0, .ref (ad 0)), (1, .int (nI t))]) hx hb dX5_countBetter_84 hl (k := 2) rfl (nI_1 i) (by decide) rfl (fun ls hl => ?_)
                  refine lv_goto (tgt := 4) hx hb dX5_countBetter_87 (by decide) ?_
                  refine ih_4 (i + 1) (by omega) (by omega)  ls ?_
                  rw [show p_better S t (i + 1) = p_better S t i from by first | (simp only [bI, p_better, c_1, c_2, c_3, c_6, ↓reduceIte]; done) | (simp [bI, p_better, c_1, c_2, c_3, c_6]; done) | (simp_all [bI, p_better]; done)]
                  exact lv_sub hl [0, 3, 4, 5] rfl
                · skip
                  exact absurd c_8 (by decide)
            · skip
              refine lv_iconst (v := 1) hx hb dX5_countBetter_64 (by decide) ?_
              refine lv_goto (tgt := 69) hx hb dX5_countBetter_65 (by decide) ?_
              refine lv_istore (lv' := [(5, .int 1), (4, .int 0), (3, .int (nI i)), (2, .int (nI (p_better S t i))), (0, .ref (ad 0)), (1, .int (nI t))]) hx hb dX5_countBetter_69 hl (by decide) rfl (fun ls hl => ?_)
              refine lv_iload hx hb dX5_countBetter_71 (lv_at hl 1 rfl) ?_
              refine lv_if_ne (tgt := 81) hx hb dX5_countBetter_73 (by decide) (fun c_9 => ?_) (fun c_9 => ?_)
              · skip
                exact absurd c_9 (by decide)
              · skip
                refine lv_iload hx hb dX5_countBetter_76 (lv_at hl 0 rfl) ?_
                refine lv_if_eq (tgt := 84) hx hb dX5_countBetter_78 (by decide) (fun c_10 => ?_) (fun c_10 => ?_)
                · skip
                  exact absurd c_10 (by decide)
                · skip
                  refine lv_iinc (v := nI ((p_better S t i) + 1)) (lv' := [(2, .int (nI ((p_better S t i) + 1))), (5, .int 1), (4, .int 0), (3, .int (nI i)), (0, .ref (ad 0)), (1, .int (nI t))]) hx hb dX5_countBetter_81 hl (k := 3) rfl (nI_1 (p_better S t i)) (by decide) rfl (fun ls hl => ?_)
                  refine lv_iinc (v := nI (i + 1)) (lv' := [(3, .int (nI (i + 1))), (2, .int (nI ((p_better S t i) + 1))), (5, .int 1), (4, .int 0), (0, .ref (ad 0)), (1, .int (nI t))]) hx hb dX5_countBetter_84 hl (k := 3) rfl (nI_1 i) (by decide) rfl (fun ls hl => ?_)
                  refine lv_goto (tgt := 4) hx hb dX5_countBetter_87 (by decide) ?_
                  refine ih_4 (i + 1) (by omega) (by omega)  ls ?_
                  rw [show p_better S t (i + 1) = (p_better S t i) + 1 from by first | (simp only [bI, p_better, c_1, c_2, c_3, c_6, ↓reduceIte]; done) | (simp [bI, p_better, c_1, c_2, c_3, c_6]; done) | (simp_all [bI, p_better]; done)]
                  exact lv_sub hl [0, 1, 4, 5] rfl
        · skip
          refine lv_iconst (v := 1) hx hb dX5_countBetter_27 (by decide) ?_
          refine lv_goto (tgt := 32) hx hb dX5_countBetter_28 (by decide) ?_
          refine lv_istore (lv' := [(4, .int 1), (3, .int (nI i)), (2, .int (nI (p_better S t i))), (0, .ref (ad 0)), (1, .int (nI t))]) hx hb dX5_countBetter_32 hl (by decide) rfl (fun ls hl => ?_)
          refine lv_aload_n hx hb dX5_countBetter_34 rfl (lv_at hl 3 rfl) ?_
          refine q_get (v := .ref (ad 32)) hx hb hown hE inT_X5 hP 0 rfl rfl 6 (by decide) w_218 rfl dX5_countBetter_35 ?_
          refine lv_iload_n hx hb dX5_countBetter_38 rfl (lv_at hl 1 rfl) ?_
          refine q_iald (f := S 32) (i := i) hx hb hE hP 32 rfl (by omega) (Nat.le_of_ble_eq_true rfl) dX5_countBetter_39 ?_
          refine lv_aload_n hx hb dX5_countBetter_40 rfl (lv_at hl 3 rfl) ?_
          refine q_get (v := .ref (ad 32)) hx hb hown hE inT_X5 hP 0 rfl rfl 6 (by decide) w_218 rfl dX5_countBetter_41 ?_
          refine lv_iload_n hx hb dX5_countBetter_44 rfl (lv_at hl 4 rfl) ?_
          refine q_iald (f := S 32) (i := t) hx hb hE hP 32 rfl (by omega) (Nat.le_of_ble_eq_true rfl) dX5_countBetter_45 ?_
          refine lv_icmp_ne (tgt := 68) hx hb dX5_countBetter_46 (by decide) (fun c_11 => ?_) (fun c_11 => ?_)
          · skip
            refine lv_iconst (v := 0) hx hb dX5_countBetter_68 (by decide) ?_
            refine lv_istore (lv' := [(5, .int 0), (4, .int 1), (3, .int (nI i)), (2, .int (nI (p_better S t i))), (0, .ref (ad 0)), (1, .int (nI t))]) hx hb dX5_countBetter_69 hl (by decide) rfl (fun ls hl => ?_)
            refine lv_iload hx hb dX5_countBetter_71 (lv_at hl 1 rfl) ?_
            refine lv_if_ne (tgt := 81) hx hb dX5_countBetter_73 (by decide) (fun c_12 => ?_) (fun c_12 => ?_)
            · skip
              refine lv_iinc (v := nI ((p_better S t i) + 1)) (lv' := [(2, .int (nI ((p_better S t i) + 1))), (5, .int 0), (4, .int 1), (3, .int (nI i)), (0, .ref (ad 0)), (1, .int (nI t))]) hx hb dX5_countBetter_81 hl (k := 3) rfl (nI_1 (p_better S t i)) (by decide) rfl (fun ls hl => ?_)
              refine lv_iinc (v := nI (i + 1)) (lv' := [(3, .int (nI (i + 1))), (2, .int (nI ((p_better S t i) + 1))), (5, .int 0), (4, .int 1), (0, .ref (ad 0)), (1, .int (nI t))]) hx hb dX5_countBetter_84 hl (k := 3) rfl (nI_1 i) (by decide) rfl (fun ls hl => ?_)
              refine lv_goto (tgt := 4) hx hb dX5_countBetter_87 (by decide) ?_
              refine ih_4 (i + 1) (by omega) (by omega)  ls ?_
              rw [show p_better S t (i + 1) = (p_better S t i) + 1 from by first | (simp only [bI, p_better, c_1, c_2, c_11, ↓reduceIte]; done) | (simp [bI, p_better, c_1, c_2, c_11]; done) | (simp_all [bI, p_better]; done)]
              exact lv_sub hl [0, 1, 4, 5] rfl
            · skip
              exact absurd c_12 (by decide)
          · skip
            refine lv_aload_n hx hb dX5_countBetter_49 rfl (lv_at hl 3 rfl) ?_
            refine q_get (v := .ref (ad 33)) hx hb hown hE inT_X5 hP 0 rfl rfl 7 (by decide) w_219 rfl dX5_countBetter_50 ?_
            refine lv_iload_n hx hb dX5_countBetter_53 rfl (lv_at hl 1 rfl) ?_
            refine q_iald (f := S 33) (i := i) hx hb hE hP 33 rfl (by omega) (Nat.le_of_ble_eq_true rfl) dX5_countBetter_54 ?_
            refine lv_aload_n hx hb dX5_countBetter_55 rfl (lv_at hl 3 rfl) ?_
            refine q_get (v := .ref (ad 33)) hx hb hown hE inT_X5 hP 0 rfl rfl 7 (by decide) w_219 rfl dX5_countBetter_56 ?_
            refine lv_iload_n hx hb dX5_countBetter_59 rfl (lv_at hl 4 rfl) ?_
            refine q_iald (f := S 33) (i := t) hx hb hE hP 33 rfl (by omega) (Nat.le_of_ble_eq_true rfl) dX5_countBetter_60 ?_
            refine lv_icmp_ge (tgt := 68) hx hb dX5_countBetter_61 (by decide) (fun c_13 => ?_) (fun c_13 => ?_)
            · skip
              refine lv_iconst (v := 0) hx hb dX5_countBetter_68 (by decide) ?_
              refine lv_istore (lv' := [(5, .int 0), (4, .int 1), (3, .int (nI i)), (2, .int (nI (p_better S t i))), (0, .ref (ad 0)), (1, .int (nI t))]) hx hb dX5_countBetter_69 hl (by decide) rfl (fun ls hl => ?_)
              refine lv_iload hx hb dX5_countBetter_71 (lv_at hl 1 rfl) ?_
              refine lv_if_ne (tgt := 81) hx hb dX5_countBetter_73 (by decide) (fun c_14 => ?_) (fun c_14 => ?_)
              · skip
                refine lv_iinc (v := nI ((p_better S t i) + 1)) (lv' := [(2, .int (nI ((p_better S t i) + 1))), (5, .int 0), (4, .int 1), (3, .int (nI i)), (0, .ref (ad 0)), (1, .int (nI t))]) hx hb dX5_countBetter_81 hl (k := 3) rfl (nI_1 (p_better S t i)) (by decide) rfl (fun ls hl => ?_)
                refine lv_iinc (v := nI (i + 1)) (lv' := [(3, .int (nI (i + 1))), (2, .int (nI ((p_better S t i) + 1))), (5, .int 0), (4, .int 1), (0, .ref (ad 0)), (1, .int (nI t))]) hx hb dX5_countBetter_84 hl (k := 3) rfl (nI_1 i) (by decide) rfl (fun ls hl => ?_)
                refine lv_goto (tgt := 4) hx hb dX5_countBetter_87 (by decide) ?_
                refine ih_4 (i + 1) (by omega) (by omega)  ls ?_
                rw [show p_better S t (i + 1) = (p_better S t i) + 1 from by first | (simp only [bI, p_better, c_1, c_2, c_11, c_13, ↓reduceIte]; done) | (simp [bI, p_better, c_1, c_2, c_11, c_13]; done) | (simp_all [bI, p_better]; done)]
                exact lv_sub hl [0, 1, 4, 5] rfl
              · skip
                exact absurd c_14 (by decide)
            · skip
              refine lv_iconst (v := 1) hx hb dX5_countBetter_64 (by decide) ?_
              refine lv_goto (tgt := 69) hx hb dX5_countBetter_65 (by decide) ?_
              refine lv_istore (lv' := [(5, .int 1), (4, .int 1), (3, .int (nI i)), (2, .int (nI (p_better S t i))), (0, .ref (ad 0)), (1, .int (nI t))]) hx hb dX5_countBetter_69 hl (by decide) rfl (fun ls hl => ?_)
              refine lv_iload hx hb dX5_countBetter_71 (lv_at hl 1 rfl) ?_
              refine lv_if_ne (tgt := 81) hx hb dX5_countBetter_73 (by decide) (fun c_15 => ?_) (fun c_15 => ?_)
              · skip
                refine lv_iinc (v := nI ((p_better S t i) + 1)) (lv' := [(2, .int (nI ((p_better S t i) + 1))), (5, .int 1), (4, .int 1), (3, .int (nI i)), (0, .ref (ad 0)), (1, .int (nI t))]) hx hb dX5_countBetter_81 hl (k := 3) rfl (nI_1 (p_better S t i)) (by decide) rfl (fun ls hl => ?_)
                refine lv_iinc (v := nI (i + 1)) (lv' := [(3, .int (nI (i + 1))), (2, .int (nI ((p_better S t i) + 1))), (5, .int 1), (4, .int 1), (0, .ref (ad 0)), (1, .int (nI t))]) hx hb dX5_countBetter_84 hl (k := 3) rfl (nI_1 i) (by decide) rfl (fun ls hl => ?_)
                refine lv_goto (tgt := 4) hx hb dX5_countBetter_87 (by decide) ?_
                refine ih_4 (i + 1) (by omega) (by omega)  ls ?_
                rw [show p_better S t (i + 1) = (p_better S t i) + 1 from by first | (simp only [bI, p_better, c_1, c_2, c_11, c_13, ↓reduceIte]; done) | (simp [bI, p_better, c_1, c_2, c_11, c_13]; done) | (simp_all [bI, p_better]; done)]
                exact lv_sub hl [0, 1, 4, 5] rfl
              · skip
                exact absurd c_15 (by decide)
  refine hloop_4 (cT S + 1) 0 (by omega) (by omega)  ls ?_
  rw [show p_better S t 0 = 0 from by first | rfl | (first | (simp only [bI, p_better, ↓reduceIte]; done) | (simp [bI, p_better]; done) | (simp_all [bI, p_better]; done))]
  exact lv_sub hl [0, 1, 2, 3] rfl

theorem dX5_countAlike_0 : decode cX5_countAlike 0 = .ok (.iconst 0, 1) := by decide +kernel
theorem dX5_countAlike_1 : decode cX5_countAlike 1 = .ok (.istore_n 3, 1) := by decide +kernel
theorem dX5_countAlike_2 : decode cX5_countAlike 2 = .ok (.iconst 0, 1) := by decide +kernel
theorem dX5_countAlike_3 : decode cX5_countAlike 3 = .ok (.istore 4, 2) := by decide +kernel
theorem dX5_countAlike_5 : decode cX5_countAlike 5 = .ok (.iload 4, 2) := by decide +kernel
theorem dX5_countAlike_7 : decode cX5_countAlike 7 = .ok (.iload_n 2, 1) := by decide +kernel
theorem dX5_countAlike_8 : decode cX5_countAlike 8 = .ok (.if_icmp .ge 44, 3) := by decide +kernel
theorem dX5_countAlike_11 : decode cX5_countAlike 11 = .ok (.aload_n 0, 1) := by decide +kernel
theorem dX5_countAlike_12 : decode cX5_countAlike 12 = .ok (.getfield 47, 3) := by decide +kernel
theorem dX5_countAlike_15 : decode cX5_countAlike 15 = .ok (.iload 4, 2) := by decide +kernel
theorem dX5_countAlike_17 : decode cX5_countAlike 17 = .ok (.iaload, 1) := by decide +kernel
theorem dX5_countAlike_18 : decode cX5_countAlike 18 = .ok (.aload_n 0, 1) := by decide +kernel
theorem dX5_countAlike_19 : decode cX5_countAlike 19 = .ok (.getfield 47, 3) := by decide +kernel
theorem dX5_countAlike_22 : decode cX5_countAlike 22 = .ok (.iload_n 1, 1) := by decide +kernel
theorem dX5_countAlike_23 : decode cX5_countAlike 23 = .ok (.iaload, 1) := by decide +kernel
theorem dX5_countAlike_24 : decode cX5_countAlike 24 = .ok (.if_icmp .ne 22, 3) := by decide +kernel
theorem dX5_countAlike_27 : decode cX5_countAlike 27 = .ok (.aload_n 0, 1) := by decide +kernel
theorem dX5_countAlike_28 : decode cX5_countAlike 28 = .ok (.getfield 51, 3) := by decide +kernel
theorem dX5_countAlike_31 : decode cX5_countAlike 31 = .ok (.iload 4, 2) := by decide +kernel
theorem dX5_countAlike_33 : decode cX5_countAlike 33 = .ok (.iaload, 1) := by decide +kernel
theorem dX5_countAlike_34 : decode cX5_countAlike 34 = .ok (.aload_n 0, 1) := by decide +kernel
theorem dX5_countAlike_35 : decode cX5_countAlike 35 = .ok (.getfield 51, 3) := by decide +kernel
theorem dX5_countAlike_38 : decode cX5_countAlike 38 = .ok (.iload_n 1, 1) := by decide +kernel
theorem dX5_countAlike_39 : decode cX5_countAlike 39 = .ok (.iaload, 1) := by decide +kernel
theorem dX5_countAlike_40 : decode cX5_countAlike 40 = .ok (.if_icmp .ne 6, 3) := by decide +kernel
theorem dX5_countAlike_43 : decode cX5_countAlike 43 = .ok (.iinc 3 1, 3) := by decide +kernel
theorem dX5_countAlike_46 : decode cX5_countAlike 46 = .ok (.iinc 4 1, 3) := by decide +kernel
theorem dX5_countAlike_49 : decode cX5_countAlike 49 = .ok (.goto (-44), 3) := by decide +kernel
theorem dX5_countAlike_52 : decode cX5_countAlike 52 = .ok (.iload_n 3, 1) := by decide +kernel
theorem dX5_countAlike_53 : decode cX5_countAlike 53 = .ok (.ireturn, 1) := by decide +kernel
set_option maxHeartbeats 4000000 in
set_option maxRecDepth 100000 in
theorem c_X5_countAlike (l : Launch) (D : va_G) (cI cZ cL : ClassId) (ad : Nat → Nat) (S : Mem) (t : Nat) (u : Nat) (ht : t < 8) (hu : u ≤ 8) : RD l D cI cZ cL yX5_countAlike cX5_countAlike 5 (some .int) 0 [.ref (ad 0), .int (nI t), .int (nI u)] (wC ad cI S) (some (.int (nI (p_alike S t u)))) := by
  refine RD.of (by decide) (Nat.le_of_ble_eq_true rfl) ?_
  intro p e s m args below meth c ls hx hb hr hml hown hlk hE hP hl
  have hl : lv_has ls 5 [(0, .ref (ad 0)), (1, .int (nI t)), (2, .int (nI u))] := hl
  refine lv_iconst (v := 0) hx hb dX5_countAlike_0 (by decide) ?_
  refine lv_istore_n (lv' := [(3, .int 0), (0, .ref (ad 0)), (1, .int (nI t)), (2, .int (nI u))]) hx hb dX5_countAlike_1 rfl hl (by decide) rfl (fun ls hl => ?_)
  refine lv_iconst (v := 0) hx hb dX5_countAlike_2 (by decide) ?_
  refine lv_istore (lv' := [(4, .int 0), (3, .int 0), (0, .ref (ad 0)), (1, .int (nI t)), (2, .int (nI u))]) hx hb dX5_countAlike_3 hl (by decide) rfl (fun ls hl => ?_)
  have hloop_5 : ∀ (n i : Nat), i ≤ u → u < i + n → ∀ ls : Array Slot, lv_has ls 5 [(4, .int (nI i)), (3, .int (nI (p_alike S t i))), (0, .ref (ad 0)), (1, .int (nI t)), (2, .int (nI u))] → W p l e (rm 0 0 0) s m args below meth c s.heap [] 0 0 (MQ below (Qrd (some (.int (nI (p_alike S t u))))) args s 0 0 q_no) (F0 m 5 ls []) := by
    intro n
    induction n with
    | zero => intro i h1 h2; exact absurd h2 (by omega)
    | succ n ih_5 =>
      intro i hi_5 hin_5  ls hl
      refine lv_iload hx hb dX5_countAlike_5 (lv_at hl 0 rfl) ?_
      refine lv_iload_n hx hb dX5_countAlike_7 rfl (lv_at hl 4 rfl) ?_
      refine lv_icmp_ge (tgt := 52) hx hb dX5_countAlike_8 (by decide) (fun c_1 => ?_) (fun c_1 => ?_)
      · skip
        have c_1 : u ≤ i := n_le (a := u) (b := i) (by omega) (by omega) c_1
        have hend_5 : u = i := by omega
        subst hend_5
        refine lv_iload_n hx hb dX5_countAlike_52 rfl (lv_at hl 1 rfl) ?_
        exact e_ret hx hb hr hlk rfl dX5_countAlike_53
      · skip
        have c_1 : i < u := n_nle (a := u) (b := i) (by omega) (by omega) c_1
        refine lv_aload_n hx hb dX5_countAlike_11 rfl (lv_at hl 2 rfl) ?_
        refine q_get (v := .ref (ad 32)) hx hb hown hE inT_X5 hP 0 rfl rfl 6 (by decide) w_218 rfl dX5_countAlike_12 ?_
        refine lv_iload hx hb dX5_countAlike_15 (lv_at hl 0 rfl) ?_
        refine q_iald (f := S 32) (i := i) hx hb hE hP 32 rfl (by omega) (Nat.le_of_ble_eq_true rfl) dX5_countAlike_17 ?_
        refine lv_aload_n hx hb dX5_countAlike_18 rfl (lv_at hl 2 rfl) ?_
        refine q_get (v := .ref (ad 32)) hx hb hown hE inT_X5 hP 0 rfl rfl 6 (by decide) w_218 rfl dX5_countAlike_19 ?_
        refine lv_iload_n hx hb dX5_countAlike_22 rfl (lv_at hl 3 rfl) ?_
        refine q_iald (f := S 32) (i := t) hx hb hE hP 32 rfl (by omega) (Nat.le_of_ble_eq_true rfl) dX5_countAlike_23 ?_
        refine lv_icmp_ne (tgt := 46) hx hb dX5_countAlike_24 (by decide) (fun c_2 => ?_) (fun c_2 => ?_)
        · skip
          refine lv_iinc (v := nI (i + 1)) (lv' := [(4, .int (nI (i + 1))), (3, .int (nI (p_alike S t i))), (0, .ref (ad 0)), (1, .int (nI t)), (2, .int (nI u))]) hx hb dX5_countAlike_46 hl (k := 0) rfl (nI_1 i) (by decide) rfl (fun ls hl => ?_)
          refine lv_goto (tgt := 5) hx hb dX5_countAlike_49 (by decide) ?_
          refine ih_5 (i + 1) (by omega) (by omega)  ls ?_
          rw [show p_alike S t (i + 1) = p_alike S t i from by first | (simp only [bI, p_alike, c_1, c_2, ↓reduceIte]; done) | (simp [bI, p_alike, c_1, c_2]; done) | (simp_all [bI, p_alike]; done)]
          exact lv_sub hl [0, 1, 2, 3, 4] rfl
        · skip
          refine lv_aload_n hx hb dX5_countAlike_27 rfl (lv_at hl 2 rfl) ?_
          refine q_get (v := .ref (ad 33)) hx hb hown hE inT_X5 hP 0 rfl rfl 7 (by decide) w_219 rfl dX5_countAlike_28 ?_
          refine lv_iload hx hb dX5_countAlike_31 (lv_at hl 0 rfl) ?_
          refine q_iald (f := S 33) (i := i) hx hb hE hP 33 rfl (by omega) (Nat.le_of_ble_eq_true rfl) dX5_countAlike_33 ?_
          refine lv_aload_n hx hb dX5_countAlike_34 rfl (lv_at hl 2 rfl) ?_
          refine q_get (v := .ref (ad 33)) hx hb hown hE inT_X5 hP 0 rfl rfl 7 (by decide) w_219 rfl dX5_countAlike_35 ?_
          refine lv_iload_n hx hb dX5_countAlike_38 rfl (lv_at hl 3 rfl) ?_
          refine q_iald (f := S 33) (i := t) hx hb hE hP 33 rfl (by omega) (Nat.le_of_ble_eq_true rfl) dX5_countAlike_39 ?_
          refine lv_icmp_ne (tgt := 46) hx hb dX5_countAlike_40 (by decide) (fun c_3 => ?_) (fun c_3 => ?_)
          · skip
            refine lv_iinc (v := nI (i + 1)) (lv' := [(4, .int (nI (i + 1))), (3, .int (nI (p_alike S t i))), (0, .ref (ad 0)), (1, .int (nI t)), (2, .int (nI u))]) hx hb dX5_countAlike_46 hl (k := 0) rfl (nI_1 i) (by decide) rfl (fun ls hl => ?_)
            refine lv_goto (tgt := 5) hx hb dX5_countAlike_49 (by decide) ?_
            refine ih_5 (i + 1) (by omega) (by omega)  ls ?_
            rw [show p_alike S t (i + 1) = p_alike S t i from by first | (simp only [bI, p_alike, c_1, c_2, c_3, ↓reduceIte]; done) | (simp [bI, p_alike, c_1, c_2, c_3]; done) | (simp_all [bI, p_alike]; done)]
            exact lv_sub hl [0, 1, 2, 3, 4] rfl
          · skip
            refine lv_iinc (v := nI ((p_alike S t i) + 1)) (lv' := [(3, .int (nI ((p_alike S t i) + 1))), (4, .int (nI i)), (0, .ref (ad 0)), (1, .int (nI t)), (2, .int (nI u))]) hx hb dX5_countAlike_43 hl (k := 1) rfl (nI_1 (p_alike S t i)) (by decide) rfl (fun ls hl => ?_)
            refine lv_iinc (v := nI (i + 1)) (lv' := [(4, .int (nI (i + 1))), (3, .int (nI ((p_alike S t i) + 1))), (0, .ref (ad 0)), (1, .int (nI t)), (2, .int (nI u))]) hx hb dX5_countAlike_46 hl (k := 1) rfl (nI_1 i) (by decide) rfl (fun ls hl => ?_)
            refine lv_goto (tgt := 5) hx hb dX5_countAlike_49 (by decide) ?_
            refine ih_5 (i + 1) (by omega) (by omega)  ls ?_
            rw [show p_alike S t (i + 1) = (p_alike S t i) + 1 from by first | (simp only [bI, p_alike, c_1, c_2, c_3, ↓reduceIte]; done) | (simp [bI, p_alike, c_1, c_2, c_3]; done) | (simp_all [bI, p_alike]; done)]
            exact lv_sub hl [0, 1, 2, 3, 4] rfl
  refine hloop_5 (u + 1) 0 (by omega) (by omega)  ls ?_
  rw [show p_alike S t 0 = 0 from by first | rfl | (first | (simp only [bI, p_alike, ↓reduceIte]; done) | (simp [bI, p_alike]; done) | (simp_all [bI, p_alike]; done))]
  exact lv_sub hl [0, 1, 2, 3, 4] rfl

theorem dX5_sumPrizes_0 : decode cX5_sumPrizes 0 = .ok (.iconst 0, 1) := by decide +kernel
theorem dX5_sumPrizes_1 : decode cX5_sumPrizes 1 = .ok (.istore_n 3, 1) := by decide +kernel
theorem dX5_sumPrizes_2 : decode cX5_sumPrizes 2 = .ok (.iload_n 1, 1) := by decide +kernel
theorem dX5_sumPrizes_3 : decode cX5_sumPrizes 3 = .ok (.istore 4, 2) := by decide +kernel
theorem dX5_sumPrizes_5 : decode cX5_sumPrizes 5 = .ok (.iload 4, 2) := by decide +kernel
theorem dX5_sumPrizes_7 : decode cX5_sumPrizes 7 = .ok (.iload_n 1, 1) := by decide +kernel
theorem dX5_sumPrizes_8 : decode cX5_sumPrizes 8 = .ok (.iload_n 2, 1) := by decide +kernel
theorem dX5_sumPrizes_9 : decode cX5_sumPrizes 9 = .ok (.iadd, 1) := by decide +kernel
theorem dX5_sumPrizes_10 : decode cX5_sumPrizes 10 = .ok (.if_icmp .ge 26, 3) := by decide +kernel
theorem dX5_sumPrizes_13 : decode cX5_sumPrizes 13 = .ok (.iload 4, 2) := by decide +kernel
theorem dX5_sumPrizes_15 : decode cX5_sumPrizes 15 = .ok (.bipush 8, 2) := by decide +kernel
theorem dX5_sumPrizes_17 : decode cX5_sumPrizes 17 = .ok (.if_icmp .ge 19, 3) := by decide +kernel
theorem dX5_sumPrizes_20 : decode cX5_sumPrizes 20 = .ok (.iload_n 3, 1) := by decide +kernel
theorem dX5_sumPrizes_21 : decode cX5_sumPrizes 21 = .ok (.aload_n 0, 1) := by decide +kernel
theorem dX5_sumPrizes_22 : decode cX5_sumPrizes 22 = .ok (.getfield 54, 3) := by decide +kernel
theorem dX5_sumPrizes_25 : decode cX5_sumPrizes 25 = .ok (.iload 4, 2) := by decide +kernel
theorem dX5_sumPrizes_27 : decode cX5_sumPrizes 27 = .ok (.iaload, 1) := by decide +kernel
theorem dX5_sumPrizes_28 : decode cX5_sumPrizes 28 = .ok (.iadd, 1) := by decide +kernel
theorem dX5_sumPrizes_29 : decode cX5_sumPrizes 29 = .ok (.istore_n 3, 1) := by decide +kernel
theorem dX5_sumPrizes_30 : decode cX5_sumPrizes 30 = .ok (.iinc 4 1, 3) := by decide +kernel
theorem dX5_sumPrizes_33 : decode cX5_sumPrizes 33 = .ok (.goto (-28), 3) := by decide +kernel
theorem dX5_sumPrizes_36 : decode cX5_sumPrizes 36 = .ok (.iload_n 3, 1) := by decide +kernel
theorem dX5_sumPrizes_37 : decode cX5_sumPrizes 37 = .ok (.ireturn, 1) := by decide +kernel
set_option maxHeartbeats 4000000 in
set_option maxRecDepth 100000 in
theorem c_X5_sumPrizes (l : Launch) (D : va_G) (cI cZ cL : ClassId) (ad : Nat → Nat) (S : Mem) (f : Nat) (u : Nat) (hfu : f + u ≤ 8) : RD l D cI cZ cL yX5_sumPrizes cX5_sumPrizes 5 (some .int) 0 [.ref (ad 0), .int (nI f), .int (nI u)] (wC ad cI S) (some (.int (p_prz S f u))) := by
  refine RD.of (by decide) (Nat.le_of_ble_eq_true rfl) ?_
  intro p e s m args below meth c ls hx hb hr hml hown hlk hE hP hl
  have hl : lv_has ls 5 [(0, .ref (ad 0)), (1, .int (nI f)), (2, .int (nI u))] := hl
  refine lv_iconst (v := 0) hx hb dX5_sumPrizes_0 (by decide) ?_
  refine lv_istore_n (lv' := [(3, .int 0), (0, .ref (ad 0)), (1, .int (nI f)), (2, .int (nI u))]) hx hb dX5_sumPrizes_1 rfl hl (by decide) rfl (fun ls hl => ?_)
  refine lv_iload_n hx hb dX5_sumPrizes_2 rfl (lv_at hl 2 rfl) ?_
  refine lv_istore (lv' := [(4, .int (nI f)), (3, .int 0), (0, .ref (ad 0)), (1, .int (nI f)), (2, .int (nI u))]) hx hb dX5_sumPrizes_3 hl (by decide) rfl (fun ls hl => ?_)
  have hloop_5 : ∀ (n i : Nat), i ≤ u → u < i + n → ∀ ls : Array Slot, lv_has ls 5 [(4, .int (nI (f + i))), (3, .int (p_prz S f i)), (0, .ref (ad 0)), (1, .int (nI f)), (2, .int (nI u))] → W p l e (rm 0 0 0) s m args below meth c s.heap [] 0 0 (MQ below (Qrd (some (.int (p_prz S f u)))) args s 0 0 q_no) (F0 m 5 ls []) := by
    intro n
    induction n with
    | zero => intro i h1 h2; exact absurd h2 (by omega)
    | succ n ih_5 =>
      intro i hi_5 hin_5  ls hl
      refine lv_iload hx hb dX5_sumPrizes_5 (lv_at hl 0 rfl) ?_
      refine lv_iload_n hx hb dX5_sumPrizes_7 rfl (lv_at hl 3 rfl) ?_
      refine lv_iload_n hx hb dX5_sumPrizes_8 rfl (lv_at hl 4 rfl) ?_
      refine lv_iadd hx hb dX5_sumPrizes_9 ?_
      refine q_top (y := nI (f + u)) (nI_add f u) ?_
      refine lv_icmp_ge (tgt := 36) hx hb dX5_sumPrizes_10 (by decide) (fun c_1 => ?_) (fun c_1 => ?_)
      · skip
        have c_1 : (f + u) ≤ (f + i) := n_le (a := f + u) (b := f + i) (by omega) (by omega) c_1
        have hend_5 : u = i := by omega
        subst hend_5
        refine lv_iload_n hx hb dX5_sumPrizes_36 rfl (lv_at hl 1 rfl) ?_
        exact e_ret hx hb hr hlk rfl dX5_sumPrizes_37
      · skip
        have c_1 : (f + i) < (f + u) := n_nle (a := f + u) (b := f + i) (by omega) (by omega) c_1
        refine lv_iload hx hb dX5_sumPrizes_13 (lv_at hl 0 rfl) ?_
        refine lv_bipush (v := 8) hx hb dX5_sumPrizes_15 (by decide) ?_
        refine lv_icmp_ge (tgt := 36) hx hb dX5_sumPrizes_17 (by decide) (fun c_2 => ?_) (fun c_2 => ?_)
        · skip
          have c_2 : 8 ≤ (f + i) := n_le (a := 8) (b := f + i) (by omega) (by omega) c_2
          exfalso; omega
        · skip
          have c_2 : (f + i) < 8 := n_nle (a := 8) (b := f + i) (by omega) (by omega) c_2
          refine lv_iload_n hx hb dX5_sumPrizes_20 rfl (lv_at hl 1 rfl) ?_
          refine lv_aload_n hx hb dX5_sumPrizes_21 rfl (lv_at hl 2 rfl) ?_
          refine q_get (v := .ref (ad 34)) hx hb hown hE inT_X5 hP 0 rfl rfl 8 (by decide) w_220 rfl dX5_sumPrizes_22 ?_
          refine lv_iload hx hb dX5_sumPrizes_25 (lv_at hl 0 rfl) ?_
          refine q_iald (f := S 34) (i := (f + i)) hx hb hE hP 34 rfl (by omega) (Nat.le_of_ble_eq_true rfl) dX5_sumPrizes_27 ?_
          refine lv_iadd hx hb dX5_sumPrizes_28 ?_
          refine lv_istore_n (lv' := [(3, .int ((p_prz S f i) + (S 34 (f + i)))), (4, .int (nI (f + i))), (0, .ref (ad 0)), (1, .int (nI f)), (2, .int (nI u))]) hx hb dX5_sumPrizes_29 rfl hl (by decide) rfl (fun ls hl => ?_)
          refine lv_iinc (v := nI ((f + i) + 1)) (lv' := [(4, .int (nI ((f + i) + 1))), (3, .int ((p_prz S f i) + (S 34 (f + i)))), (0, .ref (ad 0)), (1, .int (nI f)), (2, .int (nI u))]) hx hb dX5_sumPrizes_30 hl (k := 1) rfl (nI_1 (f + i)) (by decide) rfl (fun ls hl => ?_)
          refine lv_goto (tgt := 5) hx hb dX5_sumPrizes_33 (by decide) ?_
          refine ih_5 (i + 1) (by omega) (by omega)  ls ?_
          rw [show p_prz S f (i + 1) = (p_prz S f i) + (S 34 (f + i)) from by first | (simp only [bI, p_prz, c_1, c_2, ↓reduceIte]; done) | (simp [bI, p_prz, c_1, c_2]; done) | (simp_all [bI, p_prz]; done)]
          exact lv_sub hl [0, 1, 2, 3, 4] rfl
  refine hloop_5 (u + 1) 0 (by omega) (by omega)  ls ?_
  rw [show f + 0 = f from by first | rfl | (first | (simp only [bI, p_prz, ↓reduceIte]; done) | (simp [bI, p_prz]; done) | (simp_all [bI, p_prz]; done))]
  rw [show p_prz S f 0 = 0 from by first | rfl | (first | (simp only [bI, p_prz, ↓reduceIte]; done) | (simp [bI, p_prz]; done) | (simp_all [bI, p_prz]; done))]
  exact lv_sub hl [0, 1, 2, 3, 4] rfl
