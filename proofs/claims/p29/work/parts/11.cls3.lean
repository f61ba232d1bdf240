theorem dX5_requireTeam_0 : decode cX5_requireTeam 0 = .ok (.iload_n 1, 1) := by decide +kernel
theorem dX5_requireTeam_1 : decode cX5_requireTeam 1 = .ok (.ifCond .lt 11, 3) := by decide +kernel
theorem dX5_requireTeam_4 : decode cX5_requireTeam 4 = .ok (.iload_n 1, 1) := by decide +kernel
theorem dX5_requireTeam_5 : decode cX5_requireTeam 5 = .ok (.aload_n 0, 1) := by decide +kernel
theorem dX5_requireTeam_6 : decode cX5_requireTeam 6 = .ok (.getfield 115, 3) := by decide +kernel
theorem dX5_requireTeam_9 : decode cX5_requireTeam 9 = .ok (.if_icmp .lt 13, 3) := by decide +kernel
theorem dX5_requireTeam_22 : decode cX5_requireTeam 22 = .ok (.return_, 1) := by decide +kernel
set_option maxHeartbeats 4000000 in
set_option maxRecDepth 100000 in
theorem c_X5_requireTeam (l : Launch) (D : va_G) (cI cZ cL : ClassId) (ad : Nat → Nat) (S : Mem) (t : Nat) (hI : I0 S) (ht : t < cT S) : RD l D cI cZ cL yX5_requireTeam cX5_requireTeam 2 none 0 [.ref (ad 0), .int (nI t)] (wC ad cI S) none := by
  refine RD.of (by decide) (Nat.le_of_ble_eq_true rfl) ?_
  intro p e s m args below meth c ls hx hb hr hml hown hlk hE hP hl
  have hl : lv_has ls 2 [(0, .ref (ad 0)), (1, .int (nI t))] := hl
  have hT8 := hI.T8
  have hR16 := hI.R16
  have hN200 := hI.N200
  refine lv_iload_n hx hb dX5_requireTeam_0 rfl (lv_at hl 1 rfl) ?_
  refine lv_if_lt (tgt := 12) hx hb dX5_requireTeam_1 (by decide) (fun c_1 => ?_) (fun c_1 => ?_)
  · skip
    have c_1 : t < 0 := n_lt (a := t) (b := 0) (by omega) (by omega) c_1
    exfalso; omega
  · skip
    have c_1 : 0 ≤ t := n_nlt (a := t) (b := 0) (by omega) (by omega) c_1
    refine lv_iload_n hx hb dX5_requireTeam_4 rfl (lv_at hl 1 rfl) ?_
    refine lv_aload_n hx hb dX5_requireTeam_5 rfl (lv_at hl 0 rfl) ?_
    refine q_get (v := .int (S 0 9)) hx hb hown hE inT_X5 hP 0 rfl rfl 9 (by decide) w_221 rfl dX5_requireTeam_6 ?_
    refine q_top (y := nI (cT S)) (I0.T hI) ?_
    refine lv_icmp_lt (tgt := 22) hx hb dX5_requireTeam_9 (by decide) (fun c_2 => ?_) (fun c_2 => ?_)
    · skip
      have c_2 : t < (cT S) := n_lt (a := t) (b := cT S) (by omega) (by omega) c_2
      exact e_retv hx hb hr hlk dX5_requireTeam_22
    · skip
      have c_2 : (cT S) ≤ t := n_nlt (a := t) (b := cT S) (by omega) (by omega) c_2
      exfalso; omega

theorem dX5_requireRiddle_0 : decode cX5_requireRiddle 0 = .ok (.iload_n 1, 1) := by decide +kernel
theorem dX5_requireRiddle_1 : decode cX5_requireRiddle 1 = .ok (.ifCond .lt 14, 3) := by decide +kernel
theorem dX5_requireRiddle_4 : decode cX5_requireRiddle 4 = .ok (.iload_n 1, 1) := by decide +kernel
theorem dX5_requireRiddle_5 : decode cX5_requireRiddle 5 = .ok (.aload_n 0, 1) := by decide +kernel
theorem dX5_requireRiddle_6 : decode cX5_requireRiddle 6 = .ok (.getfield 10, 3) := by decide +kernel
theorem dX5_requireRiddle_9 : decode cX5_requireRiddle 9 = .ok (.getfield 76, 3) := by decide +kernel
theorem dX5_requireRiddle_12 : decode cX5_requireRiddle 12 = .ok (.if_icmp .lt 13, 3) := by decide +kernel
theorem dX5_requireRiddle_25 : decode cX5_requireRiddle 25 = .ok (.return_, 1) := by decide +kernel
set_option maxHeartbeats 4000000 in
set_option maxRecDepth 100000 in
theorem c_X5_requireRiddle (l : Launch) (D : va_G) (cI cZ cL : ClassId) (ad : Nat → Nat) (S : Mem) (r : Nat) (hI : I0 S) (hr : r < cR S) : RD l D cI cZ cL yX5_requireRiddle cX5_requireRiddle 2 none 0 [.ref (ad 0), .int (nI r)] (wC ad cI S) none := by
  refine RD.of (by decide) (Nat.le_of_ble_eq_true rfl) ?_
  intro p e s m args below meth c ls hx hb hr hml hown hlk hE hP hl
  have hl : lv_has ls 2 [(0, .ref (ad 0)), (1, .int (nI r))] := hl
  have hT8 := hI.T8
  have hR16 := hI.R16
  have hN200 := hI.N200
  refine lv_iload_n hx hb dX5_requireRiddle_0 rfl (lv_at hl 1 rfl) ?_
  refine lv_if_lt (tgt := 15) hx hb dX5_requireRiddle_1 (by decide) (fun c_1 => ?_) (fun c_1 => ?_)
  · skip
    have c_1 : r < 0 := n_lt (a := r) (b := 0) (by omega) (by omega) c_1
    exfalso; omega
  · skip
    have c_1 : 0 ≤ r := n_nlt (a := r) (b := 0) (by omega) (by omega) c_1
    refine lv_iload_n hx hb dX5_requireRiddle_4 rfl (lv_at hl 1 rfl) ?_
    refine lv_aload_n hx hb dX5_requireRiddle_5 rfl (lv_at hl 0 rfl) ?_
    refine q_get (v := .ref (ad 1)) hx hb hown hE inT_X5 hP 0 rfl rfl 0 (by decide) w_212 rfl dX5_requireRiddle_6 ?_
    refine q_getN (v := .int (S 1 6)) hx hb hown hE inT_X3 hP 1 rfl rfl 6 (by decide) w_104 rfl dX5_requireRiddle_9 ?_
    refine q_top (y := nI (cR S)) (I0.R hI) ?_
    refine lv_icmp_lt (tgt := 25) hx hb dX5_requireRiddle_12 (by decide) (fun c_2 => ?_) (fun c_2 => ?_)
    · skip
      have c_2 : r < (cR S) := n_lt (a := r) (b := cR S) (by omega) (by omega) c_2
      exact e_retv hx hb hr hlk dX5_requireRiddle_25
    · skip
      have c_2 : (cR S) ≤ r := n_nlt (a := r) (b := cR S) (by omega) (by omega) c_2
      exfalso; omega

theorem dX5_requireRange_0 : decode cX5_requireRange 0 = .ok (.iload_n 0, 1) := by decide +kernel
theorem dX5_requireRange_1 : decode cX5_requireRange 1 = .ok (.iload_n 1, 1) := by decide +kernel
theorem dX5_requireRange_2 : decode cX5_requireRange 2 = .ok (.if_icmp .lt 8, 3) := by decide +kernel
theorem dX5_requireRange_5 : decode cX5_requireRange 5 = .ok (.iload_n 0, 1) := by decide +kernel
theorem dX5_requireRange_6 : decode cX5_requireRange 6 = .ok (.iload_n 2, 1) := by decide +kernel
theorem dX5_requireRange_7 : decode cX5_requireRange 7 = .ok (.if_icmp .le 13, 3) := by decide +kernel
theorem dX5_requireRange_20 : decode cX5_requireRange 20 = .ok (.return_, 1) := by decide +kernel
set_option maxHeartbeats 4000000 in
set_option maxRecDepth 100000 in
theorem c_X5_requireRange (l : Launch) (D : va_G) (cI cZ cL : ClassId) (ws : va_W) (v : Int32) (lo : Int32) (up : Int32) (hok : okr v lo up = true) : RD l D cI cZ cL yX5_requireRange cX5_requireRange 3 none 0 [.int v, .int lo, .int up] ws none := by
  refine RD.of (by decide) (Nat.le_of_ble_eq_true rfl) ?_
  intro p e s m args below meth c ls hx hb hr hml hown hlk hE hP hl
  have hl : lv_has ls 3 [(0, .int v), (1, .int lo), (2, .int up)] := hl
  refine lv_iload_n hx hb dX5_requireRange_0 rfl (lv_at hl 0 rfl) ?_
  refine lv_iload_n hx hb dX5_requireRange_1 rfl (lv_at hl 1 rfl) ?_
  refine lv_icmp_lt (tgt := 10) hx hb dX5_requireRange_2 (by decide) (fun c_1 => ?_) (fun c_1 => ?_)
  · skip
    exact absurd hok (by simp [okr, c_1])
  · skip
    refine lv_iload_n hx hb dX5_requireRange_5 rfl (lv_at hl 0 rfl) ?_
    refine lv_iload_n hx hb dX5_requireRange_6 rfl (lv_at hl 2 rfl) ?_
    refine lv_icmp_le (tgt := 20) hx hb dX5_requireRange_7 (by decide) (fun c_2 => ?_) (fun c_2 => ?_)
    · skip
      exact e_retv hx hb hr hlk dX5_requireRange_20
    · skip
      exact absurd hok (by simp [okr, c_1, c_2])

theorem dX5_requireTeam_12 : decode cX5_requireTeam 12 = .ok (.new 248, 3) := by decide +kernel
theorem dX5_requireTeam_15 : decode cX5_requireTeam 15 = .ok (.dup, 1) := by decide +kernel
theorem dX5_requireTeam_16 : decode cX5_requireTeam 16 = .ok (.ldc 250, 2) := by decide +kernel
theorem dX5_requireTeam_18 : decode cX5_requireTeam 18 = .ok (.invokespecial 252, 3) := by decide +kernel
theorem dX5_requireTeam_21 : decode cX5_requireTeam 21 = .ok (.athrow, 1) := by decide +kernel
set_option maxHeartbeats 4000000 in
set_option maxRecDepth 100000 in
theorem c_X5_requireTeam_T (l : Launch) (hfl : l.flags = flags0) (D : va_G) (cI cZ cL : ClassId) (ad : Nat → Nat) (S : Mem) (x : Int32) (hI : I0 S) (hno : okn x (cT S) = false) : TH l D cI cZ cL yX5_requireTeam cX5_requireTeam 2 none 6 [.ref (ad 0), .int x] (wC ad cI S) "java/lang/IndexOutOfBoundsException" := by
  refine TH.of (by decide) (Nat.le_of_ble_eq_true rfl) ?_
  intro p e s m args below meth c ls hx hb hr hml hown hlk hxt hE hT hZ hP hl
  have hl : lv_has ls 2 [(0, .ref (ad 0)), (1, .int x)] := hl
  have hT8 := hI.T8
  have hR16 := hI.R16
  have hN200 := hI.N200
  refine lv_iload_n hx hb dX5_requireTeam_0 rfl (lv_at hl 1 rfl) ?_
  refine lv_if_lt (tgt := 12) hx hb dX5_requireTeam_1 (by decide) (fun c_1 => ?_) (fun c_1 => ?_)
  · skip
    obtain ⟨sa, hsa⟩ := hT "PuzzleRegistry" 250 "there is no such team" (List.mem_of_getElem? (i := 281) (by decide +kernel))
    exact vx_throwS (rest := []) (A := q_no) (names := tw_names) hx hb (q_flags hfl) hown rfl tw_names_ok (hE.1 _ w_440 args) (hE.1 _ w_73 args) hsa (fun w h => hE.1 w (tw_X5_248_252 w h) args) tw_X5_248_252_g hZ.1 hZ.2 va_S.rf (hl.1.trans hml.symm) dX5_requireTeam_12 dX5_requireTeam_15 dX5_requireTeam_16 dX5_requireTeam_18 dX5_requireTeam_21 (fun x hx => (hxt x hx).elim) (Nat.le_of_ble_eq_true rfl) (Nat.le_of_ble_eq_true rfl) (Nat.le_of_ble_eq_true rfl) (Nat.le_of_ble_eq_true rfl) hlk (fun t h1 h2 h3 => ⟨rfl, h2, fun q h4 _ => h3 q h4⟩) (fun _ h => nomatch h) (Nat.le_refl _) (Nat.le_refl _)
  · skip
    refine lv_iload_n hx hb dX5_requireTeam_4 rfl (lv_at hl 1 rfl) ?_
    refine lv_aload_n hx hb dX5_requireTeam_5 rfl (lv_at hl 0 rfl) ?_
    refine q_get (v := .int (S 0 9)) hx hb hown hE inT_X5 hP 0 rfl rfl 9 (by decide) w_221 rfl dX5_requireTeam_6 ?_
    refine q_top (y := nI (cT S)) (I0.T hI) ?_
    refine lv_icmp_lt (tgt := 22) hx hb dX5_requireTeam_9 (by decide) (fun c_2 => ?_) (fun c_2 => ?_)
    · skip
      exact absurd c_2 (okn_n0 hno c_1 (by omega))
    · skip
      obtain ⟨sa, hsa⟩ := hT "PuzzleRegistry" 250 "there is no such team" (List.mem_of_getElem? (i := 281) (by decide +kernel))
      exact vx_throwS (rest := []) (A := q_no) (names := tw_names) hx hb (q_flags hfl) hown rfl tw_names_ok (hE.1 _ w_440 args) (hE.1 _ w_73 args) hsa (fun w h => hE.1 w (tw_X5_248_252 w h) args) tw_X5_248_252_g hZ.1 hZ.2 va_S.rf (hl.1.trans hml.symm) dX5_requireTeam_12 dX5_requireTeam_15 dX5_requireTeam_16 dX5_requireTeam_18 dX5_requireTeam_21 (fun x hx => (hxt x hx).elim) (Nat.le_of_ble_eq_true rfl) (Nat.le_of_ble_eq_true rfl) (Nat.le_of_ble_eq_true rfl) (Nat.le_of_ble_eq_true rfl) hlk (fun t h1 h2 h3 => ⟨rfl, h2, fun q h4 _ => h3 q h4⟩) (fun _ h => nomatch h) (Nat.le_refl _) (Nat.le_refl _)

theorem dX5_requireRiddle_15 : decode cX5_requireRiddle 15 = .ok (.new 248, 3) := by decide +kernel
theorem dX5_requireRiddle_18 : decode cX5_requireRiddle 18 = .ok (.dup, 1) := by decide +kernel
theorem dX5_requireRiddle_19 : decode cX5_requireRiddle 19 = .ok (.ldc 253, 2) := by decide +kernel
theorem dX5_requireRiddle_21 : decode cX5_requireRiddle 21 = .ok (.invokespecial 252, 3) := by decide +kernel
theorem dX5_requireRiddle_24 : decode cX5_requireRiddle 24 = .ok (.athrow, 1) := by decide +kernel
set_option maxHeartbeats 4000000 in
set_option maxRecDepth 100000 in
theorem c_X5_requireRiddle_T (l : Launch) (hfl : l.flags = flags0) (D : va_G) (cI cZ cL : ClassId) (ad : Nat → Nat) (S : Mem) (x : Int32) (hI : I0 S) (hno : okn x (cR S) = false) : TH l D cI cZ cL yX5_requireRiddle cX5_requireRiddle 2 none 6 [.ref (ad 0), .int x] (wC ad cI S) "java/lang/IndexOutOfBoundsException" := by
  refine TH.of (by decide) (Nat.le_of_ble_eq_true rfl) ?_
  intro p e s m args below meth c ls hx hb hr hml hown hlk hxt hE hT hZ hP hl
  have hl : lv_has ls 2 [(0, .ref (ad 0)), (1, .int x)] := hl
  have hT8 := hI.T8
  have hR16 := hI.R16
  have hN200 := hI.N200
  refine lv_iload_n hx hb dX5_requireRiddle_0 rfl (lv_at hl 1 rfl) ?_
  refine lv_if_lt (tgt := 15) hx hb dX5_requireRiddle_1 (by decide) (fun c_1 => ?_) (fun c_1 => ?_)
  · skip
    obtain ⟨sa, hsa⟩ := hT "PuzzleRegistry" 253 "there is no such riddle" (List.mem_of_getElem? (i := 312) (by decide +kernel))
    exact vx_throwS (rest := []) (A := q_no) (names := tw_names) hx hb (q_flags hfl) hown rfl tw_names_ok (hE.1 _ w_440 args) (hE.1 _ w_73 args) hsa (fun w h => hE.1 w (tw_X5_248_252 w h) args) tw_X5_248_252_g hZ.1 hZ.2 va_S.rf (hl.1.trans hml.symm) dX5_requireRiddle_15 dX5_requireRiddle_18 dX5_requireRiddle_19 dX5_requireRiddle_21 dX5_requireRiddle_24 (fun x hx => (hxt x hx).elim) (Nat.le_of_ble_eq_true rfl) (Nat.le_of_ble_eq_true rfl) (Nat.le_of_ble_eq_true rfl) (Nat.le_of_ble_eq_true rfl) hlk (fun t h1 h2 h3 => ⟨rfl, h2, fun q h4 _ => h3 q h4⟩) (fun _ h => nomatch h) (Nat.le_refl _) (Nat.le_refl _)
  · skip
    refine lv_iload_n hx hb dX5_requireRiddle_4 rfl (lv_at hl 1 rfl) ?_
    refine lv_aload_n hx hb dX5_requireRiddle_5 rfl (lv_at hl 0 rfl) ?_
    refine q_get (v := .ref (ad 1)) hx hb hown hE inT_X5 hP 0 rfl rfl 0 (by decide) w_212 rfl dX5_requireRiddle_6 ?_
    refine q_getN (v := .int (S 1 6)) hx hb hown hE inT_X3 hP 1 rfl rfl 6 (by decide) w_104 rfl dX5_requireRiddle_9 ?_
    refine q_top (y := nI (cR S)) (I0.R hI) ?_
    refine lv_icmp_lt (tgt := 25) hx hb dX5_requireRiddle_12 (by decide) (fun c_2 => ?_) (fun c_2 => ?_)
    · skip
      exact absurd c_2 (okn_n0 hno c_1 (by omega))
    · skip
      obtain ⟨sa, hsa⟩ := hT "PuzzleRegistry" 253 "there is no such riddle" (List.mem_of_getElem? (i := 312) (by decide +kernel))
      exact vx_throwS (rest := []) (A := q_no) (names := tw_names) hx hb (q_flags hfl) hown rfl tw_names_ok (hE.1 _ w_440 args) (hE.1 _ w_73 args) hsa (fun w h => hE.1 w (tw_X5_248_252 w h) args) tw_X5_248_252_g hZ.1 hZ.2 va_S.rf (hl.1.trans hml.symm) dX5_requireRiddle_15 dX5_requireRiddle_18 dX5_requireRiddle_19 dX5_requireRiddle_21 dX5_requireRiddle_24 (fun x hx => (hxt x hx).elim) (Nat.le_of_ble_eq_true rfl) (Nat.le_of_ble_eq_true rfl) (Nat.le_of_ble_eq_true rfl) (Nat.le_of_ble_eq_true rfl) hlk (fun t h1 h2 h3 => ⟨rfl, h2, fun q h4 _ => h3 q h4⟩) (fun _ h => nomatch h) (Nat.le_refl _) (Nat.le_refl _)

theorem dX5_requireRange_10 : decode cX5_requireRange 10 = .ok (.new 89, 3) := by decide +kernel
theorem dX5_requireRange_13 : decode cX5_requireRange 13 = .ok (.dup, 1) := by decide +kernel
theorem dX5_requireRange_14 : decode cX5_requireRange 14 = .ok (.ldc 255, 2) := by decide +kernel
theorem dX5_requireRange_16 : decode cX5_requireRange 16 = .ok (.invokespecial 93, 3) := by decide +kernel
theorem dX5_requireRange_19 : decode cX5_requireRange 19 = .ok (.athrow, 1) := by decide +kernel
set_option maxHeartbeats 4000000 in
set_option maxRecDepth 100000 in
theorem c_X5_requireRange_T (l : Launch) (hfl : l.flags = flags0) (D : va_G) (cI cZ cL : ClassId) (ws : va_W) (v : Int32) (lo : Int32) (up : Int32) (hno : okr v lo up = false) : TH l D cI cZ cL yX5_requireRange cX5_requireRange 3 none 6 [.int v, .int lo, .int up] ws "java/lang/IllegalArgumentException" := by
  refine TH.of (by decide) (Nat.le_of_ble_eq_true rfl) ?_
  intro p e s m args below meth c ls hx hb hr hml hown hlk hxt hE hT hZ hP hl
  have hl : lv_has ls 3 [(0, .int v), (1, .int lo), (2, .int up)] := hl
  refine lv_iload_n hx hb dX5_requireRange_0 rfl (lv_at hl 0 rfl) ?_
  refine lv_iload_n hx hb dX5_requireRange_1 rfl (lv_at hl 1 rfl) ?_
  refine lv_icmp_lt (tgt := 10) hx hb dX5_requireRange_2 (by decide) (fun c_1 => ?_) (fun c_1 => ?_)
  · skip
    obtain ⟨sa, hsa⟩ := hT "PuzzleRegistry" 255 "an argument is out of its range" (List.mem_of_getElem? (i := 354) (by decide +kernel))
    exact vx_throwS (rest := []) (A := q_no) (names := tw_names) hx hb (q_flags hfl) hown rfl tw_names_ok (hE.1 _ w_331 args) (hE.1 _ w_71 args) hsa (fun w h => hE.1 w (tw_X5_89_93 w h) args) tw_X5_89_93_g hZ.1 hZ.2 va_S.rf (hl.1.trans hml.symm) dX5_requireRange_10 dX5_requireRange_13 dX5_requireRange_14 dX5_requireRange_16 dX5_requireRange_19 (fun x hx => (hxt x hx).elim) (Nat.le_of_ble_eq_true rfl) (Nat.le_of_ble_eq_true rfl) (Nat.le_of_ble_eq_true rfl) (Nat.le_of_ble_eq_true rfl) hlk (fun t h1 h2 h3 => ⟨rfl, h2, fun q h4 _ => h3 q h4⟩) (fun _ h => nomatch h) (Nat.le_refl _) (Nat.le_refl _)
  · skip
    refine lv_iload_n hx hb dX5_requireRange_5 rfl (lv_at hl 0 rfl) ?_
    refine lv_iload_n hx hb dX5_requireRange_6 rfl (lv_at hl 2 rfl) ?_
    refine lv_icmp_le (tgt := 20) hx hb dX5_requireRange_7 (by decide) (fun c_2 => ?_) (fun c_2 => ?_)
    · skip
      exact absurd hno (by simp [okr, c_1, c_2])
    · skip
      obtain ⟨sa, hsa⟩ := hT "PuzzleRegistry" 255 "an argument is out of its range" (List.mem_of_getElem? (i := 354) (by decide +kernel))
      exact vx_throwS (rest := []) (A := q_no) (names := tw_names) hx hb (q_flags hfl) hown rfl tw_names_ok (hE.1 _ w_331 args) (hE.1 _ w_71 args) hsa (fun w h => hE.1 w (tw_X5_89_93 w h) args) tw_X5_89_93_g hZ.1 hZ.2 va_S.rf (hl.1.trans hml.symm) dX5_requireRange_10 dX5_requireRange_13 dX5_requireRange_14 dX5_requireRange_16 dX5_requireRange_19 (fun x hx => (hxt x hx).elim) (Nat.le_of_ble_eq_true rfl) (Nat.le_of_ble_eq_true rfl) (Nat.le_of_ble_eq_true rfl) (Nat.le_of_ble_eq_true rfl) hlk (fun t h1 h2 h3 => ⟨rfl, h2, fun q h4 _ => h3 q h4⟩) (fun _ h => nomatch h) (Nat.le_refl _) (Nat.le_refl _)
