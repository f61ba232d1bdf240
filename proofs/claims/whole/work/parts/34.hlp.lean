/-! the law's helpers, all but setBound -/
theorem dL_pass_0 : decode cL_pass 0 = .ok (.aload_n 2, 1) := by decide +kernel
theorem dL_pass_1 : decode cL_pass 1 = .ok (.iconst 0, 1) := by decide +kernel
theorem dL_pass_2 : decode cL_pass 2 = .ok (.aload_n 0, 1) := by decide +kernel
theorem dL_pass_3 : decode cL_pass 3 = .ok (.iload_n 1, 1) := by decide +kernel
theorem dL_pass_4 : decode cL_pass 4 = .ok (.invokevirtual 7, 3) := by decide +kernel
theorem dL_pass_7 : decode cL_pass 7 = .ok (.i2l, 1) := by decide +kernel
theorem dL_pass_8 : decode cL_pass 8 = .ok (.lastore, 1) := by decide +kernel
theorem dL_pass_9 : decode cL_pass 9 = .ok (.goto 9, 3) := by decide +kernel
theorem dL_pass_12 : decode cL_pass 12 = .ok (.astore_n 3, 1) := by decide +kernel
theorem dL_pass_13 : decode cL_pass 13 = .ok (.iconst 1, 1) := by decide +kernel
theorem dL_pass_14 : decode cL_pass 14 = .ok (.ireturn, 1) := by decide +kernel
theorem dL_pass_15 : decode cL_pass 15 = .ok (.astore_n 3, 1) := by decide +kernel
theorem dL_pass_16 : decode cL_pass 16 = .ok (.iconst 2, 1) := by decide +kernel
theorem dL_pass_17 : decode cL_pass 17 = .ok (.ireturn, 1) := by decide +kernel
theorem dL_pass_18 : decode cL_pass 18 = .ok (.iconst 0, 1) := by decide +kernel
theorem dL_pass_19 : decode cL_pass 19 = .ok (.ireturn, 1) := by decide +kernel
set_option maxHeartbeats 4000000 in
set_option maxRecDepth 100000 in
theorem h_pass (l : Launch) (D : va_G) (cI cZ cL : ClassId) (ad : Nat → Nat) (ao : Nat) (S : Mem) (f : Nat → Int64) (A : Nat → Prop) (hD : va_D A (wO ao cL f ++ wC ad cI S)) (x1 : Int32) (hI : I0 S) (hth : (oPass S x1).1 = none) :
    HL l D cI cZ cL yL_pass cL_pass 4 [(0, 9, 12, 13), (0, 9, 15, 15)] 8 [.ref (ad 0), .int x1, .ref ao] A ao (wC ad cI S) (wC ad cI ((oPass S x1).2.2)) f (vp_updL f 0 ((oPass S x1).2.1).toInt64) 0 := by
  refine HL.of (by decide) (Nat.le_of_ble_eq_true rfl) ?_
  intro p e s m args below meth c ls hx hb hr hml hown hlk htb hE hT hZ hC hP hO hS hl
  have hl : lv_has ls 4 [(0, .ref (ad 0)), (1, .int x1), (2, .ref ao)] := hl
  refine lv_aload_n hx hb dL_pass_0 rfl (lv_at hl 2 rfl) ?_
  refine lv_iconst (v := 0) hx hb dL_pass_1 (by decide) ?_
  refine lv_aload_n hx hb dL_pass_2 rfl (lv_at hl 0 rfl) ?_
  refine lv_iload_n hx hb dL_pass_3 rfl (lv_at hl 1 rfl) ?_
  refine q_wr (q_runV (rest := [.int 0, .ref ao]) hx hb hml hown hE (c_X5_pass l D cI cZ cL ad S (aW (wC ad cI S)) (aW_D (q_Dtl hD)) x1 hI hth) ck_X5_pass w_324 hP 0 rfl rfl hl.1 rfl ⟨Nat.le_of_ble_eq_true rfl, Nat.le_of_ble_eq_true rfl⟩ (Nat.le_of_ble_eq_true rfl) dL_pass_4 ⟨Nat.zero_le _, Nat.zero_le _⟩) (va_S.rf (A := aW (wC ad cI S)) (H0 := s.heap)) (fun H locs hP hS => ?_)
  have hO := q_keep hS hO (q_Dno hD)
  have hS := q_Swk (q_Dsub hD) hS
  have hD : va_D A (wO ao cL f ++ wC ad cI ((oPass S x1).2.2)) := q_D (ws := wO ao cL f ++ wC ad cI S) rfl hD
  refine lv_i2l (v := ((oPass S x1).2.1).toInt64) hx hb dL_pass_7 rfl ?_
  refine q_last hx hb hE hP hO hD hS dL_pass_8 (fun H locs hP hO hS => ?_)
  refine lv_goto (tgt := 18) hx hb dL_pass_9 (by decide) ?_
  refine lv_iconst (v := 0) hx hb dL_pass_18 (by decide) ?_
  refine W.widen (k := 1) (n := 6) (Nat.le_of_ble_eq_true rfl) (Nat.le_of_ble_eq_true rfl) ?_
  exact W.zret hx hb hr rfl (fun t ht hW => ⟨rfl, ⟨by rw [ht]; exact hP, by rw [ht]; exact hO⟩, hS.F ht⟩) hS.2.2 dL_pass_19 hlk
set_option maxHeartbeats 4000000 in
set_option maxRecDepth 100000 in
theorem h_pass_T0 (l : Launch) (hfl : l.flags = flags0) (D : va_G) (cI cZ cL : ClassId) (ad : Nat → Nat) (ao : Nat) (S : Mem) (f : Nat → Int64) (A : Nat → Prop) (x1 : Int32) (hI : I0 S) (hth : (oPass S x1).1 = some "java/lang/IllegalArgumentException") :
    HL l D cI cZ cL yL_pass cL_pass 4 [(0, 9, 12, 13), (0, 9, 15, 15)] 8 [.ref (ad 0), .int x1, .ref ao] A ao (wC ad cI S) (wC ad cI S) f (f) 1 := by
  refine HL.of (by decide) (Nat.le_of_ble_eq_true rfl) ?_
  intro p e s m args below meth c ls hx hb hr hml hown hlk htb hE hT hZ hC hP hO hS hl
  have hl : lv_has ls 4 [(0, .ref (ad 0)), (1, .int x1), (2, .ref ao)] := hl
  refine lv_aload_n hx hb dL_pass_0 rfl (lv_at hl 2 rfl) ?_
  refine lv_iconst (v := 0) hx hb dL_pass_1 (by decide) ?_
  refine lv_aload_n hx hb dL_pass_2 rfl (lv_at hl 0 rfl) ?_
  refine lv_iload_n hx hb dL_pass_3 rfl (lv_at hl 1 rfl) ?_
  refine q_thH (q_thV (rest := [.int 0, .ref ao]) hx hb hml hown hE hT hZ (c_X5_pass_T0 l hfl D cI cZ cL ad S x1 hI hth) ck_X5_pass w_324 hP 0 rfl rfl hl.1 rfl ⟨Nat.le_of_ble_eq_true rfl, Nat.le_of_ble_eq_true rfl⟩ (Nat.le_of_ble_eq_true rfl) dL_pass_4 ⟨Nat.le_of_ble_eq_true rfl, Nat.le_of_ble_eq_true rfl⟩) hown [] _ _ htb (fun z hz => nomatch hz) (by decide +kernel) (by decide +kernel) (hE.1 _ w_322 args) (hE.1 _ w_333 args) (fun q H hS => ?_)
  refine W.eq (g2 := F0 m 12 ls [.ref q]) rfl ?_
  have hP := q_keep hS hP (fun _ _ h => h)
  have hO := q_keep hS hO (fun _ _ h => h)
  refine lv_astore_n (lv' := [(3, .ref q), (0, .ref (ad 0)), (1, .int x1), (2, .ref ao)]) hx hb dL_pass_12 rfl hl (by decide) rfl (fun ls hl => ?_)
  refine lv_iconst (v := 1) hx hb dL_pass_13 (by decide) ?_
  exact W.zret hx hb hr rfl (fun t ht hW => ⟨rfl, ⟨by rw [ht]; exact hP, by rw [ht]; exact hO⟩, (q_Swk (fun _ h => h.elim) hS).F ht⟩) (fun _ h => nomatch h) dL_pass_14 hlk
set_option maxHeartbeats 4000000 in
set_option maxRecDepth 100000 in
theorem h_pass_T1 (l : Launch) (hfl : l.flags = flags0) (D : va_G) (cI cZ cL : ClassId) (ad : Nat → Nat) (ao : Nat) (S : Mem) (f : Nat → Int64) (A : Nat → Prop) (x1 : Int32) (hI : I0 S) (hth : (oPass S x1).1 = some "java/lang/IllegalStateException") :
    HL l D cI cZ cL yL_pass cL_pass 4 [(0, 9, 12, 13), (0, 9, 15, 15)] 8 [.ref (ad 0), .int x1, .ref ao] A ao (wC ad cI S) (wC ad cI S) f (f) 2 := by
  refine HL.of (by decide) (Nat.le_of_ble_eq_true rfl) ?_
  intro p e s m args below meth c ls hx hb hr hml hown hlk htb hE hT hZ hC hP hO hS hl
  have hl : lv_has ls 4 [(0, .ref (ad 0)), (1, .int x1), (2, .ref ao)] := hl
  refine lv_aload_n hx hb dL_pass_0 rfl (lv_at hl 2 rfl) ?_
  refine lv_iconst (v := 0) hx hb dL_pass_1 (by decide) ?_
  refine lv_aload_n hx hb dL_pass_2 rfl (lv_at hl 0 rfl) ?_
  refine lv_iload_n hx hb dL_pass_3 rfl (lv_at hl 1 rfl) ?_
  refine q_thH (q_thV (rest := [.int 0, .ref ao]) hx hb hml hown hE hT hZ (c_X5_pass_T1 l hfl D cI cZ cL ad S x1 hI hth) ck_X5_pass w_324 hP 0 rfl rfl hl.1 rfl ⟨Nat.le_of_ble_eq_true rfl, Nat.le_of_ble_eq_true rfl⟩ (Nat.le_of_ble_eq_true rfl) dL_pass_4 ⟨Nat.le_of_ble_eq_true rfl, Nat.le_of_ble_eq_true rfl⟩) hown (tableOf [(0, 9, 12, 13)]) _ _ htb (by intro z hz; simp only [tableOf, List.map_cons, List.map_nil, List.mem_cons, List.not_mem_nil, or_false] at hz; rcases hz with rfl <;> exact Or.inr ⟨by decide, _, hE.1 _ w_322 args, hC ("java/lang/IllegalStateException", "java/lang/IllegalArgumentException") (by decide)⟩) (by decide +kernel) (by decide +kernel) (hE.1 _ w_323 args) (hE.1 _ w_402 args) (fun q H hS => ?_)
  refine W.eq (g2 := F0 m 15 ls [.ref q]) rfl ?_
  have hP := q_keep hS hP (fun _ _ h => h)
  have hO := q_keep hS hO (fun _ _ h => h)
  refine lv_astore_n (lv' := [(3, .ref q), (0, .ref (ad 0)), (1, .int x1), (2, .ref ao)]) hx hb dL_pass_15 rfl hl (by decide) rfl (fun ls hl => ?_)
  refine lv_iconst (v := 2) hx hb dL_pass_16 (by decide) ?_
  exact W.zret hx hb hr rfl (fun t ht hW => ⟨rfl, ⟨by rw [ht]; exact hP, by rw [ht]; exact hO⟩, (q_Swk (fun _ h => h.elim) hS).F ht⟩) (fun _ h => nomatch h) dL_pass_17 hlk
theorem dL_addRiddle_0 : decode cL_addRiddle 0 = .ok (.aload 5, 2) := by decide +kernel
theorem dL_addRiddle_2 : decode cL_addRiddle 2 = .ok (.iconst 0, 1) := by decide +kernel
theorem dL_addRiddle_3 : decode cL_addRiddle 3 = .ok (.aload_n 0, 1) := by decide +kernel
theorem dL_addRiddle_4 : decode cL_addRiddle 4 = .ok (.iload_n 1, 1) := by decide +kernel
theorem dL_addRiddle_5 : decode cL_addRiddle 5 = .ok (.iload_n 2, 1) := by decide +kernel
theorem dL_addRiddle_6 : decode cL_addRiddle 6 = .ok (.iload_n 3, 1) := by decide +kernel
theorem dL_addRiddle_7 : decode cL_addRiddle 7 = .ok (.iload 4, 2) := by decide +kernel
theorem dL_addRiddle_9 : decode cL_addRiddle 9 = .ok (.invokevirtual 17, 3) := by decide +kernel
theorem dL_addRiddle_12 : decode cL_addRiddle 12 = .ok (.i2l, 1) := by decide +kernel
theorem dL_addRiddle_13 : decode cL_addRiddle 13 = .ok (.lastore, 1) := by decide +kernel
theorem dL_addRiddle_14 : decode cL_addRiddle 14 = .ok (.goto 11, 3) := by decide +kernel
theorem dL_addRiddle_17 : decode cL_addRiddle 17 = .ok (.astore 6, 2) := by decide +kernel
theorem dL_addRiddle_19 : decode cL_addRiddle 19 = .ok (.iconst 1, 1) := by decide +kernel
theorem dL_addRiddle_20 : decode cL_addRiddle 20 = .ok (.ireturn, 1) := by decide +kernel
theorem dL_addRiddle_21 : decode cL_addRiddle 21 = .ok (.astore 6, 2) := by decide +kernel
theorem dL_addRiddle_23 : decode cL_addRiddle 23 = .ok (.iconst 2, 1) := by decide +kernel
theorem dL_addRiddle_24 : decode cL_addRiddle 24 = .ok (.ireturn, 1) := by decide +kernel
theorem dL_addRiddle_25 : decode cL_addRiddle 25 = .ok (.iconst 0, 1) := by decide +kernel
theorem dL_addRiddle_26 : decode cL_addRiddle 26 = .ok (.ireturn, 1) := by decide +kernel
set_option maxHeartbeats 4000000 in
set_option maxRecDepth 100000 in
theorem h_addRiddle (l : Launch) (D : va_G) (cI cZ cL : ClassId) (ad : Nat → Nat) (ao : Nat) (S : Mem) (f : Nat → Int64) (A : Nat → Prop) (hD : va_D A (wO ao cL f ++ wC ad cI S)) (x1 : Int32) (x2 : Int32) (x3 : Int32) (x4 : Int32) (hI : I0 S) (hth : (oAddR S x1 x2 x3 x4).1 = none) :
    HL l D cI cZ cL yL_addRiddle cL_addRiddle 7 [(0, 14, 17, 13), (0, 14, 21, 15)] 8 [.ref (ad 0), .int x1, .int x2, .int x3, .int x4, .ref ao] A ao (wC ad cI S) (wC ad cI ((oAddR S x1 x2 x3 x4).2.2)) f (vp_updL f 0 ((oAddR S x1 x2 x3 x4).2.1).toInt64) 0 := by
  refine HL.of (by decide) (Nat.le_of_ble_eq_true rfl) ?_
  intro p e s m args below meth c ls hx hb hr hml hown hlk htb hE hT hZ hC hP hO hS hl
  have hl : lv_has ls 7 [(0, .ref (ad 0)), (1, .int x1), (2, .int x2), (3, .int x3), (4, .int x4), (5, .ref ao)] := hl
  refine lv_aload hx hb dL_addRiddle_0 (lv_at hl 5 rfl) ?_
  refine lv_iconst (v := 0) hx hb dL_addRiddle_2 (by decide) ?_
  refine lv_aload_n hx hb dL_addRiddle_3 rfl (lv_at hl 0 rfl) ?_
  refine lv_iload_n hx hb dL_addRiddle_4 rfl (lv_at hl 1 rfl) ?_
  refine lv_iload_n hx hb dL_addRiddle_5 rfl (lv_at hl 2 rfl) ?_
  refine lv_iload_n hx hb dL_addRiddle_6 rfl (lv_at hl 3 rfl) ?_
  refine lv_iload hx hb dL_addRiddle_7 (lv_at hl 4 rfl) ?_
  refine q_wr (q_runV (rest := [.int 0, .ref ao]) hx hb hml hown hE (c_X5_addRiddle l D cI cZ cL ad S (aW (wC ad cI S)) (aW_D (q_Dtl hD)) x1 x2 x3 x4 hI hth) ck_X5_addRiddle w_419 hP 0 rfl rfl hl.1 rfl ⟨Nat.le_of_ble_eq_true rfl, Nat.le_of_ble_eq_true rfl⟩ (Nat.le_of_ble_eq_true rfl) dL_addRiddle_9 ⟨Nat.zero_le _, Nat.zero_le _⟩) (va_S.rf (A := aW (wC ad cI S)) (H0 := s.heap)) (fun H locs hP hS => ?_)
  have hO := q_keep hS hO (q_Dno hD)
  have hS := q_Swk (q_Dsub hD) hS
  have hD : va_D A (wO ao cL f ++ wC ad cI ((oAddR S x1 x2 x3 x4).2.2)) := q_D (ws := wO ao cL f ++ wC ad cI S) rfl hD
  refine lv_i2l (v := ((oAddR S x1 x2 x3 x4).2.1).toInt64) hx hb dL_addRiddle_12 rfl ?_
  refine q_last hx hb hE hP hO hD hS dL_addRiddle_13 (fun H locs hP hO hS => ?_)
  refine lv_goto (tgt := 25) hx hb dL_addRiddle_14 (by decide) ?_
  refine lv_iconst (v := 0) hx hb dL_addRiddle_25 (by decide) ?_
  refine W.widen (k := 1) (n := 6) (Nat.le_of_ble_eq_true rfl) (Nat.le_of_ble_eq_true rfl) ?_
  exact W.zret hx hb hr rfl (fun t ht hW => ⟨rfl, ⟨by rw [ht]; exact hP, by rw [ht]; exact hO⟩, hS.F ht⟩) hS.2.2 dL_addRiddle_26 hlk
set_option maxHeartbeats 4000000 in
set_option maxRecDepth 100000 in
theorem h_addRiddle_T0 (l : Launch) (hfl : l.flags = flags0) (D : va_G) (cI cZ cL : ClassId) (ad : Nat → Nat) (ao : Nat) (S : Mem) (f : Nat → Int64) (A : Nat → Prop) (x1 : Int32) (x2 : Int32) (x3 : Int32) (x4 : Int32) (hI : I0 S) (hth : (oAddR S x1 x2 x3 x4).1 = some "java/lang/IllegalArgumentException") :
    HL l D cI cZ cL yL_addRiddle cL_addRiddle 7 [(0, 14, 17, 13), (0, 14, 21, 15)] 8 [.ref (ad 0), .int x1, .int x2, .int x3, .int x4, .ref ao] A ao (wC ad cI S) (wC ad cI S) f (f) 1 := by
  refine HL.of (by decide) (Nat.le_of_ble_eq_true rfl) ?_
  intro p e s m args below meth c ls hx hb hr hml hown hlk htb hE hT hZ hC hP hO hS hl
  have hl : lv_has ls 7 [(0, .ref (ad 0)), (1, .int x1), (2, .int x2), (3, .int x3), (4, .int x4), (5, .ref ao)] := hl
  refine lv_aload hx hb dL_addRiddle_0 (lv_at hl 5 rfl) ?_
  refine lv_iconst (v := 0) hx hb dL_addRiddle_2 (by decide) ?_
  refine lv_aload_n hx hb dL_addRiddle_3 rfl (lv_at hl 0 rfl) ?_
  refine lv_iload_n hx hb dL_addRiddle_4 rfl (lv_at hl 1 rfl) ?_
  refine lv_iload_n hx hb dL_addRiddle_5 rfl (lv_at hl 2 rfl) ?_
  refine lv_iload_n hx hb dL_addRiddle_6 rfl (lv_at hl 3 rfl) ?_
  refine lv_iload hx hb dL_addRiddle_7 (lv_at hl 4 rfl) ?_
  refine q_thH (q_thV (rest := [.int 0, .ref ao]) hx hb hml hown hE hT hZ (c_X5_addRiddle_T0 l hfl D cI cZ cL ad S x1 x2 x3 x4 hI hth) ck_X5_addRiddle w_419 hP 0 rfl rfl hl.1 rfl ⟨Nat.le_of_ble_eq_true rfl, Nat.le_of_ble_eq_true rfl⟩ (Nat.le_of_ble_eq_true rfl) dL_addRiddle_9 ⟨Nat.le_of_ble_eq_true rfl, Nat.le_of_ble_eq_true rfl⟩) hown [] _ _ htb (fun z hz => nomatch hz) (by decide +kernel) (by decide +kernel) (hE.1 _ w_322 args) (hE.1 _ w_333 args) (fun q H hS => ?_)
  refine W.eq (g2 := F0 m 17 ls [.ref q]) rfl ?_
  have hP := q_keep hS hP (fun _ _ h => h)
  have hO := q_keep hS hO (fun _ _ h => h)
  refine lv_astore (lv' := [(6, .ref q), (0, .ref (ad 0)), (1, .int x1), (2, .int x2), (3, .int x3), (4, .int x4), (5, .ref ao)]) hx hb dL_addRiddle_17 hl (by decide) rfl (fun ls hl => ?_)
  refine lv_iconst (v := 1) hx hb dL_addRiddle_19 (by decide) ?_
  exact W.zret hx hb hr rfl (fun t ht hW => ⟨rfl, ⟨by rw [ht]; exact hP, by rw [ht]; exact hO⟩, (q_Swk (fun _ h => h.elim) hS).F ht⟩) (fun _ h => nomatch h) dL_addRiddle_20 hlk
set_option maxHeartbeats 4000000 in
set_option maxRecDepth 100000 in
theorem h_addRiddle_T1 (l : Launch) (hfl : l.flags = flags0) (D : va_G) (cI cZ cL : ClassId) (ad : Nat → Nat) (ao : Nat) (S : Mem) (f : Nat → Int64) (A : Nat → Prop) (x1 : Int32) (x2 : Int32) (x3 : Int32) (x4 : Int32) (hI : I0 S) (hth : (oAddR S x1 x2 x3 x4).1 = some "java/lang/IllegalStateException") :
    HL l D cI cZ cL yL_addRiddle cL_addRiddle 7 [(0, 14, 17, 13), (0, 14, 21, 15)] 8 [.ref (ad 0), .int x1, .int x2, .int x3, .int x4, .ref ao] A ao (wC ad cI S) (wC ad cI S) f (f) 2 := by
  refine HL.of (by decide) (Nat.le_of_ble_eq_true rfl) ?_
  intro p e s m args below meth c ls hx hb hr hml hown hlk htb hE hT hZ hC hP hO hS hl
  have hl : lv_has ls 7 [(0, .ref (ad 0)), (1, .int x1), (2, .int x2), (3, .int x3), (4, .int x4), (5, .ref ao)] := hl
  refine lv_aload hx hb dL_addRiddle_0 (lv_at hl 5 rfl) ?_
  refine lv_iconst (v := 0) hx hb dL_addRiddle_2 (by decide) ?_
  refine lv_aload_n hx hb dL_addRiddle_3 rfl (lv_at hl 0 rfl) ?_
  refine lv_iload_n hx hb dL_addRiddle_4 rfl (lv_at hl 1 rfl) ?_
  refine lv_iload_n hx hb dL_addRiddle_5 rfl (lv_at hl 2 rfl) ?_
  refine lv_iload_n hx hb dL_addRiddle_6 rfl (lv_at hl 3 rfl) ?_
  refine lv_iload hx hb dL_addRiddle_7 (lv_at hl 4 rfl) ?_
  refine q_thH (q_thV (rest := [.int 0, .ref ao]) hx hb hml hown hE hT hZ (c_X5_addRiddle_T1 l hfl D cI cZ cL ad S x1 x2 x3 x4 hI hth) ck_X5_addRiddle w_419 hP 0 rfl rfl hl.1 rfl ⟨Nat.le_of_ble_eq_true rfl, Nat.le_of_ble_eq_true rfl⟩ (Nat.le_of_ble_eq_true rfl) dL_addRiddle_9 ⟨Nat.le_of_ble_eq_true rfl, Nat.le_of_ble_eq_true rfl⟩) hown (tableOf [(0, 14, 17, 13)]) _ _ htb (by intro z hz; simp only [tableOf, List.map_cons, List.map_nil, List.mem_cons, List.not_mem_nil, or_false] at hz; rcases hz with rfl <;> exact Or.inr ⟨by decide, _, hE.1 _ w_322 args, hC ("java/lang/IllegalStateException", "java/lang/IllegalArgumentException") (by decide)⟩) (by decide +kernel) (by decide +kernel) (hE.1 _ w_323 args) (hE.1 _ w_402 args) (fun q H hS => ?_)
  refine W.eq (g2 := F0 m 21 ls [.ref q]) rfl ?_
  have hP := q_keep hS hP (fun _ _ h => h)
  have hO := q_keep hS hO (fun _ _ h => h)
  refine lv_astore (lv' := [(6, .ref q), (0, .ref (ad 0)), (1, .int x1), (2, .int x2), (3, .int x3), (4, .int x4), (5, .ref ao)]) hx hb dL_addRiddle_21 hl (by decide) rfl (fun ls hl => ?_)
  refine lv_iconst (v := 2) hx hb dL_addRiddle_23 (by decide) ?_
  exact W.zret hx hb hr rfl (fun t ht hW => ⟨rfl, ⟨by rw [ht]; exact hP, by rw [ht]; exact hO⟩, (q_Swk (fun _ h => h.elim) hS).F ht⟩) (fun _ h => nomatch h) dL_addRiddle_24 hlk
theorem dL_need_0 : decode cL_need 0 = .ok (.aload_n 3, 1) := by decide +kernel
theorem dL_need_1 : decode cL_need 1 = .ok (.iconst 0, 1) := by decide +kernel
theorem dL_need_2 : decode cL_need 2 = .ok (.aload_n 0, 1) := by decide +kernel
theorem dL_need_3 : decode cL_need 3 = .ok (.iload_n 1, 1) := by decide +kernel
theorem dL_need_4 : decode cL_need 4 = .ok (.iload_n 2, 1) := by decide +kernel
theorem dL_need_5 : decode cL_need 5 = .ok (.invokevirtual 21, 3) := by decide +kernel
theorem dL_need_8 : decode cL_need 8 = .ok (.i2l, 1) := by decide +kernel
theorem dL_need_9 : decode cL_need 9 = .ok (.lastore, 1) := by decide +kernel
theorem dL_need_10 : decode cL_need 10 = .ok (.goto 15, 3) := by decide +kernel
theorem dL_need_13 : decode cL_need 13 = .ok (.astore 4, 2) := by decide +kernel
theorem dL_need_15 : decode cL_need 15 = .ok (.iconst 1, 1) := by decide +kernel
theorem dL_need_16 : decode cL_need 16 = .ok (.ireturn, 1) := by decide +kernel
theorem dL_need_17 : decode cL_need 17 = .ok (.astore 4, 2) := by decide +kernel
theorem dL_need_19 : decode cL_need 19 = .ok (.iconst 2, 1) := by decide +kernel
theorem dL_need_20 : decode cL_need 20 = .ok (.ireturn, 1) := by decide +kernel
theorem dL_need_21 : decode cL_need 21 = .ok (.astore 4, 2) := by decide +kernel
theorem dL_need_23 : decode cL_need 23 = .ok (.iconst 3, 1) := by decide +kernel
theorem dL_need_24 : decode cL_need 24 = .ok (.ireturn, 1) := by decide +kernel
theorem dL_need_25 : decode cL_need 25 = .ok (.iconst 0, 1) := by decide +kernel
theorem dL_need_26 : decode cL_need 26 = .ok (.ireturn, 1) := by decide +kernel
set_option maxHeartbeats 4000000 in
set_option maxRecDepth 100000 in
theorem h_need (l : Launch) (D : va_G) (cI cZ cL : ClassId) (ad : Nat → Nat) (ao : Nat) (S : Mem) (f : Nat → Int64) (A : Nat → Prop) (hD : va_D A (wO ao cL f ++ wC ad cI S)) (x1 : Int32) (x2 : Int32) (hI : I0 S) (hth : (oNeed S x1 x2).1 = none) :
    HL l D cI cZ cL yL_need cL_need 5 [(0, 10, 13, 25), (0, 10, 17, 13), (0, 10, 21, 15)] 8 [.ref (ad 0), .int x1, .int x2, .ref ao] A ao (wC ad cI S) (wC ad cI ((oNeed S x1 x2).2.2)) f (vp_updL f 0 ((oNeed S x1 x2).2.1).toInt64) 0 := by
  refine HL.of (by decide) (Nat.le_of_ble_eq_true rfl) ?_
  intro p e s m args below meth c ls hx hb hr hml hown hlk htb hE hT hZ hC hP hO hS hl
  have hl : lv_has ls 5 [(0, .ref (ad 0)), (1, .int x1), (2, .int x2), (3, .ref ao)] := hl
  refine lv_aload_n hx hb dL_need_0 rfl (lv_at hl 3 rfl) ?_
  refine lv_iconst (v := 0) hx hb dL_need_1 (by decide) ?_
  refine lv_aload_n hx hb dL_need_2 rfl (lv_at hl 0 rfl) ?_
  refine lv_iload_n hx hb dL_need_3 rfl (lv_at hl 1 rfl) ?_
  refine lv_iload_n hx hb dL_need_4 rfl (lv_at hl 2 rfl) ?_
  refine q_wr (q_runV (rest := [.int 0, .ref ao]) hx hb hml hown hE (c_X5_need l D cI cZ cL ad S (aW (wC ad cI S)) (aW_D (q_Dtl hD)) x1 x2 hI hth) ck_X5_need w_432 hP 0 rfl rfl hl.1 rfl ⟨Nat.le_of_ble_eq_true rfl, Nat.le_of_ble_eq_true rfl⟩ (Nat.le_of_ble_eq_true rfl) dL_need_5 ⟨Nat.zero_le _, Nat.zero_le _⟩) (va_S.rf (A := aW (wC ad cI S)) (H0 := s.heap)) (fun H locs hP hS => ?_)
  have hO := q_keep hS hO (q_Dno hD)
  have hS := q_Swk (q_Dsub hD) hS
  have hD : va_D A (wO ao cL f ++ wC ad cI ((oNeed S x1 x2).2.2)) := q_D (ws := wO ao cL f ++ wC ad cI S) rfl hD
  refine lv_i2l (v := ((oNeed S x1 x2).2.1).toInt64) hx hb dL_need_8 rfl ?_
  refine q_last hx hb hE hP hO hD hS dL_need_9 (fun H locs hP hO hS => ?_)
  refine lv_goto (tgt := 25) hx hb dL_need_10 (by decide) ?_
  refine lv_iconst (v := 0) hx hb dL_need_25 (by decide) ?_
  refine W.widen (k := 1) (n := 6) (Nat.le_of_ble_eq_true rfl) (Nat.le_of_ble_eq_true rfl) ?_
  exact W.zret hx hb hr rfl (fun t ht hW => ⟨rfl, ⟨by rw [ht]; exact hP, by rw [ht]; exact hO⟩, hS.F ht⟩) hS.2.2 dL_need_26 hlk
set_option maxHeartbeats 4000000 in
set_option maxRecDepth 100000 in
theorem h_need_T0 (l : Launch) (hfl : l.flags = flags0) (D : va_G) (cI cZ cL : ClassId) (ad : Nat → Nat) (ao : Nat) (S : Mem) (f : Nat → Int64) (A : Nat → Prop) (x1 : Int32) (x2 : Int32) (hI : I0 S) (hth : (oNeed S x1 x2).1 = some "java/lang/IndexOutOfBoundsException") :
    HL l D cI cZ cL yL_need cL_need 5 [(0, 10, 13, 25), (0, 10, 17, 13), (0, 10, 21, 15)] 8 [.ref (ad 0), .int x1, .int x2, .ref ao] A ao (wC ad cI S) (wC ad cI S) f (f) 1 := by
  refine HL.of (by decide) (Nat.le_of_ble_eq_true rfl) ?_
  intro p e s m args below meth c ls hx hb hr hml hown hlk htb hE hT hZ hC hP hO hS hl
  have hl : lv_has ls 5 [(0, .ref (ad 0)), (1, .int x1), (2, .int x2), (3, .ref ao)] := hl
  refine lv_aload_n hx hb dL_need_0 rfl (lv_at hl 3 rfl) ?_
  refine lv_iconst (v := 0) hx hb dL_need_1 (by decide) ?_
  refine lv_aload_n hx hb dL_need_2 rfl (lv_at hl 0 rfl) ?_
  refine lv_iload_n hx hb dL_need_3 rfl (lv_at hl 1 rfl) ?_
  refine lv_iload_n hx hb dL_need_4 rfl (lv_at hl 2 rfl) ?_
  refine q_thH (q_thV (rest := [.int 0, .ref ao]) hx hb hml hown hE hT hZ (c_X5_need_T0 l hfl D cI cZ cL ad S x1 x2 hI hth) ck_X5_need w_432 hP 0 rfl rfl hl.1 rfl ⟨Nat.le_of_ble_eq_true rfl, Nat.le_of_ble_eq_true rfl⟩ (Nat.le_of_ble_eq_true rfl) dL_need_5 ⟨Nat.le_of_ble_eq_true rfl, Nat.le_of_ble_eq_true rfl⟩) hown [] _ _ htb (fun z hz => nomatch hz) (by decide +kernel) (by decide +kernel) (hE.1 _ w_431 args) (hE.1 _ w_442 args) (fun q H hS => ?_)
  refine W.eq (g2 := F0 m 13 ls [.ref q]) rfl ?_
  have hP := q_keep hS hP (fun _ _ h => h)
  have hO := q_keep hS hO (fun _ _ h => h)
  refine lv_astore (lv' := [(4, .ref q), (0, .ref (ad 0)), (1, .int x1), (2, .int x2), (3, .ref ao)]) hx hb dL_need_13 hl (by decide) rfl (fun ls hl => ?_)
  refine lv_iconst (v := 1) hx hb dL_need_15 (by decide) ?_
  exact W.zret hx hb hr rfl (fun t ht hW => ⟨rfl, ⟨by rw [ht]; exact hP, by rw [ht]; exact hO⟩, (q_Swk (fun _ h => h.elim) hS).F ht⟩) (fun _ h => nomatch h) dL_need_16 hlk
set_option maxHeartbeats 4000000 in
set_option maxRecDepth 100000 in
theorem h_need_T1 (l : Launch) (hfl : l.flags = flags0) (D : va_G) (cI cZ cL : ClassId) (ad : Nat → Nat) (ao : Nat) (S : Mem) (f : Nat → Int64) (A : Nat → Prop) (x1 : Int32) (x2 : Int32) (hI : I0 S) (hth : (oNeed S x1 x2).1 = some "java/lang/IllegalArgumentException") :
    HL l D cI cZ cL yL_need cL_need 5 [(0, 10, 13, 25), (0, 10, 17, 13), (0, 10, 21, 15)] 8 [.ref (ad 0), .int x1, .int x2, .ref ao] A ao (wC ad cI S) (wC ad cI S) f (f) 2 := by
  refine HL.of (by decide) (Nat.le_of_ble_eq_true rfl) ?_
  intro p e s m args below meth c ls hx hb hr hml hown hlk htb hE hT hZ hC hP hO hS hl
  have hl : lv_has ls 5 [(0, .ref (ad 0)), (1, .int x1), (2, .int x2), (3, .ref ao)] := hl
  refine lv_aload_n hx hb dL_need_0 rfl (lv_at hl 3 rfl) ?_
  refine lv_iconst (v := 0) hx hb dL_need_1 (by decide) ?_
  refine lv_aload_n hx hb dL_need_2 rfl (lv_at hl 0 rfl) ?_
  refine lv_iload_n hx hb dL_need_3 rfl (lv_at hl 1 rfl) ?_
  refine lv_iload_n hx hb dL_need_4 rfl (lv_at hl 2 rfl) ?_
  refine q_thH (q_thV (rest := [.int 0, .ref ao]) hx hb hml hown hE hT hZ (c_X5_need_T1 l hfl D cI cZ cL ad S x1 x2 hI hth) ck_X5_need w_432 hP 0 rfl rfl hl.1 rfl ⟨Nat.le_of_ble_eq_true rfl, Nat.le_of_ble_eq_true rfl⟩ (Nat.le_of_ble_eq_true rfl) dL_need_5 ⟨Nat.le_of_ble_eq_true rfl, Nat.le_of_ble_eq_true rfl⟩) hown (tableOf [(0, 10, 13, 25)]) _ _ htb (by intro z hz; simp only [tableOf, List.map_cons, List.map_nil, List.mem_cons, List.not_mem_nil, or_false] at hz; rcases hz with rfl <;> exact Or.inr ⟨by decide, _, hE.1 _ w_431 args, hC ("java/lang/IllegalArgumentException", "java/lang/IndexOutOfBoundsException") (by decide)⟩) (by decide +kernel) (by decide +kernel) (hE.1 _ w_322 args) (hE.1 _ w_333 args) (fun q H hS => ?_)
  refine W.eq (g2 := F0 m 17 ls [.ref q]) rfl ?_
  have hP := q_keep hS hP (fun _ _ h => h)
  have hO := q_keep hS hO (fun _ _ h => h)
  refine lv_astore (lv' := [(4, .ref q), (0, .ref (ad 0)), (1, .int x1), (2, .int x2), (3, .ref ao)]) hx hb dL_need_17 hl (by decide) rfl (fun ls hl => ?_)
  refine lv_iconst (v := 2) hx hb dL_need_19 (by decide) ?_
  exact W.zret hx hb hr rfl (fun t ht hW => ⟨rfl, ⟨by rw [ht]; exact hP, by rw [ht]; exact hO⟩, (q_Swk (fun _ h => h.elim) hS).F ht⟩) (fun _ h => nomatch h) dL_need_20 hlk
set_option maxHeartbeats 4000000 in
set_option maxRecDepth 100000 in
theorem h_need_T2 (l : Launch) (hfl : l.flags = flags0) (D : va_G) (cI cZ cL : ClassId) (ad : Nat → Nat) (ao : Nat) (S : Mem) (f : Nat → Int64) (A : Nat → Prop) (x1 : Int32) (x2 : Int32) (hI : I0 S) (hth : (oNeed S x1 x2).1 = some "java/lang/IllegalStateException") :
    HL l D cI cZ cL yL_need cL_need 5 [(0, 10, 13, 25), (0, 10, 17, 13), (0, 10, 21, 15)] 8 [.ref (ad 0), .int x1, .int x2, .ref ao] A ao (wC ad cI S) (wC ad cI S) f (f) 3 := by
  refine HL.of (by decide) (Nat.le_of_ble_eq_true rfl) ?_
  intro p e s m args below meth c ls hx hb hr hml hown hlk htb hE hT hZ hC hP hO hS hl
  have hl : lv_has ls 5 [(0, .ref (ad 0)), (1, .int x1), (2, .int x2), (3, .ref ao)] := hl
  refine lv_aload_n hx hb dL_need_0 rfl (lv_at hl 3 rfl) ?_
  refine lv_iconst (v := 0) hx hb dL_need_1 (by decide) ?_
  refine lv_aload_n hx hb dL_need_2 rfl (lv_at hl 0 rfl) ?_
  refine lv_iload_n hx hb dL_need_3 rfl (lv_at hl 1 rfl) ?_
  refine lv_iload_n hx hb dL_need_4 rfl (lv_at hl 2 rfl) ?_
  refine q_thH (q_thV (rest := [.int 0, .ref ao]) hx hb hml hown hE hT hZ (c_X5_need_T2 l hfl D cI cZ cL ad S x1 x2 hI hth) ck_X5_need w_432 hP 0 rfl rfl hl.1 rfl ⟨Nat.le_of_ble_eq_true rfl, Nat.le_of_ble_eq_true rfl⟩ (Nat.le_of_ble_eq_true rfl) dL_need_5 ⟨Nat.le_of_ble_eq_true rfl, Nat.le_of_ble_eq_true rfl⟩) hown (tableOf [(0, 10, 13, 25), (0, 10, 17, 13)]) _ _ htb (by intro z hz; simp only [tableOf, List.map_cons, List.map_nil, List.mem_cons, List.not_mem_nil, or_false] at hz; rcases hz with rfl | rfl <;> skip <;> first | exact Or.inr ⟨by decide, _, hE.1 _ w_431 args, hC ("java/lang/IllegalStateException", "java/lang/IndexOutOfBoundsException") (by decide)⟩ | exact Or.inr ⟨by decide, _, hE.1 _ w_322 args, hC ("java/lang/IllegalStateException", "java/lang/IllegalArgumentException") (by decide)⟩) (by decide +kernel) (by decide +kernel) (hE.1 _ w_323 args) (hE.1 _ w_402 args) (fun q H hS => ?_)
  refine W.eq (g2 := F0 m 21 ls [.ref q]) rfl ?_
  have hP := q_keep hS hP (fun _ _ h => h)
  have hO := q_keep hS hO (fun _ _ h => h)
  refine lv_astore (lv' := [(4, .ref q), (0, .ref (ad 0)), (1, .int x1), (2, .int x2), (3, .ref ao)]) hx hb dL_need_21 hl (by decide) rfl (fun ls hl => ?_)
  refine lv_iconst (v := 3) hx hb dL_need_23 (by decide) ?_
  exact W.zret hx hb hr rfl (fun t ht hW => ⟨rfl, ⟨by rw [ht]; exact hP, by rw [ht]; exact hO⟩, (q_Swk (fun _ h => h.elim) hS).F ht⟩) (fun _ h => nomatch h) dL_need_24 hlk
theorem dL_addTeam_0 : decode cL_addTeam 0 = .ok (.aload_n 1, 1) := by decide +kernel
theorem dL_addTeam_1 : decode cL_addTeam 1 = .ok (.iconst 0, 1) := by decide +kernel
theorem dL_addTeam_2 : decode cL_addTeam 2 = .ok (.aload_n 0, 1) := by decide +kernel
theorem dL_addTeam_3 : decode cL_addTeam 3 = .ok (.invokevirtual 27, 3) := by decide +kernel
theorem dL_addTeam_6 : decode cL_addTeam 6 = .ok (.i2l, 1) := by decide +kernel
theorem dL_addTeam_7 : decode cL_addTeam 7 = .ok (.lastore, 1) := by decide +kernel
theorem dL_addTeam_8 : decode cL_addTeam 8 = .ok (.goto 6, 3) := by decide +kernel
theorem dL_addTeam_11 : decode cL_addTeam 11 = .ok (.astore_n 2, 1) := by decide +kernel
theorem dL_addTeam_12 : decode cL_addTeam 12 = .ok (.iconst 1, 1) := by decide +kernel
theorem dL_addTeam_13 : decode cL_addTeam 13 = .ok (.ireturn, 1) := by decide +kernel
theorem dL_addTeam_14 : decode cL_addTeam 14 = .ok (.iconst 0, 1) := by decide +kernel
theorem dL_addTeam_15 : decode cL_addTeam 15 = .ok (.ireturn, 1) := by decide +kernel
set_option maxHeartbeats 4000000 in
set_option maxRecDepth 100000 in
theorem h_addTeam (l : Launch) (D : va_G) (cI cZ cL : ClassId) (ad : Nat → Nat) (ao : Nat) (S : Mem) (f : Nat → Int64) (A : Nat → Prop) (hD : va_D A (wO ao cL f ++ wC ad cI S)) (hI : I0 S) (hth : (oAddT S).1 = none) :
    HL l D cI cZ cL yL_addTeam cL_addTeam 3 [(0, 8, 11, 15)] 8 [.ref (ad 0), .ref ao] A ao (wC ad cI S) (wC ad cI ((oAddT S).2.2)) f (vp_updL f 0 ((oAddT S).2.1).toInt64) 0 := by
  refine HL.of (by decide) (Nat.le_of_ble_eq_true rfl) ?_
  intro p e s m args below meth c ls hx hb hr hml hown hlk htb hE hT hZ hC hP hO hS hl
  have hl : lv_has ls 3 [(0, .ref (ad 0)), (1, .ref ao)] := hl
  refine lv_aload_n hx hb dL_addTeam_0 rfl (lv_at hl 1 rfl) ?_
  refine lv_iconst (v := 0) hx hb dL_addTeam_1 (by decide) ?_
  refine lv_aload_n hx hb dL_addTeam_2 rfl (lv_at hl 0 rfl) ?_
  refine q_wr (q_runV (rest := [.int 0, .ref ao]) hx hb hml hown hE (c_X5_addTeam l D cI cZ cL ad S (aW (wC ad cI S)) (aW_D (q_Dtl hD)) hI hth) ck_X5_addTeam w_468 hP 0 rfl rfl hl.1 rfl ⟨Nat.le_of_ble_eq_true rfl, Nat.le_of_ble_eq_true rfl⟩ (Nat.le_of_ble_eq_true rfl) dL_addTeam_3 ⟨Nat.zero_le _, Nat.zero_le _⟩) (va_S.rf (A := aW (wC ad cI S)) (H0 := s.heap)) (fun H locs hP hS => ?_)
  have hO := q_keep hS hO (q_Dno hD)
  have hS := q_Swk (q_Dsub hD) hS
  have hD : va_D A (wO ao cL f ++ wC ad cI ((oAddT S).2.2)) := q_D (ws := wO ao cL f ++ wC ad cI S) rfl hD
  refine lv_i2l (v := ((oAddT S).2.1).toInt64) hx hb dL_addTeam_6 rfl ?_
  refine q_last hx hb hE hP hO hD hS dL_addTeam_7 (fun H locs hP hO hS => ?_)
  refine lv_goto (tgt := 14) hx hb dL_addTeam_8 (by decide) ?_
  refine lv_iconst (v := 0) hx hb dL_addTeam_14 (by decide) ?_
  refine W.widen (k := 1) (n := 6) (Nat.le_of_ble_eq_true rfl) (Nat.le_of_ble_eq_true rfl) ?_
  exact W.zret hx hb hr rfl (fun t ht hW => ⟨rfl, ⟨by rw [ht]; exact hP, by rw [ht]; exact hO⟩, hS.F ht⟩) hS.2.2 dL_addTeam_15 hlk
set_option maxHeartbeats 4000000 in
set_option maxRecDepth 100000 in
theorem h_addTeam_T0 (l : Launch) (hfl : l.flags = flags0) (D : va_G) (cI cZ cL : ClassId) (ad : Nat → Nat) (ao : Nat) (S : Mem) (f : Nat → Int64) (A : Nat → Prop) (hI : I0 S) (hth : (oAddT S).1 = some "java/lang/IllegalStateException") :
    HL l D cI cZ cL yL_addTeam cL_addTeam 3 [(0, 8, 11, 15)] 8 [.ref (ad 0), .ref ao] A ao (wC ad cI S) (wC ad cI S) f (f) 1 := by
  refine HL.of (by decide) (Nat.le_of_ble_eq_true rfl) ?_
  intro p e s m args below meth c ls hx hb hr hml hown hlk htb hE hT hZ hC hP hO hS hl
  have hl : lv_has ls 3 [(0, .ref (ad 0)), (1, .ref ao)] := hl
  refine lv_aload_n hx hb dL_addTeam_0 rfl (lv_at hl 1 rfl) ?_
  refine lv_iconst (v := 0) hx hb dL_addTeam_1 (by decide) ?_
  refine lv_aload_n hx hb dL_addTeam_2 rfl (lv_at hl 0 rfl) ?_
  refine q_thH (q_thV (rest := [.int 0, .ref ao]) hx hb hml hown hE hT hZ (c_X5_addTeam_T0 l hfl D cI cZ cL ad S hI hth) ck_X5_addTeam w_468 hP 0 rfl rfl hl.1 rfl ⟨Nat.le_of_ble_eq_true rfl, Nat.le_of_ble_eq_true rfl⟩ (Nat.le_of_ble_eq_true rfl) dL_addTeam_3 ⟨Nat.le_of_ble_eq_true rfl, Nat.le_of_ble_eq_true rfl⟩) hown [] _ _ htb (fun z hz => nomatch hz) (by decide +kernel) (by decide +kernel) (hE.1 _ w_323 args) (hE.1 _ w_402 args) (fun q H hS => ?_)
  refine W.eq (g2 := F0 m 11 ls [.ref q]) rfl ?_
  have hP := q_keep hS hP (fun _ _ h => h)
  have hO := q_keep hS hO (fun _ _ h => h)
  refine lv_astore_n (lv' := [(2, .ref q), (0, .ref (ad 0)), (1, .ref ao)]) hx hb dL_addTeam_11 rfl hl (by decide) rfl (fun ls hl => ?_)
  refine lv_iconst (v := 1) hx hb dL_addTeam_12 (by decide) ?_
  exact W.zret hx hb hr rfl (fun t ht hW => ⟨rfl, ⟨by rw [ht]; exact hP, by rw [ht]; exact hO⟩, (q_Swk (fun _ h => h.elim) hS).F ht⟩) (fun _ h => nomatch h) dL_addTeam_13 hlk
theorem dL_end_0 : decode cL_end 0 = .ok (.aload_n 1, 1) := by decide +kernel
theorem dL_end_1 : decode cL_end 1 = .ok (.iconst 0, 1) := by decide +kernel
theorem dL_end_2 : decode cL_end 2 = .ok (.aload_n 0, 1) := by decide +kernel
theorem dL_end_3 : decode cL_end 3 = .ok (.invokevirtual 31, 3) := by decide +kernel
theorem dL_end_6 : decode cL_end 6 = .ok (.i2l, 1) := by decide +kernel
theorem dL_end_7 : decode cL_end 7 = .ok (.lastore, 1) := by decide +kernel
theorem dL_end_8 : decode cL_end 8 = .ok (.goto 6, 3) := by decide +kernel
theorem dL_end_11 : decode cL_end 11 = .ok (.astore_n 2, 1) := by decide +kernel
theorem dL_end_12 : decode cL_end 12 = .ok (.iconst 1, 1) := by decide +kernel
theorem dL_end_13 : decode cL_end 13 = .ok (.ireturn, 1) := by decide +kernel
theorem dL_end_14 : decode cL_end 14 = .ok (.iconst 0, 1) := by decide +kernel
theorem dL_end_15 : decode cL_end 15 = .ok (.ireturn, 1) := by decide +kernel
set_option maxHeartbeats 4000000 in
set_option maxRecDepth 100000 in
theorem h_end (l : Launch) (D : va_G) (cI cZ cL : ClassId) (ad : Nat → Nat) (ao : Nat) (S : Mem) (f : Nat → Int64) (A : Nat → Prop) (hD : va_D A (wO ao cL f ++ wC ad cI S)) (hI : I0 S) (hth : (oEnd S).1 = none) :
    HL l D cI cZ cL yL_end cL_end 3 [(0, 8, 11, 15)] 8 [.ref (ad 0), .ref ao] A ao (wC ad cI S) (wC ad cI ((oEnd S).2.2)) f (vp_updL f 0 ((oEnd S).2.1).toInt64) 0 := by
  refine HL.of (by decide) (Nat.le_of_ble_eq_true rfl) ?_
  intro p e s m args below meth c ls hx hb hr hml hown hlk htb hE hT hZ hC hP hO hS hl
  have hl : lv_has ls 3 [(0, .ref (ad 0)), (1, .ref ao)] := hl
  refine lv_aload_n hx hb dL_end_0 rfl (lv_at hl 1 rfl) ?_
  refine lv_iconst (v := 0) hx hb dL_end_1 (by decide) ?_
  refine lv_aload_n hx hb dL_end_2 rfl (lv_at hl 0 rfl) ?_
  refine q_wr (q_runV (rest := [.int 0, .ref ao]) hx hb hml hown hE (c_X5_end l D cI cZ cL ad S (aW (wC ad cI S)) (aW_D (q_Dtl hD)) hI hth) ck_X5_end w_476 hP 0 rfl rfl hl.1 rfl ⟨Nat.le_of_ble_eq_true rfl, Nat.le_of_ble_eq_true rfl⟩ (Nat.le_of_ble_eq_true rfl) dL_end_3 ⟨Nat.zero_le _, Nat.zero_le _⟩) (va_S.rf (A := aW (wC ad cI S)) (H0 := s.heap)) (fun H locs hP hS => ?_)
  have hO := q_keep hS hO (q_Dno hD)
  have hS := q_Swk (q_Dsub hD) hS
  have hD : va_D A (wO ao cL f ++ wC ad cI ((oEnd S).2.2)) := q_D (ws := wO ao cL f ++ wC ad cI S) rfl hD
  refine lv_i2l (v := ((oEnd S).2.1).toInt64) hx hb dL_end_6 rfl ?_
  refine q_last hx hb hE hP hO hD hS dL_end_7 (fun H locs hP hO hS => ?_)
  refine lv_goto (tgt := 14) hx hb dL_end_8 (by decide) ?_
  refine lv_iconst (v := 0) hx hb dL_end_14 (by decide) ?_
  refine W.widen (k := 1) (n := 6) (Nat.le_of_ble_eq_true rfl) (Nat.le_of_ble_eq_true rfl) ?_
  exact W.zret hx hb hr rfl (fun t ht hW => ⟨rfl, ⟨by rw [ht]; exact hP, by rw [ht]; exact hO⟩, hS.F ht⟩) hS.2.2 dL_end_15 hlk
set_option maxHeartbeats 4000000 in
set_option maxRecDepth 100000 in
theorem h_end_T0 (l : Launch) (hfl : l.flags = flags0) (D : va_G) (cI cZ cL : ClassId) (ad : Nat → Nat) (ao : Nat) (S : Mem) (f : Nat → Int64) (A : Nat → Prop) (hI : I0 S) (hth : (oEnd S).1 = some "java/lang/IllegalStateException") :
    HL l D cI cZ cL yL_end cL_end 3 [(0, 8, 11, 15)] 8 [.ref (ad 0), .ref ao] A ao (wC ad cI S) (wC ad cI S) f (f) 1 := by
  refine HL.of (by decide) (Nat.le_of_ble_eq_true rfl) ?_
  intro p e s m args below meth c ls hx hb hr hml hown hlk htb hE hT hZ hC hP hO hS hl
  have hl : lv_has ls 3 [(0, .ref (ad 0)), (1, .ref ao)] := hl
  refine lv_aload_n hx hb dL_end_0 rfl (lv_at hl 1 rfl) ?_
  refine lv_iconst (v := 0) hx hb dL_end_1 (by decide) ?_
  refine lv_aload_n hx hb dL_end_2 rfl (lv_at hl 0 rfl) ?_
  refine q_thH (q_thV (rest := [.int 0, .ref ao]) hx hb hml hown hE hT hZ (c_X5_end_T0 l hfl D cI cZ cL ad S hI hth) ck_X5_end w_476 hP 0 rfl rfl hl.1 rfl ⟨Nat.le_of_ble_eq_true rfl, Nat.le_of_ble_eq_true rfl⟩ (Nat.le_of_ble_eq_true rfl) dL_end_3 ⟨Nat.le_of_ble_eq_true rfl, Nat.le_of_ble_eq_true rfl⟩) hown [] _ _ htb (fun z hz => nomatch hz) (by decide +kernel) (by decide +kernel) (hE.1 _ w_323 args) (hE.1 _ w_402 args) (fun q H hS => ?_)
  refine W.eq (g2 := F0 m 11 ls [.ref q]) rfl ?_
  have hP := q_keep hS hP (fun _ _ h => h)
  have hO := q_keep hS hO (fun _ _ h => h)
  refine lv_astore_n (lv' := [(2, .ref q), (0, .ref (ad 0)), (1, .ref ao)]) hx hb dL_end_11 rfl hl (by decide) rfl (fun ls hl => ?_)
  refine lv_iconst (v := 1) hx hb dL_end_12 (by decide) ?_
  exact W.zret hx hb hr rfl (fun t ht hW => ⟨rfl, ⟨by rw [ht]; exact hP, by rw [ht]; exact hO⟩, (q_Swk (fun _ h => h.elim) hS).F ht⟩) (fun _ h => nomatch h) dL_end_13 hlk
theorem dL_answer_0 : decode cL_answer 0 = .ok (.aload 4, 2) := by decide +kernel
theorem dL_answer_2 : decode cL_answer 2 = .ok (.iconst 0, 1) := by decide +kernel
theorem dL_answer_3 : decode cL_answer 3 = .ok (.aload_n 0, 1) := by decide +kernel
theorem dL_answer_4 : decode cL_answer 4 = .ok (.iload_n 1, 1) := by decide +kernel
theorem dL_answer_5 : decode cL_answer 5 = .ok (.iload_n 2, 1) := by decide +kernel
theorem dL_answer_6 : decode cL_answer 6 = .ok (.iload_n 3, 1) := by decide +kernel
theorem dL_answer_7 : decode cL_answer 7 = .ok (.invokevirtual 34, 3) := by decide +kernel
theorem dL_answer_10 : decode cL_answer 10 = .ok (.ifCond .eq 7, 3) := by decide +kernel
theorem dL_answer_13 : decode cL_answer 13 = .ok (.lconst 1, 1) := by decide +kernel
theorem dL_answer_14 : decode cL_answer 14 = .ok (.goto 4, 3) := by decide +kernel
theorem dL_answer_17 : decode cL_answer 17 = .ok (.lconst 0, 1) := by decide +kernel
theorem dL_answer_18 : decode cL_answer 18 = .ok (.lastore, 1) := by decide +kernel
theorem dL_answer_19 : decode cL_answer 19 = .ok (.goto 15, 3) := by decide +kernel
theorem dL_answer_22 : decode cL_answer 22 = .ok (.astore 5, 2) := by decide +kernel
theorem dL_answer_24 : decode cL_answer 24 = .ok (.iconst 1, 1) := by decide +kernel
theorem dL_answer_25 : decode cL_answer 25 = .ok (.ireturn, 1) := by decide +kernel
theorem dL_answer_26 : decode cL_answer 26 = .ok (.astore 5, 2) := by decide +kernel
theorem dL_answer_28 : decode cL_answer 28 = .ok (.iconst 2, 1) := by decide +kernel
theorem dL_answer_29 : decode cL_answer 29 = .ok (.ireturn, 1) := by decide +kernel
theorem dL_answer_30 : decode cL_answer 30 = .ok (.astore 5, 2) := by decide +kernel
theorem dL_answer_32 : decode cL_answer 32 = .ok (.iconst 3, 1) := by decide +kernel
theorem dL_answer_33 : decode cL_answer 33 = .ok (.ireturn, 1) := by decide +kernel
theorem dL_answer_34 : decode cL_answer 34 = .ok (.iconst 0, 1) := by decide +kernel
theorem dL_answer_35 : decode cL_answer 35 = .ok (.ireturn, 1) := by decide +kernel
set_option maxHeartbeats 4000000 in
set_option maxRecDepth 100000 in
theorem h_answer (l : Launch) (D : va_G) (cI cZ cL : ClassId) (ad : Nat → Nat) (ao : Nat) (S : Mem) (f : Nat → Int64) (A : Nat → Prop) (hD : va_D A (wO ao cL f ++ wC ad cI S)) (x1 : Int32) (x2 : Int32) (x3 : Int32) (hI : I0 S) (hth : (oAns S x1 x2 x3).1 = none) :
    HL l D cI cZ cL yL_answer cL_answer 6 [(0, 19, 22, 25), (0, 19, 26, 13), (0, 19, 30, 15)] 8 [.ref (ad 0), .int x1, .int x2, .int x3, .ref ao] A ao (wC ad cI S) (wC ad cI ((oAns S x1 x2 x3).2.2)) f (vp_updL f 0 (if (oAns S x1 x2 x3).2.1 = 0 then 0 else 1)) 0 := by
  refine HL.of (by decide) (Nat.le_of_ble_eq_true rfl) ?_
  intro p e s m args below meth c ls hx hb hr hml hown hlk htb hE hT hZ hC hP hO hS hl
  have hl : lv_has ls 6 [(0, .ref (ad 0)), (1, .int x1), (2, .int x2), (3, .int x3), (4, .ref ao)] := hl
  refine lv_aload hx hb dL_answer_0 (lv_at hl 4 rfl) ?_
  refine lv_iconst (v := 0) hx hb dL_answer_2 (by decide) ?_
  refine lv_aload_n hx hb dL_answer_3 rfl (lv_at hl 0 rfl) ?_
  refine lv_iload_n hx hb dL_answer_4 rfl (lv_at hl 1 rfl) ?_
  refine lv_iload_n hx hb dL_answer_5 rfl (lv_at hl 2 rfl) ?_
  refine lv_iload_n hx hb dL_answer_6 rfl (lv_at hl 3 rfl) ?_
  refine q_wr (q_runV (rest := [.int 0, .ref ao]) hx hb hml hown hE (c_X5_answer l D cI cZ cL ad S (aW (wC ad cI S)) (aW_D (q_Dtl hD)) x1 x2 x3 hI hth) ck_X5_answer w_484 hP 0 rfl rfl hl.1 rfl ⟨Nat.le_of_ble_eq_true rfl, Nat.le_of_ble_eq_true rfl⟩ (Nat.le_of_ble_eq_true rfl) dL_answer_7 ⟨Nat.zero_le _, Nat.zero_le _⟩) (va_S.rf (A := aW (wC ad cI S)) (H0 := s.heap)) (fun H locs hP hS => ?_)
  have hO := q_keep hS hO (q_Dno hD)
  have hS := q_Swk (q_Dsub hD) hS
  have hD : va_D A (wO ao cL f ++ wC ad cI ((oAns S x1 x2 x3).2.2)) := q_D (ws := wO ao cL f ++ wC ad cI S) rfl hD
  refine lv_if_eq (tgt := 17) hx hb dL_answer_10 (by decide) (fun c_1 => ?_) (fun c_1 => ?_)
  · rw [if_pos c_1]
    refine lv_lconst (v := 0) hx hb dL_answer_17 (by decide) ?_
    refine q_last hx hb hE hP hO hD hS dL_answer_18 (fun H locs hP hO hS => ?_)
    refine lv_goto (tgt := 34) hx hb dL_answer_19 (by decide) ?_
    refine lv_iconst (v := 0) hx hb dL_answer_34 (by decide) ?_
    refine W.widen (k := 1) (n := 6) (Nat.le_of_ble_eq_true rfl) (Nat.le_of_ble_eq_true rfl) ?_
    exact W.zret hx hb hr rfl (fun t ht hW => ⟨rfl, ⟨by rw [ht]; exact hP, by rw [ht]; exact hO⟩, hS.F ht⟩) hS.2.2 dL_answer_35 hlk
  · rw [if_neg c_1]
    refine lv_lconst (v := 1) hx hb dL_answer_13 (by decide) ?_
    refine lv_goto (tgt := 18) hx hb dL_answer_14 (by decide) ?_
    refine q_last hx hb hE hP hO hD hS dL_answer_18 (fun H locs hP hO hS => ?_)
    refine lv_goto (tgt := 34) hx hb dL_answer_19 (by decide) ?_
    refine lv_iconst (v := 0) hx hb dL_answer_34 (by decide) ?_
    refine W.widen (k := 1) (n := 6) (Nat.le_of_ble_eq_true rfl) (Nat.le_of_ble_eq_true rfl) ?_
    exact W.zret hx hb hr rfl (fun t ht hW => ⟨rfl, ⟨by rw [ht]; exact hP, by rw [ht]; exact hO⟩, hS.F ht⟩) hS.2.2 dL_answer_35 hlk
set_option maxHeartbeats 4000000 in
set_option maxRecDepth 100000 in
theorem h_answer_T0 (l : Launch) (hfl : l.flags = flags0) (D : va_G) (cI cZ cL : ClassId) (ad : Nat → Nat) (ao : Nat) (S : Mem) (f : Nat → Int64) (A : Nat → Prop) (x1 : Int32) (x2 : Int32) (x3 : Int32) (hI : I0 S) (hth : (oAns S x1 x2 x3).1 = some "java/lang/IndexOutOfBoundsException") :
    HL l D cI cZ cL yL_answer cL_answer 6 [(0, 19, 22, 25), (0, 19, 26, 13), (0, 19, 30, 15)] 8 [.ref (ad 0), .int x1, .int x2, .int x3, .ref ao] A ao (wC ad cI S) (wC ad cI S) f (f) 1 := by
  refine HL.of (by decide) (Nat.le_of_ble_eq_true rfl) ?_
  intro p e s m args below meth c ls hx hb hr hml hown hlk htb hE hT hZ hC hP hO hS hl
  have hl : lv_has ls 6 [(0, .ref (ad 0)), (1, .int x1), (2, .int x2), (3, .int x3), (4, .ref ao)] := hl
  refine lv_aload hx hb dL_answer_0 (lv_at hl 4 rfl) ?_
  refine lv_iconst (v := 0) hx hb dL_answer_2 (by decide) ?_
  refine lv_aload_n hx hb dL_answer_3 rfl (lv_at hl 0 rfl) ?_
  refine lv_iload_n hx hb dL_answer_4 rfl (lv_at hl 1 rfl) ?_
  refine lv_iload_n hx hb dL_answer_5 rfl (lv_at hl 2 rfl) ?_
  refine lv_iload_n hx hb dL_answer_6 rfl (lv_at hl 3 rfl) ?_
  refine q_thH (q_thV (rest := [.int 0, .ref ao]) hx hb hml hown hE hT hZ (c_X5_answer_T0 l hfl D cI cZ cL ad S x1 x2 x3 hI hth) ck_X5_answer w_484 hP 0 rfl rfl hl.1 rfl ⟨Nat.le_of_ble_eq_true rfl, Nat.le_of_ble_eq_true rfl⟩ (Nat.le_of_ble_eq_true rfl) dL_answer_7 ⟨Nat.le_of_ble_eq_true rfl, Nat.le_of_ble_eq_true rfl⟩) hown [] _ _ htb (fun z hz => nomatch hz) (by decide +kernel) (by decide +kernel) (hE.1 _ w_431 args) (hE.1 _ w_442 args) (fun q H hS => ?_)
  refine W.eq (g2 := F0 m 22 ls [.ref q]) rfl ?_
  have hP := q_keep hS hP (fun _ _ h => h)
  have hO := q_keep hS hO (fun _ _ h => h)
  refine lv_astore (lv' := [(5, .ref q), (0, .ref (ad 0)), (1, .int x1), (2, .int x2), (3, .int x3), (4, .ref ao)]) hx hb dL_answer_22 hl (by decide) rfl (fun ls hl => ?_)
  refine lv_iconst (v := 1) hx hb dL_answer_24 (by decide) ?_
  exact W.zret hx hb hr rfl (fun t ht hW => ⟨rfl, ⟨by rw [ht]; exact hP, by rw [ht]; exact hO⟩, (q_Swk (fun _ h => h.elim) hS).F ht⟩) (fun _ h => nomatch h) dL_answer_25 hlk
set_option maxHeartbeats 4000000 in
set_option maxRecDepth 100000 in
theorem h_answer_T1 (l : Launch) (hfl : l.flags = flags0) (D : va_G) (cI cZ cL : ClassId) (ad : Nat → Nat) (ao : Nat) (S : Mem) (f : Nat → Int64) (A : Nat → Prop) (x1 : Int32) (x2 : Int32) (x3 : Int32) (hI : I0 S) (hth : (oAns S x1 x2 x3).1 = some "java/lang/IllegalArgumentException") :
    HL l D cI cZ cL yL_answer cL_answer 6 [(0, 19, 22, 25), (0, 19, 26, 13), (0, 19, 30, 15)] 8 [.ref (ad 0), .int x1, .int x2, .int x3, .ref ao] A ao (wC ad cI S) (wC ad cI S) f (f) 2 := by
  refine HL.of (by decide) (Nat.le_of_ble_eq_true rfl) ?_
  intro p e s m args below meth c ls hx hb hr hml hown hlk htb hE hT hZ hC hP hO hS hl
  have hl : lv_has ls 6 [(0, .ref (ad 0)), (1, .int x1), (2, .int x2), (3, .int x3), (4, .ref ao)] := hl
  refine lv_aload hx hb dL_answer_0 (lv_at hl 4 rfl) ?_
  refine lv_iconst (v := 0) hx hb dL_answer_2 (by decide) ?_
  refine lv_aload_n hx hb dL_answer_3 rfl (lv_at hl 0 rfl) ?_
  refine lv_iload_n hx hb dL_answer_4 rfl (lv_at hl 1 rfl) ?_
  refine lv_iload_n hx hb dL_answer_5 rfl (lv_at hl 2 rfl) ?_
  refine lv_iload_n hx hb dL_answer_6 rfl (lv_at hl 3 rfl) ?_
  refine q_thH (q_thV (rest := [.int 0, .ref ao]) hx hb hml hown hE hT hZ (c_X5_answer_T1 l hfl D cI cZ cL ad S x1 x2 x3 hI hth) ck_X5_answer w_484 hP 0 rfl rfl hl.1 rfl ⟨Nat.le_of_ble_eq_true rfl, Nat.le_of_ble_eq_true rfl⟩ (Nat.le_of_ble_eq_true rfl) dL_answer_7 ⟨Nat.le_of_ble_eq_true rfl, Nat.le_of_ble_eq_true rfl⟩) hown (tableOf [(0, 19, 22, 25)]) _ _ htb (by intro z hz; simp only [tableOf, List.map_cons, List.map_nil, List.mem_cons, List.not_mem_nil, or_false] at hz; rcases hz with rfl <;> exact Or.inr ⟨by decide, _, hE.1 _ w_431 args, hC ("java/lang/IllegalArgumentException", "java/lang/IndexOutOfBoundsException") (by decide)⟩) (by decide +kernel) (by decide +kernel) (hE.1 _ w_322 args) (hE.1 _ w_333 args) (fun q H hS => ?_)
  refine W.eq (g2 := F0 m 26 ls [.ref q]) rfl ?_
  have hP := q_keep hS hP (fun _ _ h => h)
  have hO := q_keep hS hO (fun _ _ h => h)
  refine lv_astore (lv' := [(5, .ref q), (0, .ref (ad 0)), (1, .int x1), (2, .int x2), (3, .int x3), (4, .ref ao)]) hx hb dL_answer_26 hl (by decide) rfl (fun ls hl => ?_)
  refine lv_iconst (v := 2) hx hb dL_answer_28 (by decide) ?_
  exact W.zret hx hb hr rfl (fun t ht hW => ⟨rfl, ⟨by rw [ht]; exact hP, by rw [ht]; exact hO⟩, (q_Swk (fun _ h => h.elim) hS).F ht⟩) (fun _ h => nomatch h) dL_answer_29 hlk
set_option maxHeartbeats 4000000 in
set_option maxRecDepth 100000 in
theorem h_answer_T2 (l : Launch) (hfl : l.flags = flags0) (D : va_G) (cI cZ cL : ClassId) (ad : Nat → Nat) (ao : Nat) (S : Mem) (f : Nat → Int64) (A : Nat → Prop) (x1 : Int32) (x2 : Int32) (x3 : Int32) (hI : I0 S) (hth : (oAns S x1 x2 x3).1 = some "java/lang/IllegalStateException") :
    HL l D cI cZ cL yL_answer cL_answer 6 [(0, 19, 22, 25), (0, 19, 26, 13), (0, 19, 30, 15)] 8 [.ref (ad 0), .int x1, .int x2, .int x3, .ref ao] A ao (wC ad cI S) (wC ad cI S) f (f) 3 := by
  refine HL.of (by decide) (Nat.le_of_ble_eq_true rfl) ?_
  intro p e s m args below meth c ls hx hb hr hml hown hlk htb hE hT hZ hC hP hO hS hl
  have hl : lv_has ls 6 [(0, .ref (ad 0)), (1, .int x1), (2, .int x2), (3, .int x3), (4, .ref ao)] := hl
  refine lv_aload hx hb dL_answer_0 (lv_at hl 4 rfl) ?_
  refine lv_iconst (v := 0) hx hb dL_answer_2 (by decide) ?_
  refine lv_aload_n hx hb dL_answer_3 rfl (lv_at hl 0 rfl) ?_
  refine lv_iload_n hx hb dL_answer_4 rfl (lv_at hl 1 rfl) ?_
  refine lv_iload_n hx hb dL_answer_5 rfl (lv_at hl 2 rfl) ?_
  refine lv_iload_n hx hb dL_answer_6 rfl (lv_at hl 3 rfl) ?_
  refine q_thH (q_thV (rest := [.int 0, .ref ao]) hx hb hml hown hE hT hZ (c_X5_answer_T2 l hfl D cI cZ cL ad S x1 x2 x3 hI hth) ck_X5_answer w_484 hP 0 rfl rfl hl.1 rfl ⟨Nat.le_of_ble_eq_true rfl, Nat.le_of_ble_eq_true rfl⟩ (Nat.le_of_ble_eq_true rfl) dL_answer_7 ⟨Nat.le_of_ble_eq_true rfl, Nat.le_of_ble_eq_true rfl⟩) hown (tableOf [(0, 19, 22, 25), (0, 19, 26, 13)]) _ _ htb (by intro z hz; simp only [tableOf, List.map_cons, List.map_nil, List.mem_cons, List.not_mem_nil, or_false] at hz; rcases hz with rfl | rfl <;> skip <;> first | exact Or.inr ⟨by decide, _, hE.1 _ w_431 args, hC ("java/lang/IllegalStateException", "java/lang/IndexOutOfBoundsException") (by decide)⟩ | exact Or.inr ⟨by decide, _, hE.1 _ w_322 args, hC ("java/lang/IllegalStateException", "java/lang/IllegalArgumentException") (by decide)⟩) (by decide +kernel) (by decide +kernel) (hE.1 _ w_323 args) (hE.1 _ w_402 args) (fun q H hS => ?_)
  refine W.eq (g2 := F0 m 30 ls [.ref q]) rfl ?_
  have hP := q_keep hS hP (fun _ _ h => h)
  have hO := q_keep hS hO (fun _ _ h => h)
  refine lv_astore (lv' := [(5, .ref q), (0, .ref (ad 0)), (1, .int x1), (2, .int x2), (3, .int x3), (4, .ref ao)]) hx hb dL_answer_30 hl (by decide) rfl (fun ls hl => ?_)
  refine lv_iconst (v := 3) hx hb dL_answer_32 (by decide) ?_
  exact W.zret hx hb hr rfl (fun t ht hW => ⟨rfl, ⟨by rw [ht]; exact hP, by rw [ht]; exact hO⟩, (q_Swk (fun _ h => h.elim) hS).F ht⟩) (fun _ h => nomatch h) dL_answer_33 hlk
theorem dL_hint_0 : decode cL_hint 0 = .ok (.aload_n 3, 1) := by decide +kernel
theorem dL_hint_1 : decode cL_hint 1 = .ok (.iconst 0, 1) := by decide +kernel
theorem dL_hint_2 : decode cL_hint 2 = .ok (.aload_n 0, 1) := by decide +kernel
theorem dL_hint_3 : decode cL_hint 3 = .ok (.iload_n 1, 1) := by decide +kernel
theorem dL_hint_4 : decode cL_hint 4 = .ok (.iload_n 2, 1) := by decide +kernel
theorem dL_hint_5 : decode cL_hint 5 = .ok (.invokevirtual 38, 3) := by decide +kernel
theorem dL_hint_8 : decode cL_hint 8 = .ok (.i2l, 1) := by decide +kernel
theorem dL_hint_9 : decode cL_hint 9 = .ok (.lastore, 1) := by decide +kernel
theorem dL_hint_10 : decode cL_hint 10 = .ok (.goto 11, 3) := by decide +kernel
theorem dL_hint_13 : decode cL_hint 13 = .ok (.astore 4, 2) := by decide +kernel
theorem dL_hint_15 : decode cL_hint 15 = .ok (.iconst 1, 1) := by decide +kernel
theorem dL_hint_16 : decode cL_hint 16 = .ok (.ireturn, 1) := by decide +kernel
theorem dL_hint_17 : decode cL_hint 17 = .ok (.astore 4, 2) := by decide +kernel
theorem dL_hint_19 : decode cL_hint 19 = .ok (.iconst 2, 1) := by decide +kernel
theorem dL_hint_20 : decode cL_hint 20 = .ok (.ireturn, 1) := by decide +kernel
theorem dL_hint_21 : decode cL_hint 21 = .ok (.iconst 0, 1) := by decide +kernel
theorem dL_hint_22 : decode cL_hint 22 = .ok (.ireturn, 1) := by decide +kernel
set_option maxHeartbeats 4000000 in
set_option maxRecDepth 100000 in
theorem h_hint (l : Launch) (D : va_G) (cI cZ cL : ClassId) (ad : Nat → Nat) (ao : Nat) (S : Mem) (f : Nat → Int64) (A : Nat → Prop) (hD : va_D A (wO ao cL f ++ wC ad cI S)) (x1 : Int32) (x2 : Int32) (hI : I0 S) (hth : (oHint S x1 x2).1 = none) :
    HL l D cI cZ cL yL_hint cL_hint 5 [(0, 10, 13, 25), (0, 10, 17, 15)] 8 [.ref (ad 0), .int x1, .int x2, .ref ao] A ao (wC ad cI S) (wC ad cI ((oHint S x1 x2).2.2)) f (vp_updL f 0 ((oHint S x1 x2).2.1).toInt64) 0 := by
  refine HL.of (by decide) (Nat.le_of_ble_eq_true rfl) ?_
  intro p e s m args below meth c ls hx hb hr hml hown hlk htb hE hT hZ hC hP hO hS hl
  have hl : lv_has ls 5 [(0, .ref (ad 0)), (1, .int x1), (2, .int x2), (3, .ref ao)] := hl
  refine lv_aload_n hx hb dL_hint_0 rfl (lv_at hl 3 rfl) ?_
  refine lv_iconst (v := 0) hx hb dL_hint_1 (by decide) ?_
  refine lv_aload_n hx hb dL_hint_2 rfl (lv_at hl 0 rfl) ?_
  refine lv_iload_n hx hb dL_hint_3 rfl (lv_at hl 1 rfl) ?_
  refine lv_iload_n hx hb dL_hint_4 rfl (lv_at hl 2 rfl) ?_
  refine q_wr (q_runV (rest := [.int 0, .ref ao]) hx hb hml hown hE (c_X5_hint l D cI cZ cL ad S (aW (wC ad cI S)) (aW_D (q_Dtl hD)) x1 x2 hI hth) ck_X5_hint w_532 hP 0 rfl rfl hl.1 rfl ⟨Nat.le_of_ble_eq_true rfl, Nat.le_of_ble_eq_true rfl⟩ (Nat.le_of_ble_eq_true rfl) dL_hint_5 ⟨Nat.zero_le _, Nat.zero_le _⟩) (va_S.rf (A := aW (wC ad cI S)) (H0 := s.heap)) (fun H locs hP hS => ?_)
  have hO := q_keep hS hO (q_Dno hD)
  have hS := q_Swk (q_Dsub hD) hS
  have hD : va_D A (wO ao cL f ++ wC ad cI ((oHint S x1 x2).2.2)) := q_D (ws := wO ao cL f ++ wC ad cI S) rfl hD
  refine lv_i2l (v := ((oHint S x1 x2).2.1).toInt64) hx hb dL_hint_8 rfl ?_
  refine q_last hx hb hE hP hO hD hS dL_hint_9 (fun H locs hP hO hS => ?_)
  refine lv_goto (tgt := 21) hx hb dL_hint_10 (by decide) ?_
  refine lv_iconst (v := 0) hx hb dL_hint_21 (by decide) ?_
  refine W.widen (k := 1) (n := 6) (Nat.le_of_ble_eq_true rfl) (Nat.le_of_ble_eq_true rfl) ?_
  exact W.zret hx hb hr rfl (fun t ht hW => ⟨rfl, ⟨by rw [ht]; exact hP, by rw [ht]; exact hO⟩, hS.F ht⟩) hS.2.2 dL_hint_22 hlk
set_option maxHeartbeats 4000000 in
set_option maxRecDepth 100000 in
theorem h_hint_T0 (l : Launch) (hfl : l.flags = flags0) (D : va_G) (cI cZ cL : ClassId) (ad : Nat → Nat) (ao : Nat) (S : Mem) (f : Nat → Int64) (A : Nat → Prop) (x1 : Int32) (x2 : Int32) (hI : I0 S) (hth : (oHint S x1 x2).1 = some "java/lang/IndexOutOfBoundsException") :
    HL l D cI cZ cL yL_hint cL_hint 5 [(0, 10, 13, 25), (0, 10, 17, 15)] 8 [.ref (ad 0), .int x1, .int x2, .ref ao] A ao (wC ad cI S) (wC ad cI S) f (f) 1 := by
  refine HL.of (by decide) (Nat.le_of_ble_eq_true rfl) ?_
  intro p e s m args below meth c ls hx hb hr hml hown hlk htb hE hT hZ hC hP hO hS hl
  have hl : lv_has ls 5 [(0, .ref (ad 0)), (1, .int x1), (2, .int x2), (3, .ref ao)] := hl
  refine lv_aload_n hx hb dL_hint_0 rfl (lv_at hl 3 rfl) ?_
  refine lv_iconst (v := 0) hx hb dL_hint_1 (by decide) ?_
  refine lv_aload_n hx hb dL_hint_2 rfl (lv_at hl 0 rfl) ?_
  refine lv_iload_n hx hb dL_hint_3 rfl (lv_at hl 1 rfl) ?_
  refine lv_iload_n hx hb dL_hint_4 rfl (lv_at hl 2 rfl) ?_
  refine q_thH (q_thV (rest := [.int 0, .ref ao]) hx hb hml hown hE hT hZ (c_X5_hint_T0 l hfl D cI cZ cL ad S x1 x2 hI hth) ck_X5_hint w_532 hP 0 rfl rfl hl.1 rfl ⟨Nat.le_of_ble_eq_true rfl, Nat.le_of_ble_eq_true rfl⟩ (Nat.le_of_ble_eq_true rfl) dL_hint_5 ⟨Nat.le_of_ble_eq_true rfl, Nat.le_of_ble_eq_true rfl⟩) hown [] _ _ htb (fun z hz => nomatch hz) (by decide +kernel) (by decide +kernel) (hE.1 _ w_431 args) (hE.1 _ w_442 args) (fun q H hS => ?_)
  refine W.eq (g2 := F0 m 13 ls [.ref q]) rfl ?_
  have hP := q_keep hS hP (fun _ _ h => h)
  have hO := q_keep hS hO (fun _ _ h => h)
  refine lv_astore (lv' := [(4, .ref q), (0, .ref (ad 0)), (1, .int x1), (2, .int x2), (3, .ref ao)]) hx hb dL_hint_13 hl (by decide) rfl (fun ls hl => ?_)
  refine lv_iconst (v := 1) hx hb dL_hint_15 (by decide) ?_
  exact W.zret hx hb hr rfl (fun t ht hW => ⟨rfl, ⟨by rw [ht]; exact hP, by rw [ht]; exact hO⟩, (q_Swk (fun _ h => h.elim) hS).F ht⟩) (fun _ h => nomatch h) dL_hint_16 hlk
set_option maxHeartbeats 4000000 in
set_option maxRecDepth 100000 in
theorem h_hint_T1 (l : Launch) (hfl : l.flags = flags0) (D : va_G) (cI cZ cL : ClassId) (ad : Nat → Nat) (ao : Nat) (S : Mem) (f : Nat → Int64) (A : Nat → Prop) (x1 : Int32) (x2 : Int32) (hI : I0 S) (hth : (oHint S x1 x2).1 = some "java/lang/IllegalStateException") :
    HL l D cI cZ cL yL_hint cL_hint 5 [(0, 10, 13, 25), (0, 10, 17, 15)] 8 [.ref (ad 0), .int x1, .int x2, .ref ao] A ao (wC ad cI S) (wC ad cI S) f (f) 2 := by
  refine HL.of (by decide) (Nat.le_of_ble_eq_true rfl) ?_
  intro p e s m args below meth c ls hx hb hr hml hown hlk htb hE hT hZ hC hP hO hS hl
  have hl : lv_has ls 5 [(0, .ref (ad 0)), (1, .int x1), (2, .int x2), (3, .ref ao)] := hl
  refine lv_aload_n hx hb dL_hint_0 rfl (lv_at hl 3 rfl) ?_
  refine lv_iconst (v := 0) hx hb dL_hint_1 (by decide) ?_
  refine lv_aload_n hx hb dL_hint_2 rfl (lv_at hl 0 rfl) ?_
  refine lv_iload_n hx hb dL_hint_3 rfl (lv_at hl 1 rfl) ?_
  refine lv_iload_n hx hb dL_hint_4 rfl (lv_at hl 2 rfl) ?_
  refine q_thH (q_thV (rest := [.int 0, .ref ao]) hx hb hml hown hE hT hZ (c_X5_hint_T1 l hfl D cI cZ cL ad S x1 x2 hI hth) ck_X5_hint w_532 hP 0 rfl rfl hl.1 rfl ⟨Nat.le_of_ble_eq_true rfl, Nat.le_of_ble_eq_true rfl⟩ (Nat.le_of_ble_eq_true rfl) dL_hint_5 ⟨Nat.le_of_ble_eq_true rfl, Nat.le_of_ble_eq_true rfl⟩) hown (tableOf [(0, 10, 13, 25)]) _ _ htb (by intro z hz; simp only [tableOf, List.map_cons, List.map_nil, List.mem_cons, List.not_mem_nil, or_false] at hz; rcases hz with rfl <;> exact Or.inr ⟨by decide, _, hE.1 _ w_431 args, hC ("java/lang/IllegalStateException", "java/lang/IndexOutOfBoundsException") (by decide)⟩) (by decide +kernel) (by decide +kernel) (hE.1 _ w_323 args) (hE.1 _ w_402 args) (fun q H hS => ?_)
  refine W.eq (g2 := F0 m 17 ls [.ref q]) rfl ?_
  have hP := q_keep hS hP (fun _ _ h => h)
  have hO := q_keep hS hO (fun _ _ h => h)
  refine lv_astore (lv' := [(4, .ref q), (0, .ref (ad 0)), (1, .int x1), (2, .int x2), (3, .ref ao)]) hx hb dL_hint_17 hl (by decide) rfl (fun ls hl => ?_)
  refine lv_iconst (v := 2) hx hb dL_hint_19 (by decide) ?_
  exact W.zret hx hb hr rfl (fun t ht hW => ⟨rfl, ⟨by rw [ht]; exact hP, by rw [ht]; exact hO⟩, (q_Swk (fun _ h => h.elim) hS).F ht⟩) (fun _ h => nomatch h) dL_hint_20 hlk
theorem dL_price_0 : decode cL_price 0 = .ok (.aload_n 3, 1) := by decide +kernel
theorem dL_price_1 : decode cL_price 1 = .ok (.iconst 0, 1) := by decide +kernel
theorem dL_price_2 : decode cL_price 2 = .ok (.aload_n 0, 1) := by decide +kernel
theorem dL_price_3 : decode cL_price 3 = .ok (.iload_n 1, 1) := by decide +kernel
theorem dL_price_4 : decode cL_price 4 = .ok (.iload_n 2, 1) := by decide +kernel
theorem dL_price_5 : decode cL_price 5 = .ok (.invokevirtual 41, 3) := by decide +kernel
theorem dL_price_8 : decode cL_price 8 = .ok (.i2l, 1) := by decide +kernel
theorem dL_price_9 : decode cL_price 9 = .ok (.lastore, 1) := by decide +kernel
theorem dL_price_10 : decode cL_price 10 = .ok (.goto 11, 3) := by decide +kernel
theorem dL_price_13 : decode cL_price 13 = .ok (.astore 4, 2) := by decide +kernel
theorem dL_price_15 : decode cL_price 15 = .ok (.iconst 1, 1) := by decide +kernel
theorem dL_price_16 : decode cL_price 16 = .ok (.ireturn, 1) := by decide +kernel
theorem dL_price_17 : decode cL_price 17 = .ok (.astore 4, 2) := by decide +kernel
theorem dL_price_19 : decode cL_price 19 = .ok (.iconst 2, 1) := by decide +kernel
theorem dL_price_20 : decode cL_price 20 = .ok (.ireturn, 1) := by decide +kernel
theorem dL_price_21 : decode cL_price 21 = .ok (.iconst 0, 1) := by decide +kernel
theorem dL_price_22 : decode cL_price 22 = .ok (.ireturn, 1) := by decide +kernel
set_option maxHeartbeats 4000000 in
set_option maxRecDepth 100000 in
theorem h_price (l : Launch) (D : va_G) (cI cZ cL : ClassId) (ad : Nat → Nat) (ao : Nat) (S : Mem) (f : Nat → Int64) (A : Nat → Prop) (hD : va_D A (wO ao cL f ++ wC ad cI S)) (x1 : Int32) (x2 : Int32) (hI : I0 S) (hth : (oPrice S x1 x2).1 = none) :
    HL l D cI cZ cL yL_price cL_price 5 [(0, 10, 13, 25), (0, 10, 17, 44)] 8 [.ref (ad 0), .int x1, .int x2, .ref ao] A ao (wC ad cI S) (wC ad cI S) f (vp_updL f 0 ((oPrice S x1 x2).2.1).toInt64) 0 := by
  refine HL.of (by decide) (Nat.le_of_ble_eq_true rfl) ?_
  intro p e s m args below meth c ls hx hb hr hml hown hlk htb hE hT hZ hC hP hO hS hl
  have hl : lv_has ls 5 [(0, .ref (ad 0)), (1, .int x1), (2, .int x2), (3, .ref ao)] := hl
  refine lv_aload_n hx hb dL_price_0 rfl (lv_at hl 3 rfl) ?_
  refine lv_iconst (v := 0) hx hb dL_price_1 (by decide) ?_
  refine lv_aload_n hx hb dL_price_2 rfl (lv_at hl 0 rfl) ?_
  refine lv_iload_n hx hb dL_price_3 rfl (lv_at hl 1 rfl) ?_
  refine lv_iload_n hx hb dL_price_4 rfl (lv_at hl 2 rfl) ?_
  refine q_rd (q_runV (rest := [.int 0, .ref ao]) hx hb hml hown hE (c_X5_price l D cI cZ cL ad S x1 x2 hI hth) ck_X5_price w_566 hP 0 rfl rfl hl.1 rfl ⟨Nat.le_of_ble_eq_true rfl, Nat.le_of_ble_eq_true rfl⟩ (Nat.le_of_ble_eq_true rfl) dL_price_5 ⟨Nat.zero_le _, Nat.zero_le _⟩) ?_
  refine lv_i2l (v := ((oPrice S x1 x2).2.1).toInt64) hx hb dL_price_8 rfl ?_
  refine q_last hx hb hE hP hO hD hS dL_price_9 (fun H locs hP hO hS => ?_)
  refine lv_goto (tgt := 21) hx hb dL_price_10 (by decide) ?_
  refine lv_iconst (v := 0) hx hb dL_price_21 (by decide) ?_
  refine W.widen (k := 1) (n := 6) (Nat.le_of_ble_eq_true rfl) (Nat.le_of_ble_eq_true rfl) ?_
  exact W.zret hx hb hr rfl (fun t ht hW => ⟨rfl, ⟨by rw [ht]; exact hP, by rw [ht]; exact hO⟩, hS.F ht⟩) hS.2.2 dL_price_22 hlk
set_option maxHeartbeats 4000000 in
set_option maxRecDepth 100000 in
theorem h_price_T0 (l : Launch) (hfl : l.flags = flags0) (D : va_G) (cI cZ cL : ClassId) (ad : Nat → Nat) (ao : Nat) (S : Mem) (f : Nat → Int64) (A : Nat → Prop) (x1 : Int32) (x2 : Int32) (hI : I0 S) (hth : (oPrice S x1 x2).1 = some "java/lang/IndexOutOfBoundsException") :
    HL l D cI cZ cL yL_price cL_price 5 [(0, 10, 13, 25), (0, 10, 17, 44)] 8 [.ref (ad 0), .int x1, .int x2, .ref ao] A ao (wC ad cI S) (wC ad cI S) f (f) 1 := by
  refine HL.of (by decide) (Nat.le_of_ble_eq_true rfl) ?_
  intro p e s m args below meth c ls hx hb hr hml hown hlk htb hE hT hZ hC hP hO hS hl
  have hl : lv_has ls 5 [(0, .ref (ad 0)), (1, .int x1), (2, .int x2), (3, .ref ao)] := hl
  refine lv_aload_n hx hb dL_price_0 rfl (lv_at hl 3 rfl) ?_
  refine lv_iconst (v := 0) hx hb dL_price_1 (by decide) ?_
  refine lv_aload_n hx hb dL_price_2 rfl (lv_at hl 0 rfl) ?_
  refine lv_iload_n hx hb dL_price_3 rfl (lv_at hl 1 rfl) ?_
  refine lv_iload_n hx hb dL_price_4 rfl (lv_at hl 2 rfl) ?_
  refine q_thH (q_thV (rest := [.int 0, .ref ao]) hx hb hml hown hE hT hZ (c_X5_price_T0 l hfl D cI cZ cL ad S x1 x2 hI hth) ck_X5_price w_566 hP 0 rfl rfl hl.1 rfl ⟨Nat.le_of_ble_eq_true rfl, Nat.le_of_ble_eq_true rfl⟩ (Nat.le_of_ble_eq_true rfl) dL_price_5 ⟨Nat.le_of_ble_eq_true rfl, Nat.le_of_ble_eq_true rfl⟩) hown [] _ _ htb (fun z hz => nomatch hz) (by decide +kernel) (by decide +kernel) (hE.1 _ w_431 args) (hE.1 _ w_442 args) (fun q H hS => ?_)
  refine W.eq (g2 := F0 m 13 ls [.ref q]) rfl ?_
  have hP := q_keep hS hP (fun _ _ h => h)
  have hO := q_keep hS hO (fun _ _ h => h)
  refine lv_astore (lv' := [(4, .ref q), (0, .ref (ad 0)), (1, .int x1), (2, .int x2), (3, .ref ao)]) hx hb dL_price_13 hl (by decide) rfl (fun ls hl => ?_)
  refine lv_iconst (v := 1) hx hb dL_price_15 (by decide) ?_
  exact W.zret hx hb hr rfl (fun t ht hW => ⟨rfl, ⟨by rw [ht]; exact hP, by rw [ht]; exact hO⟩, (q_Swk (fun _ h => h.elim) hS).F ht⟩) (fun _ h => nomatch h) dL_price_16 hlk
theorem dL_openedAt_0 : decode cL_openedAt 0 = .ok (.aload_n 3, 1) := by decide +kernel
theorem dL_openedAt_1 : decode cL_openedAt 1 = .ok (.iconst 0, 1) := by decide +kernel
theorem dL_openedAt_2 : decode cL_openedAt 2 = .ok (.aload_n 0, 1) := by decide +kernel
theorem dL_openedAt_3 : decode cL_openedAt 3 = .ok (.iload_n 1, 1) := by decide +kernel
theorem dL_openedAt_4 : decode cL_openedAt 4 = .ok (.iload_n 2, 1) := by decide +kernel
theorem dL_openedAt_5 : decode cL_openedAt 5 = .ok (.invokevirtual 46, 3) := by decide +kernel
theorem dL_openedAt_8 : decode cL_openedAt 8 = .ok (.i2l, 1) := by decide +kernel
theorem dL_openedAt_9 : decode cL_openedAt 9 = .ok (.lastore, 1) := by decide +kernel
theorem dL_openedAt_10 : decode cL_openedAt 10 = .ok (.goto 7, 3) := by decide +kernel
theorem dL_openedAt_13 : decode cL_openedAt 13 = .ok (.astore 4, 2) := by decide +kernel
theorem dL_openedAt_15 : decode cL_openedAt 15 = .ok (.iconst 1, 1) := by decide +kernel
theorem dL_openedAt_16 : decode cL_openedAt 16 = .ok (.ireturn, 1) := by decide +kernel
theorem dL_openedAt_17 : decode cL_openedAt 17 = .ok (.iconst 0, 1) := by decide +kernel
theorem dL_openedAt_18 : decode cL_openedAt 18 = .ok (.ireturn, 1) := by decide +kernel
set_option maxHeartbeats 4000000 in
set_option maxRecDepth 100000 in
theorem h_openedAt (l : Launch) (D : va_G) (cI cZ cL : ClassId) (ad : Nat → Nat) (ao : Nat) (S : Mem) (f : Nat → Int64) (A : Nat → Prop) (hD : va_D A (wO ao cL f ++ wC ad cI S)) (x1 : Int32) (x2 : Int32) (hI : I0 S) (hth : (oOpened S x1 x2).1 = none) :
    HL l D cI cZ cL yL_openedAt cL_openedAt 5 [(0, 10, 13, 25)] 8 [.ref (ad 0), .int x1, .int x2, .ref ao] A ao (wC ad cI S) (wC ad cI S) f (vp_updL f 0 ((oOpened S x1 x2).2.1).toInt64) 0 := by
  refine HL.of (by decide) (Nat.le_of_ble_eq_true rfl) ?_
  intro p e s m args below meth c ls hx hb hr hml hown hlk htb hE hT hZ hC hP hO hS hl
  have hl : lv_has ls 5 [(0, .ref (ad 0)), (1, .int x1), (2, .int x2), (3, .ref ao)] := hl
  refine lv_aload_n hx hb dL_openedAt_0 rfl (lv_at hl 3 rfl) ?_
  refine lv_iconst (v := 0) hx hb dL_openedAt_1 (by decide) ?_
  refine lv_aload_n hx hb dL_openedAt_2 rfl (lv_at hl 0 rfl) ?_
  refine lv_iload_n hx hb dL_openedAt_3 rfl (lv_at hl 1 rfl) ?_
  refine lv_iload_n hx hb dL_openedAt_4 rfl (lv_at hl 2 rfl) ?_
  refine q_rd (q_runV (rest := [.int 0, .ref ao]) hx hb hml hown hE (c_X5_openedAt l D cI cZ cL ad S x1 x2 hI hth) ck_X5_openedAt w_589 hP 0 rfl rfl hl.1 rfl ⟨Nat.le_of_ble_eq_true rfl, Nat.le_of_ble_eq_true rfl⟩ (Nat.le_of_ble_eq_true rfl) dL_openedAt_5 ⟨Nat.zero_le _, Nat.zero_le _⟩) ?_
  refine lv_i2l (v := ((oOpened S x1 x2).2.1).toInt64) hx hb dL_openedAt_8 rfl ?_
  refine q_last hx hb hE hP hO hD hS dL_openedAt_9 (fun H locs hP hO hS => ?_)
  refine lv_goto (tgt := 17) hx hb dL_openedAt_10 (by decide) ?_
  refine lv_iconst (v := 0) hx hb dL_openedAt_17 (by decide) ?_
  refine W.widen (k := 1) (n := 6) (Nat.le_of_ble_eq_true rfl) (Nat.le_of_ble_eq_true rfl) ?_
  exact W.zret hx hb hr rfl (fun t ht hW => ⟨rfl, ⟨by rw [ht]; exact hP, by rw [ht]; exact hO⟩, hS.F ht⟩) hS.2.2 dL_openedAt_18 hlk
set_option maxHeartbeats 4000000 in
set_option maxRecDepth 100000 in
theorem h_openedAt_T0 (l : Launch) (hfl : l.flags = flags0) (D : va_G) (cI cZ cL : ClassId) (ad : Nat → Nat) (ao : Nat) (S : Mem) (f : Nat → Int64) (A : Nat → Prop) (x1 : Int32) (x2 : Int32) (hI : I0 S) (hth : (oOpened S x1 x2).1 = some "java/lang/IndexOutOfBoundsException") :
    HL l D cI cZ cL yL_openedAt cL_openedAt 5 [(0, 10, 13, 25)] 8 [.ref (ad 0), .int x1, .int x2, .ref ao] A ao (wC ad cI S) (wC ad cI S) f (f) 1 := by
  refine HL.of (by decide) (Nat.le_of_ble_eq_true rfl) ?_
  intro p e s m args below meth c ls hx hb hr hml hown hlk htb hE hT hZ hC hP hO hS hl
  have hl : lv_has ls 5 [(0, .ref (ad 0)), (1, .int x1), (2, .int x2), (3, .ref ao)] := hl
  refine lv_aload_n hx hb dL_openedAt_0 rfl (lv_at hl 3 rfl) ?_
  refine lv_iconst (v := 0) hx hb dL_openedAt_1 (by decide) ?_
  refine lv_aload_n hx hb dL_openedAt_2 rfl (lv_at hl 0 rfl) ?_
  refine lv_iload_n hx hb dL_openedAt_3 rfl (lv_at hl 1 rfl) ?_
  refine lv_iload_n hx hb dL_openedAt_4 rfl (lv_at hl 2 rfl) ?_
  refine q_thH (q_thV (rest := [.int 0, .ref ao]) hx hb hml hown hE hT hZ (c_X5_openedAt_T0 l hfl D cI cZ cL ad S x1 x2 hI hth) ck_X5_openedAt w_589 hP 0 rfl rfl hl.1 rfl ⟨Nat.le_of_ble_eq_true rfl, Nat.le_of_ble_eq_true rfl⟩ (Nat.le_of_ble_eq_true rfl) dL_openedAt_5 ⟨Nat.le_of_ble_eq_true rfl, Nat.le_of_ble_eq_true rfl⟩) hown [] _ _ htb (fun z hz => nomatch hz) (by decide +kernel) (by decide +kernel) (hE.1 _ w_431 args) (hE.1 _ w_442 args) (fun q H hS => ?_)
  refine W.eq (g2 := F0 m 13 ls [.ref q]) rfl ?_
  have hP := q_keep hS hP (fun _ _ h => h)
  have hO := q_keep hS hO (fun _ _ h => h)
  refine lv_astore (lv' := [(4, .ref q), (0, .ref (ad 0)), (1, .int x1), (2, .int x2), (3, .ref ao)]) hx hb dL_openedAt_13 hl (by decide) rfl (fun ls hl => ?_)
  refine lv_iconst (v := 1) hx hb dL_openedAt_15 (by decide) ?_
  exact W.zret hx hb hr rfl (fun t ht hW => ⟨rfl, ⟨by rw [ht]; exact hP, by rw [ht]; exact hO⟩, (q_Swk (fun _ h => h.elim) hS).F ht⟩) (fun _ h => nomatch h) dL_openedAt_16 hlk
theorem dL_solvedAt_0 : decode cL_solvedAt 0 = .ok (.aload_n 3, 1) := by decide +kernel
theorem dL_solvedAt_1 : decode cL_solvedAt 1 = .ok (.iconst 0, 1) := by decide +kernel
theorem dL_solvedAt_2 : decode cL_solvedAt 2 = .ok (.aload_n 0, 1) := by decide +kernel
theorem dL_solvedAt_3 : decode cL_solvedAt 3 = .ok (.iload_n 1, 1) := by decide +kernel
theorem dL_solvedAt_4 : decode cL_solvedAt 4 = .ok (.iload_n 2, 1) := by decide +kernel
theorem dL_solvedAt_5 : decode cL_solvedAt 5 = .ok (.invokevirtual 49, 3) := by decide +kernel
theorem dL_solvedAt_8 : decode cL_solvedAt 8 = .ok (.i2l, 1) := by decide +kernel
theorem dL_solvedAt_9 : decode cL_solvedAt 9 = .ok (.lastore, 1) := by decide +kernel
theorem dL_solvedAt_10 : decode cL_solvedAt 10 = .ok (.goto 7, 3) := by decide +kernel
theorem dL_solvedAt_13 : decode cL_solvedAt 13 = .ok (.astore 4, 2) := by decide +kernel
theorem dL_solvedAt_15 : decode cL_solvedAt 15 = .ok (.iconst 1, 1) := by decide +kernel
theorem dL_solvedAt_16 : decode cL_solvedAt 16 = .ok (.ireturn, 1) := by decide +kernel
theorem dL_solvedAt_17 : decode cL_solvedAt 17 = .ok (.iconst 0, 1) := by decide +kernel
theorem dL_solvedAt_18 : decode cL_solvedAt 18 = .ok (.ireturn, 1) := by decide +kernel
set_option maxHeartbeats 4000000 in
set_option maxRecDepth 100000 in
theorem h_solvedAt (l : Launch) (D : va_G) (cI cZ cL : ClassId) (ad : Nat → Nat) (ao : Nat) (S : Mem) (f : Nat → Int64) (A : Nat → Prop) (hD : va_D A (wO ao cL f ++ wC ad cI S)) (x1 : Int32) (x2 : Int32) (hI : I0 S) (hth : (oSolved S x1 x2).1 = none) :
    HL l D cI cZ cL yL_solvedAt cL_solvedAt 5 [(0, 10, 13, 25)] 8 [.ref (ad 0), .int x1, .int x2, .ref ao] A ao (wC ad cI S) (wC ad cI S) f (vp_updL f 0 ((oSolved S x1 x2).2.1).toInt64) 0 := by
  refine HL.of (by decide) (Nat.le_of_ble_eq_true rfl) ?_
  intro p e s m args below meth c ls hx hb hr hml hown hlk htb hE hT hZ hC hP hO hS hl
  have hl : lv_has ls 5 [(0, .ref (ad 0)), (1, .int x1), (2, .int x2), (3, .ref ao)] := hl
  refine lv_aload_n hx hb dL_solvedAt_0 rfl (lv_at hl 3 rfl) ?_
  refine lv_iconst (v := 0) hx hb dL_solvedAt_1 (by decide) ?_
  refine lv_aload_n hx hb dL_solvedAt_2 rfl (lv_at hl 0 rfl) ?_
  refine lv_iload_n hx hb dL_solvedAt_3 rfl (lv_at hl 1 rfl) ?_
  refine lv_iload_n hx hb dL_solvedAt_4 rfl (lv_at hl 2 rfl) ?_
  refine q_rd (q_runV (rest := [.int 0, .ref ao]) hx hb hml hown hE (c_X5_solvedAt l D cI cZ cL ad S x1 x2 hI hth) ck_X5_solvedAt w_596 hP 0 rfl rfl hl.1 rfl ⟨Nat.le_of_ble_eq_true rfl, Nat.le_of_ble_eq_true rfl⟩ (Nat.le_of_ble_eq_true rfl) dL_solvedAt_5 ⟨Nat.zero_le _, Nat.zero_le _⟩) ?_
  refine lv_i2l (v := ((oSolved S x1 x2).2.1).toInt64) hx hb dL_solvedAt_8 rfl ?_
  refine q_last hx hb hE hP hO hD hS dL_solvedAt_9 (fun H locs hP hO hS => ?_)
  refine lv_goto (tgt := 17) hx hb dL_solvedAt_10 (by decide) ?_
  refine lv_iconst (v := 0) hx hb dL_solvedAt_17 (by decide) ?_
  refine W.widen (k := 1) (n := 6) (Nat.le_of_ble_eq_true rfl) (Nat.le_of_ble_eq_true rfl) ?_
  exact W.zret hx hb hr rfl (fun t ht hW => ⟨rfl, ⟨by rw [ht]; exact hP, by rw [ht]; exact hO⟩, hS.F ht⟩) hS.2.2 dL_solvedAt_18 hlk
set_option maxHeartbeats 4000000 in
set_option maxRecDepth 100000 in
theorem h_solvedAt_T0 (l : Launch) (hfl : l.flags = flags0) (D : va_G) (cI cZ cL : ClassId) (ad : Nat → Nat) (ao : Nat) (S : Mem) (f : Nat → Int64) (A : Nat → Prop) (x1 : Int32) (x2 : Int32) (hI : I0 S) (hth : (oSolved S x1 x2).1 = some "java/lang/IndexOutOfBoundsException") :
    HL l D cI cZ cL yL_solvedAt cL_solvedAt 5 [(0, 10, 13, 25)] 8 [.ref (ad 0), .int x1, .int x2, .ref ao] A ao (wC ad cI S) (wC ad cI S) f (f) 1 := by
  refine HL.of (by decide) (Nat.le_of_ble_eq_true rfl) ?_
  intro p e s m args below meth c ls hx hb hr hml hown hlk htb hE hT hZ hC hP hO hS hl
  have hl : lv_has ls 5 [(0, .ref (ad 0)), (1, .int x1), (2, .int x2), (3, .ref ao)] := hl
  refine lv_aload_n hx hb dL_solvedAt_0 rfl (lv_at hl 3 rfl) ?_
  refine lv_iconst (v := 0) hx hb dL_solvedAt_1 (by decide) ?_
  refine lv_aload_n hx hb dL_solvedAt_2 rfl (lv_at hl 0 rfl) ?_
  refine lv_iload_n hx hb dL_solvedAt_3 rfl (lv_at hl 1 rfl) ?_
  refine lv_iload_n hx hb dL_solvedAt_4 rfl (lv_at hl 2 rfl) ?_
  refine q_thH (q_thV (rest := [.int 0, .ref ao]) hx hb hml hown hE hT hZ (c_X5_solvedAt_T0 l hfl D cI cZ cL ad S x1 x2 hI hth) ck_X5_solvedAt w_596 hP 0 rfl rfl hl.1 rfl ⟨Nat.le_of_ble_eq_true rfl, Nat.le_of_ble_eq_true rfl⟩ (Nat.le_of_ble_eq_true rfl) dL_solvedAt_5 ⟨Nat.le_of_ble_eq_true rfl, Nat.le_of_ble_eq_true rfl⟩) hown [] _ _ htb (fun z hz => nomatch hz) (by decide +kernel) (by decide +kernel) (hE.1 _ w_431 args) (hE.1 _ w_442 args) (fun q H hS => ?_)
  refine W.eq (g2 := F0 m 13 ls [.ref q]) rfl ?_
  have hP := q_keep hS hP (fun _ _ h => h)
  have hO := q_keep hS hO (fun _ _ h => h)
  refine lv_astore (lv' := [(4, .ref q), (0, .ref (ad 0)), (1, .int x1), (2, .int x2), (3, .ref ao)]) hx hb dL_solvedAt_13 hl (by decide) rfl (fun ls hl => ?_)
  refine lv_iconst (v := 1) hx hb dL_solvedAt_15 (by decide) ?_
  exact W.zret hx hb hr rfl (fun t ht hW => ⟨rfl, ⟨by rw [ht]; exact hP, by rw [ht]; exact hO⟩, (q_Swk (fun _ h => h.elim) hS).F ht⟩) (fun _ h => nomatch h) dL_solvedAt_16 hlk
theorem dL_clear_0 : decode cL_clear 0 = .ok (.aload_n 3, 1) := by decide +kernel
theorem dL_clear_1 : decode cL_clear 1 = .ok (.iconst 0, 1) := by decide +kernel
theorem dL_clear_2 : decode cL_clear 2 = .ok (.aload_n 0, 1) := by decide +kernel
theorem dL_clear_3 : decode cL_clear 3 = .ok (.iload_n 1, 1) := by decide +kernel
theorem dL_clear_4 : decode cL_clear 4 = .ok (.iload_n 2, 1) := by decide +kernel
theorem dL_clear_5 : decode cL_clear 5 = .ok (.invokevirtual 52, 3) := by decide +kernel
theorem dL_clear_8 : decode cL_clear 8 = .ok (.ifCond .eq 7, 3) := by decide +kernel
theorem dL_clear_11 : decode cL_clear 11 = .ok (.lconst 1, 1) := by decide +kernel
theorem dL_clear_12 : decode cL_clear 12 = .ok (.goto 4, 3) := by decide +kernel
theorem dL_clear_15 : decode cL_clear 15 = .ok (.lconst 0, 1) := by decide +kernel
theorem dL_clear_16 : decode cL_clear 16 = .ok (.lastore, 1) := by decide +kernel
theorem dL_clear_17 : decode cL_clear 17 = .ok (.goto 11, 3) := by decide +kernel
theorem dL_clear_20 : decode cL_clear 20 = .ok (.astore 4, 2) := by decide +kernel
theorem dL_clear_22 : decode cL_clear 22 = .ok (.iconst 1, 1) := by decide +kernel
theorem dL_clear_23 : decode cL_clear 23 = .ok (.ireturn, 1) := by decide +kernel
theorem dL_clear_24 : decode cL_clear 24 = .ok (.astore 4, 2) := by decide +kernel
theorem dL_clear_26 : decode cL_clear 26 = .ok (.iconst 2, 1) := by decide +kernel
theorem dL_clear_27 : decode cL_clear 27 = .ok (.ireturn, 1) := by decide +kernel
theorem dL_clear_28 : decode cL_clear 28 = .ok (.iconst 0, 1) := by decide +kernel
theorem dL_clear_29 : decode cL_clear 29 = .ok (.ireturn, 1) := by decide +kernel
set_option maxHeartbeats 4000000 in
set_option maxRecDepth 100000 in
theorem h_clear (l : Launch) (D : va_G) (cI cZ cL : ClassId) (ad : Nat → Nat) (ao : Nat) (S : Mem) (f : Nat → Int64) (A : Nat → Prop) (hD : va_D A (wO ao cL f ++ wC ad cI S)) (x1 : Int32) (x2 : Int32) (hI : I0 S) (hth : (oClear S x1 x2).1 = none) :
    HL l D cI cZ cL yL_clear cL_clear 5 [(0, 17, 20, 25), (0, 17, 24, 15)] 8 [.ref (ad 0), .int x1, .int x2, .ref ao] A ao (wC ad cI S) (wC ad cI ((oClear S x1 x2).2.2)) f (vp_updL f 0 (if (oClear S x1 x2).2.1 = 0 then 0 else 1)) 0 := by
  refine HL.of (by decide) (Nat.le_of_ble_eq_true rfl) ?_
  intro p e s m args below meth c ls hx hb hr hml hown hlk htb hE hT hZ hC hP hO hS hl
  have hl : lv_has ls 5 [(0, .ref (ad 0)), (1, .int x1), (2, .int x2), (3, .ref ao)] := hl
  refine lv_aload_n hx hb dL_clear_0 rfl (lv_at hl 3 rfl) ?_
  refine lv_iconst (v := 0) hx hb dL_clear_1 (by decide) ?_
  refine lv_aload_n hx hb dL_clear_2 rfl (lv_at hl 0 rfl) ?_
  refine lv_iload_n hx hb dL_clear_3 rfl (lv_at hl 1 rfl) ?_
  refine lv_iload_n hx hb dL_clear_4 rfl (lv_at hl 2 rfl) ?_
  refine q_wr (q_runV (rest := [.int 0, .ref ao]) hx hb hml hown hE (c_X5_clear l D cI cZ cL ad S (aW (wC ad cI S)) (aW_D (q_Dtl hD)) x1 x2 hI hth) ck_X5_clear w_603 hP 0 rfl rfl hl.1 rfl ⟨Nat.le_of_ble_eq_true rfl, Nat.le_of_ble_eq_true rfl⟩ (Nat.le_of_ble_eq_true rfl) dL_clear_5 ⟨Nat.zero_le _, Nat.zero_le _⟩) (va_S.rf (A := aW (wC ad cI S)) (H0 := s.heap)) (fun H locs hP hS => ?_)
  have hO := q_keep hS hO (q_Dno hD)
  have hS := q_Swk (q_Dsub hD) hS
  have hD : va_D A (wO ao cL f ++ wC ad cI ((oClear S x1 x2).2.2)) := q_D (ws := wO ao cL f ++ wC ad cI S) rfl hD
  refine lv_if_eq (tgt := 15) hx hb dL_clear_8 (by decide) (fun c_1 => ?_) (fun c_1 => ?_)
  · rw [if_pos c_1]
    refine lv_lconst (v := 0) hx hb dL_clear_15 (by decide) ?_
    refine q_last hx hb hE hP hO hD hS dL_clear_16 (fun H locs hP hO hS => ?_)
    refine lv_goto (tgt := 28) hx hb dL_clear_17 (by decide) ?_
    refine lv_iconst (v := 0) hx hb dL_clear_28 (by decide) ?_
    refine W.widen (k := 1) (n := 6) (Nat.le_of_ble_eq_true rfl) (Nat.le_of_ble_eq_true rfl) ?_
    exact W.zret hx hb hr rfl (fun t ht hW => ⟨rfl, ⟨by rw [ht]; exact hP, by rw [ht]; exact hO⟩, hS.F ht⟩) hS.2.2 dL_clear_29 hlk
  · rw [if_neg c_1]
    refine lv_lconst (v := 1) hx hb dL_clear_11 (by decide) ?_
    refine lv_goto (tgt := 16) hx hb dL_clear_12 (by decide) ?_
    refine q_last hx hb hE hP hO hD hS dL_clear_16 (fun H locs hP hO hS => ?_)
    refine lv_goto (tgt := 28) hx hb dL_clear_17 (by decide) ?_
    refine lv_iconst (v := 0) hx hb dL_clear_28 (by decide) ?_
    refine W.widen (k := 1) (n := 6) (Nat.le_of_ble_eq_true rfl) (Nat.le_of_ble_eq_true rfl) ?_
    exact W.zret hx hb hr rfl (fun t ht hW => ⟨rfl, ⟨by rw [ht]; exact hP, by rw [ht]; exact hO⟩, hS.F ht⟩) hS.2.2 dL_clear_29 hlk
set_option maxHeartbeats 4000000 in
set_option maxRecDepth 100000 in
theorem h_clear_T0 (l : Launch) (hfl : l.flags = flags0) (D : va_G) (cI cZ cL : ClassId) (ad : Nat → Nat) (ao : Nat) (S : Mem) (f : Nat → Int64) (A : Nat → Prop) (x1 : Int32) (x2 : Int32) (hI : I0 S) (hth : (oClear S x1 x2).1 = some "java/lang/IndexOutOfBoundsException") :
    HL l D cI cZ cL yL_clear cL_clear 5 [(0, 17, 20, 25), (0, 17, 24, 15)] 8 [.ref (ad 0), .int x1, .int x2, .ref ao] A ao (wC ad cI S) (wC ad cI S) f (f) 1 := by
  refine HL.of (by decide) (Nat.le_of_ble_eq_true rfl) ?_
  intro p e s m args below meth c ls hx hb hr hml hown hlk htb hE hT hZ hC hP hO hS hl
  have hl : lv_has ls 5 [(0, .ref (ad 0)), (1, .int x1), (2, .int x2), (3, .ref ao)] := hl
  refine lv_aload_n hx hb dL_clear_0 rfl (lv_at hl 3 rfl) ?_
  refine lv_iconst (v := 0) hx hb dL_clear_1 (by decide) ?_
  refine lv_aload_n hx hb dL_clear_2 rfl (lv_at hl 0 rfl) ?_
  refine lv_iload_n hx hb dL_clear_3 rfl (lv_at hl 1 rfl) ?_
  refine lv_iload_n hx hb dL_clear_4 rfl (lv_at hl 2 rfl) ?_
  refine q_thH (q_thV (rest := [.int 0, .ref ao]) hx hb hml hown hE hT hZ (c_X5_clear_T0 l hfl D cI cZ cL ad S x1 x2 hI hth) ck_X5_clear w_603 hP 0 rfl rfl hl.1 rfl ⟨Nat.le_of_ble_eq_true rfl, Nat.le_of_ble_eq_true rfl⟩ (Nat.le_of_ble_eq_true rfl) dL_clear_5 ⟨Nat.le_of_ble_eq_true rfl, Nat.le_of_ble_eq_true rfl⟩) hown [] _ _ htb (fun z hz => nomatch hz) (by decide +kernel) (by decide +kernel) (hE.1 _ w_431 args) (hE.1 _ w_442 args) (fun q H hS => ?_)
  refine W.eq (g2 := F0 m 20 ls [.ref q]) rfl ?_
  have hP := q_keep hS hP (fun _ _ h => h)
  have hO := q_keep hS hO (fun _ _ h => h)
  refine lv_astore (lv' := [(4, .ref q), (0, .ref (ad 0)), (1, .int x1), (2, .int x2), (3, .ref ao)]) hx hb dL_clear_20 hl (by decide) rfl (fun ls hl => ?_)
  refine lv_iconst (v := 1) hx hb dL_clear_22 (by decide) ?_
  exact W.zret hx hb hr rfl (fun t ht hW => ⟨rfl, ⟨by rw [ht]; exact hP, by rw [ht]; exact hO⟩, (q_Swk (fun _ h => h.elim) hS).F ht⟩) (fun _ h => nomatch h) dL_clear_23 hlk
set_option maxHeartbeats 4000000 in
set_option maxRecDepth 100000 in
theorem h_clear_T1 (l : Launch) (hfl : l.flags = flags0) (D : va_G) (cI cZ cL : ClassId) (ad : Nat → Nat) (ao : Nat) (S : Mem) (f : Nat → Int64) (A : Nat → Prop) (x1 : Int32) (x2 : Int32) (hI : I0 S) (hth : (oClear S x1 x2).1 = some "java/lang/IllegalStateException") :
    HL l D cI cZ cL yL_clear cL_clear 5 [(0, 17, 20, 25), (0, 17, 24, 15)] 8 [.ref (ad 0), .int x1, .int x2, .ref ao] A ao (wC ad cI S) (wC ad cI S) f (f) 2 := by
  refine HL.of (by decide) (Nat.le_of_ble_eq_true rfl) ?_
  intro p e s m args below meth c ls hx hb hr hml hown hlk htb hE hT hZ hC hP hO hS hl
  have hl : lv_has ls 5 [(0, .ref (ad 0)), (1, .int x1), (2, .int x2), (3, .ref ao)] := hl
  refine lv_aload_n hx hb dL_clear_0 rfl (lv_at hl 3 rfl) ?_
  refine lv_iconst (v := 0) hx hb dL_clear_1 (by decide) ?_
  refine lv_aload_n hx hb dL_clear_2 rfl (lv_at hl 0 rfl) ?_
  refine lv_iload_n hx hb dL_clear_3 rfl (lv_at hl 1 rfl) ?_
  refine lv_iload_n hx hb dL_clear_4 rfl (lv_at hl 2 rfl) ?_
  refine q_thH (q_thV (rest := [.int 0, .ref ao]) hx hb hml hown hE hT hZ (c_X5_clear_T1 l hfl D cI cZ cL ad S x1 x2 hI hth) ck_X5_clear w_603 hP 0 rfl rfl hl.1 rfl ⟨Nat.le_of_ble_eq_true rfl, Nat.le_of_ble_eq_true rfl⟩ (Nat.le_of_ble_eq_true rfl) dL_clear_5 ⟨Nat.le_of_ble_eq_true rfl, Nat.le_of_ble_eq_true rfl⟩) hown (tableOf [(0, 17, 20, 25)]) _ _ htb (by intro z hz; simp only [tableOf, List.map_cons, List.map_nil, List.mem_cons, List.not_mem_nil, or_false] at hz; rcases hz with rfl <;> exact Or.inr ⟨by decide, _, hE.1 _ w_431 args, hC ("java/lang/IllegalStateException", "java/lang/IndexOutOfBoundsException") (by decide)⟩) (by decide +kernel) (by decide +kernel) (hE.1 _ w_323 args) (hE.1 _ w_402 args) (fun q H hS => ?_)
  refine W.eq (g2 := F0 m 24 ls [.ref q]) rfl ?_
  have hP := q_keep hS hP (fun _ _ h => h)
  have hO := q_keep hS hO (fun _ _ h => h)
  refine lv_astore (lv' := [(4, .ref q), (0, .ref (ad 0)), (1, .int x1), (2, .int x2), (3, .ref ao)]) hx hb dL_clear_24 hl (by decide) rfl (fun ls hl => ?_)
  refine lv_iconst (v := 2) hx hb dL_clear_26 (by decide) ?_
  exact W.zret hx hb hr rfl (fun t ht hW => ⟨rfl, ⟨by rw [ht]; exact hP, by rw [ht]; exact hO⟩, (q_Swk (fun _ h => h.elim) hS).F ht⟩) (fun _ h => nomatch h) dL_clear_27 hlk
theorem dL_pardon_0 : decode cL_pardon 0 = .ok (.aload_n 3, 1) := by decide +kernel
theorem dL_pardon_1 : decode cL_pardon 1 = .ok (.iconst 0, 1) := by decide +kernel
theorem dL_pardon_2 : decode cL_pardon 2 = .ok (.aload_n 0, 1) := by decide +kernel
theorem dL_pardon_3 : decode cL_pardon 3 = .ok (.iload_n 1, 1) := by decide +kernel
theorem dL_pardon_4 : decode cL_pardon 4 = .ok (.iload_n 2, 1) := by decide +kernel
theorem dL_pardon_5 : decode cL_pardon 5 = .ok (.invokevirtual 56, 3) := by decide +kernel
theorem dL_pardon_8 : decode cL_pardon 8 = .ok (.ifCond .eq 7, 3) := by decide +kernel
theorem dL_pardon_11 : decode cL_pardon 11 = .ok (.lconst 1, 1) := by decide +kernel
theorem dL_pardon_12 : decode cL_pardon 12 = .ok (.goto 4, 3) := by decide +kernel
theorem dL_pardon_15 : decode cL_pardon 15 = .ok (.lconst 0, 1) := by decide +kernel
theorem dL_pardon_16 : decode cL_pardon 16 = .ok (.lastore, 1) := by decide +kernel
theorem dL_pardon_17 : decode cL_pardon 17 = .ok (.goto 11, 3) := by decide +kernel
theorem dL_pardon_20 : decode cL_pardon 20 = .ok (.astore 4, 2) := by decide +kernel
theorem dL_pardon_22 : decode cL_pardon 22 = .ok (.iconst 1, 1) := by decide +kernel
theorem dL_pardon_23 : decode cL_pardon 23 = .ok (.ireturn, 1) := by decide +kernel
theorem dL_pardon_24 : decode cL_pardon 24 = .ok (.astore 4, 2) := by decide +kernel
theorem dL_pardon_26 : decode cL_pardon 26 = .ok (.iconst 2, 1) := by decide +kernel
theorem dL_pardon_27 : decode cL_pardon 27 = .ok (.ireturn, 1) := by decide +kernel
theorem dL_pardon_28 : decode cL_pardon 28 = .ok (.iconst 0, 1) := by decide +kernel
theorem dL_pardon_29 : decode cL_pardon 29 = .ok (.ireturn, 1) := by decide +kernel
set_option maxHeartbeats 4000000 in
set_option maxRecDepth 100000 in
theorem h_pardon (l : Launch) (D : va_G) (cI cZ cL : ClassId) (ad : Nat → Nat) (ao : Nat) (S : Mem) (f : Nat → Int64) (A : Nat → Prop) (hD : va_D A (wO ao cL f ++ wC ad cI S)) (x1 : Int32) (x2 : Int32) (hI : I0 S) (hth : (oPardon S x1 x2).1 = none) :
    HL l D cI cZ cL yL_pardon cL_pardon 5 [(0, 17, 20, 25), (0, 17, 24, 13)] 8 [.ref (ad 0), .int x1, .int x2, .ref ao] A ao (wC ad cI S) (wC ad cI ((oPardon S x1 x2).2.2)) f (vp_updL f 0 (if (oPardon S x1 x2).2.1 = 0 then 0 else 1)) 0 := by
  refine HL.of (by decide) (Nat.le_of_ble_eq_true rfl) ?_
  intro p e s m args below meth c ls hx hb hr hml hown hlk htb hE hT hZ hC hP hO hS hl
  have hl : lv_has ls 5 [(0, .ref (ad 0)), (1, .int x1), (2, .int x2), (3, .ref ao)] := hl
  refine lv_aload_n hx hb dL_pardon_0 rfl (lv_at hl 3 rfl) ?_
  refine lv_iconst (v := 0) hx hb dL_pardon_1 (by decide) ?_
  refine lv_aload_n hx hb dL_pardon_2 rfl (lv_at hl 0 rfl) ?_
  refine lv_iload_n hx hb dL_pardon_3 rfl (lv_at hl 1 rfl) ?_
  refine lv_iload_n hx hb dL_pardon_4 rfl (lv_at hl 2 rfl) ?_
  refine q_wr (q_runV (rest := [.int 0, .ref ao]) hx hb hml hown hE (c_X5_pardon l D cI cZ cL ad S (aW (wC ad cI S)) (aW_D (q_Dtl hD)) x1 x2 hI hth) ck_X5_pardon w_611 hP 0 rfl rfl hl.1 rfl ⟨Nat.le_of_ble_eq_true rfl, Nat.le_of_ble_eq_true rfl⟩ (Nat.le_of_ble_eq_true rfl) dL_pardon_5 ⟨Nat.zero_le _, Nat.zero_le _⟩) (va_S.rf (A := aW (wC ad cI S)) (H0 := s.heap)) (fun H locs hP hS => ?_)
  have hO := q_keep hS hO (q_Dno hD)
  have hS := q_Swk (q_Dsub hD) hS
  have hD : va_D A (wO ao cL f ++ wC ad cI ((oPardon S x1 x2).2.2)) := q_D (ws := wO ao cL f ++ wC ad cI S) rfl hD
  refine lv_if_eq (tgt := 15) hx hb dL_pardon_8 (by decide) (fun c_1 => ?_) (fun c_1 => ?_)
  · rw [if_pos c_1]
    refine lv_lconst (v := 0) hx hb dL_pardon_15 (by decide) ?_
    refine q_last hx hb hE hP hO hD hS dL_pardon_16 (fun H locs hP hO hS => ?_)
    refine lv_goto (tgt := 28) hx hb dL_pardon_17 (by decide) ?_
    refine lv_iconst (v := 0) hx hb dL_pardon_28 (by decide) ?_
    refine W.widen (k := 1) (n := 6) (Nat.le_of_ble_eq_true rfl) (Nat.le_of_ble_eq_true rfl) ?_
    exact W.zret hx hb hr rfl (fun t ht hW => ⟨rfl, ⟨by rw [ht]; exact hP, by rw [ht]; exact hO⟩, hS.F ht⟩) hS.2.2 dL_pardon_29 hlk
  · rw [if_neg c_1]
    refine lv_lconst (v := 1) hx hb dL_pardon_11 (by decide) ?_
    refine lv_goto (tgt := 16) hx hb dL_pardon_12 (by decide) ?_
    refine q_last hx hb hE hP hO hD hS dL_pardon_16 (fun H locs hP hO hS => ?_)
    refine lv_goto (tgt := 28) hx hb dL_pardon_17 (by decide) ?_
    refine lv_iconst (v := 0) hx hb dL_pardon_28 (by decide) ?_
    refine W.widen (k := 1) (n := 6) (Nat.le_of_ble_eq_true rfl) (Nat.le_of_ble_eq_true rfl) ?_
    exact W.zret hx hb hr rfl (fun t ht hW => ⟨rfl, ⟨by rw [ht]; exact hP, by rw [ht]; exact hO⟩, hS.F ht⟩) hS.2.2 dL_pardon_29 hlk
set_option maxHeartbeats 4000000 in
set_option maxRecDepth 100000 in
theorem h_pardon_T0 (l : Launch) (hfl : l.flags = flags0) (D : va_G) (cI cZ cL : ClassId) (ad : Nat → Nat) (ao : Nat) (S : Mem) (f : Nat → Int64) (A : Nat → Prop) (x1 : Int32) (x2 : Int32) (hI : I0 S) (hth : (oPardon S x1 x2).1 = some "java/lang/IndexOutOfBoundsException") :
    HL l D cI cZ cL yL_pardon cL_pardon 5 [(0, 17, 20, 25), (0, 17, 24, 13)] 8 [.ref (ad 0), .int x1, .int x2, .ref ao] A ao (wC ad cI S) (wC ad cI S) f (f) 1 := by
  refine HL.of (by decide) (Nat.le_of_ble_eq_true rfl) ?_
  intro p e s m args below meth c ls hx hb hr hml hown hlk htb hE hT hZ hC hP hO hS hl
  have hl : lv_has ls 5 [(0, .ref (ad 0)), (1, .int x1), (2, .int x2), (3, .ref ao)] := hl
  refine lv_aload_n hx hb dL_pardon_0 rfl (lv_at hl 3 rfl) ?_
  refine lv_iconst (v := 0) hx hb dL_pardon_1 (by decide) ?_
  refine lv_aload_n hx hb dL_pardon_2 rfl (lv_at hl 0 rfl) ?_
  refine lv_iload_n hx hb dL_pardon_3 rfl (lv_at hl 1 rfl) ?_
  refine lv_iload_n hx hb dL_pardon_4 rfl (lv_at hl 2 rfl) ?_
  refine q_thH (q_thV (rest := [.int 0, .ref ao]) hx hb hml hown hE hT hZ (c_X5_pardon_T0 l hfl D cI cZ cL ad S x1 x2 hI hth) ck_X5_pardon w_611 hP 0 rfl rfl hl.1 rfl ⟨Nat.le_of_ble_eq_true rfl, Nat.le_of_ble_eq_true rfl⟩ (Nat.le_of_ble_eq_true rfl) dL_pardon_5 ⟨Nat.le_of_ble_eq_true rfl, Nat.le_of_ble_eq_true rfl⟩) hown [] _ _ htb (fun z hz => nomatch hz) (by decide +kernel) (by decide +kernel) (hE.1 _ w_431 args) (hE.1 _ w_442 args) (fun q H hS => ?_)
  refine W.eq (g2 := F0 m 20 ls [.ref q]) rfl ?_
  have hP := q_keep hS hP (fun _ _ h => h)
  have hO := q_keep hS hO (fun _ _ h => h)
  refine lv_astore (lv' := [(4, .ref q), (0, .ref (ad 0)), (1, .int x1), (2, .int x2), (3, .ref ao)]) hx hb dL_pardon_20 hl (by decide) rfl (fun ls hl => ?_)
  refine lv_iconst (v := 1) hx hb dL_pardon_22 (by decide) ?_
  exact W.zret hx hb hr rfl (fun t ht hW => ⟨rfl, ⟨by rw [ht]; exact hP, by rw [ht]; exact hO⟩, (q_Swk (fun _ h => h.elim) hS).F ht⟩) (fun _ h => nomatch h) dL_pardon_23 hlk
set_option maxHeartbeats 4000000 in
set_option maxRecDepth 100000 in
theorem h_pardon_T1 (l : Launch) (hfl : l.flags = flags0) (D : va_G) (cI cZ cL : ClassId) (ad : Nat → Nat) (ao : Nat) (S : Mem) (f : Nat → Int64) (A : Nat → Prop) (x1 : Int32) (x2 : Int32) (hI : I0 S) (hth : (oPardon S x1 x2).1 = some "java/lang/IllegalArgumentException") :
    HL l D cI cZ cL yL_pardon cL_pardon 5 [(0, 17, 20, 25), (0, 17, 24, 13)] 8 [.ref (ad 0), .int x1, .int x2, .ref ao] A ao (wC ad cI S) (wC ad cI S) f (f) 2 := by
  refine HL.of (by decide) (Nat.le_of_ble_eq_true rfl) ?_
  intro p e s m args below meth c ls hx hb hr hml hown hlk htb hE hT hZ hC hP hO hS hl
  have hl : lv_has ls 5 [(0, .ref (ad 0)), (1, .int x1), (2, .int x2), (3, .ref ao)] := hl
  refine lv_aload_n hx hb dL_pardon_0 rfl (lv_at hl 3 rfl) ?_
  refine lv_iconst (v := 0) hx hb dL_pardon_1 (by decide) ?_
  refine lv_aload_n hx hb dL_pardon_2 rfl (lv_at hl 0 rfl) ?_
  refine lv_iload_n hx hb dL_pardon_3 rfl (lv_at hl 1 rfl) ?_
  refine lv_iload_n hx hb dL_pardon_4 rfl (lv_at hl 2 rfl) ?_
  refine q_thH (q_thV (rest := [.int 0, .ref ao]) hx hb hml hown hE hT hZ (c_X5_pardon_T1 l hfl D cI cZ cL ad S x1 x2 hI hth) ck_X5_pardon w_611 hP 0 rfl rfl hl.1 rfl ⟨Nat.le_of_ble_eq_true rfl, Nat.le_of_ble_eq_true rfl⟩ (Nat.le_of_ble_eq_true rfl) dL_pardon_5 ⟨Nat.le_of_ble_eq_true rfl, Nat.le_of_ble_eq_true rfl⟩) hown (tableOf [(0, 17, 20, 25)]) _ _ htb (by intro z hz; simp only [tableOf, List.map_cons, List.map_nil, List.mem_cons, List.not_mem_nil, or_false] at hz; rcases hz with rfl <;> exact Or.inr ⟨by decide, _, hE.1 _ w_431 args, hC ("java/lang/IllegalArgumentException", "java/lang/IndexOutOfBoundsException") (by decide)⟩) (by decide +kernel) (by decide +kernel) (hE.1 _ w_322 args) (hE.1 _ w_333 args) (fun q H hS => ?_)
  refine W.eq (g2 := F0 m 24 ls [.ref q]) rfl ?_
  have hP := q_keep hS hP (fun _ _ h => h)
  have hO := q_keep hS hO (fun _ _ h => h)
  refine lv_astore (lv' := [(4, .ref q), (0, .ref (ad 0)), (1, .int x1), (2, .int x2), (3, .ref ao)]) hx hb dL_pardon_24 hl (by decide) rfl (fun ls hl => ?_)
  refine lv_iconst (v := 2) hx hb dL_pardon_26 (by decide) ?_
  exact W.zret hx hb hr rfl (fun t ht hW => ⟨rfl, ⟨by rw [ht]; exact hP, by rw [ht]; exact hO⟩, (q_Swk (fun _ h => h.elim) hS).F ht⟩) (fun _ h => nomatch h) dL_pardon_27 hlk
theorem dL_isFree_0 : decode cL_isFree 0 = .ok (.aload_n 2, 1) := by decide +kernel
theorem dL_isFree_1 : decode cL_isFree 1 = .ok (.iconst 0, 1) := by decide +kernel
theorem dL_isFree_2 : decode cL_isFree 2 = .ok (.aload_n 0, 1) := by decide +kernel
theorem dL_isFree_3 : decode cL_isFree 3 = .ok (.iload_n 1, 1) := by decide +kernel
theorem dL_isFree_4 : decode cL_isFree 4 = .ok (.invokevirtual 62, 3) := by decide +kernel
theorem dL_isFree_7 : decode cL_isFree 7 = .ok (.ifCond .eq 7, 3) := by decide +kernel
theorem dL_isFree_10 : decode cL_isFree 10 = .ok (.lconst 1, 1) := by decide +kernel
theorem dL_isFree_11 : decode cL_isFree 11 = .ok (.goto 4, 3) := by decide +kernel
theorem dL_isFree_14 : decode cL_isFree 14 = .ok (.lconst 0, 1) := by decide +kernel
theorem dL_isFree_15 : decode cL_isFree 15 = .ok (.lastore, 1) := by decide +kernel
theorem dL_isFree_16 : decode cL_isFree 16 = .ok (.goto 6, 3) := by decide +kernel
theorem dL_isFree_19 : decode cL_isFree 19 = .ok (.astore_n 3, 1) := by decide +kernel
theorem dL_isFree_20 : decode cL_isFree 20 = .ok (.iconst 1, 1) := by decide +kernel
theorem dL_isFree_21 : decode cL_isFree 21 = .ok (.ireturn, 1) := by decide +kernel
theorem dL_isFree_22 : decode cL_isFree 22 = .ok (.iconst 0, 1) := by decide +kernel
theorem dL_isFree_23 : decode cL_isFree 23 = .ok (.ireturn, 1) := by decide +kernel
set_option maxHeartbeats 4000000 in
set_option maxRecDepth 100000 in
theorem h_isFree (l : Launch) (D : va_G) (cI cZ cL : ClassId) (ad : Nat → Nat) (ao : Nat) (S : Mem) (f : Nat → Int64) (A : Nat → Prop) (hD : va_D A (wO ao cL f ++ wC ad cI S)) (x1 : Int32) (hI : I0 S) (hth : (oFree S x1).1 = none) :
    HL l D cI cZ cL yL_isFree cL_isFree 4 [(0, 16, 19, 25)] 8 [.ref (ad 0), .int x1, .ref ao] A ao (wC ad cI S) (wC ad cI S) f (vp_updL f 0 (if (oFree S x1).2.1 = 0 then 0 else 1)) 0 := by
  refine HL.of (by decide) (Nat.le_of_ble_eq_true rfl) ?_
  intro p e s m args below meth c ls hx hb hr hml hown hlk htb hE hT hZ hC hP hO hS hl
  have hl : lv_has ls 4 [(0, .ref (ad 0)), (1, .int x1), (2, .ref ao)] := hl
  refine lv_aload_n hx hb dL_isFree_0 rfl (lv_at hl 2 rfl) ?_
  refine lv_iconst (v := 0) hx hb dL_isFree_1 (by decide) ?_
  refine lv_aload_n hx hb dL_isFree_2 rfl (lv_at hl 0 rfl) ?_
  refine lv_iload_n hx hb dL_isFree_3 rfl (lv_at hl 1 rfl) ?_
  refine q_rd (q_runV (rest := [.int 0, .ref ao]) hx hb hml hown hE (c_X5_isFree l D cI cZ cL ad S x1 hI hth) ck_X5_isFree w_631 hP 0 rfl rfl hl.1 rfl ⟨Nat.le_of_ble_eq_true rfl, Nat.le_of_ble_eq_true rfl⟩ (Nat.le_of_ble_eq_true rfl) dL_isFree_4 ⟨Nat.zero_le _, Nat.zero_le _⟩) ?_
  refine lv_if_eq (tgt := 14) hx hb dL_isFree_7 (by decide) (fun c_1 => ?_) (fun c_1 => ?_)
  · rw [if_pos c_1]
    refine lv_lconst (v := 0) hx hb dL_isFree_14 (by decide) ?_
    refine q_last hx hb hE hP hO hD hS dL_isFree_15 (fun H locs hP hO hS => ?_)
    refine lv_goto (tgt := 22) hx hb dL_isFree_16 (by decide) ?_
    refine lv_iconst (v := 0) hx hb dL_isFree_22 (by decide) ?_
    refine W.widen (k := 1) (n := 6) (Nat.le_of_ble_eq_true rfl) (Nat.le_of_ble_eq_true rfl) ?_
    exact W.zret hx hb hr rfl (fun t ht hW => ⟨rfl, ⟨by rw [ht]; exact hP, by rw [ht]; exact hO⟩, hS.F ht⟩) hS.2.2 dL_isFree_23 hlk
  · rw [if_neg c_1]
    refine lv_lconst (v := 1) hx hb dL_isFree_10 (by decide) ?_
    refine lv_goto (tgt := 15) hx hb dL_isFree_11 (by decide) ?_
    refine q_last hx hb hE hP hO hD hS dL_isFree_15 (fun H locs hP hO hS => ?_)
    refine lv_goto (tgt := 22) hx hb dL_isFree_16 (by decide) ?_
    refine lv_iconst (v := 0) hx hb dL_isFree_22 (by decide) ?_
    refine W.widen (k := 1) (n := 6) (Nat.le_of_ble_eq_true rfl) (Nat.le_of_ble_eq_true rfl) ?_
    exact W.zret hx hb hr rfl (fun t ht hW => ⟨rfl, ⟨by rw [ht]; exact hP, by rw [ht]; exact hO⟩, hS.F ht⟩) hS.2.2 dL_isFree_23 hlk
set_option maxHeartbeats 4000000 in
set_option maxRecDepth 100000 in
theorem h_isFree_T0 (l : Launch) (hfl : l.flags = flags0) (D : va_G) (cI cZ cL : ClassId) (ad : Nat → Nat) (ao : Nat) (S : Mem) (f : Nat → Int64) (A : Nat → Prop) (x1 : Int32) (hI : I0 S) (hth : (oFree S x1).1 = some "java/lang/IndexOutOfBoundsException") :
    HL l D cI cZ cL yL_isFree cL_isFree 4 [(0, 16, 19, 25)] 8 [.ref (ad 0), .int x1, .ref ao] A ao (wC ad cI S) (wC ad cI S) f (f) 1 := by
  refine HL.of (by decide) (Nat.le_of_ble_eq_true rfl) ?_
  intro p e s m args below meth c ls hx hb hr hml hown hlk htb hE hT hZ hC hP hO hS hl
  have hl : lv_has ls 4 [(0, .ref (ad 0)), (1, .int x1), (2, .ref ao)] := hl
  refine lv_aload_n hx hb dL_isFree_0 rfl (lv_at hl 2 rfl) ?_
  refine lv_iconst (v := 0) hx hb dL_isFree_1 (by decide) ?_
  refine lv_aload_n hx hb dL_isFree_2 rfl (lv_at hl 0 rfl) ?_
  refine lv_iload_n hx hb dL_isFree_3 rfl (lv_at hl 1 rfl) ?_
  refine q_thH (q_thV (rest := [.int 0, .ref ao]) hx hb hml hown hE hT hZ (c_X5_isFree_T0 l hfl D cI cZ cL ad S x1 hI hth) ck_X5_isFree w_631 hP 0 rfl rfl hl.1 rfl ⟨Nat.le_of_ble_eq_true rfl, Nat.le_of_ble_eq_true rfl⟩ (Nat.le_of_ble_eq_true rfl) dL_isFree_4 ⟨Nat.le_of_ble_eq_true rfl, Nat.le_of_ble_eq_true rfl⟩) hown [] _ _ htb (fun z hz => nomatch hz) (by decide +kernel) (by decide +kernel) (hE.1 _ w_431 args) (hE.1 _ w_442 args) (fun q H hS => ?_)
  refine W.eq (g2 := F0 m 19 ls [.ref q]) rfl ?_
  have hP := q_keep hS hP (fun _ _ h => h)
  have hO := q_keep hS hO (fun _ _ h => h)
  refine lv_astore_n (lv' := [(3, .ref q), (0, .ref (ad 0)), (1, .int x1), (2, .ref ao)]) hx hb dL_isFree_19 rfl hl (by decide) rfl (fun ls hl => ?_)
  refine lv_iconst (v := 1) hx hb dL_isFree_20 (by decide) ?_
  exact W.zret hx hb hr rfl (fun t ht hW => ⟨rfl, ⟨by rw [ht]; exact hP, by rw [ht]; exact hO⟩, (q_Swk (fun _ h => h.elim) hS).F ht⟩) (fun _ h => nomatch h) dL_isFree_21 hlk
theorem dL_likeness_0 : decode cL_likeness 0 = .ok (.aload_n 3, 1) := by decide +kernel
theorem dL_likeness_1 : decode cL_likeness 1 = .ok (.iconst 0, 1) := by decide +kernel
theorem dL_likeness_2 : decode cL_likeness 2 = .ok (.aload_n 0, 1) := by decide +kernel
theorem dL_likeness_3 : decode cL_likeness 3 = .ok (.iload_n 1, 1) := by decide +kernel
theorem dL_likeness_4 : decode cL_likeness 4 = .ok (.iload_n 2, 1) := by decide +kernel
theorem dL_likeness_5 : decode cL_likeness 5 = .ok (.invokevirtual 66, 3) := by decide +kernel
theorem dL_likeness_8 : decode cL_likeness 8 = .ok (.i2l, 1) := by decide +kernel
theorem dL_likeness_9 : decode cL_likeness 9 = .ok (.lastore, 1) := by decide +kernel
theorem dL_likeness_10 : decode cL_likeness 10 = .ok (.goto 7, 3) := by decide +kernel
theorem dL_likeness_13 : decode cL_likeness 13 = .ok (.astore 4, 2) := by decide +kernel
theorem dL_likeness_15 : decode cL_likeness 15 = .ok (.iconst 1, 1) := by decide +kernel
theorem dL_likeness_16 : decode cL_likeness 16 = .ok (.ireturn, 1) := by decide +kernel
theorem dL_likeness_17 : decode cL_likeness 17 = .ok (.iconst 0, 1) := by decide +kernel
theorem dL_likeness_18 : decode cL_likeness 18 = .ok (.ireturn, 1) := by decide +kernel
set_option maxHeartbeats 4000000 in
set_option maxRecDepth 100000 in
theorem h_likeness (l : Launch) (D : va_G) (cI cZ cL : ClassId) (ad : Nat → Nat) (ao : Nat) (S : Mem) (f : Nat → Int64) (A : Nat → Prop) (hD : va_D A (wO ao cL f ++ wC ad cI S)) (x1 : Int32) (x2 : Int32) (hI : I0 S) (hth : (oLike S x1 x2).1 = none) :
    HL l D cI cZ cL yL_likeness cL_likeness 5 [(0, 10, 13, 25)] 8 [.ref (ad 0), .int x1, .int x2, .ref ao] A ao (wC ad cI S) (wC ad cI S) f (vp_updL f 0 ((oLike S x1 x2).2.1).toInt64) 0 := by
  refine HL.of (by decide) (Nat.le_of_ble_eq_true rfl) ?_
  intro p e s m args below meth c ls hx hb hr hml hown hlk htb hE hT hZ hC hP hO hS hl
  have hl : lv_has ls 5 [(0, .ref (ad 0)), (1, .int x1), (2, .int x2), (3, .ref ao)] := hl
  refine lv_aload_n hx hb dL_likeness_0 rfl (lv_at hl 3 rfl) ?_
  refine lv_iconst (v := 0) hx hb dL_likeness_1 (by decide) ?_
  refine lv_aload_n hx hb dL_likeness_2 rfl (lv_at hl 0 rfl) ?_
  refine lv_iload_n hx hb dL_likeness_3 rfl (lv_at hl 1 rfl) ?_
  refine lv_iload_n hx hb dL_likeness_4 rfl (lv_at hl 2 rfl) ?_
  refine q_rd (q_runV (rest := [.int 0, .ref ao]) hx hb hml hown hE (c_X5_likeness l D cI cZ cL ad S x1 x2 hI hth) ck_X5_likeness w_638 hP 0 rfl rfl hl.1 rfl ⟨Nat.le_of_ble_eq_true rfl, Nat.le_of_ble_eq_true rfl⟩ (Nat.le_of_ble_eq_true rfl) dL_likeness_5 ⟨Nat.zero_le _, Nat.zero_le _⟩) ?_
  refine lv_i2l (v := ((oLike S x1 x2).2.1).toInt64) hx hb dL_likeness_8 rfl ?_
  refine q_last hx hb hE hP hO hD hS dL_likeness_9 (fun H locs hP hO hS => ?_)
  refine lv_goto (tgt := 17) hx hb dL_likeness_10 (by decide) ?_
  refine lv_iconst (v := 0) hx hb dL_likeness_17 (by decide) ?_
  refine W.widen (k := 1) (n := 6) (Nat.le_of_ble_eq_true rfl) (Nat.le_of_ble_eq_true rfl) ?_
  exact W.zret hx hb hr rfl (fun t ht hW => ⟨rfl, ⟨by rw [ht]; exact hP, by rw [ht]; exact hO⟩, hS.F ht⟩) hS.2.2 dL_likeness_18 hlk
set_option maxHeartbeats 4000000 in
set_option maxRecDepth 100000 in
theorem h_likeness_T0 (l : Launch) (hfl : l.flags = flags0) (D : va_G) (cI cZ cL : ClassId) (ad : Nat → Nat) (ao : Nat) (S : Mem) (f : Nat → Int64) (A : Nat → Prop) (x1 : Int32) (x2 : Int32) (hI : I0 S) (hth : (oLike S x1 x2).1 = some "java/lang/IndexOutOfBoundsException") :
    HL l D cI cZ cL yL_likeness cL_likeness 5 [(0, 10, 13, 25)] 8 [.ref (ad 0), .int x1, .int x2, .ref ao] A ao (wC ad cI S) (wC ad cI S) f (f) 1 := by
  refine HL.of (by decide) (Nat.le_of_ble_eq_true rfl) ?_
  intro p e s m args below meth c ls hx hb hr hml hown hlk htb hE hT hZ hC hP hO hS hl
  have hl : lv_has ls 5 [(0, .ref (ad 0)), (1, .int x1), (2, .int x2), (3, .ref ao)] := hl
  refine lv_aload_n hx hb dL_likeness_0 rfl (lv_at hl 3 rfl) ?_
  refine lv_iconst (v := 0) hx hb dL_likeness_1 (by decide) ?_
  refine lv_aload_n hx hb dL_likeness_2 rfl (lv_at hl 0 rfl) ?_
  refine lv_iload_n hx hb dL_likeness_3 rfl (lv_at hl 1 rfl) ?_
  refine lv_iload_n hx hb dL_likeness_4 rfl (lv_at hl 2 rfl) ?_
  refine q_thH (q_thV (rest := [.int 0, .ref ao]) hx hb hml hown hE hT hZ (c_X5_likeness_T0 l hfl D cI cZ cL ad S x1 x2 hI hth) ck_X5_likeness w_638 hP 0 rfl rfl hl.1 rfl ⟨Nat.le_of_ble_eq_true rfl, Nat.le_of_ble_eq_true rfl⟩ (Nat.le_of_ble_eq_true rfl) dL_likeness_5 ⟨Nat.le_of_ble_eq_true rfl, Nat.le_of_ble_eq_true rfl⟩) hown [] _ _ htb (fun z hz => nomatch hz) (by decide +kernel) (by decide +kernel) (hE.1 _ w_431 args) (hE.1 _ w_442 args) (fun q H hS => ?_)
  refine W.eq (g2 := F0 m 13 ls [.ref q]) rfl ?_
  have hP := q_keep hS hP (fun _ _ h => h)
  have hO := q_keep hS hO (fun _ _ h => h)
  refine lv_astore (lv' := [(4, .ref q), (0, .ref (ad 0)), (1, .int x1), (2, .int x2), (3, .ref ao)]) hx hb dL_likeness_13 hl (by decide) rfl (fun ls hl => ?_)
  refine lv_iconst (v := 1) hx hb dL_likeness_15 (by decide) ?_
  exact W.zret hx hb hr rfl (fun t ht hW => ⟨rfl, ⟨by rw [ht]; exact hP, by rw [ht]; exact hO⟩, (q_Swk (fun _ h => h.elim) hS).F ht⟩) (fun _ h => nomatch h) dL_likeness_16 hlk
theorem dL_areLinked_0 : decode cL_areLinked 0 = .ok (.aload_n 3, 1) := by decide +kernel
theorem dL_areLinked_1 : decode cL_areLinked 1 = .ok (.iconst 0, 1) := by decide +kernel
theorem dL_areLinked_2 : decode cL_areLinked 2 = .ok (.aload_n 0, 1) := by decide +kernel
theorem dL_areLinked_3 : decode cL_areLinked 3 = .ok (.iload_n 1, 1) := by decide +kernel
theorem dL_areLinked_4 : decode cL_areLinked 4 = .ok (.iload_n 2, 1) := by decide +kernel
theorem dL_areLinked_5 : decode cL_areLinked 5 = .ok (.invokevirtual 69, 3) := by decide +kernel
theorem dL_areLinked_8 : decode cL_areLinked 8 = .ok (.ifCond .eq 7, 3) := by decide +kernel
theorem dL_areLinked_11 : decode cL_areLinked 11 = .ok (.lconst 1, 1) := by decide +kernel
theorem dL_areLinked_12 : decode cL_areLinked 12 = .ok (.goto 4, 3) := by decide +kernel
theorem dL_areLinked_15 : decode cL_areLinked 15 = .ok (.lconst 0, 1) := by decide +kernel
theorem dL_areLinked_16 : decode cL_areLinked 16 = .ok (.lastore, 1) := by decide +kernel
theorem dL_areLinked_17 : decode cL_areLinked 17 = .ok (.goto 7, 3) := by decide +kernel
theorem dL_areLinked_20 : decode cL_areLinked 20 = .ok (.astore 4, 2) := by decide +kernel
theorem dL_areLinked_22 : decode cL_areLinked 22 = .ok (.iconst 1, 1) := by decide +kernel
theorem dL_areLinked_23 : decode cL_areLinked 23 = .ok (.ireturn, 1) := by decide +kernel
theorem dL_areLinked_24 : decode cL_areLinked 24 = .ok (.iconst 0, 1) := by decide +kernel
theorem dL_areLinked_25 : decode cL_areLinked 25 = .ok (.ireturn, 1) := by decide +kernel
set_option maxHeartbeats 4000000 in
set_option maxRecDepth 100000 in
theorem h_areLinked (l : Launch) (D : va_G) (cI cZ cL : ClassId) (ad : Nat → Nat) (ao : Nat) (S : Mem) (f : Nat → Int64) (A : Nat → Prop) (hD : va_D A (wO ao cL f ++ wC ad cI S)) (x1 : Int32) (x2 : Int32) (hI : I0 S) (hth : (oLinked S x1 x2).1 = none) :
    HL l D cI cZ cL yL_areLinked cL_areLinked 5 [(0, 17, 20, 25)] 8 [.ref (ad 0), .int x1, .int x2, .ref ao] A ao (wC ad cI S) (wC ad cI S) f (vp_updL f 0 (if (oLinked S x1 x2).2.1 = 0 then 0 else 1)) 0 := by
  refine HL.of (by decide) (Nat.le_of_ble_eq_true rfl) ?_
  intro p e s m args below meth c ls hx hb hr hml hown hlk htb hE hT hZ hC hP hO hS hl
  have hl : lv_has ls 5 [(0, .ref (ad 0)), (1, .int x1), (2, .int x2), (3, .ref ao)] := hl
  refine lv_aload_n hx hb dL_areLinked_0 rfl (lv_at hl 3 rfl) ?_
  refine lv_iconst (v := 0) hx hb dL_areLinked_1 (by decide) ?_
  refine lv_aload_n hx hb dL_areLinked_2 rfl (lv_at hl 0 rfl) ?_
  refine lv_iload_n hx hb dL_areLinked_3 rfl (lv_at hl 1 rfl) ?_
  refine lv_iload_n hx hb dL_areLinked_4 rfl (lv_at hl 2 rfl) ?_
  refine q_rd (q_runV (rest := [.int 0, .ref ao]) hx hb hml hown hE (c_X5_areLinked l D cI cZ cL ad S x1 x2 hI hth) ck_X5_areLinked w_645 hP 0 rfl rfl hl.1 rfl ⟨Nat.le_of_ble_eq_true rfl, Nat.le_of_ble_eq_true rfl⟩ (Nat.le_of_ble_eq_true rfl) dL_areLinked_5 ⟨Nat.zero_le _, Nat.zero_le _⟩) ?_
  refine lv_if_eq (tgt := 15) hx hb dL_areLinked_8 (by decide) (fun c_1 => ?_) (fun c_1 => ?_)
  · rw [if_pos c_1]
    refine lv_lconst (v := 0) hx hb dL_areLinked_15 (by decide) ?_
    refine q_last hx hb hE hP hO hD hS dL_areLinked_16 (fun H locs hP hO hS => ?_)
    refine lv_goto (tgt := 24) hx hb dL_areLinked_17 (by decide) ?_
    refine lv_iconst (v := 0) hx hb dL_areLinked_24 (by decide) ?_
    refine W.widen (k := 1) (n := 6) (Nat.le_of_ble_eq_true rfl) (Nat.le_of_ble_eq_true rfl) ?_
    exact W.zret hx hb hr rfl (fun t ht hW => ⟨rfl, ⟨by rw [ht]; exact hP, by rw [ht]; exact hO⟩, hS.F ht⟩) hS.2.2 dL_areLinked_25 hlk
  · rw [if_neg c_1]
    refine lv_lconst (v := 1) hx hb dL_areLinked_11 (by decide) ?_
    refine lv_goto (tgt := 16) hx hb dL_areLinked_12 (by decide) ?_
    refine q_last hx hb hE hP hO hD hS dL_areLinked_16 (fun H locs hP hO hS => ?_)
    refine lv_goto (tgt := 24) hx hb dL_areLinked_17 (by decide) ?_
    refine lv_iconst (v := 0) hx hb dL_areLinked_24 (by decide) ?_
    refine W.widen (k := 1) (n := 6) (Nat.le_of_ble_eq_true rfl) (Nat.le_of_ble_eq_true rfl) ?_
    exact W.zret hx hb hr rfl (fun t ht hW => ⟨rfl, ⟨by rw [ht]; exact hP, by rw [ht]; exact hO⟩, hS.F ht⟩) hS.2.2 dL_areLinked_25 hlk
set_option maxHeartbeats 4000000 in
set_option maxRecDepth 100000 in
theorem h_areLinked_T0 (l : Launch) (hfl : l.flags = flags0) (D : va_G) (cI cZ cL : ClassId) (ad : Nat → Nat) (ao : Nat) (S : Mem) (f : Nat → Int64) (A : Nat → Prop) (x1 : Int32) (x2 : Int32) (hI : I0 S) (hth : (oLinked S x1 x2).1 = some "java/lang/IndexOutOfBoundsException") :
    HL l D cI cZ cL yL_areLinked cL_areLinked 5 [(0, 17, 20, 25)] 8 [.ref (ad 0), .int x1, .int x2, .ref ao] A ao (wC ad cI S) (wC ad cI S) f (f) 1 := by
  refine HL.of (by decide) (Nat.le_of_ble_eq_true rfl) ?_
  intro p e s m args below meth c ls hx hb hr hml hown hlk htb hE hT hZ hC hP hO hS hl
  have hl : lv_has ls 5 [(0, .ref (ad 0)), (1, .int x1), (2, .int x2), (3, .ref ao)] := hl
  refine lv_aload_n hx hb dL_areLinked_0 rfl (lv_at hl 3 rfl) ?_
  refine lv_iconst (v := 0) hx hb dL_areLinked_1 (by decide) ?_
  refine lv_aload_n hx hb dL_areLinked_2 rfl (lv_at hl 0 rfl) ?_
  refine lv_iload_n hx hb dL_areLinked_3 rfl (lv_at hl 1 rfl) ?_
  refine lv_iload_n hx hb dL_areLinked_4 rfl (lv_at hl 2 rfl) ?_
  refine q_thH (q_thV (rest := [.int 0, .ref ao]) hx hb hml hown hE hT hZ (c_X5_areLinked_T0 l hfl D cI cZ cL ad S x1 x2 hI hth) ck_X5_areLinked w_645 hP 0 rfl rfl hl.1 rfl ⟨Nat.le_of_ble_eq_true rfl, Nat.le_of_ble_eq_true rfl⟩ (Nat.le_of_ble_eq_true rfl) dL_areLinked_5 ⟨Nat.le_of_ble_eq_true rfl, Nat.le_of_ble_eq_true rfl⟩) hown [] _ _ htb (fun z hz => nomatch hz) (by decide +kernel) (by decide +kernel) (hE.1 _ w_431 args) (hE.1 _ w_442 args) (fun q H hS => ?_)
  refine W.eq (g2 := F0 m 20 ls [.ref q]) rfl ?_
  have hP := q_keep hS hP (fun _ _ h => h)
  have hO := q_keep hS hO (fun _ _ h => h)
  refine lv_astore (lv' := [(4, .ref q), (0, .ref (ad 0)), (1, .int x1), (2, .int x2), (3, .ref ao)]) hx hb dL_areLinked_20 hl (by decide) rfl (fun ls hl => ?_)
  refine lv_iconst (v := 1) hx hb dL_areLinked_22 (by decide) ?_
  exact W.zret hx hb hr rfl (fun t ht hW => ⟨rfl, ⟨by rw [ht]; exact hP, by rw [ht]; exact hO⟩, (q_Swk (fun _ h => h.elim) hS).F ht⟩) (fun _ h => nomatch h) dL_areLinked_23 hlk
theorem dL_isCheated_0 : decode cL_isCheated 0 = .ok (.aload_n 3, 1) := by decide +kernel
theorem dL_isCheated_1 : decode cL_isCheated 1 = .ok (.iconst 0, 1) := by decide +kernel
theorem dL_isCheated_2 : decode cL_isCheated 2 = .ok (.aload_n 0, 1) := by decide +kernel
theorem dL_isCheated_3 : decode cL_isCheated 3 = .ok (.iload_n 1, 1) := by decide +kernel
theorem dL_isCheated_4 : decode cL_isCheated 4 = .ok (.iload_n 2, 1) := by decide +kernel
theorem dL_isCheated_5 : decode cL_isCheated 5 = .ok (.invokevirtual 72, 3) := by decide +kernel
theorem dL_isCheated_8 : decode cL_isCheated 8 = .ok (.ifCond .eq 7, 3) := by decide +kernel
theorem dL_isCheated_11 : decode cL_isCheated 11 = .ok (.lconst 1, 1) := by decide +kernel
theorem dL_isCheated_12 : decode cL_isCheated 12 = .ok (.goto 4, 3) := by decide +kernel
theorem dL_isCheated_15 : decode cL_isCheated 15 = .ok (.lconst 0, 1) := by decide +kernel
theorem dL_isCheated_16 : decode cL_isCheated 16 = .ok (.lastore, 1) := by decide +kernel
theorem dL_isCheated_17 : decode cL_isCheated 17 = .ok (.goto 7, 3) := by decide +kernel
theorem dL_isCheated_20 : decode cL_isCheated 20 = .ok (.astore 4, 2) := by decide +kernel
theorem dL_isCheated_22 : decode cL_isCheated 22 = .ok (.iconst 1, 1) := by decide +kernel
theorem dL_isCheated_23 : decode cL_isCheated 23 = .ok (.ireturn, 1) := by decide +kernel
theorem dL_isCheated_24 : decode cL_isCheated 24 = .ok (.iconst 0, 1) := by decide +kernel
theorem dL_isCheated_25 : decode cL_isCheated 25 = .ok (.ireturn, 1) := by decide +kernel
set_option maxHeartbeats 4000000 in
set_option maxRecDepth 100000 in
theorem h_isCheated (l : Launch) (D : va_G) (cI cZ cL : ClassId) (ad : Nat → Nat) (ao : Nat) (S : Mem) (f : Nat → Int64) (A : Nat → Prop) (hD : va_D A (wO ao cL f ++ wC ad cI S)) (x1 : Int32) (x2 : Int32) (hI : I0 S) (hth : (oCheat S x1 x2).1 = none) :
    HL l D cI cZ cL yL_isCheated cL_isCheated 5 [(0, 17, 20, 25)] 8 [.ref (ad 0), .int x1, .int x2, .ref ao] A ao (wC ad cI S) (wC ad cI S) f (vp_updL f 0 (if (oCheat S x1 x2).2.1 = 0 then 0 else 1)) 0 := by
  refine HL.of (by decide) (Nat.le_of_ble_eq_true rfl) ?_
  intro p e s m args below meth c ls hx hb hr hml hown hlk htb hE hT hZ hC hP hO hS hl
  have hl : lv_has ls 5 [(0, .ref (ad 0)), (1, .int x1), (2, .int x2), (3, .ref ao)] := hl
  refine lv_aload_n hx hb dL_isCheated_0 rfl (lv_at hl 3 rfl) ?_
  refine lv_iconst (v := 0) hx hb dL_isCheated_1 (by decide) ?_
  refine lv_aload_n hx hb dL_isCheated_2 rfl (lv_at hl 0 rfl) ?_
  refine lv_iload_n hx hb dL_isCheated_3 rfl (lv_at hl 1 rfl) ?_
  refine lv_iload_n hx hb dL_isCheated_4 rfl (lv_at hl 2 rfl) ?_
  refine q_rd (q_runV (rest := [.int 0, .ref ao]) hx hb hml hown hE (c_X5_isCheated l D cI cZ cL ad S x1 x2 hI hth) ck_X5_isCheated w_652 hP 0 rfl rfl hl.1 rfl ⟨Nat.le_of_ble_eq_true rfl, Nat.le_of_ble_eq_true rfl⟩ (Nat.le_of_ble_eq_true rfl) dL_isCheated_5 ⟨Nat.zero_le _, Nat.zero_le _⟩) ?_
  refine lv_if_eq (tgt := 15) hx hb dL_isCheated_8 (by decide) (fun c_1 => ?_) (fun c_1 => ?_)
  · rw [if_pos c_1]
    refine lv_lconst (v := 0) hx hb dL_isCheated_15 (by decide) ?_
    refine q_last hx hb hE hP hO hD hS dL_isCheated_16 (fun H locs hP hO hS => ?_)
    refine lv_goto (tgt := 24) hx hb dL_isCheated_17 (by decide) ?_
    refine lv_iconst (v := 0) hx hb dL_isCheated_24 (by decide) ?_
    refine W.widen (k := 1) (n := 6) (Nat.le_of_ble_eq_true rfl) (Nat.le_of_ble_eq_true rfl) ?_
    exact W.zret hx hb hr rfl (fun t ht hW => ⟨rfl, ⟨by rw [ht]; exact hP, by rw [ht]; exact hO⟩, hS.F ht⟩) hS.2.2 dL_isCheated_25 hlk
  · rw [if_neg c_1]
    refine lv_lconst (v := 1) hx hb dL_isCheated_11 (by decide) ?_
    refine lv_goto (tgt := 16) hx hb dL_isCheated_12 (by decide) ?_
    refine q_last hx hb hE hP hO hD hS dL_isCheated_16 (fun H locs hP hO hS => ?_)
    refine lv_goto (tgt := 24) hx hb dL_isCheated_17 (by decide) ?_
    refine lv_iconst (v := 0) hx hb dL_isCheated_24 (by decide) ?_
    refine W.widen (k := 1) (n := 6) (Nat.le_of_ble_eq_true rfl) (Nat.le_of_ble_eq_true rfl) ?_
    exact W.zret hx hb hr rfl (fun t ht hW => ⟨rfl, ⟨by rw [ht]; exact hP, by rw [ht]; exact hO⟩, hS.F ht⟩) hS.2.2 dL_isCheated_25 hlk
set_option maxHeartbeats 4000000 in
set_option maxRecDepth 100000 in
theorem h_isCheated_T0 (l : Launch) (hfl : l.flags = flags0) (D : va_G) (cI cZ cL : ClassId) (ad : Nat → Nat) (ao : Nat) (S : Mem) (f : Nat → Int64) (A : Nat → Prop) (x1 : Int32) (x2 : Int32) (hI : I0 S) (hth : (oCheat S x1 x2).1 = some "java/lang/IndexOutOfBoundsException") :
    HL l D cI cZ cL yL_isCheated cL_isCheated 5 [(0, 17, 20, 25)] 8 [.ref (ad 0), .int x1, .int x2, .ref ao] A ao (wC ad cI S) (wC ad cI S) f (f) 1 := by
  refine HL.of (by decide) (Nat.le_of_ble_eq_true rfl) ?_
  intro p e s m args below meth c ls hx hb hr hml hown hlk htb hE hT hZ hC hP hO hS hl
  have hl : lv_has ls 5 [(0, .ref (ad 0)), (1, .int x1), (2, .int x2), (3, .ref ao)] := hl
  refine lv_aload_n hx hb dL_isCheated_0 rfl (lv_at hl 3 rfl) ?_
  refine lv_iconst (v := 0) hx hb dL_isCheated_1 (by decide) ?_
  refine lv_aload_n hx hb dL_isCheated_2 rfl (lv_at hl 0 rfl) ?_
  refine lv_iload_n hx hb dL_isCheated_3 rfl (lv_at hl 1 rfl) ?_
  refine lv_iload_n hx hb dL_isCheated_4 rfl (lv_at hl 2 rfl) ?_
  refine q_thH (q_thV (rest := [.int 0, .ref ao]) hx hb hml hown hE hT hZ (c_X5_isCheated_T0 l hfl D cI cZ cL ad S x1 x2 hI hth) ck_X5_isCheated w_652 hP 0 rfl rfl hl.1 rfl ⟨Nat.le_of_ble_eq_true rfl, Nat.le_of_ble_eq_true rfl⟩ (Nat.le_of_ble_eq_true rfl) dL_isCheated_5 ⟨Nat.le_of_ble_eq_true rfl, Nat.le_of_ble_eq_true rfl⟩) hown [] _ _ htb (fun z hz => nomatch hz) (by decide +kernel) (by decide +kernel) (hE.1 _ w_431 args) (hE.1 _ w_442 args) (fun q H hS => ?_)
  refine W.eq (g2 := F0 m 20 ls [.ref q]) rfl ?_
  have hP := q_keep hS hP (fun _ _ h => h)
  have hO := q_keep hS hO (fun _ _ h => h)
  refine lv_astore (lv' := [(4, .ref q), (0, .ref (ad 0)), (1, .int x1), (2, .int x2), (3, .ref ao)]) hx hb dL_isCheated_20 hl (by decide) rfl (fun ls hl => ?_)
  refine lv_iconst (v := 1) hx hb dL_isCheated_22 (by decide) ?_
  exact W.zret hx hb hr rfl (fun t ht hW => ⟨rfl, ⟨by rw [ht]; exact hP, by rw [ht]; exact hO⟩, (q_Swk (fun _ h => h.elim) hS).F ht⟩) (fun _ h => nomatch h) dL_isCheated_23 hlk
theorem dL_isVoid_0 : decode cL_isVoid 0 = .ok (.aload_n 3, 1) := by decide +kernel
theorem dL_isVoid_1 : decode cL_isVoid 1 = .ok (.iconst 0, 1) := by decide +kernel
theorem dL_isVoid_2 : decode cL_isVoid 2 = .ok (.aload_n 0, 1) := by decide +kernel
theorem dL_isVoid_3 : decode cL_isVoid 3 = .ok (.iload_n 1, 1) := by decide +kernel
theorem dL_isVoid_4 : decode cL_isVoid 4 = .ok (.iload_n 2, 1) := by decide +kernel
theorem dL_isVoid_5 : decode cL_isVoid 5 = .ok (.invokevirtual 75, 3) := by decide +kernel
theorem dL_isVoid_8 : decode cL_isVoid 8 = .ok (.ifCond .eq 7, 3) := by decide +kernel
theorem dL_isVoid_11 : decode cL_isVoid 11 = .ok (.lconst 1, 1) := by decide +kernel
theorem dL_isVoid_12 : decode cL_isVoid 12 = .ok (.goto 4, 3) := by decide +kernel
theorem dL_isVoid_15 : decode cL_isVoid 15 = .ok (.lconst 0, 1) := by decide +kernel
theorem dL_isVoid_16 : decode cL_isVoid 16 = .ok (.lastore, 1) := by decide +kernel
theorem dL_isVoid_17 : decode cL_isVoid 17 = .ok (.goto 7, 3) := by decide +kernel
theorem dL_isVoid_20 : decode cL_isVoid 20 = .ok (.astore 4, 2) := by decide +kernel
theorem dL_isVoid_22 : decode cL_isVoid 22 = .ok (.iconst 1, 1) := by decide +kernel
theorem dL_isVoid_23 : decode cL_isVoid 23 = .ok (.ireturn, 1) := by decide +kernel
theorem dL_isVoid_24 : decode cL_isVoid 24 = .ok (.iconst 0, 1) := by decide +kernel
theorem dL_isVoid_25 : decode cL_isVoid 25 = .ok (.ireturn, 1) := by decide +kernel
set_option maxHeartbeats 4000000 in
set_option maxRecDepth 100000 in
theorem h_isVoid (l : Launch) (D : va_G) (cI cZ cL : ClassId) (ad : Nat → Nat) (ao : Nat) (S : Mem) (f : Nat → Int64) (A : Nat → Prop) (hD : va_D A (wO ao cL f ++ wC ad cI S)) (x1 : Int32) (x2 : Int32) (hI : I0 S) (hth : (oVoid S x1 x2).1 = none) :
    HL l D cI cZ cL yL_isVoid cL_isVoid 5 [(0, 17, 20, 25)] 8 [.ref (ad 0), .int x1, .int x2, .ref ao] A ao (wC ad cI S) (wC ad cI S) f (vp_updL f 0 (if (oVoid S x1 x2).2.1 = 0 then 0 else 1)) 0 := by
  refine HL.of (by decide) (Nat.le_of_ble_eq_true rfl) ?_
  intro p e s m args below meth c ls hx hb hr hml hown hlk htb hE hT hZ hC hP hO hS hl
  have hl : lv_has ls 5 [(0, .ref (ad 0)), (1, .int x1), (2, .int x2), (3, .ref ao)] := hl
  refine lv_aload_n hx hb dL_isVoid_0 rfl (lv_at hl 3 rfl) ?_
  refine lv_iconst (v := 0) hx hb dL_isVoid_1 (by decide) ?_
  refine lv_aload_n hx hb dL_isVoid_2 rfl (lv_at hl 0 rfl) ?_
  refine lv_iload_n hx hb dL_isVoid_3 rfl (lv_at hl 1 rfl) ?_
  refine lv_iload_n hx hb dL_isVoid_4 rfl (lv_at hl 2 rfl) ?_
  refine q_rd (q_runV (rest := [.int 0, .ref ao]) hx hb hml hown hE (c_X5_isVoid l D cI cZ cL ad S x1 x2 hI hth) ck_X5_isVoid w_659 hP 0 rfl rfl hl.1 rfl ⟨Nat.le_of_ble_eq_true rfl, Nat.le_of_ble_eq_true rfl⟩ (Nat.le_of_ble_eq_true rfl) dL_isVoid_5 ⟨Nat.zero_le _, Nat.zero_le _⟩) ?_
  refine lv_if_eq (tgt := 15) hx hb dL_isVoid_8 (by decide) (fun c_1 => ?_) (fun c_1 => ?_)
  · rw [if_pos c_1]
    refine lv_lconst (v := 0) hx hb dL_isVoid_15 (by decide) ?_
    refine q_last hx hb hE hP hO hD hS dL_isVoid_16 (fun H locs hP hO hS => ?_)
    refine lv_goto (tgt := 24) hx hb dL_isVoid_17 (by decide) ?_
    refine lv_iconst (v := 0) hx hb dL_isVoid_24 (by decide) ?_
    refine W.widen (k := 1) (n := 6) (Nat.le_of_ble_eq_true rfl) (Nat.le_of_ble_eq_true rfl) ?_
    exact W.zret hx hb hr rfl (fun t ht hW => ⟨rfl, ⟨by rw [ht]; exact hP, by rw [ht]; exact hO⟩, hS.F ht⟩) hS.2.2 dL_isVoid_25 hlk
  · rw [if_neg c_1]
    refine lv_lconst (v := 1) hx hb dL_isVoid_11 (by decide) ?_
    refine lv_goto (tgt := 16) hx hb dL_isVoid_12 (by decide) ?_
    refine q_last hx hb hE hP hO hD hS dL_isVoid_16 (fun H locs hP hO hS => ?_)
    refine lv_goto (tgt := 24) hx hb dL_isVoid_17 (by decide) ?_
    refine lv_iconst (v := 0) hx hb dL_isVoid_24 (by decide) ?_
    refine W.widen (k := 1) (n := 6) (Nat.le_of_ble_eq_true rfl) (Nat.le_of_ble_eq_true rfl) ?_
    exact W.zret hx hb hr rfl (fun t ht hW => ⟨rfl, ⟨by rw [ht]; exact hP, by rw [ht]; exact hO⟩, hS.F ht⟩) hS.2.2 dL_isVoid_25 hlk
set_option maxHeartbeats 4000000 in
set_option maxRecDepth 100000 in
theorem h_isVoid_T0 (l : Launch) (hfl : l.flags = flags0) (D : va_G) (cI cZ cL : ClassId) (ad : Nat → Nat) (ao : Nat) (S : Mem) (f : Nat → Int64) (A : Nat → Prop) (x1 : Int32) (x2 : Int32) (hI : I0 S) (hth : (oVoid S x1 x2).1 = some "java/lang/IndexOutOfBoundsException") :
    HL l D cI cZ cL yL_isVoid cL_isVoid 5 [(0, 17, 20, 25)] 8 [.ref (ad 0), .int x1, .int x2, .ref ao] A ao (wC ad cI S) (wC ad cI S) f (f) 1 := by
  refine HL.of (by decide) (Nat.le_of_ble_eq_true rfl) ?_
  intro p e s m args below meth c ls hx hb hr hml hown hlk htb hE hT hZ hC hP hO hS hl
  have hl : lv_has ls 5 [(0, .ref (ad 0)), (1, .int x1), (2, .int x2), (3, .ref ao)] := hl
  refine lv_aload_n hx hb dL_isVoid_0 rfl (lv_at hl 3 rfl) ?_
  refine lv_iconst (v := 0) hx hb dL_isVoid_1 (by decide) ?_
  refine lv_aload_n hx hb dL_isVoid_2 rfl (lv_at hl 0 rfl) ?_
  refine lv_iload_n hx hb dL_isVoid_3 rfl (lv_at hl 1 rfl) ?_
  refine lv_iload_n hx hb dL_isVoid_4 rfl (lv_at hl 2 rfl) ?_
  refine q_thH (q_thV (rest := [.int 0, .ref ao]) hx hb hml hown hE hT hZ (c_X5_isVoid_T0 l hfl D cI cZ cL ad S x1 x2 hI hth) ck_X5_isVoid w_659 hP 0 rfl rfl hl.1 rfl ⟨Nat.le_of_ble_eq_true rfl, Nat.le_of_ble_eq_true rfl⟩ (Nat.le_of_ble_eq_true rfl) dL_isVoid_5 ⟨Nat.le_of_ble_eq_true rfl, Nat.le_of_ble_eq_true rfl⟩) hown [] _ _ htb (fun z hz => nomatch hz) (by decide +kernel) (by decide +kernel) (hE.1 _ w_431 args) (hE.1 _ w_442 args) (fun q H hS => ?_)
  refine W.eq (g2 := F0 m 20 ls [.ref q]) rfl ?_
  have hP := q_keep hS hP (fun _ _ h => h)
  have hO := q_keep hS hO (fun _ _ h => h)
  refine lv_astore (lv' := [(4, .ref q), (0, .ref (ad 0)), (1, .int x1), (2, .int x2), (3, .ref ao)]) hx hb dL_isVoid_20 hl (by decide) rfl (fun ls hl => ?_)
  refine lv_iconst (v := 1) hx hb dL_isVoid_22 (by decide) ?_
  exact W.zret hx hb hr rfl (fun t ht hW => ⟨rfl, ⟨by rw [ht]; exact hP, by rw [ht]; exact hO⟩, (q_Swk (fun _ h => h.elim) hS).F ht⟩) (fun _ h => nomatch h) dL_isVoid_23 hlk
theorem dL_hanging_0 : decode cL_hanging 0 = .ok (.aload_n 2, 1) := by decide +kernel
theorem dL_hanging_1 : decode cL_hanging 1 = .ok (.iconst 0, 1) := by decide +kernel
theorem dL_hanging_2 : decode cL_hanging 2 = .ok (.aload_n 0, 1) := by decide +kernel
theorem dL_hanging_3 : decode cL_hanging 3 = .ok (.iload_n 1, 1) := by decide +kernel
theorem dL_hanging_4 : decode cL_hanging 4 = .ok (.invokevirtual 78, 3) := by decide +kernel
theorem dL_hanging_7 : decode cL_hanging 7 = .ok (.i2l, 1) := by decide +kernel
theorem dL_hanging_8 : decode cL_hanging 8 = .ok (.lastore, 1) := by decide +kernel
theorem dL_hanging_9 : decode cL_hanging 9 = .ok (.goto 6, 3) := by decide +kernel
theorem dL_hanging_12 : decode cL_hanging 12 = .ok (.astore_n 3, 1) := by decide +kernel
theorem dL_hanging_13 : decode cL_hanging 13 = .ok (.iconst 1, 1) := by decide +kernel
theorem dL_hanging_14 : decode cL_hanging 14 = .ok (.ireturn, 1) := by decide +kernel
theorem dL_hanging_15 : decode cL_hanging 15 = .ok (.iconst 0, 1) := by decide +kernel
theorem dL_hanging_16 : decode cL_hanging 16 = .ok (.ireturn, 1) := by decide +kernel
set_option maxHeartbeats 4000000 in
set_option maxRecDepth 100000 in
theorem h_hanging (l : Launch) (D : va_G) (cI cZ cL : ClassId) (ad : Nat → Nat) (ao : Nat) (S : Mem) (f : Nat → Int64) (A : Nat → Prop) (hD : va_D A (wO ao cL f ++ wC ad cI S)) (x1 : Int32) (hI : I0 S) (hth : (oHang S x1).1 = none) :
    HL l D cI cZ cL yL_hanging cL_hanging 4 [(0, 9, 12, 25)] 8 [.ref (ad 0), .int x1, .ref ao] A ao (wC ad cI S) (wC ad cI S) f (vp_updL f 0 ((oHang S x1).2.1).toInt64) 0 := by
  refine HL.of (by decide) (Nat.le_of_ble_eq_true rfl) ?_
  intro p e s m args below meth c ls hx hb hr hml hown hlk htb hE hT hZ hC hP hO hS hl
  have hl : lv_has ls 4 [(0, .ref (ad 0)), (1, .int x1), (2, .ref ao)] := hl
  refine lv_aload_n hx hb dL_hanging_0 rfl (lv_at hl 2 rfl) ?_
  refine lv_iconst (v := 0) hx hb dL_hanging_1 (by decide) ?_
  refine lv_aload_n hx hb dL_hanging_2 rfl (lv_at hl 0 rfl) ?_
  refine lv_iload_n hx hb dL_hanging_3 rfl (lv_at hl 1 rfl) ?_
  refine q_rd (q_runV (rest := [.int 0, .ref ao]) hx hb hml hown hE (c_X5_hanging l D cI cZ cL ad S x1 hI hth) ck_X5_hanging w_666 hP 0 rfl rfl hl.1 rfl ⟨Nat.le_of_ble_eq_true rfl, Nat.le_of_ble_eq_true rfl⟩ (Nat.le_of_ble_eq_true rfl) dL_hanging_4 ⟨Nat.zero_le _, Nat.zero_le _⟩) ?_
  refine lv_i2l (v := ((oHang S x1).2.1).toInt64) hx hb dL_hanging_7 rfl ?_
  refine q_last hx hb hE hP hO hD hS dL_hanging_8 (fun H locs hP hO hS => ?_)
  refine lv_goto (tgt := 15) hx hb dL_hanging_9 (by decide) ?_
  refine lv_iconst (v := 0) hx hb dL_hanging_15 (by decide) ?_
  refine W.widen (k := 1) (n := 6) (Nat.le_of_ble_eq_true rfl) (Nat.le_of_ble_eq_true rfl) ?_
  exact W.zret hx hb hr rfl (fun t ht hW => ⟨rfl, ⟨by rw [ht]; exact hP, by rw [ht]; exact hO⟩, hS.F ht⟩) hS.2.2 dL_hanging_16 hlk
set_option maxHeartbeats 4000000 in
set_option maxRecDepth 100000 in
theorem h_hanging_T0 (l : Launch) (hfl : l.flags = flags0) (D : va_G) (cI cZ cL : ClassId) (ad : Nat → Nat) (ao : Nat) (S : Mem) (f : Nat → Int64) (A : Nat → Prop) (x1 : Int32) (hI : I0 S) (hth : (oHang S x1).1 = some "java/lang/IndexOutOfBoundsException") :
    HL l D cI cZ cL yL_hanging cL_hanging 4 [(0, 9, 12, 25)] 8 [.ref (ad 0), .int x1, .ref ao] A ao (wC ad cI S) (wC ad cI S) f (f) 1 := by
  refine HL.of (by decide) (Nat.le_of_ble_eq_true rfl) ?_
  intro p e s m args below meth c ls hx hb hr hml hown hlk htb hE hT hZ hC hP hO hS hl
  have hl : lv_has ls 4 [(0, .ref (ad 0)), (1, .int x1), (2, .ref ao)] := hl
  refine lv_aload_n hx hb dL_hanging_0 rfl (lv_at hl 2 rfl) ?_
  refine lv_iconst (v := 0) hx hb dL_hanging_1 (by decide) ?_
  refine lv_aload_n hx hb dL_hanging_2 rfl (lv_at hl 0 rfl) ?_
  refine lv_iload_n hx hb dL_hanging_3 rfl (lv_at hl 1 rfl) ?_
  refine q_thH (q_thV (rest := [.int 0, .ref ao]) hx hb hml hown hE hT hZ (c_X5_hanging_T0 l hfl D cI cZ cL ad S x1 hI hth) ck_X5_hanging w_666 hP 0 rfl rfl hl.1 rfl ⟨Nat.le_of_ble_eq_true rfl, Nat.le_of_ble_eq_true rfl⟩ (Nat.le_of_ble_eq_true rfl) dL_hanging_4 ⟨Nat.le_of_ble_eq_true rfl, Nat.le_of_ble_eq_true rfl⟩) hown [] _ _ htb (fun z hz => nomatch hz) (by decide +kernel) (by decide +kernel) (hE.1 _ w_431 args) (hE.1 _ w_442 args) (fun q H hS => ?_)
  refine W.eq (g2 := F0 m 12 ls [.ref q]) rfl ?_
  have hP := q_keep hS hP (fun _ _ h => h)
  have hO := q_keep hS hO (fun _ _ h => h)
  refine lv_astore_n (lv' := [(3, .ref q), (0, .ref (ad 0)), (1, .int x1), (2, .ref ao)]) hx hb dL_hanging_12 rfl hl (by decide) rfl (fun ls hl => ?_)
  refine lv_iconst (v := 1) hx hb dL_hanging_13 (by decide) ?_
  exact W.zret hx hb hr rfl (fun t ht hW => ⟨rfl, ⟨by rw [ht]; exact hP, by rw [ht]; exact hO⟩, (q_Swk (fun _ h => h.elim) hS).F ht⟩) (fun _ h => nomatch h) dL_hanging_14 hlk
theorem dL_score_0 : decode cL_score 0 = .ok (.aload_n 2, 1) := by decide +kernel
theorem dL_score_1 : decode cL_score 1 = .ok (.iconst 0, 1) := by decide +kernel
theorem dL_score_2 : decode cL_score 2 = .ok (.aload_n 0, 1) := by decide +kernel
theorem dL_score_3 : decode cL_score 3 = .ok (.iload_n 1, 1) := by decide +kernel
theorem dL_score_4 : decode cL_score 4 = .ok (.invokevirtual 81, 3) := by decide +kernel
theorem dL_score_7 : decode cL_score 7 = .ok (.i2l, 1) := by decide +kernel
theorem dL_score_8 : decode cL_score 8 = .ok (.lastore, 1) := by decide +kernel
theorem dL_score_9 : decode cL_score 9 = .ok (.goto 6, 3) := by decide +kernel
theorem dL_score_12 : decode cL_score 12 = .ok (.astore_n 3, 1) := by decide +kernel
theorem dL_score_13 : decode cL_score 13 = .ok (.iconst 1, 1) := by decide +kernel
theorem dL_score_14 : decode cL_score 14 = .ok (.ireturn, 1) := by decide +kernel
theorem dL_score_15 : decode cL_score 15 = .ok (.iconst 0, 1) := by decide +kernel
theorem dL_score_16 : decode cL_score 16 = .ok (.ireturn, 1) := by decide +kernel
set_option maxHeartbeats 4000000 in
set_option maxRecDepth 100000 in
theorem h_score (l : Launch) (D : va_G) (cI cZ cL : ClassId) (ad : Nat → Nat) (ao : Nat) (S : Mem) (f : Nat → Int64) (A : Nat → Prop) (hD : va_D A (wO ao cL f ++ wC ad cI S)) (x1 : Int32) (hI : I0 S) (hth : (oScore S x1).1 = none) :
    HL l D cI cZ cL yL_score cL_score 4 [(0, 9, 12, 25)] 8 [.ref (ad 0), .int x1, .ref ao] A ao (wC ad cI S) (wC ad cI S) f (vp_updL f 0 ((oScore S x1).2.1).toInt64) 0 := by
  refine HL.of (by decide) (Nat.le_of_ble_eq_true rfl) ?_
  intro p e s m args below meth c ls hx hb hr hml hown hlk htb hE hT hZ hC hP hO hS hl
  have hl : lv_has ls 4 [(0, .ref (ad 0)), (1, .int x1), (2, .ref ao)] := hl
  refine lv_aload_n hx hb dL_score_0 rfl (lv_at hl 2 rfl) ?_
  refine lv_iconst (v := 0) hx hb dL_score_1 (by decide) ?_
  refine lv_aload_n hx hb dL_score_2 rfl (lv_at hl 0 rfl) ?_
  refine lv_iload_n hx hb dL_score_3 rfl (lv_at hl 1 rfl) ?_
  refine q_rd (q_runV (rest := [.int 0, .ref ao]) hx hb hml hown hE (c_X5_score l D cI cZ cL ad S x1 hI hth) ck_X5_score w_678 hP 0 rfl rfl hl.1 rfl ⟨Nat.le_of_ble_eq_true rfl, Nat.le_of_ble_eq_true rfl⟩ (Nat.le_of_ble_eq_true rfl) dL_score_4 ⟨Nat.zero_le _, Nat.zero_le _⟩) ?_
  refine lv_i2l (v := ((oScore S x1).2.1).toInt64) hx hb dL_score_7 rfl ?_
  refine q_last hx hb hE hP hO hD hS dL_score_8 (fun H locs hP hO hS => ?_)
  refine lv_goto (tgt := 15) hx hb dL_score_9 (by decide) ?_
  refine lv_iconst (v := 0) hx hb dL_score_15 (by decide) ?_
  refine W.widen (k := 1) (n := 6) (Nat.le_of_ble_eq_true rfl) (Nat.le_of_ble_eq_true rfl) ?_
  exact W.zret hx hb hr rfl (fun t ht hW => ⟨rfl, ⟨by rw [ht]; exact hP, by rw [ht]; exact hO⟩, hS.F ht⟩) hS.2.2 dL_score_16 hlk
set_option maxHeartbeats 4000000 in
set_option maxRecDepth 100000 in
theorem h_score_T0 (l : Launch) (hfl : l.flags = flags0) (D : va_G) (cI cZ cL : ClassId) (ad : Nat → Nat) (ao : Nat) (S : Mem) (f : Nat → Int64) (A : Nat → Prop) (x1 : Int32) (hI : I0 S) (hth : (oScore S x1).1 = some "java/lang/IndexOutOfBoundsException") :
    HL l D cI cZ cL yL_score cL_score 4 [(0, 9, 12, 25)] 8 [.ref (ad 0), .int x1, .ref ao] A ao (wC ad cI S) (wC ad cI S) f (f) 1 := by
  refine HL.of (by decide) (Nat.le_of_ble_eq_true rfl) ?_
  intro p e s m args below meth c ls hx hb hr hml hown hlk htb hE hT hZ hC hP hO hS hl
  have hl : lv_has ls 4 [(0, .ref (ad 0)), (1, .int x1), (2, .ref ao)] := hl
  refine lv_aload_n hx hb dL_score_0 rfl (lv_at hl 2 rfl) ?_
  refine lv_iconst (v := 0) hx hb dL_score_1 (by decide) ?_
  refine lv_aload_n hx hb dL_score_2 rfl (lv_at hl 0 rfl) ?_
  refine lv_iload_n hx hb dL_score_3 rfl (lv_at hl 1 rfl) ?_
  refine q_thH (q_thV (rest := [.int 0, .ref ao]) hx hb hml hown hE hT hZ (c_X5_score_T0 l hfl D cI cZ cL ad S x1 hI hth) ck_X5_score w_678 hP 0 rfl rfl hl.1 rfl ⟨Nat.le_of_ble_eq_true rfl, Nat.le_of_ble_eq_true rfl⟩ (Nat.le_of_ble_eq_true rfl) dL_score_4 ⟨Nat.le_of_ble_eq_true rfl, Nat.le_of_ble_eq_true rfl⟩) hown [] _ _ htb (fun z hz => nomatch hz) (by decide +kernel) (by decide +kernel) (hE.1 _ w_431 args) (hE.1 _ w_442 args) (fun q H hS => ?_)
  refine W.eq (g2 := F0 m 12 ls [.ref q]) rfl ?_
  have hP := q_keep hS hP (fun _ _ h => h)
  have hO := q_keep hS hO (fun _ _ h => h)
  refine lv_astore_n (lv' := [(3, .ref q), (0, .ref (ad 0)), (1, .int x1), (2, .ref ao)]) hx hb dL_score_12 rfl hl (by decide) rfl (fun ls hl => ?_)
  refine lv_iconst (v := 1) hx hb dL_score_13 (by decide) ?_
  exact W.zret hx hb hr rfl (fun t ht hW => ⟨rfl, ⟨by rw [ht]; exact hP, by rw [ht]; exact hO⟩, (q_Swk (fun _ h => h.elim) hS).F ht⟩) (fun _ h => nomatch h) dL_score_14 hlk
theorem dL_scoreAnew_0 : decode cL_scoreAnew 0 = .ok (.aload_n 2, 1) := by decide +kernel
theorem dL_scoreAnew_1 : decode cL_scoreAnew 1 = .ok (.iconst 0, 1) := by decide +kernel
theorem dL_scoreAnew_2 : decode cL_scoreAnew 2 = .ok (.aload_n 0, 1) := by decide +kernel
theorem dL_scoreAnew_3 : decode cL_scoreAnew 3 = .ok (.iload_n 1, 1) := by decide +kernel
theorem dL_scoreAnew_4 : decode cL_scoreAnew 4 = .ok (.invokevirtual 84, 3) := by decide +kernel
theorem dL_scoreAnew_7 : decode cL_scoreAnew 7 = .ok (.i2l, 1) := by decide +kernel
theorem dL_scoreAnew_8 : decode cL_scoreAnew 8 = .ok (.lastore, 1) := by decide +kernel
theorem dL_scoreAnew_9 : decode cL_scoreAnew 9 = .ok (.goto 6, 3) := by decide +kernel
theorem dL_scoreAnew_12 : decode cL_scoreAnew 12 = .ok (.astore_n 3, 1) := by decide +kernel
theorem dL_scoreAnew_13 : decode cL_scoreAnew 13 = .ok (.iconst 1, 1) := by decide +kernel
theorem dL_scoreAnew_14 : decode cL_scoreAnew 14 = .ok (.ireturn, 1) := by decide +kernel
theorem dL_scoreAnew_15 : decode cL_scoreAnew 15 = .ok (.iconst 0, 1) := by decide +kernel
theorem dL_scoreAnew_16 : decode cL_scoreAnew 16 = .ok (.ireturn, 1) := by decide +kernel
set_option maxHeartbeats 4000000 in
set_option maxRecDepth 100000 in
theorem h_scoreAnew (l : Launch) (D : va_G) (cI cZ cL : ClassId) (ad : Nat → Nat) (ao : Nat) (S : Mem) (f : Nat → Int64) (A : Nat → Prop) (hD : va_D A (wO ao cL f ++ wC ad cI S)) (x1 : Int32) (hI : I0 S) (hth : (oAnew S x1).1 = none) :
    HL l D cI cZ cL yL_scoreAnew cL_scoreAnew 4 [(0, 9, 12, 25)] 8 [.ref (ad 0), .int x1, .ref ao] A ao (wC ad cI S) (wC ad cI ((oAnew S x1).2.2)) f (vp_updL f 0 ((oAnew S x1).2.1).toInt64) 0 := by
  refine HL.of (by decide) (Nat.le_of_ble_eq_true rfl) ?_
  intro p e s m args below meth c ls hx hb hr hml hown hlk htb hE hT hZ hC hP hO hS hl
  have hl : lv_has ls 4 [(0, .ref (ad 0)), (1, .int x1), (2, .ref ao)] := hl
  refine lv_aload_n hx hb dL_scoreAnew_0 rfl (lv_at hl 2 rfl) ?_
  refine lv_iconst (v := 0) hx hb dL_scoreAnew_1 (by decide) ?_
  refine lv_aload_n hx hb dL_scoreAnew_2 rfl (lv_at hl 0 rfl) ?_
  refine lv_iload_n hx hb dL_scoreAnew_3 rfl (lv_at hl 1 rfl) ?_
  refine q_wr (q_runV (rest := [.int 0, .ref ao]) hx hb hml hown hE (c_X5_scoreAnew l D cI cZ cL ad S (aW (wC ad cI S)) (aW_D (q_Dtl hD)) x1 hI hth) ck_X5_scoreAnew w_685 hP 0 rfl rfl hl.1 rfl ⟨Nat.le_of_ble_eq_true rfl, Nat.le_of_ble_eq_true rfl⟩ (Nat.le_of_ble_eq_true rfl) dL_scoreAnew_4 ⟨Nat.zero_le _, Nat.zero_le _⟩) (va_S.rf (A := aW (wC ad cI S)) (H0 := s.heap)) (fun H locs hP hS => ?_)
  have hO := q_keep hS hO (q_Dno hD)
  have hS := q_Swk (q_Dsub hD) hS
  have hD : va_D A (wO ao cL f ++ wC ad cI ((oAnew S x1).2.2)) := q_D (ws := wO ao cL f ++ wC ad cI S) rfl hD
  refine lv_i2l (v := ((oAnew S x1).2.1).toInt64) hx hb dL_scoreAnew_7 rfl ?_
  refine q_last hx hb hE hP hO hD hS dL_scoreAnew_8 (fun H locs hP hO hS => ?_)
  refine lv_goto (tgt := 15) hx hb dL_scoreAnew_9 (by decide) ?_
  refine lv_iconst (v := 0) hx hb dL_scoreAnew_15 (by decide) ?_
  refine W.widen (k := 1) (n := 6) (Nat.le_of_ble_eq_true rfl) (Nat.le_of_ble_eq_true rfl) ?_
  exact W.zret hx hb hr rfl (fun t ht hW => ⟨rfl, ⟨by rw [ht]; exact hP, by rw [ht]; exact hO⟩, hS.F ht⟩) hS.2.2 dL_scoreAnew_16 hlk
set_option maxHeartbeats 4000000 in
set_option maxRecDepth 100000 in
theorem h_scoreAnew_T0 (l : Launch) (hfl : l.flags = flags0) (D : va_G) (cI cZ cL : ClassId) (ad : Nat → Nat) (ao : Nat) (S : Mem) (f : Nat → Int64) (A : Nat → Prop) (x1 : Int32) (hI : I0 S) (hth : (oAnew S x1).1 = some "java/lang/IndexOutOfBoundsException") :
    HL l D cI cZ cL yL_scoreAnew cL_scoreAnew 4 [(0, 9, 12, 25)] 8 [.ref (ad 0), .int x1, .ref ao] A ao (wC ad cI S) (wC ad cI S) f (f) 1 := by
  refine HL.of (by decide) (Nat.le_of_ble_eq_true rfl) ?_
  intro p e s m args below meth c ls hx hb hr hml hown hlk htb hE hT hZ hC hP hO hS hl
  have hl : lv_has ls 4 [(0, .ref (ad 0)), (1, .int x1), (2, .ref ao)] := hl
  refine lv_aload_n hx hb dL_scoreAnew_0 rfl (lv_at hl 2 rfl) ?_
  refine lv_iconst (v := 0) hx hb dL_scoreAnew_1 (by decide) ?_
  refine lv_aload_n hx hb dL_scoreAnew_2 rfl (lv_at hl 0 rfl) ?_
  refine lv_iload_n hx hb dL_scoreAnew_3 rfl (lv_at hl 1 rfl) ?_
  refine q_thH (q_thV (rest := [.int 0, .ref ao]) hx hb hml hown hE hT hZ (c_X5_scoreAnew_T0 l hfl D cI cZ cL ad S x1 hI hth) ck_X5_scoreAnew w_685 hP 0 rfl rfl hl.1 rfl ⟨Nat.le_of_ble_eq_true rfl, Nat.le_of_ble_eq_true rfl⟩ (Nat.le_of_ble_eq_true rfl) dL_scoreAnew_4 ⟨Nat.le_of_ble_eq_true rfl, Nat.le_of_ble_eq_true rfl⟩) hown [] _ _ htb (fun z hz => nomatch hz) (by decide +kernel) (by decide +kernel) (hE.1 _ w_431 args) (hE.1 _ w_442 args) (fun q H hS => ?_)
  refine W.eq (g2 := F0 m 12 ls [.ref q]) rfl ?_
  have hP := q_keep hS hP (fun _ _ h => h)
  have hO := q_keep hS hO (fun _ _ h => h)
  refine lv_astore_n (lv' := [(3, .ref q), (0, .ref (ad 0)), (1, .int x1), (2, .ref ao)]) hx hb dL_scoreAnew_12 rfl hl (by decide) rfl (fun ls hl => ?_)
  refine lv_iconst (v := 1) hx hb dL_scoreAnew_13 (by decide) ?_
  exact W.zret hx hb hr rfl (fun t ht hW => ⟨rfl, ⟨by rw [ht]; exact hP, by rw [ht]; exact hO⟩, (q_Swk (fun _ h => h.elim) hS).F ht⟩) (fun _ h => nomatch h) dL_scoreAnew_14 hlk
theorem dL_place_0 : decode cL_place 0 = .ok (.aload_n 2, 1) := by decide +kernel
theorem dL_place_1 : decode cL_place 1 = .ok (.iconst 0, 1) := by decide +kernel
theorem dL_place_2 : decode cL_place 2 = .ok (.aload_n 0, 1) := by decide +kernel
theorem dL_place_3 : decode cL_place 3 = .ok (.iload_n 1, 1) := by decide +kernel
theorem dL_place_4 : decode cL_place 4 = .ok (.invokevirtual 87, 3) := by decide +kernel
theorem dL_place_7 : decode cL_place 7 = .ok (.i2l, 1) := by decide +kernel
theorem dL_place_8 : decode cL_place 8 = .ok (.lastore, 1) := by decide +kernel
theorem dL_place_9 : decode cL_place 9 = .ok (.goto 6, 3) := by decide +kernel
theorem dL_place_12 : decode cL_place 12 = .ok (.astore_n 3, 1) := by decide +kernel
theorem dL_place_13 : decode cL_place 13 = .ok (.iconst 1, 1) := by decide +kernel
theorem dL_place_14 : decode cL_place 14 = .ok (.ireturn, 1) := by decide +kernel
theorem dL_place_15 : decode cL_place 15 = .ok (.iconst 0, 1) := by decide +kernel
theorem dL_place_16 : decode cL_place 16 = .ok (.ireturn, 1) := by decide +kernel
set_option maxHeartbeats 4000000 in
set_option maxRecDepth 100000 in
theorem h_place (l : Launch) (D : va_G) (cI cZ cL : ClassId) (ad : Nat → Nat) (ao : Nat) (S : Mem) (f : Nat → Int64) (A : Nat → Prop) (hD : va_D A (wO ao cL f ++ wC ad cI S)) (x1 : Int32) (hI : I0 S) (hth : (oPlace S x1).1 = none) :
    HL l D cI cZ cL yL_place cL_place 4 [(0, 9, 12, 25)] 8 [.ref (ad 0), .int x1, .ref ao] A ao (wC ad cI S) (wC ad cI ((oPlace S x1).2.2)) f (vp_updL f 0 ((oPlace S x1).2.1).toInt64) 0 := by
  refine HL.of (by decide) (Nat.le_of_ble_eq_true rfl) ?_
  intro p e s m args below meth c ls hx hb hr hml hown hlk htb hE hT hZ hC hP hO hS hl
  have hl : lv_has ls 4 [(0, .ref (ad 0)), (1, .int x1), (2, .ref ao)] := hl
  refine lv_aload_n hx hb dL_place_0 rfl (lv_at hl 2 rfl) ?_
  refine lv_iconst (v := 0) hx hb dL_place_1 (by decide) ?_
  refine lv_aload_n hx hb dL_place_2 rfl (lv_at hl 0 rfl) ?_
  refine lv_iload_n hx hb dL_place_3 rfl (lv_at hl 1 rfl) ?_
  refine q_wr (q_runV (rest := [.int 0, .ref ao]) hx hb hml hown hE (c_X5_place l D cI cZ cL ad S (aW (wC ad cI S)) (aW_D (q_Dtl hD)) x1 hI hth) ck_X5_place w_729 hP 0 rfl rfl hl.1 rfl ⟨Nat.le_of_ble_eq_true rfl, Nat.le_of_ble_eq_true rfl⟩ (Nat.le_of_ble_eq_true rfl) dL_place_4 ⟨Nat.zero_le _, Nat.zero_le _⟩) (va_S.rf (A := aW (wC ad cI S)) (H0 := s.heap)) (fun H locs hP hS => ?_)
  have hO := q_keep hS hO (q_Dno hD)
  have hS := q_Swk (q_Dsub hD) hS
  have hD : va_D A (wO ao cL f ++ wC ad cI ((oPlace S x1).2.2)) := q_D (ws := wO ao cL f ++ wC ad cI S) rfl hD
  refine lv_i2l (v := ((oPlace S x1).2.1).toInt64) hx hb dL_place_7 rfl ?_
  refine q_last hx hb hE hP hO hD hS dL_place_8 (fun H locs hP hO hS => ?_)
  refine lv_goto (tgt := 15) hx hb dL_place_9 (by decide) ?_
  refine lv_iconst (v := 0) hx hb dL_place_15 (by decide) ?_
  refine W.widen (k := 1) (n := 6) (Nat.le_of_ble_eq_true rfl) (Nat.le_of_ble_eq_true rfl) ?_
  exact W.zret hx hb hr rfl (fun t ht hW => ⟨rfl, ⟨by rw [ht]; exact hP, by rw [ht]; exact hO⟩, hS.F ht⟩) hS.2.2 dL_place_16 hlk
set_option maxHeartbeats 4000000 in
set_option maxRecDepth 100000 in
theorem h_place_T0 (l : Launch) (hfl : l.flags = flags0) (D : va_G) (cI cZ cL : ClassId) (ad : Nat → Nat) (ao : Nat) (S : Mem) (f : Nat → Int64) (A : Nat → Prop) (x1 : Int32) (hI : I0 S) (hth : (oPlace S x1).1 = some "java/lang/IndexOutOfBoundsException") :
    HL l D cI cZ cL yL_place cL_place 4 [(0, 9, 12, 25)] 8 [.ref (ad 0), .int x1, .ref ao] A ao (wC ad cI S) (wC ad cI S) f (f) 1 := by
  refine HL.of (by decide) (Nat.le_of_ble_eq_true rfl) ?_
  intro p e s m args below meth c ls hx hb hr hml hown hlk htb hE hT hZ hC hP hO hS hl
  have hl : lv_has ls 4 [(0, .ref (ad 0)), (1, .int x1), (2, .ref ao)] := hl
  refine lv_aload_n hx hb dL_place_0 rfl (lv_at hl 2 rfl) ?_
  refine lv_iconst (v := 0) hx hb dL_place_1 (by decide) ?_
  refine lv_aload_n hx hb dL_place_2 rfl (lv_at hl 0 rfl) ?_
  refine lv_iload_n hx hb dL_place_3 rfl (lv_at hl 1 rfl) ?_
  refine q_thH (q_thV (rest := [.int 0, .ref ao]) hx hb hml hown hE hT hZ (c_X5_place_T0 l hfl D cI cZ cL ad S x1 hI hth) ck_X5_place w_729 hP 0 rfl rfl hl.1 rfl ⟨Nat.le_of_ble_eq_true rfl, Nat.le_of_ble_eq_true rfl⟩ (Nat.le_of_ble_eq_true rfl) dL_place_4 ⟨Nat.le_of_ble_eq_true rfl, Nat.le_of_ble_eq_true rfl⟩) hown [] _ _ htb (fun z hz => nomatch hz) (by decide +kernel) (by decide +kernel) (hE.1 _ w_431 args) (hE.1 _ w_442 args) (fun q H hS => ?_)
  refine W.eq (g2 := F0 m 12 ls [.ref q]) rfl ?_
  have hP := q_keep hS hP (fun _ _ h => h)
  have hO := q_keep hS hO (fun _ _ h => h)
  refine lv_astore_n (lv' := [(3, .ref q), (0, .ref (ad 0)), (1, .int x1), (2, .ref ao)]) hx hb dL_place_12 rfl hl (by decide) rfl (fun ls hl => ?_)
  refine lv_iconst (v := 1) hx hb dL_place_13 (by decide) ?_
  exact W.zret hx hb hr rfl (fun t ht hW => ⟨rfl, ⟨by rw [ht]; exact hP, by rw [ht]; exact hO⟩, (q_Swk (fun _ h => h.elim) hS).F ht⟩) (fun _ h => nomatch h) dL_place_14 hlk
theorem dL_setPrize_0 : decode cL_setPrize 0 = .ok (.aload_n 3, 1) := by decide +kernel
theorem dL_setPrize_1 : decode cL_setPrize 1 = .ok (.iconst 0, 1) := by decide +kernel
theorem dL_setPrize_2 : decode cL_setPrize 2 = .ok (.aload_n 0, 1) := by decide +kernel
theorem dL_setPrize_3 : decode cL_setPrize 3 = .ok (.iload_n 1, 1) := by decide +kernel
theorem dL_setPrize_4 : decode cL_setPrize 4 = .ok (.iload_n 2, 1) := by decide +kernel
theorem dL_setPrize_5 : decode cL_setPrize 5 = .ok (.invokevirtual 90, 3) := by decide +kernel
theorem dL_setPrize_8 : decode cL_setPrize 8 = .ok (.i2l, 1) := by decide +kernel
theorem dL_setPrize_9 : decode cL_setPrize 9 = .ok (.lastore, 1) := by decide +kernel
theorem dL_setPrize_10 : decode cL_setPrize 10 = .ok (.goto 7, 3) := by decide +kernel
theorem dL_setPrize_13 : decode cL_setPrize 13 = .ok (.astore 4, 2) := by decide +kernel
theorem dL_setPrize_15 : decode cL_setPrize 15 = .ok (.iconst 1, 1) := by decide +kernel
theorem dL_setPrize_16 : decode cL_setPrize 16 = .ok (.ireturn, 1) := by decide +kernel
theorem dL_setPrize_17 : decode cL_setPrize 17 = .ok (.iconst 0, 1) := by decide +kernel
theorem dL_setPrize_18 : decode cL_setPrize 18 = .ok (.ireturn, 1) := by decide +kernel
set_option maxHeartbeats 4000000 in
set_option maxRecDepth 100000 in
theorem h_setPrize (l : Launch) (D : va_G) (cI cZ cL : ClassId) (ad : Nat → Nat) (ao : Nat) (S : Mem) (f : Nat → Int64) (A : Nat → Prop) (hD : va_D A (wO ao cL f ++ wC ad cI S)) (x1 : Int32) (x2 : Int32) (hI : I0 S) (hth : (oSetP S x1 x2).1 = none) :
    HL l D cI cZ cL yL_setPrize cL_setPrize 5 [(0, 10, 13, 13)] 8 [.ref (ad 0), .int x1, .int x2, .ref ao] A ao (wC ad cI S) (wC ad cI ((oSetP S x1 x2).2.2)) f (vp_updL f 0 ((oSetP S x1 x2).2.1).toInt64) 0 := by
  refine HL.of (by decide) (Nat.le_of_ble_eq_true rfl) ?_
  intro p e s m args below meth c ls hx hb hr hml hown hlk htb hE hT hZ hC hP hO hS hl
  have hl : lv_has ls 5 [(0, .ref (ad 0)), (1, .int x1), (2, .int x2), (3, .ref ao)] := hl
  refine lv_aload_n hx hb dL_setPrize_0 rfl (lv_at hl 3 rfl) ?_
  refine lv_iconst (v := 0) hx hb dL_setPrize_1 (by decide) ?_
  refine lv_aload_n hx hb dL_setPrize_2 rfl (lv_at hl 0 rfl) ?_
  refine lv_iload_n hx hb dL_setPrize_3 rfl (lv_at hl 1 rfl) ?_
  refine lv_iload_n hx hb dL_setPrize_4 rfl (lv_at hl 2 rfl) ?_
  refine q_wr (q_runV (rest := [.int 0, .ref ao]) hx hb hml hown hE (c_X5_setPrize l D cI cZ cL ad S (aW (wC ad cI S)) (aW_D (q_Dtl hD)) x1 x2 hI hth) ck_X5_setPrize w_736 hP 0 rfl rfl hl.1 rfl ⟨Nat.le_of_ble_eq_true rfl, Nat.le_of_ble_eq_true rfl⟩ (Nat.le_of_ble_eq_true rfl) dL_setPrize_5 ⟨Nat.zero_le _, Nat.zero_le _⟩) (va_S.rf (A := aW (wC ad cI S)) (H0 := s.heap)) (fun H locs hP hS => ?_)
  have hO := q_keep hS hO (q_Dno hD)
  have hS := q_Swk (q_Dsub hD) hS
  have hD : va_D A (wO ao cL f ++ wC ad cI ((oSetP S x1 x2).2.2)) := q_D (ws := wO ao cL f ++ wC ad cI S) rfl hD
  refine lv_i2l (v := ((oSetP S x1 x2).2.1).toInt64) hx hb dL_setPrize_8 rfl ?_
  refine q_last hx hb hE hP hO hD hS dL_setPrize_9 (fun H locs hP hO hS => ?_)
  refine lv_goto (tgt := 17) hx hb dL_setPrize_10 (by decide) ?_
  refine lv_iconst (v := 0) hx hb dL_setPrize_17 (by decide) ?_
  refine W.widen (k := 1) (n := 6) (Nat.le_of_ble_eq_true rfl) (Nat.le_of_ble_eq_true rfl) ?_
  exact W.zret hx hb hr rfl (fun t ht hW => ⟨rfl, ⟨by rw [ht]; exact hP, by rw [ht]; exact hO⟩, hS.F ht⟩) hS.2.2 dL_setPrize_18 hlk
set_option maxHeartbeats 4000000 in
set_option maxRecDepth 100000 in
theorem h_setPrize_T0 (l : Launch) (hfl : l.flags = flags0) (D : va_G) (cI cZ cL : ClassId) (ad : Nat → Nat) (ao : Nat) (S : Mem) (f : Nat → Int64) (A : Nat → Prop) (x1 : Int32) (x2 : Int32) (hI : I0 S) (hth : (oSetP S x1 x2).1 = some "java/lang/IllegalArgumentException") :
    HL l D cI cZ cL yL_setPrize cL_setPrize 5 [(0, 10, 13, 13)] 8 [.ref (ad 0), .int x1, .int x2, .ref ao] A ao (wC ad cI S) (wC ad cI S) f (f) 1 := by
  refine HL.of (by decide) (Nat.le_of_ble_eq_true rfl) ?_
  intro p e s m args below meth c ls hx hb hr hml hown hlk htb hE hT hZ hC hP hO hS hl
  have hl : lv_has ls 5 [(0, .ref (ad 0)), (1, .int x1), (2, .int x2), (3, .ref ao)] := hl
  refine lv_aload_n hx hb dL_setPrize_0 rfl (lv_at hl 3 rfl) ?_
  refine lv_iconst (v := 0) hx hb dL_setPrize_1 (by decide) ?_
  refine lv_aload_n hx hb dL_setPrize_2 rfl (lv_at hl 0 rfl) ?_
  refine lv_iload_n hx hb dL_setPrize_3 rfl (lv_at hl 1 rfl) ?_
  refine lv_iload_n hx hb dL_setPrize_4 rfl (lv_at hl 2 rfl) ?_
  refine q_thH (q_thV (rest := [.int 0, .ref ao]) hx hb hml hown hE hT hZ (c_X5_setPrize_T0 l hfl D cI cZ cL ad S x1 x2 hI hth) ck_X5_setPrize w_736 hP 0 rfl rfl hl.1 rfl ⟨Nat.le_of_ble_eq_true rfl, Nat.le_of_ble_eq_true rfl⟩ (Nat.le_of_ble_eq_true rfl) dL_setPrize_5 ⟨Nat.le_of_ble_eq_true rfl, Nat.le_of_ble_eq_true rfl⟩) hown [] _ _ htb (fun z hz => nomatch hz) (by decide +kernel) (by decide +kernel) (hE.1 _ w_322 args) (hE.1 _ w_333 args) (fun q H hS => ?_)
  refine W.eq (g2 := F0 m 13 ls [.ref q]) rfl ?_
  have hP := q_keep hS hP (fun _ _ h => h)
  have hO := q_keep hS hO (fun _ _ h => h)
  refine lv_astore (lv' := [(4, .ref q), (0, .ref (ad 0)), (1, .int x1), (2, .int x2), (3, .ref ao)]) hx hb dL_setPrize_13 hl (by decide) rfl (fun ls hl => ?_)
  refine lv_iconst (v := 1) hx hb dL_setPrize_15 (by decide) ?_
  exact W.zret hx hb hr rfl (fun t ht hW => ⟨rfl, ⟨by rw [ht]; exact hP, by rw [ht]; exact hO⟩, (q_Swk (fun _ h => h.elim) hS).F ht⟩) (fun _ h => nomatch h) dL_setPrize_16 hlk
theorem dL_prize_0 : decode cL_prize 0 = .ok (.aload_n 2, 1) := by decide +kernel
theorem dL_prize_1 : decode cL_prize 1 = .ok (.iconst 0, 1) := by decide +kernel
theorem dL_prize_2 : decode cL_prize 2 = .ok (.aload_n 0, 1) := by decide +kernel
theorem dL_prize_3 : decode cL_prize 3 = .ok (.iload_n 1, 1) := by decide +kernel
theorem dL_prize_4 : decode cL_prize 4 = .ok (.invokevirtual 93, 3) := by decide +kernel
theorem dL_prize_7 : decode cL_prize 7 = .ok (.i2l, 1) := by decide +kernel
theorem dL_prize_8 : decode cL_prize 8 = .ok (.lastore, 1) := by decide +kernel
theorem dL_prize_9 : decode cL_prize 9 = .ok (.goto 9, 3) := by decide +kernel
theorem dL_prize_12 : decode cL_prize 12 = .ok (.astore_n 3, 1) := by decide +kernel
theorem dL_prize_13 : decode cL_prize 13 = .ok (.iconst 1, 1) := by decide +kernel
theorem dL_prize_14 : decode cL_prize 14 = .ok (.ireturn, 1) := by decide +kernel
theorem dL_prize_15 : decode cL_prize 15 = .ok (.astore_n 3, 1) := by decide +kernel
theorem dL_prize_16 : decode cL_prize 16 = .ok (.iconst 2, 1) := by decide +kernel
theorem dL_prize_17 : decode cL_prize 17 = .ok (.ireturn, 1) := by decide +kernel
theorem dL_prize_18 : decode cL_prize 18 = .ok (.iconst 0, 1) := by decide +kernel
theorem dL_prize_19 : decode cL_prize 19 = .ok (.ireturn, 1) := by decide +kernel
set_option maxHeartbeats 4000000 in
set_option maxRecDepth 100000 in
theorem h_prize (l : Launch) (D : va_G) (cI cZ cL : ClassId) (ad : Nat → Nat) (ao : Nat) (S : Mem) (f : Nat → Int64) (A : Nat → Prop) (hD : va_D A (wO ao cL f ++ wC ad cI S)) (x1 : Int32) (hI : I0 S) (hth : (oPrize S x1).1 = none) :
    HL l D cI cZ cL yL_prize cL_prize 4 [(0, 9, 12, 25), (0, 9, 15, 15)] 8 [.ref (ad 0), .int x1, .ref ao] A ao (wC ad cI S) (wC ad cI ((oPrize S x1).2.2)) f (vp_updL f 0 ((oPrize S x1).2.1).toInt64) 0 := by
  refine HL.of (by decide) (Nat.le_of_ble_eq_true rfl) ?_
  intro p e s m args below meth c ls hx hb hr hml hown hlk htb hE hT hZ hC hP hO hS hl
  have hl : lv_has ls 4 [(0, .ref (ad 0)), (1, .int x1), (2, .ref ao)] := hl
  refine lv_aload_n hx hb dL_prize_0 rfl (lv_at hl 2 rfl) ?_
  refine lv_iconst (v := 0) hx hb dL_prize_1 (by decide) ?_
  refine lv_aload_n hx hb dL_prize_2 rfl (lv_at hl 0 rfl) ?_
  refine lv_iload_n hx hb dL_prize_3 rfl (lv_at hl 1 rfl) ?_
  refine q_wr (q_runV (rest := [.int 0, .ref ao]) hx hb hml hown hE (c_X5_prize l D cI cZ cL ad S (aW (wC ad cI S)) (aW_D (q_Dtl hD)) x1 hI hth) ck_X5_prize w_743 hP 0 rfl rfl hl.1 rfl ⟨Nat.le_of_ble_eq_true rfl, Nat.le_of_ble_eq_true rfl⟩ (Nat.le_of_ble_eq_true rfl) dL_prize_4 ⟨Nat.zero_le _, Nat.zero_le _⟩) (va_S.rf (A := aW (wC ad cI S)) (H0 := s.heap)) (fun H locs hP hS => ?_)
  have hO := q_keep hS hO (q_Dno hD)
  have hS := q_Swk (q_Dsub hD) hS
  have hD : va_D A (wO ao cL f ++ wC ad cI ((oPrize S x1).2.2)) := q_D (ws := wO ao cL f ++ wC ad cI S) rfl hD
  refine lv_i2l (v := ((oPrize S x1).2.1).toInt64) hx hb dL_prize_7 rfl ?_
  refine q_last hx hb hE hP hO hD hS dL_prize_8 (fun H locs hP hO hS => ?_)
  refine lv_goto (tgt := 18) hx hb dL_prize_9 (by decide) ?_
  refine lv_iconst (v := 0) hx hb dL_prize_18 (by decide) ?_
  refine W.widen (k := 1) (n := 6) (Nat.le_of_ble_eq_true rfl) (Nat.le_of_ble_eq_true rfl) ?_
  exact W.zret hx hb hr rfl (fun t ht hW => ⟨rfl, ⟨by rw [ht]; exact hP, by rw [ht]; exact hO⟩, hS.F ht⟩) hS.2.2 dL_prize_19 hlk
set_option maxHeartbeats 4000000 in
set_option maxRecDepth 100000 in
theorem h_prize_T0 (l : Launch) (hfl : l.flags = flags0) (D : va_G) (cI cZ cL : ClassId) (ad : Nat → Nat) (ao : Nat) (S : Mem) (f : Nat → Int64) (A : Nat → Prop) (x1 : Int32) (hI : I0 S) (hth : (oPrize S x1).1 = some "java/lang/IndexOutOfBoundsException") :
    HL l D cI cZ cL yL_prize cL_prize 4 [(0, 9, 12, 25), (0, 9, 15, 15)] 8 [.ref (ad 0), .int x1, .ref ao] A ao (wC ad cI S) (wC ad cI S) f (f) 1 := by
  refine HL.of (by decide) (Nat.le_of_ble_eq_true rfl) ?_
  intro p e s m args below meth c ls hx hb hr hml hown hlk htb hE hT hZ hC hP hO hS hl
  have hl : lv_has ls 4 [(0, .ref (ad 0)), (1, .int x1), (2, .ref ao)] := hl
  refine lv_aload_n hx hb dL_prize_0 rfl (lv_at hl 2 rfl) ?_
  refine lv_iconst (v := 0) hx hb dL_prize_1 (by decide) ?_
  refine lv_aload_n hx hb dL_prize_2 rfl (lv_at hl 0 rfl) ?_
  refine lv_iload_n hx hb dL_prize_3 rfl (lv_at hl 1 rfl) ?_
  refine q_thH (q_thV (rest := [.int 0, .ref ao]) hx hb hml hown hE hT hZ (c_X5_prize_T0 l hfl D cI cZ cL ad S x1 hI hth) ck_X5_prize w_743 hP 0 rfl rfl hl.1 rfl ⟨Nat.le_of_ble_eq_true rfl, Nat.le_of_ble_eq_true rfl⟩ (Nat.le_of_ble_eq_true rfl) dL_prize_4 ⟨Nat.le_of_ble_eq_true rfl, Nat.le_of_ble_eq_true rfl⟩) hown [] _ _ htb (fun z hz => nomatch hz) (by decide +kernel) (by decide +kernel) (hE.1 _ w_431 args) (hE.1 _ w_442 args) (fun q H hS => ?_)
  refine W.eq (g2 := F0 m 12 ls [.ref q]) rfl ?_
  have hP := q_keep hS hP (fun _ _ h => h)
  have hO := q_keep hS hO (fun _ _ h => h)
  refine lv_astore_n (lv' := [(3, .ref q), (0, .ref (ad 0)), (1, .int x1), (2, .ref ao)]) hx hb dL_prize_12 rfl hl (by decide) rfl (fun ls hl => ?_)
  refine lv_iconst (v := 1) hx hb dL_prize_13 (by decide) ?_
  exact W.zret hx hb hr rfl (fun t ht hW => ⟨rfl, ⟨by rw [ht]; exact hP, by rw [ht]; exact hO⟩, (q_Swk (fun _ h => h.elim) hS).F ht⟩) (fun _ h => nomatch h) dL_prize_14 hlk
set_option maxHeartbeats 4000000 in
set_option maxRecDepth 100000 in
theorem h_prize_T1 (l : Launch) (hfl : l.flags = flags0) (D : va_G) (cI cZ cL : ClassId) (ad : Nat → Nat) (ao : Nat) (S : Mem) (f : Nat → Int64) (A : Nat → Prop) (x1 : Int32) (hI : I0 S) (hth : (oPrize S x1).1 = some "java/lang/IllegalStateException") :
    HL l D cI cZ cL yL_prize cL_prize 4 [(0, 9, 12, 25), (0, 9, 15, 15)] 8 [.ref (ad 0), .int x1, .ref ao] A ao (wC ad cI S) (wC ad cI S) f (f) 2 := by
  refine HL.of (by decide) (Nat.le_of_ble_eq_true rfl) ?_
  intro p e s m args below meth c ls hx hb hr hml hown hlk htb hE hT hZ hC hP hO hS hl
  have hl : lv_has ls 4 [(0, .ref (ad 0)), (1, .int x1), (2, .ref ao)] := hl
  refine lv_aload_n hx hb dL_prize_0 rfl (lv_at hl 2 rfl) ?_
  refine lv_iconst (v := 0) hx hb dL_prize_1 (by decide) ?_
  refine lv_aload_n hx hb dL_prize_2 rfl (lv_at hl 0 rfl) ?_
  refine lv_iload_n hx hb dL_prize_3 rfl (lv_at hl 1 rfl) ?_
  refine q_thH (q_thV (rest := [.int 0, .ref ao]) hx hb hml hown hE hT hZ (c_X5_prize_T1 l hfl D cI cZ cL ad S x1 hI hth) ck_X5_prize w_743 hP 0 rfl rfl hl.1 rfl ⟨Nat.le_of_ble_eq_true rfl, Nat.le_of_ble_eq_true rfl⟩ (Nat.le_of_ble_eq_true rfl) dL_prize_4 ⟨Nat.le_of_ble_eq_true rfl, Nat.le_of_ble_eq_true rfl⟩) hown (tableOf [(0, 9, 12, 25)]) _ _ htb (by intro z hz; simp only [tableOf, List.map_cons, List.map_nil, List.mem_cons, List.not_mem_nil, or_false] at hz; rcases hz with rfl <;> exact Or.inr ⟨by decide, _, hE.1 _ w_431 args, hC ("java/lang/IllegalStateException", "java/lang/IndexOutOfBoundsException") (by decide)⟩) (by decide +kernel) (by decide +kernel) (hE.1 _ w_323 args) (hE.1 _ w_402 args) (fun q H hS => ?_)
  refine W.eq (g2 := F0 m 15 ls [.ref q]) rfl ?_
  have hP := q_keep hS hP (fun _ _ h => h)
  have hO := q_keep hS hO (fun _ _ h => h)
  refine lv_astore_n (lv' := [(3, .ref q), (0, .ref (ad 0)), (1, .int x1), (2, .ref ao)]) hx hb dL_prize_15 rfl hl (by decide) rfl (fun ls hl => ?_)
  refine lv_iconst (v := 2) hx hb dL_prize_16 (by decide) ?_
  exact W.zret hx hb hr rfl (fun t ht hW => ⟨rfl, ⟨by rw [ht]; exact hP, by rw [ht]; exact hO⟩, (q_Swk (fun _ h => h.elim) hS).F ht⟩) (fun _ h => nomatch h) dL_prize_17 hlk
set_option maxHeartbeats 4000000 in
set_option maxRecDepth 100000 in
theorem h_price_T1 (l : Launch) (hfl : l.flags = flags0) (D : va_G) (cI cZ cL : ClassId) (ad : Nat → Nat) (ao : Nat) (S : Mem) (f : Nat → Int64) (A : Nat → Prop) (x1 : Int32) (x2 : Int32) (hI : I0 S) (hth : (oPrice S x1 x2).1 = some "java/util/NoSuchElementException") :
    HL l D cI cZ cL yL_price cL_price 5 [(0, 10, 13, 25), (0, 10, 17, 44)] 8 [.ref (ad 0), .int x1, .int x2, .ref ao] A ao (wC ad cI S) (wC ad cI S) f (f) 2 := by
  refine HL.of (by decide) (Nat.le_of_ble_eq_true rfl) ?_
  intro p e s m args below meth c ls hx hb hr hml hown hlk htb hE hT hZ hC hP hO hS hl
  have hl : lv_has ls 5 [(0, .ref (ad 0)), (1, .int x1), (2, .int x2), (3, .ref ao)] := hl
  refine lv_aload_n hx hb dL_price_0 rfl (lv_at hl 3 rfl) ?_
  refine lv_iconst (v := 0) hx hb dL_price_1 (by decide) ?_
  refine lv_aload_n hx hb dL_price_2 rfl (lv_at hl 0 rfl) ?_
  refine lv_iload_n hx hb dL_price_3 rfl (lv_at hl 1 rfl) ?_
  refine lv_iload_n hx hb dL_price_4 rfl (lv_at hl 2 rfl) ?_
  refine q_thH (q_thV (rest := [.int 0, .ref ao]) hx hb hml hown hE hT hZ (c_X5_price_T1 l hfl D cI cZ cL ad S x1 x2 hI hth) ck_X5_price w_566 hP 0 rfl rfl hl.1 rfl ⟨Nat.le_of_ble_eq_true rfl, Nat.le_of_ble_eq_true rfl⟩ (Nat.le_of_ble_eq_true rfl) dL_price_5 ⟨Nat.le_of_ble_eq_true rfl, Nat.le_of_ble_eq_true rfl⟩) hown (tableOf [(0, 10, 13, 25)]) _ _ htb (by intro z hz; simp only [tableOf, List.map_cons, List.map_nil, List.mem_cons, List.not_mem_nil, or_false] at hz; rcases hz with rfl <;> exact Or.inr ⟨by decide, _, hE.1 _ w_431 args, hC ("java/util/NoSuchElementException", "java/lang/IndexOutOfBoundsException") (by decide)⟩) (by decide +kernel) (by decide +kernel) (hE.1 _ w_565 args) (hE.1 _ w_572 args) (fun q H hS => ?_)
  refine W.eq (g2 := F0 m 17 ls [.ref q]) rfl ?_
  have hP := q_keep hS hP (fun _ _ h => h)
  have hO := q_keep hS hO (fun _ _ h => h)
  refine lv_astore (lv' := [(4, .ref q), (0, .ref (ad 0)), (1, .int x1), (2, .int x2), (3, .ref ao)]) hx hb dL_price_17 hl (by decide) rfl (fun ls hl => ?_)
  refine lv_iconst (v := 2) hx hb dL_price_19 (by decide) ?_
  exact W.zret hx hb hr rfl (fun t ht hW => ⟨rfl, ⟨by rw [ht]; exact hP, by rw [ht]; exact hO⟩, (q_Swk (fun _ h => h.elim) hS).F ht⟩) (fun _ h => nomatch h) dL_price_20 hlk
