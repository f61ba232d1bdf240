/-! the throw path of a helper -/
theorem w_333 : Cond.castable "java/lang/IllegalArgumentException" "java/lang/IllegalArgumentException" ∈ TW := q_mem 333 (by decide +kernel) rfl
theorem w_402 : Cond.castable "java/lang/IllegalStateException" "java/lang/IllegalStateException" ∈ TW := q_mem 402 (by decide +kernel) rfl
theorem w_442 : Cond.castable "java/lang/IndexOutOfBoundsException" "java/lang/IndexOutOfBoundsException" ∈ TW := q_mem 442 (by decide +kernel) rfl
theorem w_572 : Cond.castable "java/util/NoSuchElementException" "java/util/NoSuchElementException" ∈ TW := q_mem 572 (by decide +kernel) rfl
set_option maxHeartbeats 4000000 in
set_option maxRecDepth 100000 in
theorem h_setBound_T0 (l : Launch) (hfl : l.flags = flags0) (D : va_G) (cI cZ cL : ClassId) (ad : Nat → Nat) (ao : Nat) (S : Mem) (f : Nat → Int64) (A : Nat → Prop) (x1 : Int32) (hI : I0 S) (hth : (oBound S x1).1 = some "java/lang/IllegalArgumentException") :
    HL l D cI cZ cL yL_setBound cL_setBound 4 [(0, 9, 12, 13)] 8 [.ref (ad 0), .int x1, .ref ao] A ao (wC ad cI S) (wC ad cI S) f f 1 := by
  refine HL.of (by decide) (Nat.le_of_ble_eq_true rfl) ?_
  intro p e s m args below meth c ls hx hb hr hml hown hlk htb hE hT hZ hC hP hO hS0 hl
  have hl : lv_has ls 4 [(0, .ref (ad 0)), (1, .int x1), (2, .ref ao)] := hl
  refine lv_aload_n hx hb dL_setBound_0 rfl (lv_at hl 2 rfl) ?_
  refine lv_iconst (v := 0) hx hb dL_setBound_1 (by decide) ?_
  refine lv_aload_n hx hb dL_setBound_2 rfl (lv_at hl 0 rfl) ?_
  refine lv_iload_n hx hb dL_setBound_3 rfl (lv_at hl 1 rfl) ?_
  refine q_thH (q_thV (rest := [.int 0, .ref ao]) hx hb hml hown hE hT hZ (c_X5_setBound_T0 l hfl D cI cZ cL ad S x1 hI hth) ck_X5_setBound w_624 hP 0 rfl rfl hl.1 rfl ⟨Nat.le_of_ble_eq_true rfl, Nat.le_of_ble_eq_true rfl⟩ (Nat.le_of_ble_eq_true rfl) dL_setBound_4 ⟨Nat.le_of_ble_eq_true rfl, Nat.le_of_ble_eq_true rfl⟩) hown [] _ [] htb (fun z hz => nomatch hz) (by decide +kernel) (by decide +kernel) (hE.1 _ w_322 args) (hE.1 _ w_333 args) (fun q H hS => ?_)
  refine W.eq (g2 := F0 m 12 ls [.ref q]) rfl ?_
  have hP := q_keep hS hP (fun _ _ h => h)
  have hO := q_keep hS hO (fun _ _ h => h)
  refine lv_astore_n (lv' := [(3, .ref q), (0, .ref (ad 0)), (1, .int x1), (2, .ref ao)]) hx hb dL_setBound_12 rfl hl (by decide) rfl (fun ls hl => ?_)
  refine lv_iconst (v := 1) hx hb dL_setBound_13 (by decide) ?_
  exact W.zret hx hb hr rfl (fun t ht hW => ⟨rfl, ⟨by rw [ht]; exact hP, by rw [ht]; exact hO⟩, (q_Swk (fun _ h => h.elim) hS).F ht⟩) (fun _ h => nomatch h) dL_setBound_14 hlk
