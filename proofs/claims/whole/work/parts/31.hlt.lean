/-! the law's helpers -/
theorem dL_setBound_0 : decode cL_setBound 0 = .ok (.aload_n 2, 1) := by decide +kernel
theorem dL_setBound_1 : decode cL_setBound 1 = .ok (.iconst 0, 1) := by decide +kernel
theorem dL_setBound_2 : decode cL_setBound 2 = .ok (.aload_n 0, 1) := by decide +kernel
theorem dL_setBound_3 : decode cL_setBound 3 = .ok (.iload_n 1, 1) := by decide +kernel
theorem dL_setBound_4 : decode cL_setBound 4 = .ok (.invokevirtual 59, 3) := by decide +kernel
theorem dL_setBound_7 : decode cL_setBound 7 = .ok (.i2l, 1) := by decide +kernel
theorem dL_setBound_8 : decode cL_setBound 8 = .ok (.lastore, 1) := by decide +kernel
theorem dL_setBound_9 : decode cL_setBound 9 = .ok (.goto 6, 3) := by decide +kernel
theorem dL_setBound_12 : decode cL_setBound 12 = .ok (.astore_n 3, 1) := by decide +kernel
theorem dL_setBound_13 : decode cL_setBound 13 = .ok (.iconst 1, 1) := by decide +kernel
theorem dL_setBound_14 : decode cL_setBound 14 = .ok (.ireturn, 1) := by decide +kernel
theorem dL_setBound_15 : decode cL_setBound 15 = .ok (.iconst 0, 1) := by decide +kernel
theorem dL_setBound_16 : decode cL_setBound 16 = .ok (.ireturn, 1) := by decide +kernel
theorem q_Dtl {A : Nat → Prop} {x : Nat × va_E} {ws : va_W} (hD : va_D A (x :: ws)) : va_D A ws := ⟨fun i j p q hi hj h => Nat.succ.inj (hD.1 (i + 1) (j + 1) p q hi hj h), fun k q hk => hD.2 (k + 1) q hk⟩
theorem q_Dno {A : Nat → Prop} {ao : Nat} {cL : ClassId} {f : Nat → Int64} {ws : va_W} (hD : va_D A (wO ao cL f ++ ws)) : ∀ q, aW (wO ao cL f) q → ¬ aW ws q := by
  rintro q ⟨k, e, hk⟩ ⟨k2, e2, hk2⟩
  have h1 : k = 0 := by
    have h9 := (List.getElem?_eq_some_iff.mp hk).1
    simp only [wO, List.length_cons, List.length_nil] at h9
    omega
  subst h1
  exact absurd (hD.1 0 (k2 + 1) (q, e) (q, e2) hk hk2 rfl) (by omega)
theorem q_Dsub {A : Nat → Prop} {x : Nat × va_E} {ws : va_W} (hD : va_D A (x :: ws)) : ∀ q, aW ws q → A q := fun q ⟨k, e, hk⟩ => hD.2 (k + 1) (q, e) hk
set_option maxHeartbeats 4000000 in
set_option maxRecDepth 100000 in
theorem h_setBound (l : Launch) (D : va_G) (cI cZ cL : ClassId) (ad : Nat → Nat) (ao : Nat) (S : Mem) (f : Nat → Int64) (A : Nat → Prop) (hD : va_D A (wO ao cL f ++ wC ad cI S)) (x1 : Int32) (hI : I0 S) (hth : (oBound S x1).1 = none) :
    HL l D cI cZ cL yL_setBound cL_setBound 4 [(0, 9, 12, 13)] 8 [.ref (ad 0), .int x1, .ref ao] A ao (wC ad cI S) (wC ad cI ((oBound S x1).2.2)) f (vp_updL f 0 ((oBound S x1).2.1).toInt64) 0 := by
  refine HL.of (by decide) (Nat.le_of_ble_eq_true rfl) ?_
  intro p e s m args below meth c ls hx hb hr hml hown hlk htb hE hT hZ hC hP hO hS hl
  have hl : lv_has ls 4 [(0, .ref (ad 0)), (1, .int x1), (2, .ref ao)] := hl
  refine lv_aload_n hx hb dL_setBound_0 rfl (lv_at hl 2 rfl) ?_
  refine lv_iconst (v := 0) hx hb dL_setBound_1 (by decide) ?_
  refine lv_aload_n hx hb dL_setBound_2 rfl (lv_at hl 0 rfl) ?_
  refine lv_iload_n hx hb dL_setBound_3 rfl (lv_at hl 1 rfl) ?_
  refine q_wr (q_runV (rest := [.int 0, .ref ao]) hx hb hml hown hE (c_X5_setBound l D cI cZ cL ad S (aW (wC ad cI S)) (aW_D (q_Dtl hD)) x1 hI hth) ck_X5_setBound w_624 hP 0 rfl rfl hl.1 rfl ⟨Nat.le_of_ble_eq_true rfl, Nat.le_of_ble_eq_true rfl⟩ (Nat.le_of_ble_eq_true rfl) dL_setBound_4 ⟨Nat.zero_le _, Nat.zero_le _⟩) (va_S.rf (A := aW (wC ad cI S)) (H0 := s.heap)) (fun H locs hP hS => ?_)
  have hO := q_keep hS hO (q_Dno hD)
  have hS := q_Swk (q_Dsub hD) hS
  have hD : va_D A (wO ao cL f ++ wC ad cI (oBound S x1).2.2) := q_D (ws := wO ao cL f ++ wC ad cI S) rfl hD
  refine lv_i2l (v := ((oBound S x1).2.1).toInt64) hx hb dL_setBound_7 rfl ?_
  refine q_last hx hb hE hP hO hD hS dL_setBound_8 (fun H locs hP hO hS => ?_)
  refine lv_goto (tgt := 15) hx hb dL_setBound_9 (by decide) ?_
  refine lv_iconst (v := 0) hx hb dL_setBound_15 (by decide) ?_
  refine W.widen (k := 1) (n := 6) (Nat.le_of_ble_eq_true rfl) (Nat.le_of_ble_eq_true rfl) ?_
  exact W.zret hx hb hr rfl (fun t ht hW => ⟨rfl, ⟨by rw [ht]; exact hP, by rw [ht]; exact hO⟩, hS.F ht⟩) hS.2.2 dL_setBound_16 hlk
