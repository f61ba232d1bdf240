section
/-! the ends of the law's cases -/
theorem cmp_self (x : Int64) : lg_cmp x x = 0 := by
  unfold lg_cmp
  rw [if_neg (fun h => Int64.lt_irrefl h), if_pos rfl]
variable {p : Program} {l : Launch} {e : Env} {s : State} {m : MethodId} {args : Array Value} {below : List Frame} {meth : Method} {c : Code} {H : Heap} {locs : List Loc} {cells slots : Nat} {Q : State → Prop}
variable {b L : Nat} {xs : Nat → Int32} {D : va_G} {cI cZ cL : ClassId} {ad am : Nat → Nat} {ao : Nat} {S M : Mem} {th : Int32} {f : Nat → Int64}
variable {pc i : Nat} {ls : Array Slot} {v r : Int32} {off : Int}
/-- an int's answers -/
theorem tI (C : LC p l s m meth c b L xs D cI cZ cL ad am ao) (hw : LW s D cI cZ cL ad am ao S M th f H locs) (hcs : cells ≤ 1091 ∧ slots ≤ 11970)
    (hd : decode code pc = .ok (.istore 6, 2) ∧ decode code (pc + 2) = .ok (.aload_n 2, 1) ∧ decode code (pc + 3) = .ok (.invokevirtual 106, 3) ∧ decode code (pc + 6) = .ok (.iload 5, 2) ∧ decode code (pc + 8) = .ok (.if_icmp .eq 5, 3) ∧ decode code (pc + 13) = .ok (.iload 5, 2) ∧ decode code (pc + 15) = .ok (.ifCond .ne 15, 3) ∧ decode code (pc + 18) = .ok (.aload_n 3, 1) ∧ decode code (pc + 19) = .ok (.iconst 0, 1) ∧ decode code (pc + 20) = .ok (.laload, 1) ∧ decode code (pc + 21) = .ok (.iload 6, 2) ∧ decode code (pc + 23) = .ok (.i2l, 1) ∧ decode code (pc + 24) = .ok (.lcmp, 1) ∧ decode code (pc + 25) = .ok (.ifCond .eq 5, 3) ∧ decode code (pc + 30) = .ok (.goto off, 3))
    (ho : ((pc + 30 : Nat) : Int) + off = ((1767 : Nat) : Int)) (hl : lv_has ls 7 [(5, .int v), (0, .ref b), (1, .ref (ad 0)), (2, .ref (am 0)), (3, .ref ao), (4, .int (nI i))]) (hv : v = th) (hz : v = 0 → f 0 = r.toInt64)
    (kk : ∀ ls : Array Slot, lv_has ls 7 [(0, .ref b), (1, .ref (ad 0)), (2, .ref (am 0)), (3, .ref ao), (4, .int (nI i))] → W p l e room_1 s m args below meth c H locs cells slots Q (F0 m 1767 ls [])) : W p l e room_1 s m args below meth c H locs cells slots Q (F0 m pc ls [.int r]) := by
  obtain ⟨⟨hx, hb, hr, hml, hown, hlk, hfl, hL⟩, ⟨hE, hT, hZ, hC⟩, ⟨hX, hbl⟩, hD⟩ := C
  obtain ⟨hP, hO, hQ, hS⟩ := hw
  obtain ⟨d0, d1, d2, d3, d4, d5, d6, d7, d8, d9, d10, d11, d12, d13, d14⟩ := hd
  refine lv_istore (lv' := [(6, .int r), (5, .int v), (0, .ref b), (1, .ref (ad 0)), (2, .ref (am 0)), (3, .ref ao), (4, .int (nI i))]) hx hb d0 hl (by decide) rfl (fun ls hl => ?_)
  refine lv_aload_n hx hb d1 rfl (lv_at hl 4 rfl) ?_
  refine q_rd (q_runV (rest := []) hx hb hml hown hE (c_X6_thrown l D cI cZ cL am M th) ck_X6_thrown w_826 hQ 0 rfl rfl hl.1 rfl ⟨Nat.le_of_ble_eq_true rfl, Nat.le_of_ble_eq_true rfl⟩ (Nat.le_of_ble_eq_true rfl) d2 hcs) ?_
  refine lv_iload hx hb d3 (lv_at hl 1 rfl) ?_
  refine lv_icmp_eq (tgt := pc + 13) hx hb d4 (by omega) (fun _ => ?_) (fun c1 => absurd hv.symm c1)
  refine lv_iload hx hb d5 (lv_at hl 1 rfl) ?_
  refine lv_if_ne (tgt := pc + 30) hx hb d6 (by omega) (fun _ => ?_) (fun c2 => ?_)
  · refine lv_goto (tgt := 1767) hx hb d14 ho ?_
    exact kk ls (lv_sub hl [2, 3, 4, 5, 6] rfl)
  · refine lv_aload_n hx hb d7 rfl (lv_at hl 5 rfl) ?_
    refine lv_iconst (v := 0) hx hb d8 (by decide) ?_
    refine va_lald (f := f) hx hb hE.2 hO 0 2 rfl rfl (by unfold vp_in; decide) d9 ?_
    refine lv_iload hx hb d10 (lv_at hl 0 rfl) ?_
    refine lv_i2l (v := r.toInt64) hx hb d11 rfl ?_
    refine W.lcmp hx hb d12 ?_
    refine lv_if_eq (tgt := pc + 30) hx hb d13 (by omega) (fun _ => ?_) (fun c3 => absurd ?_ c3)
    · refine lv_goto (tgt := 1767) hx hb d14 ho ?_
      exact kk ls (lv_sub hl [2, 3, 4, 5, 6] rfl)
    · show lg_cmp (f 0) r.toInt64 = 0
      rw [hz c2]; exact cmp_self _
/-- a boolean's answers -/
theorem tB (C : LC p l s m meth c b L xs D cI cZ cL ad am ao) (hw : LW s D cI cZ cL ad am ao S M th f H locs) (hcs : cells ≤ 1091 ∧ slots ≤ 11970)
    (hd : decode code pc = .ok (.istore 6, 2) ∧ decode code (pc + 2) = .ok (.aload_n 2, 1) ∧ decode code (pc + 3) = .ok (.invokevirtual 106, 3) ∧ decode code (pc + 6) = .ok (.iload 5, 2) ∧ decode code (pc + 8) = .ok (.if_icmp .eq 5, 3) ∧ decode code (pc + 13) = .ok (.iload 5, 2) ∧ decode code (pc + 15) = .ok (.ifCond .ne 22, 3) ∧ decode code (pc + 18) = .ok (.aload_n 3, 1) ∧ decode code (pc + 19) = .ok (.iconst 0, 1) ∧ decode code (pc + 20) = .ok (.laload, 1) ∧ decode code (pc + 21) = .ok (.iload 6, 2) ∧ decode code (pc + 23) = .ok (.ifCond .eq 7, 3) ∧ decode code (pc + 26) = .ok (.lconst 1, 1) ∧ decode code (pc + 27) = .ok (.goto 4, 3) ∧ decode code (pc + 30) = .ok (.lconst 0, 1) ∧ decode code (pc + 31) = .ok (.lcmp, 1) ∧ decode code (pc + 32) = .ok (.ifCond .eq 5, 3) ∧ decode code (pc + 37) = .ok (.goto off, 3))
    (ho : ((pc + 37 : Nat) : Int) + off = ((1767 : Nat) : Int)) (hl : lv_has ls 7 [(5, .int v), (0, .ref b), (1, .ref (ad 0)), (2, .ref (am 0)), (3, .ref ao), (4, .int (nI i))]) (hv : v = th) (hz : v = 0 → f 0 = if r = 0 then 0 else 1)
    (kk : ∀ ls : Array Slot, lv_has ls 7 [(0, .ref b), (1, .ref (ad 0)), (2, .ref (am 0)), (3, .ref ao), (4, .int (nI i))] → W p l e room_1 s m args below meth c H locs cells slots Q (F0 m 1767 ls [])) : W p l e room_1 s m args below meth c H locs cells slots Q (F0 m pc ls [.int r]) := by
  obtain ⟨⟨hx, hb, hr, hml, hown, hlk, hfl, hL⟩, ⟨hE, hT, hZ, hC⟩, ⟨hX, hbl⟩, hD⟩ := C
  obtain ⟨hP, hO, hQ, hS⟩ := hw
  obtain ⟨d0, d1, d2, d3, d4, d5, d6, d7, d8, d9, d10, d11, d12, d13, d14, d15, d16, d17⟩ := hd
  refine lv_istore (lv' := [(6, .int r), (5, .int v), (0, .ref b), (1, .ref (ad 0)), (2, .ref (am 0)), (3, .ref ao), (4, .int (nI i))]) hx hb d0 hl (by decide) rfl (fun ls hl => ?_)
  refine lv_aload_n hx hb d1 rfl (lv_at hl 4 rfl) ?_
  refine q_rd (q_runV (rest := []) hx hb hml hown hE (c_X6_thrown l D cI cZ cL am M th) ck_X6_thrown w_826 hQ 0 rfl rfl hl.1 rfl ⟨Nat.le_of_ble_eq_true rfl, Nat.le_of_ble_eq_true rfl⟩ (Nat.le_of_ble_eq_true rfl) d2 hcs) ?_
  refine lv_iload hx hb d3 (lv_at hl 1 rfl) ?_
  refine lv_icmp_eq (tgt := pc + 13) hx hb d4 (by omega) (fun _ => ?_) (fun c1 => absurd hv.symm c1)
  refine lv_iload hx hb d5 (lv_at hl 1 rfl) ?_
  refine lv_if_ne (tgt := pc + 37) hx hb d6 (by omega) (fun _ => ?_) (fun c2 => ?_)
  · refine lv_goto (tgt := 1767) hx hb d17 ho ?_
    exact kk ls (lv_sub hl [2, 3, 4, 5, 6] rfl)
  · have hf := hz c2
    refine lv_aload_n hx hb d7 rfl (lv_at hl 5 rfl) ?_
    refine lv_iconst (v := 0) hx hb d8 (by decide) ?_
    refine va_lald (f := f) hx hb hE.2 hO 0 2 rfl rfl (by unfold vp_in; decide) d9 ?_
    refine lv_iload hx hb d10 (lv_at hl 0 rfl) ?_
    refine lv_if_eq (tgt := pc + 30) hx hb d11 (by omega) (fun c4 => ?_) (fun c4 => ?_)
    · rw [if_pos c4] at hf
      refine lv_lconst (v := 0) hx hb d14 (by decide) ?_
      refine W.lcmp hx hb d15 ?_
      refine lv_if_eq (tgt := pc + 37) hx hb d16 (by omega) (fun _ => ?_) (fun c3 => absurd ?_ c3)
      · refine lv_goto (tgt := 1767) hx hb d17 ho ?_
        exact kk ls (lv_sub hl [2, 3, 4, 5, 6] rfl)
      · show lg_cmp (f 0) 0 = 0
        rw [hf]; exact cmp_self _
    · rw [if_neg c4] at hf
      refine lv_lconst (v := 1) hx hb d12 (by decide) ?_
      refine lv_goto (tgt := pc + 31) hx hb d13 (by omega) ?_
      refine W.lcmp hx hb d15 ?_
      refine lv_if_eq (tgt := pc + 37) hx hb d16 (by omega) (fun _ => ?_) (fun c3 => absurd ?_ c3)
      · refine lv_goto (tgt := 1767) hx hb d17 ho ?_
        exact kk ls (lv_sub hl [2, 3, 4, 5, 6] rfl)
      · show lg_cmp (f 0) 1 = 0
        rw [hf]; exact cmp_self _
end
/-! words of the helpers, to be called -/
theorem w_321 : Cond.codeWith yL_pass cL_pass 4 (some .int) [(0, 9, 12, 13), (0, 9, 15, 15)] ∈ TW := q_mem 321 (by decide +kernel) rfl
theorem ckL_pass : CKh yL_pass cL_pass 4 [(0, 9, 12, 13), (0, 9, 15, 15)] 3 := ⟨w_321, w_60, ⟨by decide +kernel, by decide +kernel⟩, by decide +kernel, w_320⟩
theorem w_418 : Cond.codeWith yL_addRiddle cL_addRiddle 7 (some .int) [(0, 14, 17, 13), (0, 14, 21, 15)] ∈ TW := q_mem 418 (by decide +kernel) rfl
theorem ckL_addRiddle : CKh yL_addRiddle cL_addRiddle 7 [(0, 14, 17, 13), (0, 14, 21, 15)] 6 := ⟨w_418, w_60, ⟨by decide +kernel, by decide +kernel⟩, by decide +kernel, w_417⟩
theorem w_430 : Cond.codeWith yL_need cL_need 5 (some .int) [(0, 10, 13, 25), (0, 10, 17, 13), (0, 10, 21, 15)] ∈ TW := q_mem 430 (by decide +kernel) rfl
theorem ckL_need : CKh yL_need cL_need 5 [(0, 10, 13, 25), (0, 10, 17, 13), (0, 10, 21, 15)] 4 := ⟨w_430, w_60, ⟨by decide +kernel, by decide +kernel⟩, by decide +kernel, w_429⟩
theorem w_467 : Cond.codeWith yL_addTeam cL_addTeam 3 (some .int) [(0, 8, 11, 15)] ∈ TW := q_mem 467 (by decide +kernel) rfl
theorem ckL_addTeam : CKh yL_addTeam cL_addTeam 3 [(0, 8, 11, 15)] 2 := ⟨w_467, w_60, ⟨by decide +kernel, by decide +kernel⟩, by decide +kernel, w_466⟩
theorem w_475 : Cond.codeWith yL_end cL_end 3 (some .int) [(0, 8, 11, 15)] ∈ TW := q_mem 475 (by decide +kernel) rfl
theorem ckL_end : CKh yL_end cL_end 3 [(0, 8, 11, 15)] 2 := ⟨w_475, w_60, ⟨by decide +kernel, by decide +kernel⟩, by decide +kernel, w_474⟩
theorem w_483 : Cond.codeWith yL_answer cL_answer 6 (some .int) [(0, 19, 22, 25), (0, 19, 26, 13), (0, 19, 30, 15)] ∈ TW := q_mem 483 (by decide +kernel) rfl
theorem ckL_answer : CKh yL_answer cL_answer 6 [(0, 19, 22, 25), (0, 19, 26, 13), (0, 19, 30, 15)] 5 := ⟨w_483, w_60, ⟨by decide +kernel, by decide +kernel⟩, by decide +kernel, w_482⟩
theorem w_531 : Cond.codeWith yL_hint cL_hint 5 (some .int) [(0, 10, 13, 25), (0, 10, 17, 15)] ∈ TW := q_mem 531 (by decide +kernel) rfl
theorem ckL_hint : CKh yL_hint cL_hint 5 [(0, 10, 13, 25), (0, 10, 17, 15)] 4 := ⟨w_531, w_60, ⟨by decide +kernel, by decide +kernel⟩, by decide +kernel, w_530⟩
theorem w_564 : Cond.codeWith yL_price cL_price 5 (some .int) [(0, 10, 13, 25), (0, 10, 17, 44)] ∈ TW := q_mem 564 (by decide +kernel) rfl
theorem ckL_price : CKh yL_price cL_price 5 [(0, 10, 13, 25), (0, 10, 17, 44)] 4 := ⟨w_564, w_60, ⟨by decide +kernel, by decide +kernel⟩, by decide +kernel, w_563⟩
theorem w_588 : Cond.codeWith yL_openedAt cL_openedAt 5 (some .int) [(0, 10, 13, 25)] ∈ TW := q_mem 588 (by decide +kernel) rfl
theorem ckL_openedAt : CKh yL_openedAt cL_openedAt 5 [(0, 10, 13, 25)] 4 := ⟨w_588, w_60, ⟨by decide +kernel, by decide +kernel⟩, by decide +kernel, w_587⟩
theorem w_595 : Cond.codeWith yL_solvedAt cL_solvedAt 5 (some .int) [(0, 10, 13, 25)] ∈ TW := q_mem 595 (by decide +kernel) rfl
theorem ckL_solvedAt : CKh yL_solvedAt cL_solvedAt 5 [(0, 10, 13, 25)] 4 := ⟨w_595, w_60, ⟨by decide +kernel, by decide +kernel⟩, by decide +kernel, w_594⟩
theorem w_602 : Cond.codeWith yL_clear cL_clear 5 (some .int) [(0, 17, 20, 25), (0, 17, 24, 15)] ∈ TW := q_mem 602 (by decide +kernel) rfl
theorem ckL_clear : CKh yL_clear cL_clear 5 [(0, 17, 20, 25), (0, 17, 24, 15)] 4 := ⟨w_602, w_60, ⟨by decide +kernel, by decide +kernel⟩, by decide +kernel, w_601⟩
theorem w_610 : Cond.codeWith yL_pardon cL_pardon 5 (some .int) [(0, 17, 20, 25), (0, 17, 24, 13)] ∈ TW := q_mem 610 (by decide +kernel) rfl
theorem ckL_pardon : CKh yL_pardon cL_pardon 5 [(0, 17, 20, 25), (0, 17, 24, 13)] 4 := ⟨w_610, w_60, ⟨by decide +kernel, by decide +kernel⟩, by decide +kernel, w_609⟩
theorem w_623 : Cond.codeWith yL_setBound cL_setBound 4 (some .int) [(0, 9, 12, 13)] ∈ TW := q_mem 623 (by decide +kernel) rfl
theorem ckL_setBound : CKh yL_setBound cL_setBound 4 [(0, 9, 12, 13)] 3 := ⟨w_623, w_60, ⟨by decide +kernel, by decide +kernel⟩, by decide +kernel, w_622⟩
theorem w_630 : Cond.codeWith yL_isFree cL_isFree 4 (some .int) [(0, 16, 19, 25)] ∈ TW := q_mem 630 (by decide +kernel) rfl
theorem ckL_isFree : CKh yL_isFree cL_isFree 4 [(0, 16, 19, 25)] 3 := ⟨w_630, w_60, ⟨by decide +kernel, by decide +kernel⟩, by decide +kernel, w_629⟩
theorem w_637 : Cond.codeWith yL_likeness cL_likeness 5 (some .int) [(0, 10, 13, 25)] ∈ TW := q_mem 637 (by decide +kernel) rfl
theorem ckL_likeness : CKh yL_likeness cL_likeness 5 [(0, 10, 13, 25)] 4 := ⟨w_637, w_60, ⟨by decide +kernel, by decide +kernel⟩, by decide +kernel, w_636⟩
theorem w_644 : Cond.codeWith yL_areLinked cL_areLinked 5 (some .int) [(0, 17, 20, 25)] ∈ TW := q_mem 644 (by decide +kernel) rfl
theorem ckL_areLinked : CKh yL_areLinked cL_areLinked 5 [(0, 17, 20, 25)] 4 := ⟨w_644, w_60, ⟨by decide +kernel, by decide +kernel⟩, by decide +kernel, w_643⟩
theorem w_651 : Cond.codeWith yL_isCheated cL_isCheated 5 (some .int) [(0, 17, 20, 25)] ∈ TW := q_mem 651 (by decide +kernel) rfl
theorem ckL_isCheated : CKh yL_isCheated cL_isCheated 5 [(0, 17, 20, 25)] 4 := ⟨w_651, w_60, ⟨by decide +kernel, by decide +kernel⟩, by decide +kernel, w_650⟩
theorem w_658 : Cond.codeWith yL_isVoid cL_isVoid 5 (some .int) [(0, 17, 20, 25)] ∈ TW := q_mem 658 (by decide +kernel) rfl
theorem ckL_isVoid : CKh yL_isVoid cL_isVoid 5 [(0, 17, 20, 25)] 4 := ⟨w_658, w_60, ⟨by decide +kernel, by decide +kernel⟩, by decide +kernel, w_657⟩
theorem w_665 : Cond.codeWith yL_hanging cL_hanging 4 (some .int) [(0, 9, 12, 25)] ∈ TW := q_mem 665 (by decide +kernel) rfl
theorem ckL_hanging : CKh yL_hanging cL_hanging 4 [(0, 9, 12, 25)] 3 := ⟨w_665, w_60, ⟨by decide +kernel, by decide +kernel⟩, by decide +kernel, w_664⟩
theorem w_677 : Cond.codeWith yL_score cL_score 4 (some .int) [(0, 9, 12, 25)] ∈ TW := q_mem 677 (by decide +kernel) rfl
theorem ckL_score : CKh yL_score cL_score 4 [(0, 9, 12, 25)] 3 := ⟨w_677, w_60, ⟨by decide +kernel, by decide +kernel⟩, by decide +kernel, w_676⟩
theorem w_684 : Cond.codeWith yL_scoreAnew cL_scoreAnew 4 (some .int) [(0, 9, 12, 25)] ∈ TW := q_mem 684 (by decide +kernel) rfl
theorem ckL_scoreAnew : CKh yL_scoreAnew cL_scoreAnew 4 [(0, 9, 12, 25)] 3 := ⟨w_684, w_60, ⟨by decide +kernel, by decide +kernel⟩, by decide +kernel, w_683⟩
theorem w_728 : Cond.codeWith yL_place cL_place 4 (some .int) [(0, 9, 12, 25)] ∈ TW := q_mem 728 (by decide +kernel) rfl
theorem ckL_place : CKh yL_place cL_place 4 [(0, 9, 12, 25)] 3 := ⟨w_728, w_60, ⟨by decide +kernel, by decide +kernel⟩, by decide +kernel, w_727⟩
theorem w_735 : Cond.codeWith yL_setPrize cL_setPrize 5 (some .int) [(0, 10, 13, 13)] ∈ TW := q_mem 735 (by decide +kernel) rfl
theorem ckL_setPrize : CKh yL_setPrize cL_setPrize 5 [(0, 10, 13, 13)] 4 := ⟨w_735, w_60, ⟨by decide +kernel, by decide +kernel⟩, by decide +kernel, w_734⟩
theorem w_742 : Cond.codeWith yL_prize cL_prize 4 (some .int) [(0, 9, 12, 25), (0, 9, 15, 15)] ∈ TW := q_mem 742 (by decide +kernel) rfl
theorem ckL_prize : CKh yL_prize cL_prize 4 [(0, 9, 12, 25), (0, 9, 15, 15)] 3 := ⟨w_742, w_60, ⟨by decide +kernel, by decide +kernel⟩, by decide +kernel, w_741⟩
