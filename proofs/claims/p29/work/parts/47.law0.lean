/-! p29: rows of the law's own walk -/
def R_law : String := "PuzzleRegistryLaw"
theorem ap_l {α : Type} {w1 w2 : List α} {k : Nat} {x : α} (h : w1[k]? = some x) : (w1 ++ w2)[k]? = some x := by
  rw [List.getElem?_append_left (List.getElem?_eq_some_iff.mp h).1]; exact h
theorem ap_r {α : Type} {w1 w2 : List α} {k : Nat} {x : α} (h : w2[k]? = some x) : (w1 ++ w2)[w1.length + k]? = some x := by
  rw [List.getElem?_append_right (by omega)]
  have e : w1.length + k - w1.length = k := by omega
  rw [e]; exact h
theorem D_left {A : Nat → Prop} {w1 w2 : va_W} (h : va_D A (w1 ++ w2)) : va_D A w1 := ⟨fun i j p q hi hj e => h.1 i j p q (ap_l hi) (ap_l hj) e, fun k q hk => h.2 k q (ap_l hk)⟩
theorem D_right {A : Nat → Prop} {w1 w2 : va_W} (h : va_D A (w1 ++ w2)) : va_D A w2 := ⟨fun i j p q hi hj e => by
  have := h.1 _ _ p q (ap_r (w1 := w1) hi) (ap_r (w1 := w1) hj) e
  omega, fun k q hk => h.2 _ q (ap_r (w1 := w1) hk)⟩
theorem D_apart {A : Nat → Prop} {w1 w2 : va_W} (h : va_D A (w1 ++ w2)) {q : Nat} (h1 : aW w1 q) (h2 : aW w2 q) : False := by
  obtain ⟨k, e, hk⟩ := h1
  obtain ⟨k2, e2, hk2⟩ := h2
  have := h.1 _ _ (q, e) (q, e2) (ap_l hk) (ap_r (w1 := w1) hk2) rfl
  have := (List.getElem?_eq_some_iff.mp hk).1
  omega
theorem D_in {A : Nat → Prop} {ws : va_W} (h : va_D A ws) {q : Nat} (h1 : aW ws q) : A q := by
  obtain ⟨k, e, hk⟩ := h1
  exact h.2 k (q, e) hk
/-- the end: it answers 0, or more than 161 cells are new -/
def QL : Array Value → State → Outcome → State → Prop := fun _ st oc t => oc = .returned (some (.int 0)) ∨ st.heap.size + 162 ≤ t.heap.size
/-- new cells for sure ahead of turn n -/
def LB (n : Nat) : Nat := 80 + 19 * ((n + 21) / 22)
theorem FA.team {fa : Mem} {m0 m1 : Nat} (h : FA fa m0 m1) (hm : m1 + 1 ≤ 2) : FA (st fa 5 1 (nI (m1 + 1))) m0 (m1 + 1) := by
  obtain ⟨⟨h1, h2⟩, ⟨h3, h4, h5, h6⟩, h7, h8, h9⟩ := h
  refine ⟨⟨h1, hm⟩, ⟨?_, ?_, ?_, ?_⟩, ?_, ?_, ?_⟩
  · rw [st_off (by omega)]; exact h3
  · exact st_at
  · rw [st_off (by omega)]; exact h5
  · rw [st_off (by omega)]; exact h6
  · rw [st_ne (by omega)]; exact h7
  · rw [st_ne (by omega)]; exact h8
  · rw [st_ne (by omega)]; exact h9
theorem FA.rid {fa : Mem} {m0 m1 : Nat} (h : FA fa m0 m1) (hm : m0 + 1 ≤ 3) : FA (st fa 5 0 (nI (m0 + 1))) (m0 + 1) m1 := by
  obtain ⟨⟨h1, h2⟩, ⟨h3, h4, h5, h6⟩, h7, h8, h9⟩ := h
  refine ⟨⟨hm, h2⟩, ⟨?_, ?_, ?_, ?_⟩, ?_, ?_, ?_⟩
  · exact st_at
  · rw [st_off (by omega)]; exact h4
  · rw [st_off (by omega)]; exact h5
  · rw [st_off (by omega)]; exact h6
  · rw [st_ne (by omega)]; exact h7
  · rw [st_ne (by omega)]; exact h8
  · rw [st_ne (by omega)]; exact h9
theorem FA.word {fa : Mem} {m0 m1 i : Nat} {x : Int32} (h : FA fa m0 m1) (hi : i % 6 < 4) : FA (st fa 0 i x) m0 m1 := by
  obtain ⟨⟨h1, h2⟩, ⟨h3, h4, h5, h6⟩, h7, h8, h9⟩ := h
  refine ⟨⟨h1, h2⟩, ⟨?_, ?_, ?_, ?_⟩, ?_, ?_, fun k => ⟨?_, ?_⟩⟩
  · rw [st_ne (by omega)]; exact h3
  · rw [st_ne (by omega)]; exact h4
  · rw [st_ne (by omega)]; exact h5
  · rw [st_ne (by omega)]; exact h6
  · rw [st_ne (by omega)]; exact h7
  · rw [st_ne (by omega)]; exact h8
  · rw [st_off (by omega)]; exact (h9 k).1
  · rw [st_off (by omega)]; exact (h9 k).2
/-- the two calls of this script that change something -/
theorem nn_addT {S : Mem} {m0 m1 : Nat} (h : JS S m0 m1) (hm : m1 < 8) : oAddT S = (none, nI m1, st S 0 9 (nI (m1 + 1))) := by
  rw [oAddT, if_pos h.2.2.1, h.t, if_pos hm]
theorem js_addT {S : Mem} {m0 m1 : Nat} (h : JS S m0 m1) (hm : m1 < 8) : JS (oAddT S).2.2 m0 (m1 + 1) := by
  rw [nn_addT h hm]
  show JS (st S 0 9 (nI (m1 + 1))) m0 (m1 + 1)
  obtain ⟨h1, ⟨h2, h3⟩, h4, h5, h6, h7, h8⟩ := h
  have e : cT (st S 0 9 (nI (m1 + 1))) = m1 + 1 := by unfold cT; rw [st_at]; exact iN_nI (by omega)
  refine ⟨⟨?_, ?_, ?_, ?_, ?_⟩, ⟨?_, e⟩, ?_, ?_, ?_, ?_, ?_⟩
  · rw [e, st_at]; exact ⟨rfl, by omega⟩
  · exact h1.2.1
  · exact h1.2.2.1
  · exact h1.2.2.2.1
  · exact h1.2.2.2.2
  · exact h2
  · rw [st_off (by omega)]; exact h4
  · exact h5
  · exact h6
  · exact h7
  · exact h8
theorem nn_addR {S : Mem} {m0 m1 : Nat} (h : JS S m0 m1) (hm : m0 < 16) : oAddR S 1 0 0 1 = (none, nI m0, p_addR S 1 0 0 1) := by
  rw [oAddR, if_pos (by decide), if_pos (by decide), if_pos (by decide), if_pos (by decide), if_pos h.2.2.1, h.r, if_pos hm]
theorem js_addR {S : Mem} {m0 m1 : Nat} (h : JS S m0 m1) (hm : m0 < 16) : JS (oAddR S 1 0 0 1).2.2 (m0 + 1) m1 := by
  rw [nn_addR h hm]
  show JS (p_addR S 1 0 0 1) (m0 + 1) m1
  unfold p_addR
  obtain ⟨h1, ⟨h2, h3⟩, h4, h5, h6, h7, h8⟩ := h
  rw [h2]
  generalize hS4 : st (st (st (st S 2 m0 1) 3 m0 0) 4 m0 0) 5 m0 1 = S4
  have k : ∀ c, (c < 2 ∨ 5 < c) → S4 c = S c := fun c hc => by rw [← hS4, st_ne (by omega), st_ne (by omega), st_ne (by omega), st_ne (by omega)]
  have hI : I0 S4 := by
    rw [← hS4]
    exact I0_2 (.inr (by omega)) (I0_2 (.inr (by omega)) (I0_2 (.inr (by omega)) (I0_2 (.inr (by omega)) h1)))
  have e : cR (st S4 1 6 (nI (m0 + 1))) = m0 + 1 := by unfold cR; rw [st_at]; exact iN_nI (by omega)
  refine ⟨⟨?_, ?_, ?_, ?_, ?_⟩, ⟨e, ?_⟩, ?_, ?_, ?_, ?_, ?_⟩
  · exact hI.1
  · rw [e, st_at]; exact ⟨rfl, by omega⟩
  · exact hI.2.2.1
  · exact hI.2.2.2.1
  · exact hI.2.2.2.2
  · rw [← h3]; exact cT_congr (k 0 (by omega))
  · rw [st_ne (by omega), k 0 (by omega)]; exact h4
  · rw [st_ne (by omega), k 6 (by omega)]; exact h5
  · rw [st_ne (by omega), k 19 (by omega)]; exact h6
  · rw [st_ne (by omega), k 20 (by omega)]; exact h7
  · rw [st_ne (by omega), k 22 (by omega)]; exact h8
theorem js_0 : JS mem0 0 0 := by
  refine ⟨⟨⟨?_, ?_⟩, ⟨?_, ?_⟩, ⟨?_, ?_⟩, ?_, ?_⟩, ⟨?_, ?_⟩, ?_, ?_, ?_, ?_, ?_⟩
  all_goals first | rfl | (exact (by decide : (0 : Nat) ≤ _)) | (intro i; rfl) | skip
  · exact Nat.zero_le _
  · exact Nat.zero_le _
  · exact Nat.zero_le _
  · intro k hk; exact absurd hk (Nat.not_lt_zero k)
  · intro c hc; exact ⟨rfl, Nat.zero_le _⟩
theorem fa_0 : FA (st (fun _ _ => 0) 5 3 3) 0 0 := by
  refine ⟨⟨Nat.zero_le _, Nat.zero_le _⟩, ⟨rfl, rfl, rfl, rfl⟩, fun _ => rfl, fun _ => rfl, fun _ => ⟨rfl, rfl⟩⟩
/-- the script: 110 threes at the least -/
def PcD (D : va_G) (cI cZ cL : ClassId) (b L : Nat) (xs : Nat → Int32) (av : List Value) : Array Value → State → Prop := va_Pc av (fun U => EV D cI cZ cL U ∧ va_X b L xs U U.heap ∧ b < U.heap.size)
theorem PcD.blind {D : va_G} {cI cZ cL : ClassId} {b L : Nat} {xs : Nat → Int32} {av : List Value} : FrameBlind (PcD D cI cZ cL b L xs av) := fun _ U _ _ q => ⟨q.1, EV.call q.2.1, va_X.moved (u := U) (Vm.Alike.refl U.vm) q.2.2.1, q.2.2.2⟩
/-- what stays in the law's walk -/
def LX (p : Program) (l : Launch) (s : State) (m : MethodId) (meth : Method) (c : Code) (b L : Nat) (xs : Nat → Int32) (D : va_G) (cI cZ cL : ClassId) (ad aa : Nat → Nat) : Prop :=
  GC p l s m c code 20 R_law D cI cZ cL (fun q => s.heap.size ≤ q) ad aa ∧ (meth.sig.returnType = some .boolean ∧ meth.locks = false) ∧ (∀ fa S, va_D (fun q => s.heap.size ≤ q) (wA aa cI fa ++ wC ad cI S)) ∧ (va_X b L xs s s.heap ∧ b < s.heap.size) ∧ 110 ≤ L ∧ L < 2 ^ 31 ∧ ∀ k, k < 110 → xs k = 3
theorem v_329 : Cond.code yL_dice cL_dice 2 (some .int) ∈ TW := q_mem 329 (by decide +kernel) rfl
theorem v_328 : Cond.static yL_dice ∈ TW := q_mem 328 (by decide +kernel) rfl
theorem v_331 : Cond.constant "PuzzleRegistryLaw" 8 (2147483647 : Int32) ∈ TW := q_mem 331 (by decide +kernel) rfl
theorem v_327 : Cond.methodLink "PuzzleRegistryLaw" 145 yL_dice ∈ TW := q_mem 327 (by decide +kernel) rfl
theorem v_58 : Cond.methodLink "PuzzleRegistryLaw" 140 yX5_init ∈ TW := q_mem 58 (by decide +kernel) rfl
theorem v_56 : Cond.classLink "PuzzleRegistryLaw" 10 "PuzzleRegistry" ∈ TW := q_mem 56 (by decide +kernel) rfl
theorem ck_L_dice : CKg yL_dice (Cond.code yL_dice cL_dice 2 (some .int)) 2 := ⟨v_329, w_60, ⟨by decide +kernel, by decide +kernel⟩, by decide +kernel, v_328⟩
theorem dL_dice_0 : decode cL_dice 0 = .ok (.iload_n 1, 1) := by decide +kernel
theorem dL_dice_1 : decode cL_dice 1 = .ok (.aload_n 0, 1) := by decide +kernel
theorem dL_dice_2 : decode cL_dice 2 = .ok (.arraylength, 1) := by decide +kernel
theorem dL_dice_3 : decode cL_dice 3 = .ok (.if_icmp .ge 9, 3) := by decide +kernel
theorem dL_dice_6 : decode cL_dice 6 = .ok (.aload_n 0, 1) := by decide +kernel
theorem dL_dice_7 : decode cL_dice 7 = .ok (.iload_n 1, 1) := by decide +kernel
theorem dL_dice_8 : decode cL_dice 8 = .ok (.iaload, 1) := by decide +kernel
theorem dL_dice_9 : decode cL_dice 9 = .ok (.goto 23, 3) := by decide +kernel
theorem dL_dice_32 : decode cL_dice 32 = .ok (.ldc 8, 2) := by decide +kernel
theorem dL_dice_34 : decode cL_dice 34 = .ok (.iand, 1) := by decide +kernel
theorem dL_dice_35 : decode cL_dice 35 = .ok (.ireturn, 1) := by decide +kernel
theorem t_dice {l : Launch} {D : va_G} {cI cZ cL : ClassId} {b L : Nat} {xs : Nat → Int32} {n : Nat} (hn : n < L) (hL : L < 2 ^ 31) (hv : xs n = 3) : Met l yL_dice [Cond.code yL_dice cL_dice 2 (some .int)] (rm 2 0 0) (PcD D cI cZ cL b L xs [.ref b, .int (nI n)]) (Qrd (some (.int 3))) 0 0 q_no := by
  refine Met.ofW (cc := cL_dice) (maxL := 2) (ret := some .int) (by decide) rfl ?_
  intro p e s m args below meth c s₁ B hml hv9
  obtain ⟨rfl, hE, hX, hbl⟩ := hv9
  have hl := lv_entry [.ref b, .int (nI n)] (n := 2) (Nat.le_of_ble_eq_true rfl)
  rw [lg_entry_eq]
  generalize (lg_sl [.ref b, .int (nI n)] ++ List.replicate (2 - (lg_sl [.ref b, .int (nI n)]).length) Slot.unset).toArray = ls at hl ⊢
  have hl : lv_has ls 2 [(0, .ref b), (1, .int (nI n))] := hl
  have hx := B.exec
  have hb := B.bytes
  have hown := findClass_of_methodNamed B.named
  refine lv_iload_n hx hb dL_dice_0 rfl (lv_at hl 1 rfl) ?_
  refine lv_aload_n hx hb dL_dice_1 rfl (lv_at hl 0 rfl) ?_
  refine va_slen (A := q_no) (H0 := s.heap) hx hb hX hbl (fun h => h) va_S.rf dL_dice_2 ?_
  refine q_top (y := nI L) rfl ?_
  refine lv_icmp_ge (tgt := 12) hx hb dL_dice_3 (by decide) (fun c_1 => ?_) (fun c_1 => ?_)
  · have c_1 : L ≤ n := n_le (a := L) (b := n) (by omega) (by omega) c_1
    omega
  · refine lv_aload_n hx hb dL_dice_6 rfl (lv_at hl 0 rfl) ?_
    refine lv_iload_n hx hb dL_dice_7 rfl (lv_at hl 1 rfl) ?_
    refine va_sld (A := q_no) (H0 := s.heap) hx hb hX hbl (fun h => h) va_S.rf (vp_in_nI hn (by omega)) dL_dice_8 ?_
    rw [nI_clamp (by omega), hv]
    refine lv_goto (tgt := 32) hx hb dL_dice_9 (by decide) ?_
    refine lv_ldc (v := 2147483647) hx hb hown (hE.1 _ v_331 _) dL_dice_32 ?_
    refine lv_iand hx hb dL_dice_34 ?_
    refine q_top (y := 3) (by decide) ?_
    exact e_ret hx hb B.returns B.notSynchronized rfl dL_dice_35
section LRows
variable {p : Program} {l : Launch} {e : Env} {s : State} {m : MethodId} {args : Array Value} {below : List Frame} {meth : Method} {c : Code} {H : Heap} {locs : List Loc} {cells slots : Nat} {Q : State → Prop}
variable {pc : Nat} {ls : Array Slot} {rest st0 : List Value} {D : va_G} {cI cZ cL : ClassId} {ad aa : Nat → Nat} {fa S : Mem} {m0 m1 kf mf : Nat} {b L : Nat} {xs : Nat → Int32}
theorem g_dice {n : Nat} (X : LX p l s m meth c b L xs D cI cZ cL ad aa) (hw : GW D cI (fun q => s.heap.size ≤ q) ad aa fa m0 m1 s S H locs) (hn : n < 110) (hls : ls.size = 20) (hR : 3 ≤ kf) (hf : cells ≤ mf ∧ slots ≤ 6 * mf) (hdg : decode code pc = .ok (.invokestatic 145, 3))
    (kk : W p l e (rg kf mf) s m args below meth c H locs cells slots Q (F0 m (pc + 3) ls [.int 3])) : W p l e (rg kf mf) s m args below meth c H locs cells slots Q (F0 m pc ls [.int (nI n), .ref b]) := by
  obtain ⟨⟨⟨hx, hb, hmx, hown, -⟩, ⟨hE, -, -, -⟩, -⟩, -, -, ⟨hX, hbl⟩, hL, hL2, hv⟩ := X
  have hX2 : va_X b L xs s H := hX.kept (hw.2.2.1.2.1 b hbl (Nat.not_le.mpr hbl))
  have hb2 : b < H.size := Nat.lt_of_lt_of_le hbl hw.2.2.1.1
  exact q_rd (va_runS (Ts := []) ⟨hx, hb, hmx, hown, fun _ h => nomatch h⟩ (t_dice (l := l) (D := D) (cI := cI) (cZ := cZ) (cL := cL) (b := b) (L := L) (xs := xs) (n := n) (by omega) hL2 (hv n hn)) ⟨⟨rfl, rfl, hR, by show 8 + (2 + 11) + 30 * 2 ≤ 60 * kf; omega, q_code hE.1 ck_L_dice.1, List.mem_singleton.mpr rfl, hE.1 _ ck_L_dice.1 _, hE.1 _ ck_L_dice.2.1 _, ck_L_dice.2.2.1, q_npar ck_L_dice.2.2.2.1, hE.1 _ v_327 _⟩, hE.1 _ ck_L_dice.2.2.2.2 _⟩
    ⟨PcD.blind, fun U hU hW => ⟨rfl, EV.warm hW hE, by rw [hU]; exact va_X.moved hW.alike hX2, by rw [hU]; exact hb2⟩⟩ rfl rfl hls rfl (lv_room (Nat.zero_le _)) hdg hf) kk
set_option maxRecDepth 100000 in
/-- a write into one of the law's arrays -/
theorem g_st {x : Int32} {i n : Nat} (X : LX p l s m meth c b L xs D cI cZ cL ad aa) (hw : GW D cI (fun q => s.heap.size ≤ q) ad aa fa m0 m1 s S H locs) (j : Nat) (he : (wA aa cI fa ++ wC ad cI S)[j]? = some (aa j, .inl (cI, n, .inl (fa j)))) (hi : i < n) (hn : n < 2 ^ 31) (hset : (wA aa cI fa ++ wC ad cI S).set j (aa j, .inl (cI, n, .inl (upd (fa j) i x))) = wA aa cI (st fa j i x) ++ wC ad cI S) (hdg : decode code pc = .ok (.iastore, 1))
    {R : Room} (kk : ∀ (H1 : Heap) (locs1 : List Loc), H.size ≤ H1.size → GW D cI (fun q => s.heap.size ≤ q) ad aa (st fa j i x) m0 m1 s S H1 locs1 → W p l e R s m args below meth c H1 locs1 cells slots Q (F0 m (pc + 1) ls rest)) : W p l e R s m args below meth c H locs cells slots Q (F0 m pc ls (.int x :: .int (nI i) :: .ref (aa j) :: rest)) := by
  obtain ⟨⟨⟨hx, hb, hmx, hown, -⟩, ⟨hE, -, -, -⟩, -⟩, -, hD, -⟩ := X
  obtain ⟨hP, hO, hS, hJ⟩ := hw
  have hP2 : va_P D vwCl (wA aa cI fa ++ wC ad cI S) H := hO.app hP
  have hin : vp_in (nI i) n := vp_in_nI hi hn
  have hcl : (nI i).toNatClampNeg = i := nI_clamp (by omega)
  refine W.iast hx hb (hP2 j _ he) ((hE.2.2 0 (cI, .int) rfl).1 n (fun j9 => .int (fa j j9))) (fun q => by cases q) (by show ¬ (nI i < 0 ∨ (arrV _ _ _).slots.size ≤ _); rw [arrV_size]; exact hin) rfl rfl hdg fun H1 e z oq => ?_
  have hP3 : va_P D vwCl ((wA aa cI fa ++ wC ad cI S).set j (aa j, .inl (cI, n, .inl (upd (fa j) i x)))) H1 := by
    refine hP2.set (hD fa S) he ?_ oq
    show H1[aa j]? = some (vp_cell _ _)
    rw [e, vp_cell_i, vp_cell_i, arrV_store, hcl]
    congr 2
    funext q
    by_cases hq : q = i
    · subst hq; simp [updV, upd]
    · simp [updV, upd, hq]
  rw [hset] at hP3
  exact kk H1 _ (Nat.le_of_eq z.symm) ⟨fun k q hk => hP3 _ q (ap_r (w1 := wA aa cI (st fa j i x)) hk), fun k q hk => hP3 k q (ap_l hk), hS.put z oq ((hD fa S).2 j _ he), hJ⟩
end LRows
