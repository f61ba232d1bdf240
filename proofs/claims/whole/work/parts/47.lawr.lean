section
/-! rows of the law's own walk: its worlds beside each other, its calls, the ends of its cases -/
theorem ap_l {α : Type} {w1 w2 : List α} {k : Nat} {x : α} (h : w1[k]? = some x) : (w1 ++ w2)[k]? = some x := by
  rw [List.getElem?_append_left (List.getElem?_eq_some_iff.mp h).1]; exact h
theorem ap_r {α : Type} {w1 w2 : List α} {k : Nat} {x : α} (h : w2[k]? = some x) : (w1 ++ w2)[w1.length + k]? = some x := by
  rw [List.getElem?_append_right (by omega)]
  have e : w1.length + k - w1.length = k := by omega
  rw [e]; exact h
theorem D_left {A : Nat → Prop} {w1 w2 : va_W} (h : va_D A (w1 ++ w2)) : va_D A w1 := ⟨fun i j p q hi hj e => h.1 i j p q (ap_l hi) (ap_l hj) e, fun k q hk => h.2 k q (ap_l hk)⟩
theorem D_right {A : Nat → Prop} {w1 w2 : va_W} (h : va_D A (w1 ++ w2)) : va_D A w2 := ⟨fun i j p q hi hj e => by
  have := h.1 _ _ p q (ap_r (w1 := w1) hi) (ap_r (w1 := w1) hj) e
  omega, fun k q hk => h.2 _ q (ap_r (w1 := w1) hk)⟩
theorem D_apart {A : Nat → Prop} {w1 w2 : va_W} (h : va_D A (w1 ++ w2)) {q : Nat} (h1 : aW w1 q) (h2 : aW w2 q) : False := by
  obtain ⟨k, e, hk⟩ := h1
  obtain ⟨k2, e2, hk2⟩ := h2
  have := h.1 _ _ (q, e) (q, e2) (ap_l hk) (ap_r (w1 := w1) hk2) rfl
  have := (List.getElem?_eq_some_iff.mp hk).1
  omega
theorem D_in {A : Nat → Prop} {ws : va_W} (h : va_D A ws) {q : Nat} (h1 : aW ws q) : A q := by
  obtain ⟨k, e, hk⟩ := h1
  exact h.2 k (q, e) hk
theorem P_keep {A : Nat → Prop} {D : va_G} {ws : va_W} {H H1 : Heap} (hP : va_P D vwCl ws H) (hk : ∀ q : Nat, q < H.size → ¬ A q → H1[q]? = H[q]?) (ha : ∀ q, aW ws q → ¬ A q) : va_P D vwCl ws H1 :=
  va_P.kept hP (fun k x hx => hk x.1 ((hP k x hx).lt) (ha x.1 ⟨k, x.2, hx⟩))
def CKh (y : MethodName) (b : ByteArray) (n : Nat) (hh : List (Nat × Nat × Nat × Nat)) (na : Nat) : Prop := Cond.codeWith y b n (some .int) hh ∈ TW ∧ Cond.initialized y.cls ∈ TW ∧ (y.cls ≠ "java/lang/invoke/MethodHandle" ∧ y.cls ≠ "java/lang/invoke/VarHandle") ∧ (parseMethodDescriptor y.desc).map (fun d => d.parameters.length) = some na ∧ Cond.static y ∈ TW
theorem q_codeW {s : State} {y : MethodName} {b : ByteArray} {n : Nat} {ret : Option FieldType} {hh : List (Nat × Nat × Nat × Nat)} (hE : EN s) (h : Cond.codeWith y b n ret hh ∈ TW) : ∀ w ∈ [Cond.codeWith y b n ret hh], ∀ (a' : Array Value) (U : State), s.WarmedH U.vm → w.before a' U = true := by
  intro w hw a' U hW
  cases List.mem_singleton.mp hw
  exact EN.warm hW hE _ h a'
section RowsL
variable {p : Program} {l : Launch} {e : Env} {R : Room} {s : State} {m : MethodId} {args : Array Value} {below : List Frame} {meth : Method} {c : Code} {H : Heap} {locs : List Loc} {cells slots : Nat} {Q : State → Prop}
variable {pc : Nat} {ls : Array Slot} {rest st0 : List Value} {A0 A1 : Nat → Prop} {H0 : Heap} {cc : ByteArray} {D : va_G} {cI cZ cL : ClassId} {ws ws' : va_W}
variable {nL idx n' k' : Nat} {own : String} {y : MethodName} {b' : ByteArray} {hh : List (Nat × Nat × Nat × Nat)} {av : List Value} {ao : Nat} {f f' : Nat → Int64} {v : Int32}
theorem q_runH (hx : p.tables.exec = Jvm.exec) (hb : c.code = cc) (hml : c.maxLocals = nL) (hown : s.vm.findClass own = some m.cls) (hE : EV D cI cZ cL s) (hT : ES s) (hZ : EZ q_no s H) (hC : EC s)
    (hM : HL l D cI cZ cL y b' n' hh k' av A1 ao ws ws' f f' v) (ck : CKh y b' n' hh av.length) (hl : Cond.methodLink own idx y ∈ TW) (hP : va_P D vwCl ws H) (hO : va_P D vwCl (wO ao cL f) H) (hls : ls.size = nL) (hst : st0 = av.reverse ++ rest)
    (hR : k' + 1 ≤ R.frames ∧ 8 + (n' + 11) + 30 * k' ≤ R.locals) (hc : (rest.map fun v => v.category).sum ≤ 8) (hdg : decode cc pc = .ok (.invokestatic idx, 3)) (hf : cells + 1 ≤ R.cells ∧ slots + 6 ≤ R.slots) :
    va_Run p l e R s m args below meth c H locs cells slots 1 6 (F0 m pc ls st0) rest (QH D cL A1 ao f' ws' v av.toArray) A1 :=
  vx_runSW (Ts := []) ⟨hx, hb, hml, hown, fun _ h => nomatch h⟩ hM ⟨⟨rfl, rfl, hR.1, hR.2, q_codeW hE.1 ck.1, List.mem_singleton.mpr rfl⟩, hE.1 _ ck.1 _, hE.1 _ ck.2.1 _, ck.2.2.1, q_npar ck.2.2.2.1, hE.1 _ hl _, hE.1 _ ck.2.2.2.2 _⟩
    ⟨PcH.blind, fun U hU hW => ⟨rfl, EV.warm hW hE, ES.warm hW hT, by rw [hU]; exact EZ.moved hW.alike hZ, EC.moved hW.alike hC, by rw [hU]; exact hP, by rw [hU]; exact hO⟩⟩ rfl rfl hls hst (lv_room hc) hdg hf
theorem q_hl (hr : va_Run p l e R s m args below meth c H locs cells slots 1 6 (F0 m pc ls st0) rest (fun st oc t => oc = .returned (some (.int v)) ∧ (va_P D vwCl ws' t.heap ∧ va_P D vwCl (wO ao cL f') t.heap) ∧ va_F A1 st t) A1) (hS : va_S A0 H0 H locs) (hA : ∀ q, A1 q → A0 q)
    (kk : ∀ (H1 : Heap) (locs1 : List Loc), va_P D vwCl ws' H1 → va_P D vwCl (wO ao cL f') H1 → (∀ q : Nat, q < H.size → ¬ A1 q → H1[q]? = H[q]?) → va_S A0 H0 H1 locs1 → W p l e R s m args below meth c H1 locs1 (cells + 1) (slots + 6) Q (F0 m (pc + 3) ls (.int v :: rest))) : W p l e R s m args below meth c H locs cells slots Q (F0 m pc ls st0) := by
  intro T hT X
  obtain ⟨v1, st₀, t, T', L, h0, X', hL, e1, e2, ⟨hv, ⟨hp, ho⟩, hz, hk⟩, st⟩ := hr T hT X
  cases hv
  rw [h0] at hz hk
  obtain ⟨t2, a1, b1⟩ := kk T'.heap (locs ++ L) (by rw [e1]; exact hp) (by rw [e1]; exact ho) (fun q h1 h2 => by rw [e1]; exact hk q h1 h2)
    ⟨Nat.le_trans hS.1 (by rw [e1]; exact hz), fun q h1 h2 => by rw [e1, hk q (Nat.lt_of_lt_of_le h1 hS.1) (fun z => h2 (hA q z))]; exact hS.2.1 q h1 h2, fun q hq => by
      rcases List.mem_append.mp hq with h | h
      · exact hS.2.2 q h
      · exact hA _ (hL q h)⟩ T' rfl X'
  exact ⟨t2, st t2 a1, b1⟩
theorem q_wr2 {x : Value} (hr : va_Run p l e R s m args below meth c H locs cells slots 0 0 (F0 m pc ls st0) rest (fun st oc t => oc = .returned (some x) ∧ va_P D vwCl ws' t.heap ∧ va_F A1 st t) A1) (hS : va_S A0 H0 H locs) (hA : ∀ q, A1 q → A0 q)
    (kk : ∀ (H1 : Heap) (locs1 : List Loc), va_P D vwCl ws' H1 → (∀ q : Nat, q < H.size → ¬ A1 q → H1[q]? = H[q]?) → va_S A0 H0 H1 locs1 → W p l e R s m args below meth c H1 locs1 cells slots Q (F0 m (pc + 3) ls (x :: rest))) : W p l e R s m args below meth c H locs cells slots Q (F0 m pc ls st0) := by
  intro T hT X
  obtain ⟨v1, st₀, t, T', L, h0, X', hL, e1, e2, ⟨hv, hp, hz, hk⟩, st⟩ := hr T hT X
  cases hv
  rw [h0] at hz hk
  obtain ⟨t2, a1, b1⟩ := kk T'.heap (locs ++ L) (by rw [e1]; exact hp) (fun q h1 h2 => by rw [e1]; exact hk q h1 h2)
    ⟨Nat.le_trans hS.1 (by rw [e1]; exact hz), fun q h1 h2 => by rw [e1, hk q (Nat.lt_of_lt_of_le h1 hS.1) (fun z => h2 (hA q z))]; exact hS.2.1 q h1 h2, fun q hq => by
      rcases List.mem_append.mp hq with h | h
      · exact hS.2.2 q h
      · exact hA _ (hL q h)⟩ T' rfl X'
  exact ⟨t2, st t2 a1, b1⟩
end RowsL
/-- what stays while the law runs -/
def LC (p : Program) (l : Launch) (s : State) (m : MethodId) (meth : Method) (c : Code) (b L : Nat) (xs : Nat → Int32) (D : va_G) (cI cZ cL : ClassId) (ad am : Nat → Nat) (ao : Nat) : Prop :=
  (p.tables.exec = Jvm.exec ∧ c.code = code ∧ meth.sig.returnType = ret ∧ c.maxLocals = 7 ∧ s.vm.findClass R_law = some m.cls ∧ meth.locks = false ∧ l.flags = flags0 ∧ L ≤ 2560) ∧ (EV D cI cZ cL s ∧ ES s ∧ EZ (fun q => s.heap.size ≤ q) s s.heap ∧ EC s) ∧ (va_X b L xs s s.heap ∧ b < s.heap.size) ∧ ∀ S M th f, va_D (fun q => s.heap.size ≤ q) (wO ao cL f ++ (wC ad cI S ++ wQ am cI cZ M th))
/-- the three worlds -/
def LW (s : State) (D : va_G) (cI cZ cL : ClassId) (ad am : Nat → Nat) (ao : Nat) (S M : Mem) (th : Int32) (f : Nat → Int64) (H : Heap) (locs : List Loc) : Prop :=
  va_P D vwCl (wC ad cI S) H ∧ va_P D vwCl (wO ao cL f) H ∧ va_P D vwCl (wQ am cI cZ M th) H ∧ va_S (fun q => s.heap.size ≤ q) s.heap H locs
section Seg
variable {p : Program} {l : Launch} {e : Env} {s : State} {m : MethodId} {args : Array Value} {below : List Frame} {meth : Method} {c : Code} {H : Heap} {locs : List Loc} {cells slots : Nat} {Q : State → Prop}
variable {b L : Nat} {xs : Nat → Int32} {D : va_G} {cI cZ cL : ClassId} {ad am : Nat → Nat} {ao : Nat} {S S' M M' : Mem} {th th' : Int32} {f f' : Nat → Int64}
variable {pc : Nat} {ls : Array Slot} {rest st0 : List Value} {nL idx n' k' i : Nat} {y : MethodName} {b' : ByteArray} {ret' : Option FieldType} {hh : List (Nat × Nat × Nat × Nat)} {av As : List Value} {v : Int32} {x : Value}
theorem l_arg {k : Nat} {n : Int} {lv : List (Nat × Value)} {j0 j4 : Nat} (C : LC p l s m meth c b L xs D cI cZ cL ad am ao) (hw : LW s D cI cZ cL ad am ao S M th f H locs) (hl : lv_has ls 7 lv) (h0 : lv[j0]? = some (0, .ref b)) (h4 : lv[j4]? = some (4, .int (nI i))) (hk : i + k < L) (hn : Int32.ofInt n = nI k)
    (d0 : decode code pc = .ok (.aload_n 0, 1)) (d1 : decode code (pc + 1) = .ok (.iload 4, 2)) (d2 : decode code (pc + 3) = .ok (.iconst n, 1)) (d3 : decode code (pc + 4) = .ok (.iadd, 1)) (d4 : decode code (pc + 5) = .ok (.iaload, 1))
    (kk : W p l e room_1 s m args below meth c H locs cells slots Q (F0 m (pc + 6) ls (.int (xs (i + k)) :: rest))) : W p l e room_1 s m args below meth c H locs cells slots Q (F0 m pc ls rest) := by
  obtain ⟨⟨hx, hb, hr, hml, hown, hlk, hfl, hL⟩, -, ⟨hX, hbl⟩, -⟩ := C
  obtain ⟨-, -, -, hS⟩ := hw
  refine lv_aload_n hx hb d0 rfl (lv_at hl j0 h0) ?_
  refine lv_iload hx hb d1 (lv_at hl j4 h4) ?_
  refine lv_iconst (v := nI k) hx hb d2 hn ?_
  refine lv_iadd hx hb d3 ?_
  refine q_top (y := nI (i + k)) (nI_add i k) ?_
  refine va_sld hx hb hX hbl (Nat.not_le.mpr hbl) hS (vp_in_nI hk (by omega)) d4 ?_
  rw [nI_clamp (by omega)]
  exact kk
theorem s_hlp (C : LC p l s m meth c b L xs D cI cZ cL ad am ao) (hw : LW s D cI cZ cL ad am ao S M th f H locs) (hcs : cells + 1 ≤ 1091 ∧ slots + 6 ≤ 11970)
    (hM : HL l D cI cZ cL y b' n' hh k' av (aW (wO ao cL f ++ wC ad cI S)) ao (wC ad cI S) (wC ad cI S') f f' v) (ck : CKh y b' n' hh av.length) (hml : Cond.methodLink R_law idx y ∈ TW) (hls : ls.size = 7) (hst : st0 = av.reverse ++ rest)
    (hR : k' + 1 ≤ room_1.frames ∧ 8 + (n' + 11) + 30 * k' ≤ room_1.locals) (hc : (rest.map fun v => v.category).sum ≤ 8) (hdg : decode code pc = .ok (.invokestatic idx, 3))
    (kk : ∀ (H : Heap) (locs : List Loc), LW s D cI cZ cL ad am ao S' M th f' H locs → W p l e room_1 s m args below meth c H locs (cells + 1) (slots + 6) Q (F0 m (pc + 3) ls (.int v :: rest))) : W p l e room_1 s m args below meth c H locs cells slots Q (F0 m pc ls st0) := by
  obtain ⟨⟨hx, hb, hr, hmx, hown, hlk, hfl, hL⟩, ⟨hE, hT, hZ, hC⟩, ⟨hX, hbl⟩, hD⟩ := C
  obtain ⟨hP, hO, hQ, hS⟩ := hw
  have hD2 := hD S M th f
  rw [← List.append_assoc] at hD2
  have hZ2 : EZ q_no s H := (hZ.kept (fun q h1 h2 => hS.2.1 q h1 h2)).narrow (fun _ h => h.elim)
  refine q_hl (q_runH hx hb hmx hown hE hT hZ2 hC hM ck hml hP hO hls hst hR hc hdg hcs) hS (fun q h => D_in (D_left hD2) h) (fun H1 locs1 hP1 hO1 hk1 hS1 => ?_)
  exact kk H1 locs1 ⟨hP1, hO1, P_keep hQ hk1 (fun q h1 h2 => D_apart hD2 h2 h1), hS1⟩
theorem s_mod (C : LC p l s m meth c b L xs D cI cZ cL ad am ao) (hw : LW s D cI cZ cL ad am ao S M th f H locs) (hcs : cells ≤ 1091 ∧ slots ≤ 11970)
    (hM : WR l D cI cZ cL y b' n' ret' k' (.ref (am 0) :: As) (aW (wQ am cI cZ M th)) (wQ am cI cZ M th) (wQ am cI cZ M' th') (some x)) (ck : CKv y b' n' ret' As.length) (hml : Cond.methodLink R_law idx y ∈ TW) (hy : y.cls = RX6) (hls : ls.size = 7) (hst : st0 = As.reverse ++ .ref (am 0) :: rest)
    (hR : k' + 1 ≤ room_1.frames ∧ 8 + (n' + 11) + 30 * k' ≤ room_1.locals) (hc : (rest.map fun v => v.category).sum ≤ 8) (hdg : decode code pc = .ok (.invokevirtual idx, 3))
    (kk : ∀ (H : Heap) (locs : List Loc), LW s D cI cZ cL ad am ao S M' th' f H locs → W p l e room_1 s m args below meth c H locs cells slots Q (F0 m (pc + 3) ls (x :: rest))) : W p l e room_1 s m args below meth c H locs cells slots Q (F0 m pc ls st0) := by
  obtain ⟨⟨hx, hb, hr, hmx, hown, hlk, hfl, hL⟩, ⟨hE, hT, hZ, hC⟩, ⟨hX, hbl⟩, hD⟩ := C
  obtain ⟨hP, hO, hQ, hS⟩ := hw
  have hD2 := hD S M th f
  have hDQ := D_right (D_right hD2)
  refine q_wr2 (q_runV (ci := 6) (T := TX6) (N := 22) hx hb hmx hown hE hM ck hml hQ 0 rfl (by rw [hy]; rfl) hls hst hR hc hdg hcs) hS (fun q h => D_in hDQ h) (fun H1 locs1 hQ1 hk1 hS1 => ?_)
  exact kk H1 locs1 ⟨P_keep hP hk1 (fun q h1 h2 => D_apart (D_right hD2) h1 h2), P_keep hO hk1 (fun q h1 h2 => D_apart hD2 h1 (by
    obtain ⟨k, e9, hk⟩ := h2
    exact ⟨_, e9, ap_r (w1 := wC ad cI S) hk⟩)), hQ1, hS1⟩
theorem s_cls (C : LC p l s m meth c b L xs D cI cZ cL ad am ao) (hw : LW s D cI cZ cL ad am ao S M th f H locs) (hcs : cells ≤ 1091 ∧ slots ≤ 11970)
    (hM : WR l D cI cZ cL y b' n' ret' k' (.ref (ad 0) :: As) (aW (wC ad cI S)) (wC ad cI S) (wC ad cI S') (some x)) (ck : CKv y b' n' ret' As.length) (hml : Cond.methodLink R_law idx y ∈ TW) (hy : y.cls = RX5) (hls : ls.size = 7) (hst : st0 = As.reverse ++ .ref (ad 0) :: rest)
    (hR : k' + 1 ≤ room_1.frames ∧ 8 + (n' + 11) + 30 * k' ≤ room_1.locals) (hc : (rest.map fun v => v.category).sum ≤ 8) (hdg : decode code pc = .ok (.invokevirtual idx, 3))
    (kk : ∀ (H : Heap) (locs : List Loc), LW s D cI cZ cL ad am ao S' M th f H locs → W p l e room_1 s m args below meth c H locs cells slots Q (F0 m (pc + 3) ls (x :: rest))) : W p l e room_1 s m args below meth c H locs cells slots Q (F0 m pc ls st0) := by
  obtain ⟨⟨hx, hb, hr, hmx, hown, hlk, hfl, hL⟩, ⟨hE, hT, hZ, hC⟩, ⟨hX, hbl⟩, hD⟩ := C
  obtain ⟨hP, hO, hQ, hS⟩ := hw
  have hD2 := hD S M th f
  have hDC := D_left (D_right hD2)
  refine q_wr2 (q_runV (ci := 5) (T := TX5) (N := 12) hx hb hmx hown hE hM ck hml hP 0 rfl (by rw [hy]; rfl) hls hst hR hc hdg hcs) hS (fun q h => D_in hDC h) (fun H1 locs1 hP1 hk1 hS1 => ?_)
  exact kk H1 locs1 ⟨hP1, P_keep hO hk1 (fun q h1 h2 => D_apart hD2 h1 (by
    obtain ⟨k, e9, hk⟩ := h2
    exact ⟨k, e9, ap_l hk⟩)), P_keep hQ hk1 (fun q h1 h2 => D_apart (D_right hD2) h2 h1), hS1⟩
end Seg
end
