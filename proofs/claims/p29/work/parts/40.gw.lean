/-! p29: what the law's helpers work on (the class's cells, the law's seven arrays), rows for walks that leave the answers open -/
theorem aW_map {ws ws' : va_W} (h : ws.map Prod.fst = ws'.map Prod.fst) {q : Nat} (hq : aW ws q) : aW ws' q := by
  obtain ⟨k, e, hk⟩ := hq
  have h1 : (ws.map Prod.fst)[k]? = some q := by rw [List.getElem?_map, hk]; rfl
  rw [h, List.getElem?_map] at h1
  cases h2 : ws'[k]? with
  | none => rw [h2] at h1; cases h1
  | some z =>
    rw [h2] at h1
    have h3 : z.1 = q := Option.some.inj h1
    exact ⟨k, z.2, by rw [h2, ← h3]⟩
def aC (ad : Nat → Nat) (cI : ClassId) : Nat → Prop := aW (wC ad cI mem0)
theorem aC_of {ad : Nat → Nat} {cI : ClassId} {S : Mem} {q : Nat} (h : aW (wC ad cI S) q) : aC ad cI q := aW_map (ws := wC ad cI S) (ws' := wC ad cI mem0) rfl h
def wA (aa : Nat → Nat) (cI : ClassId) (fa : Mem) : va_W := [(aa 0, .inl (cI, 48, .inl (fa 0))), (aa 1, .inl (cI, 64, .inl (fa 1))), (aa 2, .inl (cI, 40, .inl (fa 2))), (aa 3, .inl (cI, 5, .inl (fa 3))), (aa 4, .inl (cI, 8, .inl (fa 4))), (aa 5, .inl (cI, 5, .inl (fa 5))), (aa 6, .inl (cI, 5, .inl (fa 6)))]
def rg (k c : Nat) : Room := { frames := k, cells := c, slots := 6 * c, locals := 60 * k }
/-- the class's memory while the law runs on this script: m0 riddles, m1 teams, nothing needed, solved, soon or paid, not ended -/
def JS (S : Mem) (m0 m1 : Nat) : Prop := I0 S ∧ (cR S = m0 ∧ cT S = m1) ∧ S 0 11 = 0 ∧ (∀ i, S 6 i = 0) ∧ (∀ i, S 19 i = 0) ∧ (∀ i, S 20 i = 0) ∧ (∀ i, S 22 i = 0)
theorem JS.congr {S S' : Mem} {m0 m1 : Nat} (hJ : JS S m0 m1) (h : ∀ c, c < 25 → S' c = S c) : JS S' m0 m1 := by
  obtain ⟨h1, ⟨h2, h3⟩, h4, h5, h6, h7, h8⟩ := hJ
  refine ⟨I0_congr (fun c hc => h c (by omega)) h1, ⟨?_, ?_⟩, ?_, ?_, ?_, ?_, ?_⟩
  · rw [← h2]; exact cR_congr (h 1 (by omega))
  · rw [← h3]; exact cT_congr (h 0 (by omega))
  · rw [h 0 (by omega)]; exact h4
  · rw [h 6 (by omega)]; exact h5
  · rw [h 19 (by omega)]; exact h6
  · rw [h 20 (by omega)]; exact h7
  · rw [h 22 (by omega)]; exact h8
/-- the law's arrays -/
def FA (fa : Mem) (m0 m1 : Nat) : Prop := (m0 ≤ 3 ∧ m1 ≤ 2) ∧ (fa 5 0 = nI m0 ∧ fa 5 1 = nI m1 ∧ fa 5 2 = 0 ∧ fa 5 4 = 0) ∧ (∀ i, fa 2 i = 0) ∧ (∀ i, fa 3 i = 0) ∧ ∀ k, fa 0 (6 * k + 4) = 0 ∧ fa 0 (6 * k + 5) = 0
/-- what stays in a walk -/
def GC (p : Program) (l : Launch) (s : State) (m : MethodId) (c : Code) (cc : ByteArray) (nL : Nat) (own : String) (D : va_G) (cI cZ cL : ClassId) (A : Nat → Prop) (ad aa : Nat → Nat) : Prop :=
  (p.tables.exec = Jvm.exec ∧ c.code = cc ∧ c.maxLocals = nL ∧ s.vm.findClass own = some m.cls ∧ l.flags = flags0) ∧ (EV D cI cZ cL s ∧ ES s ∧ EZ A s s.heap ∧ EC s) ∧ (va_D (aC ad cI) (wC ad cI mem0) ∧ (∀ q, aW (wA aa cI mem0) q → ¬ aC ad cI q) ∧ ∀ q, aC ad cI q → A q)
/-- the worlds -/
def GW (D : va_G) (cI : ClassId) (A : Nat → Prop) (ad aa : Nat → Nat) (fa : Mem) (m0 m1 : Nat) (s : State) (S : Mem) (H : Heap) (locs : List Loc) : Prop :=
  va_P D vwCl (wC ad cI S) H ∧ va_P D vwCl (wA aa cI fa) H ∧ va_S A s.heap H locs ∧ JS S m0 m1
def PcG (D : va_G) (cI cZ cL : ClassId) (ad aa : Nat → Nat) (fa S : Mem) (av : List Value) : Array Value → State → Prop :=
  va_Pc av (fun U => EV D cI cZ cL U ∧ ES U ∧ EZ (aC ad cI) U U.heap ∧ EC U ∧ va_P D vwCl (wC ad cI S) U.heap ∧ va_P D vwCl (wA aa cI fa) U.heap)
theorem PcG.blind {D : va_G} {cI cZ cL : ClassId} {ad aa : Nat → Nat} {fa S : Mem} {av : List Value} : FrameBlind (PcG D cI cZ cL ad aa fa S av) := fun _ U _ _ q => ⟨q.1, EV.call q.2.1, ES.call q.2.2.1, EZ.call q.2.2.2.1, EC.moved (u := U) (Vm.Alike.refl U.vm) q.2.2.2.2.1, q.2.2.2.2.2.1, q.2.2.2.2.2.2⟩
def QG (D : va_G) (cI : ClassId) (ad : Nat → Nat) (m0 m1 : Nat) (post : Value → Nat → Nat → Prop) : Array Value → State → Outcome → State → Prop :=
  fun _ st oc t => ∃ (v : Value) (S' : Mem), oc = .returned (some v) ∧ post v st.heap.size t.heap.size ∧ JS S' m0 m1 ∧ va_P D vwCl (wC ad cI S') t.heap ∧ va_F (aC ad cI) st t
/-- a helper's contract: it ends, the arrays stay, the class's memory is such a one again; m0', m1': the counts behind it -/
def GM (l : Launch) (D : va_G) (cI cZ cL : ClassId) (ad aa : Nat → Nat) (fa S : Mem) (y : MethodName) (ws : List Cond) (k mc : Nat) (av : List Value) (m0' m1' : Nat) (post : Value → Nat → Nat → Prop) : Prop :=
  Met l y ws (rg k mc) (PcG D cI cZ cL ad aa fa S av) (QG D cI ad m0' m1' post) mc (6 * mc) (aC ad cI)
theorem GM.of {l : Launch} {D : va_G} {cI cZ cL : ClassId} {ad aa : Nat → Nat} {fa S : Mem} {y : MethodName} {b : ByteArray} {n k mc : Nat} {ret : Option FieldType} {av : List Value} {m0 m1 m0' m1' : Nat} {post : Value → Nat → Nat → Prop} (hy : plainName y.cls = true) (hlen : (lg_sl av).length ≤ n) (hfl : l.flags = flags0) (hD : va_D (aC ad cI) (wC ad cI mem0)) (hA : ∀ q, aW (wA aa cI mem0) q → ¬ aC ad cI q) (hJ : JS S m0 m1)
    (body : ∀ (p : Program) (e : Env) (s : State) (m : MethodId) (args : Array Value) (below : List Frame) (meth : Method) (c : Code) (ls : Array Slot), p.tables.exec = Jvm.exec → c.code = b → meth.sig.returnType = ret → meth.locks = false → s.vm.findClass y.cls = some m.cls → GC p l s m c b n y.cls D cI cZ cL (aC ad cI) ad aa → GW D cI (aC ad cI) ad aa fa m0 m1 s S s.heap [] → lv_has ls n (lv_args 0 av) →
      W p l e (rg k mc) s m args below meth c s.heap [] 0 (6 * 0) (MQ below (QG D cI ad m0' m1' post) args s mc (6 * mc) (aC ad cI)) (F0 m 0 ls [])) : GM l D cI cZ cL ad aa fa S y [Cond.code y b n ret] k mc av m0' m1' post := by
  refine Met.ofW (cc := b) (maxL := n) (ret := ret) hy rfl ?_
  intro p e s m args below meth c s₁ B hml hv
  obtain ⟨rfl, hE, hT, hZ, hC, hP, hP2⟩ := hv
  have hl := lv_entry av hlen
  rw [lg_entry_eq]
  generalize (lg_sl av ++ List.replicate (n - (lg_sl av).length) Slot.unset).toArray = ls at hl ⊢
  have ho := findClass_of_methodNamed B.named
  exact body p e s m _ below meth c ls B.exec B.bytes B.returns B.notSynchronized ho ⟨⟨B.exec, B.bytes, hml, ho, hfl⟩, ⟨hE, hT, hZ, hC⟩, hD, hA, fun _ h => h⟩ ⟨hP, hP2, va_S.rf, hJ⟩ hl
theorem GM.ofW {l : Launch} {D : va_G} {cI cZ cL : ClassId} {ad aa : Nat → Nat} {fa S : Mem} {y : MethodName} {b : ByteArray} {n k mc : Nat} {hh : List (Nat × Nat × Nat × Nat)} {av : List Value} {m0 m1 m0' m1' : Nat} {post : Value → Nat → Nat → Prop} (hy : plainName y.cls = true) (hlen : (lg_sl av).length ≤ n) (hfl : l.flags = flags0) (hD : va_D (aC ad cI) (wC ad cI mem0)) (hA : ∀ q, aW (wA aa cI mem0) q → ¬ aC ad cI q) (hJ : JS S m0 m1)
    (body : ∀ (p : Program) (e : Env) (s : State) (m : MethodId) (args : Array Value) (below : List Frame) (meth : Method) (c : Code) (ls : Array Slot), p.tables.exec = Jvm.exec → c.code = b → meth.sig.returnType = some .int → meth.locks = false → s.vm.findClass y.cls = some m.cls → c.exceptionTable.toList = tableOf hh → GC p l s m c b n y.cls D cI cZ cL (aC ad cI) ad aa → GW D cI (aC ad cI) ad aa fa m0 m1 s S s.heap [] → lv_has ls n (lv_args 0 av) →
      W p l e (rg k mc) s m args below meth c s.heap [] 0 0 (MQ below (QG D cI ad m0' m1' post) args s mc (6 * mc) (aC ad cI)) (F0 m 0 ls [])) : GM l D cI cZ cL ad aa fa S y [Cond.codeWith y b n (some .int) hh] k mc av m0' m1' post := by
  refine va_MetW (cc := b) (maxL := n) (ret := some .int) (hh := hh) hy rfl ?_
  intro p e s m args below meth c s₁ B hml hv
  obtain ⟨rfl, hE, hT, hZ, hC, hP, hP2⟩ := hv
  have hl := lv_entry av hlen
  rw [lg_entry_eq]
  generalize (lg_sl av ++ List.replicate (n - (lg_sl av).length) Slot.unset).toArray = ls at hl ⊢
  have ho := findClass_of_methodNamed B.named
  have ht := vx_table (x := y) B (atoms_spec (ws := [Cond.codeWith y b n (some .int) hh]) B.pre _ List.mem_cons_self)
  exact body p e s m _ below meth c ls B.exec B.bytes B.returns B.notSynchronized ho ht ⟨⟨B.exec, B.bytes, hml, ho, hfl⟩, ⟨hE, hT, hZ, hC⟩, hD, hA, fun _ h => h⟩ ⟨hP, hP2, va_S.rf, hJ⟩ hl
def CKg (y : MethodName) (w : Cond) (na : Nat) : Prop := w ∈ TW ∧ Cond.initialized y.cls ∈ TW ∧ (y.cls ≠ "java/lang/invoke/MethodHandle" ∧ y.cls ≠ "java/lang/invoke/VarHandle") ∧ (parseMethodDescriptor y.desc).map (fun d => d.parameters.length) = some na ∧ Cond.static y ∈ TW
theorem q_codeW {s : State} {y : MethodName} {b : ByteArray} {n : Nat} {ret : Option FieldType} {hh : List (Nat × Nat × Nat × Nat)} (hE : EN s) (h : Cond.codeWith y b n ret hh ∈ TW) : ∀ w ∈ [Cond.codeWith y b n ret hh], ∀ (a' : Array Value) (U : State), s.WarmedH U.vm → w.before a' U = true := by
  intro w hw a' U hW
  cases List.mem_singleton.mp hw
  exact EN.warm hW hE _ h a'
theorem P_keep {A : Nat → Prop} {D : va_G} {ws : va_W} {H H1 : Heap} (hP : va_P D vwCl ws H) (hk : ∀ q : Nat, q < H.size → ¬ A q → H1[q]? = H[q]?) (ha : ∀ q, aW ws q → ¬ A q) : va_P D vwCl ws H1 :=
  va_P.kept hP (fun k x hx => hk x.1 ((hP k x hx).lt) (ha x.1 ⟨k, x.2, hx⟩))
theorem wA_of {aa : Nat → Nat} {cI : ClassId} {fa : Mem} {q : Nat} (h : aW (wA aa cI fa) q) : aW (wA aa cI mem0) q := aW_map (ws := wA aa cI fa) (ws' := wA aa cI mem0) rfl h
def pC (c : Int32) : Value → Nat → Nat → Prop := fun v a b => v = .int c ∧ a + 1 ≤ b
def pV (c : Int32) : Value → Nat → Nat → Prop := fun v _ _ => v = .int c
def pI : Value → Nat → Nat → Prop := fun v _ _ => ∃ z : Int32, v = .int z
def pB : Value → Nat → Nat → Prop := fun v _ _ => ∃ z : Bool, v = .int (bI z)
def pL : Value → Nat → Nat → Prop := fun v _ _ => ∃ z : Int64, v = .long z
/-- isRefused: whatever it answers, nineteen objects more -/
def pR : Value → Nat → Nat → Prop := fun v a b => (∃ z : Bool, v = .int (bI z)) ∧ a + 19 ≤ b
section GRows
variable {p : Program} {l : Launch} {e : Env} {s : State} {m : MethodId} {args : Array Value} {below : List Frame} {meth : Method} {c : Code} {H : Heap} {locs : List Loc} {cells slots : Nat} {Q : State → Prop}
variable {pc : Nat} {ls : Array Slot} {rest st0 : List Value} {A : Nat → Prop} {cc : ByteArray} {D : va_G} {cI cZ cL : ClassId} {ad aa : Nat → Nat} {fa S S' : Mem} {m0 m1 m0' m1' : Nat}
variable {nL idx n' k' kf mf mc' : Nat} {own : String} {y : MethodName} {b' : ByteArray} {ret' : Option FieldType} {As av : List Value} {x : Value} {hh : List (Nat × Nat × Nat × Nat)} {post : Value → Nat → Nat → Prop}
theorem g_rd (C : GC p l s m c cc nL own D cI cZ cL A ad aa) (hw : GW D cI A ad aa fa m0 m1 s S H locs) (hM : RD l D cI cZ cL y b' n' ret' k' (.ref (ad 0) :: As) (wC ad cI S) (some x)) (ck : CKv y b' n' ret' As.length) (hml : Cond.methodLink own idx y ∈ TW) (hy : y.cls = RX5) (hls : ls.size = nL) (hst : st0 = As.reverse ++ .ref (ad 0) :: rest)
    (hR : k' + 1 ≤ kf ∧ 8 + (n' + 11) + 30 * k' ≤ 60 * kf) (hc : (rest.map fun v => v.category).sum ≤ 8) (hdg : decode cc pc = .ok (.invokevirtual idx, 3)) (hf : cells ≤ mf ∧ slots ≤ 6 * mf)
    (kk : W p l e (rg kf mf) s m args below meth c H locs cells slots Q (F0 m (pc + 3) ls (x :: rest))) : W p l e (rg kf mf) s m args below meth c H locs cells slots Q (F0 m pc ls st0) := by
  obtain ⟨⟨hx, hb, hmx, hown, -⟩, ⟨hE, -, -, -⟩, -⟩ := C
  exact q_rd (q_runV (ci := 5) (T := TX5) (N := 12) hx hb hmx hown hE hM ck hml hw.1 0 rfl (by rw [hy]; rfl) hls hst hR hc hdg hf) kk
theorem g_wr (C : GC p l s m c cc nL own D cI cZ cL A ad aa) (hw : GW D cI A ad aa fa m0 m1 s S H locs) (hM : WR l D cI cZ cL y b' n' ret' k' (.ref (ad 0) :: As) (aC ad cI) (wC ad cI S) (wC ad cI S') (some x)) (hJ : JS S' m0' m1') (ck : CKv y b' n' ret' As.length) (hml : Cond.methodLink own idx y ∈ TW) (hy : y.cls = RX5) (hls : ls.size = nL) (hst : st0 = As.reverse ++ .ref (ad 0) :: rest)
    (hR : k' + 1 ≤ kf ∧ 8 + (n' + 11) + 30 * k' ≤ 60 * kf) (hc : (rest.map fun v => v.category).sum ≤ 8) (hdg : decode cc pc = .ok (.invokevirtual idx, 3)) (hf : cells ≤ mf ∧ slots ≤ 6 * mf)
    (kk : ∀ (S : Mem) (H1 : Heap) (locs1 : List Loc), H.size ≤ H1.size → GW D cI A ad aa fa m0' m1' s S H1 locs1 → W p l e (rg kf mf) s m args below meth c H1 locs1 cells slots Q (F0 m (pc + 3) ls (x :: rest))) : W p l e (rg kf mf) s m args below meth c H locs cells slots Q (F0 m pc ls st0) := by
  obtain ⟨⟨hx, hb, hmx, hown, -⟩, ⟨hE, -, -, -⟩, hD, hA, hAA⟩ := C
  obtain ⟨hP, hO, hS, -⟩ := hw
  have hr := q_runV (e := e) (locs := locs) (R := rg kf mf) (below := below) (args := args) (meth := meth) (ls := ls) (ci := 5) (T := TX5) (N := 12) hx hb hmx hown hE hM ck hml hP 0 rfl (by rw [hy]; rfl) hls hst hR hc hdg hf
  intro T hT X
  obtain ⟨v1, st₀, t, T', L, h0, X', hL, e1, e2, ⟨hv, hp, hz, hk⟩, st⟩ := hr T hT X
  cases hv
  rw [h0] at hz hk
  have hk1 : ∀ q : Nat, q < H.size → ¬ aC ad cI q → T'.heap[q]? = H[q]? := fun q h1 h2 => by rw [e1]; exact hk q h1 h2
  obtain ⟨t2, a1, b1⟩ := kk S' T'.heap (locs ++ L) (by rw [e1]; exact hz) ⟨by rw [e1]; exact hp, P_keep hO hk1 (fun q h => hA q (wA_of h)), ⟨Nat.le_trans hS.1 (by rw [e1]; exact hz), fun q h1 h2 => by rw [e1, hk q (Nat.lt_of_lt_of_le h1 hS.1) (fun z => h2 (hAA q z))]; exact hS.2.1 q h1 h2, fun q hq => by
      rcases List.mem_append.mp hq with h | h
      · exact hS.2.2 q h
      · exact hAA _ (hL q h)⟩, hJ⟩ T' rfl X'
  exact ⟨t2, st t2 a1, b1⟩
theorem g_run (hr : va_Run p l e (rg kf mf) s m args below meth c H locs cells slots mc' (6 * mc') (F0 m pc ls st0) rest (QG D cI ad m0' m1' post av.toArray) (aC ad cI)) (C : GC p l s m c cc nL own D cI cZ cL A ad aa) (hw : GW D cI A ad aa fa m0 m1 s S H locs)
    (kk : ∀ (v : Value) (S : Mem) (H1 : Heap) (locs1 : List Loc), post v H.size H1.size → H.size ≤ H1.size → GW D cI A ad aa fa m0' m1' s S H1 locs1 → W p l e (rg kf mf) s m args below meth c H1 locs1 (cells + mc') (slots + 6 * mc') Q (F0 m (pc + 3) ls (v :: rest))) : W p l e (rg kf mf) s m args below meth c H locs cells slots Q (F0 m pc ls st0) := by
  obtain ⟨-, -, hD, hA, hAA⟩ := C
  obtain ⟨hP, hO, hS, -⟩ := hw
  intro T hT X
  obtain ⟨v1, st₀, t, T', L, h0, X', hL, e1, e2, ⟨v, S9, hv, hpo, hJ, hp, hz, hk⟩, st⟩ := hr T hT X
  cases hv
  rw [h0] at hz hk hpo
  have hk1 : ∀ q : Nat, q < H.size → ¬ aC ad cI q → T'.heap[q]? = H[q]? := fun q h1 h2 => by rw [e1]; exact hk q h1 h2
  obtain ⟨t2, a1, b1⟩ := kk v S9 T'.heap (locs ++ L) (by rw [e1]; exact hpo) (by rw [e1]; exact hz) ⟨by rw [e1]; exact hp, P_keep hO hk1 (fun q h => hA q (wA_of h)), ⟨Nat.le_trans hS.1 (by rw [e1]; exact hz), fun q h1 h2 => by rw [e1, hk q (Nat.lt_of_lt_of_le h1 hS.1) (fun z => h2 (hAA q z))]; exact hS.2.1 q h1 h2, fun q hq => by
      rcases List.mem_append.mp hq with h | h
      · exact hS.2.2 q h
      · exact hAA _ (hL q h)⟩, hJ⟩ T' rfl X'
  exact ⟨t2, st t2 a1, b1⟩
/-- a helper's call -/
theorem g_hl (C : GC p l s m c cc nL own D cI cZ cL A ad aa) (hw : GW D cI A ad aa fa m0 m1 s S H locs) (hM : GM l D cI cZ cL ad aa fa S y [Cond.code y b' n' ret'] k' mc' av m0' m1' post) (ck : CKg y (Cond.code y b' n' ret') av.length) (hml : Cond.methodLink own idx y ∈ TW) (hls : ls.size = nL) (hst : st0 = av.reverse ++ rest)
    (hR : k' + 1 ≤ kf ∧ 8 + (n' + 11) + 60 * k' ≤ 60 * kf) (hc : (rest.map fun v => v.category).sum ≤ 8) (hdg : decode cc pc = .ok (.invokestatic idx, 3)) (hf : cells + mc' ≤ mf ∧ slots + 6 * mc' ≤ 6 * mf)
    (kk : ∀ (v : Value) (S : Mem) (H1 : Heap) (locs1 : List Loc), post v H.size H1.size → H.size ≤ H1.size → GW D cI A ad aa fa m0' m1' s S H1 locs1 → W p l e (rg kf mf) s m args below meth c H1 locs1 (cells + mc') (slots + 6 * mc') Q (F0 m (pc + 3) ls (v :: rest))) : W p l e (rg kf mf) s m args below meth c H locs cells slots Q (F0 m pc ls st0) := by
  have C' := C
  have hw' := hw
  obtain ⟨⟨hx, hb, hmx, hown, -⟩, ⟨hE, hT, hZ, hC⟩, hD, hA, hAA⟩ := C
  obtain ⟨hP, hO, hS, -⟩ := hw
  have hZ2 : EZ (aC ad cI) s H := (hZ.kept (fun q h1 h2 => hS.2.1 q h1 h2)).narrow hAA
  exact g_run (va_runS (Ts := []) ⟨hx, hb, hmx, hown, fun _ h => nomatch h⟩ hM ⟨⟨rfl, rfl, hR.1, hR.2, q_code hE.1 ck.1, List.mem_singleton.mpr rfl, hE.1 _ ck.1 _, hE.1 _ ck.2.1 _, ck.2.2.1, q_npar ck.2.2.2.1, hE.1 _ hml _⟩, hE.1 _ ck.2.2.2.2 _⟩
    ⟨PcG.blind, fun U hU hW => ⟨rfl, EV.warm hW hE, ES.warm hW hT, by rw [hU]; exact EZ.moved hW.alike hZ2, EC.moved hW.alike hC, by rw [hU]; exact hP, by rw [hU]; exact hO⟩⟩ rfl rfl hls hst (lv_room hc) hdg hf) C' hw' kk
/-- .. of one with a table of its own -/
theorem g_hlW (C : GC p l s m c cc nL own D cI cZ cL A ad aa) (hw : GW D cI A ad aa fa m0 m1 s S H locs) (hM : GM l D cI cZ cL ad aa fa S y [Cond.codeWith y b' n' ret' hh] k' mc' av m0' m1' post) (ck : CKg y (Cond.codeWith y b' n' ret' hh) av.length) (hml : Cond.methodLink own idx y ∈ TW) (hls : ls.size = nL) (hst : st0 = av.reverse ++ rest)
    (hR : k' + 1 ≤ kf ∧ 8 + (n' + 11) + 60 * k' ≤ 60 * kf) (hc : (rest.map fun v => v.category).sum ≤ 8) (hdg : decode cc pc = .ok (.invokestatic idx, 3)) (hf : cells + mc' ≤ mf ∧ slots + 6 * mc' ≤ 6 * mf)
    (kk : ∀ (v : Value) (S : Mem) (H1 : Heap) (locs1 : List Loc), post v H.size H1.size → H.size ≤ H1.size → GW D cI A ad aa fa m0' m1' s S H1 locs1 → W p l e (rg kf mf) s m args below meth c H1 locs1 (cells + mc') (slots + 6 * mc') Q (F0 m (pc + 3) ls (v :: rest))) : W p l e (rg kf mf) s m args below meth c H locs cells slots Q (F0 m pc ls st0) := by
  have C' := C
  have hw' := hw
  obtain ⟨⟨hx, hb, hmx, hown, -⟩, ⟨hE, hT, hZ, hC⟩, hD, hA, hAA⟩ := C
  obtain ⟨hP, hO, hS, -⟩ := hw
  have hZ2 : EZ (aC ad cI) s H := (hZ.kept (fun q h1 h2 => hS.2.1 q h1 h2)).narrow hAA
  exact g_run (vx_runSW (Ts := []) ⟨hx, hb, hmx, hown, fun _ h => nomatch h⟩ hM ⟨⟨rfl, rfl, hR.1, hR.2, q_codeW hE.1 ck.1, List.mem_singleton.mpr rfl⟩, hE.1 _ ck.1 _, hE.1 _ ck.2.1 _, ck.2.2.1, q_npar ck.2.2.2.1, hE.1 _ hml _, hE.1 _ ck.2.2.2.2 _⟩
    ⟨PcG.blind, fun U hU hW => ⟨rfl, EV.warm hW hE, ES.warm hW hT, by rw [hU]; exact EZ.moved hW.alike hZ2, EC.moved hW.alike hC, by rw [hU]; exact hP, by rw [hU]; exact hO⟩⟩ rfl rfl hls hst (lv_room hc) hdg hf) C' hw' kk
theorem g_any {z : Int32} {R : Room} (kk : ∀ z : Int32, W p l e R s m args below meth c H locs cells slots Q (F0 m pc ls (.int z :: rest))) : W p l e R s m args below meth c H locs cells slots Q (F0 m pc ls (.int z :: rest)) := kk z
theorem g_anyl {z : Int64} {R : Room} (kk : ∀ z : Int64, W p l e R s m args below meth c H locs cells slots Q (F0 m pc ls (.long z :: rest))) : W p l e R s m args below meth c H locs cells slots Q (F0 m pc ls (.long z :: rest)) := kk z
theorem g_ld {R : Room} {n i a : Nat} {f : Nat → Int32} (C : GC p l s m c cc nL own D cI cZ cL A ad aa) (hw : GW D cI A ad aa fa m0 m1 s S H locs) (q0 : Nat) (he : (wA aa cI fa)[q0]? = some (a, .inl (cI, n, .inl f))) (hi : i < n) (hn : n < 2 ^ 31) (hdg : decode cc pc = .ok (.iaload, 1))
    (kk : W p l e R s m args below meth c H locs cells slots Q (F0 m (pc + 1) ls (.int (f i) :: rest))) : W p l e R s m args below meth c H locs cells slots Q (F0 m pc ls (.int (nI i) :: .ref a :: rest)) := q_iald C.1.1 C.1.2.1 C.2.1.1 hw.2.1 q0 he hi hn hdg kk
theorem g_ret {v : Int32} {ty : FieldType} {mc : Nat} {R : Room} (hx : p.tables.exec = Jvm.exec) (hb : c.code = cc) (hr : meth.sig.returnType = some ty) (hlk : meth.locks = false) (hw : GW D cI (aC ad cI) ad aa fa m0 m1 s S H locs) (hn : narrow ty (.int v) = .int v) (hp : post (.int v) s.heap.size H.size) (hc : cells ≤ mc ∧ slots ≤ 6 * mc) (hdg : decode cc pc = .ok (.ireturn, 1)) :
    W p l e R s m args below meth c H locs cells slots (MQ below (QG D cI ad m0 m1 post) args s mc (6 * mc) (aC ad cI)) (F0 m pc ls [.int v]) :=
  W.widen hc.1 hc.2 (W.zret hx hb hr hn (fun t ht _ => ⟨_, S, rfl, by rw [ht]; exact hp, hw.2.2.2, by rw [ht]; exact hw.1, hw.2.2.1.F ht⟩) hw.2.2.1.2.2 hdg hlk)
theorem g_lret {v : Int64} {mc : Nat} {R : Room} (hx : p.tables.exec = Jvm.exec) (hb : c.code = cc) (hr : meth.sig.returnType = some .long) (hlk : meth.locks = false) (hw : GW D cI (aC ad cI) ad aa fa m0 m1 s S H locs) (hp : post (.long v) s.heap.size H.size) (hc : cells ≤ mc ∧ slots ≤ 6 * mc) (hdg : decode cc pc = .ok (.lreturn, 1)) :
    W p l e R s m args below meth c H locs cells slots (MQ below (QG D cI ad m0 m1 post) args s mc (6 * mc) (aC ad cI)) (F0 m pc ls [.long v]) :=
  W.widen hc.1 hc.2 (W.lret hx hb hr (fun t ht _ => ⟨_, S, rfl, by rw [ht]; exact hp, hw.2.2.2, by rw [ht]; exact hw.1, hw.2.2.1.F ht⟩) hw.2.2.1.2.2 hdg hlk)
theorem GW.grow {H1 : Heap} (hw : GW D cI A ad aa fa m0 m1 s S s.heap []) (hS : va_S q_no s.heap H1 []) : GW D cI A ad aa fa m0 m1 s S H1 [] := ⟨q_keep hS hw.1 (fun _ _ h => h), q_keep hS hw.2.1 (fun _ _ h => h), q_Swk (fun _ h => h.elim) hS, hw.2.2.2⟩
end GRows
