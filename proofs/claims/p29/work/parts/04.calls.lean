/-! calls, fields, arrays in my words -/
/-- what a call needs of the tables, of a static method, of an instance method -/
def CKs (y : MethodName) (b : ByteArray) (n : Nat) (ret : Option FieldType) (na : Nat) : Prop := Cond.code y b n ret ∈ TW ∧ Cond.initialized y.cls ∈ TW ∧ (y.cls ≠ "java/lang/invoke/MethodHandle" ∧ y.cls ≠ "java/lang/invoke/VarHandle") ∧ (parseMethodDescriptor y.desc).map (fun d => d.parameters.length) = some na ∧ Cond.static y ∈ TW
def CKv (y : MethodName) (b : ByteArray) (n : Nat) (ret : Option FieldType) (na : Nat) : Prop := Cond.code y b n ret ∈ TW ∧ Cond.initialized y.cls ∈ TW ∧ (y.cls ≠ "java/lang/invoke/MethodHandle" ∧ y.cls ≠ "java/lang/invoke/VarHandle") ∧ (parseMethodDescriptor y.desc).map (fun d => d.parameters.length) = some na ∧ Cond.instanceMethod y ∈ TW ∧ Cond.selects y.cls y y ∈ TW
def CKi (y : MethodName) (b : ByteArray) (n : Nat) (na : Nat) : Prop := Cond.code y b n none ∈ TW ∧ Cond.initialized y.cls ∈ TW ∧ (y.cls ≠ "java/lang/invoke/MethodHandle" ∧ y.cls ≠ "java/lang/invoke/VarHandle") ∧ (parseMethodDescriptor y.desc).map (fun d => d.parameters.length) = some na ∧ Cond.instanceMethod y ∈ TW ∧ y.name = "<init>"
theorem q_code {s : State} {y : MethodName} {b : ByteArray} {n : Nat} {ret : Option FieldType} (hE : EN s) (h : Cond.code y b n ret ∈ TW) : ∀ w ∈ [Cond.code y b n ret], ∀ (a' : Array Value) (U : State), s.WarmedH U.vm → w.before a' U = true := by
  intro w hw a' U hW
  cases List.mem_singleton.mp hw
  exact EN.warm hW hE _ h a'
theorem q_npar {y : MethodName} {na : Nat} (h : (parseMethodDescriptor y.desc).map (fun d => d.parameters.length) = some na) : ∀ sig, parseMethodDescriptor y.desc = some sig → na = sig.parameters.length := by
  intro sig hs
  rw [hs] at h
  exact (Option.some.inj h).symm
section Calls9
variable {p : Program} {l : Launch} {e : Env} {R : Room} {s : State} {m : MethodId} {args : Array Value} {below : List Frame} {meth : Method} {c : Code} {H : Heap} {locs : List Loc} {cells slots : Nat} {Q : State → Prop}
variable {pc : Nat} {ls : Array Slot} {rest st0 : List Value} {A : Nat → Prop} {H0 : Heap} {cc : ByteArray} {D : va_G} {cI cZ cL : ClassId} {ws ws' : va_W}
variable {nL idx n' k' mc ms : Nat} {own host : String} {y : MethodName} {b' : ByteArray} {ret' : Option FieldType} {av As : List Value} {Qc : Array Value → State → Outcome → State → Prop} {free : Addr → Prop} {a : Nat} {fs : List Value} {q0 ci N : Nat} {T : u_T}
theorem q_runS (hx : p.tables.exec = Jvm.exec) (hb : c.code = cc) (hml : c.maxLocals = nL) (hown : s.vm.findClass own = some m.cls) (hE : EV D cI cZ cL s)
    (hM : Met l y [Cond.code y b' n' ret'] (rm k' mc ms) (PcC D cI cZ cL av ws) Qc mc ms free) (ck : CKs y b' n' ret' av.length) (hl : Cond.methodLink own idx y ∈ TW) (hP : va_P D vwCl ws H) (hls : ls.size = nL) (hst : st0 = av.reverse ++ rest)
    (hR : k' + 1 ≤ R.frames ∧ 8 + (n' + 11) + 30 * k' ≤ R.locals) (hc : (rest.map fun v => v.category).sum ≤ 8) (hdg : decode cc pc = .ok (.invokestatic idx, 3)) (hf : cells + mc ≤ R.cells ∧ slots + ms ≤ R.slots) :
    va_Run p l e R s m args below meth c H locs cells slots mc ms (F0 m pc ls st0) rest (Qc av.toArray) free :=
  va_runS (Ts := []) ⟨hx, hb, hml, hown, fun _ h => nomatch h⟩ hM ⟨⟨rfl, rfl, hR.1, hR.2, q_code hE.1 ck.1, List.mem_singleton.mpr rfl, hE.1 _ ck.1 _, hE.1 _ ck.2.1 _, ck.2.2.1, q_npar ck.2.2.2.1, hE.1 _ hl _⟩, hE.1 _ ck.2.2.2.2 _⟩
    ⟨PcC.blind, fun U hU hW => ⟨rfl, EV.warm hW hE, by rw [hU]; exact hP⟩⟩ rfl rfl hls hst (lv_room hc) hdg hf
theorem q_runSN (hx : p.tables.exec = Jvm.exec) (hb : c.code = cc) (hml : c.maxLocals = nL) (hown : s.vm.findClass own = some m.cls) (hE : EV D cI cZ cL s)
    (hM : Met l y [Cond.code y b' n' ret'] (rm k' mc ms) (PcC D cI cZ cL av ws) Qc mc ms free) (ck : CKs y b' n' ret' av.length) (hl : Cond.methodLinkNest own idx y host ∈ TW) (hP : va_P D vwCl ws H) (hls : ls.size = nL) (hst : st0 = av.reverse ++ rest)
    (hR : k' + 1 ≤ R.frames ∧ 8 + (n' + 11) + 30 * k' ≤ R.locals) (hc : (rest.map fun v => v.category).sum ≤ 8) (hdg : decode cc pc = .ok (.invokestatic idx, 3)) (hf : cells + mc ≤ R.cells ∧ slots + ms ≤ R.slots) :
    va_Run p l e R s m args below meth c H locs cells slots mc ms (F0 m pc ls st0) rest (Qc av.toArray) free :=
  va_runSN (Ts := []) ⟨hx, hb, hml, hown, fun _ h => nomatch h⟩ hM ⟨⟨⟨rfl, rfl, hR.1, hR.2, q_code hE.1 ck.1, List.mem_singleton.mpr rfl⟩, hE.1 _ ck.1 _, hE.1 _ ck.2.1 _, ck.2.2.1, q_npar ck.2.2.2.1, hE.1 _ hl _⟩, hE.1 _ ck.2.2.2.2 _, trivial⟩
    ⟨PcC.blind, fun U hU hW => ⟨rfl, EV.warm hW hE, by rw [hU]; exact hP⟩⟩ rfl rfl hls hst (lv_room hc) hdg hf
theorem q_runV (hx : p.tables.exec = Jvm.exec) (hb : c.code = cc) (hml : c.maxLocals = nL) (hown : s.vm.findClass own = some m.cls) (hE : EV D cI cZ cL s)
    (hM : Met l y [Cond.code y b' n' ret'] (rm k' mc ms) (PcC D cI cZ cL (.ref a :: As) ws) Qc mc ms free) (ck : CKv y b' n' ret' As.length) (hl : Cond.methodLink own idx y ∈ TW) (hP : va_P D vwCl ws H) (q0 : Nat) (he : ws[q0]? = some (a, .inr (ci, fs))) (hci : vwCl[ci]? = some (y.cls, T, N)) (hls : ls.size = nL) (hst : st0 = As.reverse ++ .ref a :: rest)
    (hR : k' + 1 ≤ R.frames ∧ 8 + (n' + 11) + 30 * k' ≤ R.locals) (hc : (rest.map fun v => v.category).sum ≤ 8) (hdg : decode cc pc = .ok (.invokevirtual idx, 3)) (hf : cells + mc ≤ R.cells ∧ slots + ms ≤ R.slots) :
    va_Run p l e R s m args below meth c H locs cells slots mc ms (F0 m pc ls st0) rest (Qc (Value.ref a :: As).toArray) free :=
  va_runV (Ts := []) (C := y.cls) ⟨hx, hb, hml, hown, fun _ h => nomatch h⟩ hM ⟨⟨rfl, rfl, hR.1, hR.2, q_code hE.1 ck.1, List.mem_singleton.mpr rfl, hE.1 _ ck.1 _, hE.1 _ ck.2.1 _, ck.2.2.1, q_npar ck.2.2.2.1, hE.1 _ hl _⟩, hE.1 _ ck.2.2.2.2.1 _, hE.1 _ ck.2.2.2.2.2 _⟩
    ⟨PcC.blind, va_recv (q := (y.cls, T, N)) hE.2 hP hci he, fun U hU hW => ⟨rfl, EV.warm hW hE, by rw [hU]; exact hP⟩⟩ rfl rfl hls hst (lv_room hc) hdg hf
theorem q_runVN (hx : p.tables.exec = Jvm.exec) (hb : c.code = cc) (hml : c.maxLocals = nL) (hown : s.vm.findClass own = some m.cls) (hE : EV D cI cZ cL s)
    (hM : Met l y [Cond.code y b' n' ret'] (rm k' mc ms) (PcC D cI cZ cL (.ref a :: As) ws) Qc mc ms free) (ck : CKv y b' n' ret' As.length) (hl : Cond.methodLinkNest own idx y host ∈ TW) (hP : va_P D vwCl ws H) (q0 : Nat) (he : ws[q0]? = some (a, .inr (ci, fs))) (hci : vwCl[ci]? = some (y.cls, T, N)) (hls : ls.size = nL) (hst : st0 = As.reverse ++ .ref a :: rest)
    (hR : k' + 1 ≤ R.frames ∧ 8 + (n' + 11) + 30 * k' ≤ R.locals) (hc : (rest.map fun v => v.category).sum ≤ 8) (hdg : decode cc pc = .ok (.invokevirtual idx, 3)) (hf : cells + mc ≤ R.cells ∧ slots + ms ≤ R.slots) :
    va_Run p l e R s m args below meth c H locs cells slots mc ms (F0 m pc ls st0) rest (Qc (Value.ref a :: As).toArray) free :=
  va_runVN (Ts := []) (C := y.cls) ⟨hx, hb, hml, hown, fun _ h => nomatch h⟩ hM ⟨⟨⟨rfl, rfl, hR.1, hR.2, q_code hE.1 ck.1, List.mem_singleton.mpr rfl⟩, hE.1 _ ck.1 _, hE.1 _ ck.2.1 _, ck.2.2.1, q_npar ck.2.2.2.1, hE.1 _ hl _⟩, hE.1 _ ck.2.2.2.2.1 _, hE.1 _ ck.2.2.2.2.2 _⟩
    ⟨PcC.blind, va_recv (q := (y.cls, T, N)) hE.2 hP hci he, fun U hU hW => ⟨rfl, EV.warm hW hE, by rw [hU]; exact hP⟩⟩ rfl rfl hls hst (lv_room hc) hdg hf
/-- calls that throw -/
theorem q_thS {E : String} (hx : p.tables.exec = Jvm.exec) (hb : c.code = cc) (hml : c.maxLocals = nL) (hown : s.vm.findClass own = some m.cls) (hE : EV D cI cZ cL s) (hT : ES s) (hZ : EZ q_no s H)
    (hM : TH l D cI cZ cL y b' n' ret' k' av ws E) (ck : CKs y b' n' ret' av.length) (hl : Cond.methodLink own idx y ∈ TW) (hP : va_P D vwCl ws H) (hls : ls.size = nL) (hst : st0 = av.reverse ++ rest)
    (hR : k' + 1 ≤ R.frames ∧ 8 + (n' + 11) + 30 * k' ≤ R.locals) (hc : (rest.map fun v => v.category).sum ≤ 8) (hdg : decode cc pc = .ok (.invokestatic idx, 3)) (hf : cells + 1 ≤ R.cells ∧ slots + 6 ≤ R.slots) :
    vx_Run p l e R s m args below meth c H locs cells slots 1 6 (F0 m pc ls st0) rest (Qth av.toArray) (Xth E) q_no :=
  vx_runS (Ts := []) ⟨hx, hb, hml, hown, fun _ h => nomatch h⟩ hM ⟨⟨rfl, rfl, hR.1, hR.2, q_code hE.1 ck.1, List.mem_singleton.mpr rfl, hE.1 _ ck.1 _, hE.1 _ ck.2.1 _, ck.2.2.1, q_npar ck.2.2.2.1, hE.1 _ hl _⟩, hE.1 _ ck.2.2.2.2 _⟩
    ⟨PcX.blind, fun U hU hW => ⟨rfl, EV.warm hW hE, ES.warm hW hT, by rw [hU]; exact EZ.moved hW.alike hZ, by rw [hU]; exact hP⟩⟩ rfl rfl hls hst (lv_room hc) hdg hf
theorem q_thV {E : String} (hx : p.tables.exec = Jvm.exec) (hb : c.code = cc) (hml : c.maxLocals = nL) (hown : s.vm.findClass own = some m.cls) (hE : EV D cI cZ cL s) (hT : ES s) (hZ : EZ q_no s H)
    (hM : TH l D cI cZ cL y b' n' ret' k' (.ref a :: As) ws E) (ck : CKv y b' n' ret' As.length) (hl : Cond.methodLink own idx y ∈ TW) (hP : va_P D vwCl ws H) (q0 : Nat) (he : ws[q0]? = some (a, .inr (ci, fs))) (hci : vwCl[ci]? = some (y.cls, T, N)) (hls : ls.size = nL) (hst : st0 = As.reverse ++ .ref a :: rest)
    (hR : k' + 1 ≤ R.frames ∧ 8 + (n' + 11) + 30 * k' ≤ R.locals) (hc : (rest.map fun v => v.category).sum ≤ 8) (hdg : decode cc pc = .ok (.invokevirtual idx, 3)) (hf : cells + 1 ≤ R.cells ∧ slots + 6 ≤ R.slots) :
    vx_Run p l e R s m args below meth c H locs cells slots 1 6 (F0 m pc ls st0) rest (Qth (Value.ref a :: As).toArray) (Xth E) q_no :=
  vx_runV (Ts := []) (C := y.cls) ⟨hx, hb, hml, hown, fun _ h => nomatch h⟩ hM ⟨⟨rfl, rfl, hR.1, hR.2, q_code hE.1 ck.1, List.mem_singleton.mpr rfl, hE.1 _ ck.1 _, hE.1 _ ck.2.1 _, ck.2.2.1, q_npar ck.2.2.2.1, hE.1 _ hl _⟩, hE.1 _ ck.2.2.2.2.1 _, hE.1 _ ck.2.2.2.2.2 _⟩
    ⟨PcX.blind, va_recv (q := (y.cls, T, N)) hE.2 hP hci he, fun U hU hW => ⟨rfl, EV.warm hW hE, ES.warm hW hT, by rw [hU]; exact EZ.moved hW.alike hZ, by rw [hU]; exact hP⟩⟩ rfl rfl hls hst (lv_room hc) hdg hf
end Calls9
section Cells9
variable {p : Program} {l : Launch} {e : Env} {R : Room} {s : State} {m : MethodId} {args : Array Value} {below : List Frame} {meth : Method} {c : Code} {H : Heap} {locs : List Loc} {cells slots : Nat} {Q : State → Prop}
variable {pc : Nat} {ls : Array Slot} {rest st0 : List Value} {A : Nat → Prop} {H0 : Heap} {cc : ByteArray} {D : va_G} {cI cZ cL : ClassId} {ws ws' : va_W}
variable {idx n i a ci N : Nat} {own host C : String} {T : u_T} {fs : List Value} {v : Value} {f : Nat → Int32}
theorem q_get (hx : p.tables.exec = Jvm.exec) (hb : c.code = cc) (hown : s.vm.findClass own = some m.cls) (hE : EV D cI cZ cL s) (hin : ∀ w ∈ u_ws C T N, w ∈ TW) (hP : va_P D vwCl ws H) (q0 : Nat) (he : ws[q0]? = some (a, .inr (ci, fs))) (hc : vwCl[ci]? = some (C, T, N)) (k : Nat) (hk : k < N)
    (hl : Cond.fieldLink own idx (T k).1 (T k).2.1 (T k).2.2.1 ∈ TW) (hv : fs[k]? = some v) (hdg : decode cc pc = .ok (.getfield idx, 3)) (kk : W p l e R s m args below meth c H locs cells slots Q (F0 m (pc + 3) ls (v :: rest))) : W p l e R s m args below meth c H locs cells slots Q (F0 m pc ls (.ref a :: rest)) :=
  va_get (Ts := TW) hx hb (fun w h => hE.1 w h args) hin hown hE.2 hP q0 he hc k hk (hE.1 _ hl args) (fun _ h => h) hv hdg kk
theorem q_getN (hx : p.tables.exec = Jvm.exec) (hb : c.code = cc) (hown : s.vm.findClass own = some m.cls) (hE : EV D cI cZ cL s) (hin : ∀ w ∈ u_ws C T N, w ∈ TW) (hP : va_P D vwCl ws H) (q0 : Nat) (he : ws[q0]? = some (a, .inr (ci, fs))) (hc : vwCl[ci]? = some (C, T, N)) (k : Nat) (hk : k < N)
    (hl : Cond.fieldLinkNest own idx (T k).1 (T k).2.1 (T k).2.2.1 host ∈ TW) (hv : fs[k]? = some v) (hdg : decode cc pc = .ok (.getfield idx, 3)) (kk : W p l e R s m args below meth c H locs cells slots Q (F0 m (pc + 3) ls (v :: rest))) : W p l e R s m args below meth c H locs cells slots Q (F0 m pc ls (.ref a :: rest)) :=
  va_getN (Ts := TW) hx hb (fun w h => hE.1 w h args) hin hown hE.2 hP q0 he hc k hk (hE.1 _ hl args) (fun _ h => h) hv hdg kk
theorem q_put {ty0 : Nat → FieldType} (hx : p.tables.exec = Jvm.exec) (hb : c.code = cc) (hown : s.vm.findClass own = some m.cls) (hE : EV D cI cZ cL s) (hin : ∀ w ∈ u_ws C T N, w ∈ TW) (hty : ∀ k, k < N → parseFieldDescriptor (T k).2.2.1 = some (ty0 k)) (hnm : ∀ a, a < N → ∀ b, b < N → a ≠ b → (T a).2.1 ≠ (T b).2.1)
    (hP : va_P D vwCl ws H) (hD : va_D A ws) (hS : va_S A H0 H locs) (q0 : Nat) (he : ws[q0]? = some (a, .inr (ci, fs))) (hc : vwCl[ci]? = some (C, T, N)) (k : Nat) (hk : k < N)
    (hl : Cond.fieldLink own idx (T k).1 (T k).2.1 (T k).2.2.1 ∈ TW) (hfin : (T k).2.2.2 = false) (hn : narrow (ty0 k) v = v) (hfit : fits (ty0 k) v = true) (hlen : k < fs.length) (hws : ws.set q0 (a, .inr (ci, fs.set k v)) = ws') (hdg : decode cc pc = .ok (.putfield idx, 3))
    (kk : ∀ (H : Heap) (locs : List Loc), va_P D vwCl ws' H → va_S A H0 H locs → W p l e R s m args below meth c H locs cells slots Q (F0 m (pc + 3) ls rest)) : W p l e R s m args below meth c H locs cells slots Q (F0 m pc ls (v :: .ref a :: rest)) :=
  va_put (Ts := TW) hx hb (fun w h => hE.1 w h args) hin ty0 hty hnm hown hE.2 hP hD hS q0 he hc k hk (hE.1 _ hl args) (fun _ h => h) hfin (hty k hk) hn hfit hlen hdg (fun H1 locs1 hP1 hD1 hS1 => kk H1 locs1 (hws ▸ hP1) hS1)
theorem q_iald (hx : p.tables.exec = Jvm.exec) (hb : c.code = cc) (hE : EV D cI cZ cL s) (hP : va_P D vwCl ws H) (q0 : Nat) (he : ws[q0]? = some (a, .inl (cI, n, .inl f))) (hi : i < n) (hn : n < 2 ^ 31) (hdg : decode cc pc = .ok (.iaload, 1))
    (kk : W p l e R s m args below meth c H locs cells slots Q (F0 m (pc + 1) ls (.int (f i) :: rest))) : W p l e R s m args below meth c H locs cells slots Q (F0 m pc ls (.int (nI i) :: .ref a :: rest)) :=
  va_iald hx hb hE.2 hP q0 0 he rfl (vp_in_nI hi hn) hdg (by rw [nI_clamp (by omega)]; exact kk)
theorem q_iast {x : Int32} (hx : p.tables.exec = Jvm.exec) (hb : c.code = cc) (hE : EV D cI cZ cL s) (hP : va_P D vwCl ws H) (hD : va_D A ws) (hS : va_S A H0 H locs) (q0 : Nat) (he : ws[q0]? = some (a, .inl (cI, n, .inl f))) (hi : i < n) (hn : n < 2 ^ 31) (hws : ws.set q0 (a, .inl (cI, n, .inl (upd f i x))) = ws') (hdg : decode cc pc = .ok (.iastore, 1))
    (kk : ∀ (H : Heap) (locs : List Loc), va_P D vwCl ws' H → va_S A H0 H locs → W p l e R s m args below meth c H locs cells slots Q (F0 m (pc + 1) ls rest)) : W p l e R s m args below meth c H locs cells slots Q (F0 m pc ls (.int x :: .int (nI i) :: .ref a :: rest)) :=
  va_iast hx hb hE.2 hP hD hS q0 0 he rfl (vp_in_nI hi hn) hdg (fun H1 locs1 hP1 hD1 hS1 => kk H1 locs1 (by rw [nI_clamp (by omega)] at hP1; exact hws ▸ hP1) hS1)
end Cells9
