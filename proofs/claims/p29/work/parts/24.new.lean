/-! rows for constructors -/
section NewRows
variable {p : Program} {l : Launch} {e : Env} {R : Room} {s : State} {m : MethodId} {args : Array Value} {below : List Frame} {meth : Method} {c : Code} {H : Heap} {locs : List Loc} {cells slots : Nat} {Q : State → Prop}
variable {pc : Nat} {ls : Array Slot} {rest st0 : List Value} {A : Nat → Prop} {H0 : Heap} {cc : ByteArray} {D : va_G} {cI cZ cL : ClassId} {ws ws' : va_W}
variable {idx n i a ci N : Nat} {own host C : String} {T : u_T} {fs : List Value} {v : Value} {f : Nat → Int32}
theorem q_newa (hx : p.tables.exec = Jvm.exec) (hb : c.code = cc) (hE : EV D cI cZ cL s) (hP : va_P D vwCl ws H) (hD : va_D A ws) (hS : va_S A H0 H locs) (hA : ∀ q, H0.size ≤ q → A q)
    {n : Int32} {N' : Nat} (hn : ¬ n < 0) (hN : n.toNatClampNeg = N') (hbytes : N' * componentBytes .int ≤ 536870912) (hcells : cells + 1 ≤ R.cells) (hslots : slots + N' ≤ R.slots) (hdg : decode cc pc = .ok (.newarray .int, 2))
    (kk : ∀ (q : Nat) (H : Heap), va_P D vwCl (ws ++ [(q, .inl (cI, N', .inl (fun _ => 0)))]) H → va_D A (ws ++ [(q, .inl (cI, N', .inl (fun _ => 0)))]) → va_S A H0 H locs →
      W p l e R s m args below meth c H locs (cells + 1) (slots + N') Q (F0 m (pc + 2) ls (.ref q :: rest))) : W p l e R s m args below meth c H locs cells slots Q (F0 m pc ls (.int n :: rest)) := by
  refine va_newa (atype := .int) (ty := .int) (a0 := (N', .inl (fun _ => 0))) hx hb (hE.1 _ w_120 args) rfl hE.2 hP hD hS hA (fun cA => rfl) hn hN hbytes hcells hslots hdg (fun q cA H1 hK1 hP1 hD1 hS1 => ?_)
  have z1 : s.vm.findClass ("[" ++ (FieldType.int).toString) = some cA := (hK1.2 1 (cA, .int) rfl).2
  have z2 : s.vm.findClass ("[" ++ (FieldType.int).toString) = some cI := (hE.2.2 0 (cI, .int) rfl).2
  have e1 : cA = cI := Option.some.inj (z1.symm.trans z2)
  rw [e1] at hP1 hD1
  exact kk q H1 hP1 hD1 hS1
/-- putfield in a constructor: the cells' addresses stay apart -/
theorem q_putC {ty0 : Nat → FieldType} (hx : p.tables.exec = Jvm.exec) (hb : c.code = cc) (hown : s.vm.findClass own = some m.cls) (hE : EV D cI cZ cL s) (hin : ∀ w ∈ u_ws C T N, w ∈ TW) (hty : ∀ k, k < N → parseFieldDescriptor (T k).2.2.1 = some (ty0 k)) (hnm : ∀ a, a < N → ∀ b, b < N → a ≠ b → (T a).2.1 ≠ (T b).2.1)
    (hP : va_P D vwCl ws H) (hD : va_D A ws) (hS : va_S A H0 H locs) (q0 : Nat) (he : ws[q0]? = some (a, .inr (ci, fs))) (hc : vwCl[ci]? = some (C, T, N)) (k : Nat) (hk : k < N)
    (hl : Cond.fieldLink own idx (T k).1 (T k).2.1 (T k).2.2.1 ∈ TW) (hfin : (T k).2.2.2 = false) (hn : narrow (ty0 k) v = v) (hfit : fits (ty0 k) v = true) (hlen : k < fs.length) (hdg : decode cc pc = .ok (.putfield idx, 3))
    (kk : ∀ (H : Heap) (locs : List Loc), va_P D vwCl (ws.set q0 (a, .inr (ci, fs.set k v))) H → va_D A (ws.set q0 (a, .inr (ci, fs.set k v))) → va_S A H0 H locs → W p l e R s m args below meth c H locs cells slots Q (F0 m (pc + 3) ls rest)) : W p l e R s m args below meth c H locs cells slots Q (F0 m pc ls (v :: .ref a :: rest)) :=
  va_put (Ts := TW) hx hb (fun w h => hE.1 w h args) hin ty0 hty hnm hown hE.2 hP hD hS q0 he hc k hk (hE.1 _ hl args) (fun _ h => h) hfin (hty k hk) hn hfit hlen hdg kk
/-- .. of a final field -/
theorem q_putF {ty0 : Nat → FieldType} (hx : p.tables.exec = Jvm.exec) (hb : c.code = cc) (hown : s.vm.findClass own = some m.cls) (hE : EV D cI cZ cL s) (hin : ∀ w ∈ u_ws C T N, w ∈ TW) (hty : ∀ k, k < N → parseFieldDescriptor (T k).2.2.1 = some (ty0 k)) (hnm : ∀ a, a < N → ∀ b, b < N → a ≠ b → (T a).2.1 ≠ (T b).2.1)
    (hP : va_P D vwCl ws H) (hD : va_D A ws) (hS : va_S A H0 H locs) (q0 : Nat) (he : ws[q0]? = some (a, .inr (ci, fs))) (hc : vwCl[ci]? = some (C, T, N)) (k : Nat) (hk : k < N)
    (hl : Cond.fieldLink own idx (T k).1 (T k).2.1 (T k).2.2.1 ∈ TW) (hfin : (T k).2.2.2 = true) (hin2 : meth.name = "<init>") (hdecl : (T k).1 = own) (hn : narrow (ty0 k) v = v) (hfit : fits (ty0 k) v = true) (hlen : k < fs.length) (hdg : decode cc pc = .ok (.putfield idx, 3))
    (kk : ∀ (H : Heap) (locs : List Loc), va_P D vwCl (ws.set q0 (a, .inr (ci, fs.set k v))) H → va_D A (ws.set q0 (a, .inr (ci, fs.set k v))) → va_S A H0 H locs → W p l e R s m args below meth c H locs cells slots Q (F0 m (pc + 3) ls rest)) : W p l e R s m args below meth c H locs cells slots Q (F0 m pc ls (v :: .ref a :: rest)) :=
  va_putF (Ts := TW) hx hb (fun w h => hE.1 w h args) hin ty0 hty hnm hown hE.2 hP hD hS q0 he hc k hk (hE.1 _ hl args) (fun _ h => h) hfin hin2 hdecl (hty k hk) hn hfit hlen hdg kk
end NewRows
/-- what a constructor leaves: its class's cells, at new addresses -/
def NW (l : Launch) (D : va_G) (cI cZ cL : ClassId) (y : MethodName) (b : ByteArray) (n k mc ms a0 sz ci : Nat) (fs0 : List Value) (wf : (Nat → Nat) → va_W) : Prop :=
  Met l y [Cond.code y b n none] (rm k mc ms) (va_Pc [.ref a0] (fun U => U.heap.size = sz ∧ EV D cI cZ cL U ∧ va_P D vwCl [(a0, .inr (ci, fs0))] U.heap))
    (va_Qv (fun _ : Nat → Nat => True) (fun ad t => ad 0 = a0 ∧ va_P D vwCl (wf ad) t.heap ∧ va_D (va_A [(a0, .inr (ci, fs0))] sz) (wf ad)) (va_A [(a0, .inr (ci, fs0))] sz)) mc ms (va_A [(a0, .inr (ci, fs0))] sz)
theorem NW.of {l : Launch} {D : va_G} {cI cZ cL : ClassId} {y : MethodName} {b : ByteArray} {n k mc ms a0 sz ci : Nat} {fs0 : List Value} {wf : (Nat → Nat) → va_W} (hy : plainName y.cls = true) (hyn : y.name = "<init>") (hlen : (lg_sl [Value.ref a0]).length ≤ n)
    (body : ∀ (p : Program) (e : Env) (s : State) (m : MethodId) (args : Array Value) (below : List Frame) (meth : Method) (c : Code) (ls : Array Slot) (A : Nat → Prop), p.tables.exec = Jvm.exec → c.code = b → meth.sig.returnType = none → c.maxLocals = n → s.vm.findClass y.cls = some m.cls → meth.name = "<init>" → meth.locks = false → EV D cI cZ cL s → va_P D vwCl [(a0, .inr (ci, fs0))] s.heap → va_D A [(a0, .inr (ci, fs0))] → va_S A s.heap s.heap [] → (∀ q : Nat, s.heap.size ≤ q → A q) → lv_has ls n (lv_args 0 [.ref a0]) →
      W p l e (rm k mc ms) s m args below meth c s.heap [] 0 0 (MQ below (va_Qv (fun _ : Nat → Nat => True) (fun ad t => ad 0 = a0 ∧ va_P D vwCl (wf ad) t.heap ∧ va_D A (wf ad)) A) args s mc ms A) (F0 m 0 ls [])) : NW l D cI cZ cL y b n k mc ms a0 sz ci fs0 wf := by
  refine Met.ofW (cc := b) (maxL := n) (ret := none) hy rfl ?_
  intro p e s m args below meth c s₁ B hml hv
  obtain ⟨rfl, hsz, hE, hP⟩ := hv
  subst hsz
  have hin : meth.name = "<init>" := (name_of_methodNamed B.named B.method).1.trans hyn
  have hD0 : va_D (va_A [(a0, .inr (ci, fs0))] s.heap.size) [(a0, .inr (ci, fs0))] := va_D.self (A := fun _ => True) ⟨fun i j _ _ hi hj _ => by
    have h1 := (List.getElem?_eq_some_iff.mp hi).1
    have h2 := (List.getElem?_eq_some_iff.mp hj).1
    simp only [List.length_cons, List.length_nil] at h1 h2
    omega, fun _ _ _ => trivial⟩
  have hl := lv_entry [.ref a0] hlen
  rw [lg_entry_eq]
  generalize (lg_sl [Value.ref a0] ++ List.replicate (n - (lg_sl [Value.ref a0]).length) Slot.unset).toArray = ls at hl ⊢
  exact body p e s m _ below meth c ls _ B.exec B.bytes B.returns hml (findClass_of_methodNamed B.named) hin B.notSynchronized hE hP hD0 va_S.rf (fun q h => Or.inr h) hl
