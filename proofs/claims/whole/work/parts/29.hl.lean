/-! the law's helpers: their contract -/
def exPairs : List (String × String) := [("java/lang/IllegalArgumentException", "java/lang/IllegalStateException"), ("java/lang/IllegalArgumentException", "java/lang/IndexOutOfBoundsException"), ("java/lang/IllegalArgumentException", "java/util/NoSuchElementException"), ("java/lang/IllegalStateException", "java/lang/IllegalArgumentException"), ("java/lang/IllegalStateException", "java/lang/IndexOutOfBoundsException"), ("java/lang/IllegalStateException", "java/util/NoSuchElementException"), ("java/lang/IndexOutOfBoundsException", "java/lang/IllegalArgumentException"), ("java/lang/IndexOutOfBoundsException", "java/lang/IllegalStateException"), ("java/lang/IndexOutOfBoundsException", "java/util/NoSuchElementException"), ("java/util/NoSuchElementException", "java/lang/IllegalArgumentException"), ("java/util/NoSuchElementException", "java/lang/IllegalStateException"), ("java/util/NoSuchElementException", "java/lang/IndexOutOfBoundsException")]
/-- no exception of the four is an instance of another -/
def EC (U : State) : Prop := ∀ q ∈ exPairs, va_Nc q.1 q.2 U
theorem EC.moved {u U : State} (hvm : u.vm.Alike U.vm) (h : EC u) : EC U := fun q hq => va_Nc.moved hvm (h q hq)
def wO (ao : Nat) (cL : ClassId) (f : Nat → Int64) : va_W := [(ao, .inl (cL, 1, .inr (.inl f)))]
def PcH (D : va_G) (cI cZ cL : ClassId) (av : List Value) (ao : Nat) (f : Nat → Int64) (ws : va_W) : Array Value → State → Prop := va_Pc av (fun U => EV D cI cZ cL U ∧ ES U ∧ EZ q_no U U.heap ∧ EC U ∧ va_P D vwCl ws U.heap ∧ va_P D vwCl (wO ao cL f) U.heap)
theorem PcH.blind {D : va_G} {cI cZ cL : ClassId} {av : List Value} {ao : Nat} {f : Nat → Int64} {ws : va_W} : FrameBlind (PcH D cI cZ cL av ao f ws) := fun _ U _ _ q => ⟨q.1, EV.call q.2.1, ES.call q.2.2.1, EZ.call q.2.2.2.1, EC.moved (u := U) (Vm.Alike.refl U.vm) q.2.2.2.2.1, q.2.2.2.2.2.1, q.2.2.2.2.2.2⟩
def QH (D : va_G) (cL : ClassId) (A : Nat → Prop) (ao : Nat) (f' : Nat → Int64) (ws' : va_W) (k : Int32) : Array Value → State → Outcome → State → Prop := fun _ st oc t => oc = .returned (some (.int k)) ∧ (va_P D vwCl ws' t.heap ∧ va_P D vwCl (wO ao cL f') t.heap) ∧ va_F A st t
def HL (l : Launch) (D : va_G) (cI cZ cL : ClassId) (y : MethodName) (b : ByteArray) (n : Nat) (hh : List (Nat × Nat × Nat × Nat)) (k : Nat) (av : List Value) (A : Nat → Prop) (ao : Nat) (ws ws' : va_W) (f f' : Nat → Int64) (v : Int32) : Prop :=
  Met l y [Cond.codeWith y b n (some .int) hh] (rm k 1 6) (PcH D cI cZ cL av ao f ws) (QH D cL A ao f' ws' v) 1 6 A
theorem HL.of {l : Launch} {D : va_G} {cI cZ cL : ClassId} {y : MethodName} {b : ByteArray} {n : Nat} {hh : List (Nat × Nat × Nat × Nat)} {k : Nat} {av : List Value} {A : Nat → Prop} {ao : Nat} {ws ws' : va_W} {f f' : Nat → Int64} {v : Int32} (hy : plainName y.cls = true) (hlen : (lg_sl av).length ≤ n)
    (body : ∀ (p : Program) (e : Env) (s : State) (m : MethodId) (args : Array Value) (below : List Frame) (meth : Method) (c : Code) (ls : Array Slot), p.tables.exec = Jvm.exec → c.code = b → meth.sig.returnType = some .int → c.maxLocals = n → s.vm.findClass y.cls = some m.cls → meth.locks = false → c.exceptionTable.toList = tableOf hh → EV D cI cZ cL s → ES s → EZ q_no s s.heap → EC s → va_P D vwCl ws s.heap → va_P D vwCl (wO ao cL f) s.heap → va_S A s.heap s.heap [] → lv_has ls n (lv_args 0 av) →
      W p l e (rm k 1 6) s m args below meth c s.heap [] 0 0 (MQ below (QH D cL A ao f' ws' v) args s 1 6 A) (F0 m 0 ls [])) : HL l D cI cZ cL y b n hh k av A ao ws ws' f f' v := by
  refine va_MetW (cc := b) (maxL := n) (ret := some .int) (hh := hh) hy rfl ?_
  intro p e s m args below meth c s₁ B hml hv
  obtain ⟨rfl, hE, hT, hZ, hC, hP, hO⟩ := hv
  have hl := lv_entry av hlen
  rw [lg_entry_eq]
  generalize (lg_sl av ++ List.replicate (n - (lg_sl av).length) Slot.unset).toArray = ls at hl ⊢
  have ht := vx_table (x := y) B (atoms_spec (ws := [Cond.codeWith y b n (some .int) hh]) B.pre _ List.mem_cons_self)
  exact body p e s m _ below meth c ls B.exec B.bytes B.returns hml (findClass_of_methodNamed B.named) B.notSynchronized ht hE hT hZ hC hP hO va_S.rf hl
