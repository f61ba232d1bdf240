abbrev vwCl : List vw_C := [(RX0, TX0, 5), (RX1, TX1, 3), (RX2, TX2, 6), (RX3, TX3, 7), (RX4, TX4, 2), (RX5, TX5, 12)]
/-! my own rows over the kit: words that stay, rooms, three kinds of contracts, calls -/
def q_ok : Cond → Bool
  | .fieldLinkNest _ _ _ _ _ _ => true
  | .methodLinkNest _ _ _ _ => true
  | .declares _ => true
  | .castable _ _ => true
  | w => goodWord w
def TW : List Cond := lw_tbl.filter q_ok
theorem q_warm {s U : State} (hW : s.WarmedH U.vm) : ∀ (w : Cond) (A A' : Array Value), q_ok w = true → w.before A s = true → w.before A' U = true := by
  intro w A A' hq h
  have e : (s.setVm U.vm).vm = U.vm := rfl
  cases w with
  | fieldLinkNest a i b n d h9 => exact va_tabs rfl e (Cond.fieldLinkNest_warmed (args := A) hW h)
  | methodLinkNest a i x h9 => exact va_tabs rfl e (Cond.methodLinkNest_warmed (args := A) hW h)
  | declares x => exact va_tabs (u := s.setVm U.vm) (A := A) rfl e (by rw [Cond.declares_setVm hW.alike]; exact h)
  | castable a b => exact va_tabs (u := s.setVm U.vm) (A := A) rfl e (by rw [Cond.castable_setVm hW.alike]; exact h)
  | _ => exact word_at hW (good_of_word hq) h
def EN (U : State) : Prop := ∀ w ∈ TW, ∀ A : Array Value, w.before A U = true
theorem EN.warm {s U : State} (hW : s.WarmedH U.vm) (h : EN s) : EN U := fun w hw A => q_warm hW w A A ((List.mem_filter.mp hw).2) (h w hw A)
theorem q_mem {w : Cond} (i : Nat) (h : lw_tbl[i]? = some w) (hq : q_ok w = true) : w ∈ TW := List.mem_filter.mpr ⟨List.mem_of_getElem? h, hq⟩
def EV (D : va_G) (cI cZ cL : ClassId) (U : State) : Prop := EN U ∧ va_K D vwCl [(cI, .int)] U
theorem EV.warm {D : va_G} {cI cZ cL : ClassId} {s U : State} (hW : s.WarmedH U.vm) (h : EV D cI cZ cL s) : EV D cI cZ cL U := ⟨EN.warm hW h.1, va_K.moved hW.alike h.2⟩
theorem EV.call {D : va_G} {cI cZ cL : ClassId} {U : State} {g : JFrame} {mk : MethodId} {a : Array Value} (h : EV D cI cZ cL U) : EV D cI cZ cL (U.calling g mk a) := EV.warm (s := U) (State.WarmedH.refl U) h
def ES (U : State) : Prop := ∀ (own : String) (k : Nat) (tx : String), Cond.stringRef own k tx ∈ lw_tbl → ∃ sa, vk_R own k tx sa U
theorem ES.warm {s U : State} (hW : s.WarmedH U.vm) (h : ES s) : ES U := fun own k tx hm => by
  obtain ⟨sa, hs⟩ := h own k tx hm
  exact ⟨sa, vk_R.warm hW hs⟩
def EZ (A : Nat → Prop) (U : State) (H : Heap) : Prop := vx_Zq Bundle.tN "UNASSIGNED_STACK" Bundle.steD A U H ∧ vx_Zq Bundle.tN "SUPPRESSED_SENTINEL" Bundle.listD A U H
theorem EZ.moved {A : Nat → Prop} {u U : State} {H : Heap} (hvm : u.vm.Alike U.vm) (h : EZ A u H) : EZ A U H := ⟨vx_Zq.moved hvm h.1, vx_Zq.moved hvm h.2⟩
theorem EZ.kept {A : Nat → Prop} {U : State} {H H1 : Heap} (h : EZ A U H) (hq : ∀ a : Nat, a < H.size → ¬ A a → H1[a]? = H[a]?) : EZ A U H1 := ⟨vx_Zq.kept h.1 hq, vx_Zq.kept h.2 hq⟩
theorem EZ.narrow {A B : Nat → Prop} {U : State} {H : Heap} (h : EZ A U H) (hAB : ∀ q, B q → A q) : EZ B U H := ⟨vx_Zq.narrow h.1 hAB, vx_Zq.narrow h.2 hAB⟩
def q_no : Nat → Prop := fun _ => False
def rm (k c n : Nat) : Room := { frames := k, cells := c, slots := n, locals := 30 * k }
/-- what a method asks of the state: the words, the classes, the world -/
def PcC (D : va_G) (cI cZ cL : ClassId) (av : List Value) (ws : va_W) : Array Value → State → Prop := va_Pc av (fun U => EV D cI cZ cL U ∧ va_P D vwCl ws U.heap)
/-- .. of one that throws: also the texts and two statics -/
def PcX (D : va_G) (cI cZ cL : ClassId) (av : List Value) (ws : va_W) : Array Value → State → Prop := va_Pc av (fun U => EV D cI cZ cL U ∧ ES U ∧ EZ q_no U U.heap ∧ va_P D vwCl ws U.heap)
def Qrd (v : Option Value) : Array Value → State → Outcome → State → Prop := fun _ st oc t => oc = .returned v ∧ t.heap = st.heap
def Qwr (D : va_G) (A : Nat → Prop) (ws : va_W) (v : Option Value) : Array Value → State → Outcome → State → Prop := fun _ st oc t => oc = .returned v ∧ va_P D vwCl ws t.heap ∧ va_F A st t
def Qth : Array Value → State → Outcome → State → Prop := fun _ _ _ _ => False
def vS (A : Nat → Prop) (st t : State) : Prop := st.heap.size < t.heap.size ∧ ∀ q : Nat, q < st.heap.size → ¬ A q → t.heap[q]? = st.heap[q]?
def Xth (E : String) : String → State → State → Prop := fun E' st t => E' = E ∧ vS q_no st t
/-- it reads alone -/
def RD (l : Launch) (D : va_G) (cI cZ cL : ClassId) (y : MethodName) (b : ByteArray) (n : Nat) (ret : Option FieldType) (k : Nat) (av : List Value) (ws : va_W) (v : Option Value) : Prop := Met l y [Cond.code y b n ret] (rm k 0 0) (PcC D cI cZ cL av ws) (Qrd v) 0 0 q_no
/-- it writes: the world afterwards -/
def WR (l : Launch) (D : va_G) (cI cZ cL : ClassId) (y : MethodName) (b : ByteArray) (n : Nat) (ret : Option FieldType) (k : Nat) (av : List Value) (A : Nat → Prop) (ws ws' : va_W) (v : Option Value) : Prop := Met l y [Cond.code y b n ret] (rm k 0 0) (PcC D cI cZ cL av ws) (Qwr D A ws' v) 0 0 A
/-- it throws -/
def TH (l : Launch) (D : va_G) (cI cZ cL : ClassId) (y : MethodName) (b : ByteArray) (n : Nat) (ret : Option FieldType) (k : Nat) (av : List Value) (ws : va_W) (E : String) : Prop := vx_Met l y [Cond.code y b n ret] (rm k 1 6) (PcX D cI cZ cL av ws) Qth (Xth E) 1 6 q_no
theorem PcC.blind {D : va_G} {cI cZ cL : ClassId} {av : List Value} {ws : va_W} : FrameBlind (PcC D cI cZ cL av ws) := fun _ _ _ _ q => ⟨q.1, EV.call q.2.1, q.2.2⟩
theorem ES.call {U : State} {g : JFrame} {mk : MethodId} {a : Array Value} (h : ES U) : ES (U.calling g mk a) := ES.warm (s := U) (State.WarmedH.refl U) h
theorem EZ.call {A : Nat → Prop} {U : State} {H : Heap} {g : JFrame} {mk : MethodId} {a : Array Value} (h : EZ A U H) : EZ A (U.calling g mk a) H := EZ.moved (u := U) (Vm.Alike.refl U.vm) h
theorem PcX.blind {D : va_G} {cI cZ cL : ClassId} {av : List Value} {ws : va_W} : FrameBlind (PcX D cI cZ cL av ws) := fun _ _ _ _ q => ⟨q.1, EV.call q.2.1, ES.call q.2.2.1, EZ.call q.2.2.2.1, q.2.2.2.2⟩
section Bodies9
variable {l : Launch} {D : va_G} {cI cZ cL : ClassId} {y : MethodName} {b : ByteArray} {n : Nat} {ret : Option FieldType} {k : Nat} {av : List Value} {A : Nat → Prop} {ws ws' : va_W} {v : Option Value} {E : String}
theorem RD.of (hy : plainName y.cls = true) (hlen : (lg_sl av).length ≤ n)
    (body : ∀ (p : Program) (e : Env) (s : State) (m : MethodId) (args : Array Value) (below : List Frame) (meth : Method) (c : Code) (ls : Array Slot), p.tables.exec = Jvm.exec → c.code = b → meth.sig.returnType = ret → c.maxLocals = n → s.vm.findClass y.cls = some m.cls → meth.locks = false → EV D cI cZ cL s → va_P D vwCl ws s.heap → lv_has ls n (lv_args 0 av) →
      W p l e (rm k 0 0) s m args below meth c s.heap [] 0 0 (MQ below (Qrd v) args s 0 0 q_no) (F0 m 0 ls [])) : RD l D cI cZ cL y b n ret k av ws v := by
  refine Met.ofW (cc := b) (maxL := n) (ret := ret) hy rfl ?_
  intro p e s m args below meth c s₁ B hml hv
  obtain ⟨rfl, hE, hP⟩ := hv
  have hl := lv_entry av hlen
  rw [lg_entry_eq]
  generalize (lg_sl av ++ List.replicate (n - (lg_sl av).length) Slot.unset).toArray = ls at hl ⊢
  exact body p e s m _ below meth c ls B.exec B.bytes B.returns hml (findClass_of_methodNamed B.named) B.notSynchronized hE hP hl
theorem WR.of (hy : plainName y.cls = true) (hlen : (lg_sl av).length ≤ n)
    (body : ∀ (p : Program) (e : Env) (s : State) (m : MethodId) (args : Array Value) (below : List Frame) (meth : Method) (c : Code) (ls : Array Slot), p.tables.exec = Jvm.exec → c.code = b → meth.sig.returnType = ret → c.maxLocals = n → s.vm.findClass y.cls = some m.cls → meth.locks = false → EV D cI cZ cL s → va_P D vwCl ws s.heap → va_S A s.heap s.heap [] → lv_has ls n (lv_args 0 av) →
      W p l e (rm k 0 0) s m args below meth c s.heap [] 0 0 (MQ below (Qwr D A ws' v) args s 0 0 A) (F0 m 0 ls [])) : WR l D cI cZ cL y b n ret k av A ws ws' v := by
  refine Met.ofW (cc := b) (maxL := n) (ret := ret) hy rfl ?_
  intro p e s m args below meth c s₁ B hml hv
  obtain ⟨rfl, hE, hP⟩ := hv
  have hl := lv_entry av hlen
  rw [lg_entry_eq]
  generalize (lg_sl av ++ List.replicate (n - (lg_sl av).length) Slot.unset).toArray = ls at hl ⊢
  exact body p e s m _ below meth c ls B.exec B.bytes B.returns hml (findClass_of_methodNamed B.named) B.notSynchronized hE hP va_S.rf hl
theorem TH.of (hy : plainName y.cls = true) (hlen : (lg_sl av).length ≤ n)
    (body : ∀ (p : Program) (e : Env) (s : State) (m : MethodId) (args : Array Value) (below : List Frame) (meth : Method) (c : Code) (ls : Array Slot), p.tables.exec = Jvm.exec → c.code = b → meth.sig.returnType = ret → c.maxLocals = n → s.vm.findClass y.cls = some m.cls → meth.locks = false → (∀ x ∈ c.exceptionTable.toList, False) → EV D cI cZ cL s → ES s → EZ q_no s s.heap → va_P D vwCl ws s.heap → lv_has ls n (lv_args 0 av) →
      W p l e (rm k 1 6) s m args below meth c s.heap [] 0 0 (vx_MQ below Qth (Xth E) args s 1 6 q_no) (F0 m 0 ls [])) : TH l D cI cZ cL y b n ret k av ws E := by
  refine vx_ofW (cc := b) (maxL := n) (ret := ret) hy rfl ?_
  intro p e s m args below meth c s₁ B hml hxt hv
  obtain ⟨rfl, hE, hT, hZ, hP⟩ := hv
  have hl := lv_entry av hlen
  rw [lg_entry_eq]
  generalize (lg_sl av ++ List.replicate (n - (lg_sl av).length) Slot.unset).toArray = ls at hl ⊢
  exact body p e s m _ below meth c ls B.exec B.bytes B.returns hml (findClass_of_methodNamed B.named) B.notSynchronized hxt hE hT hZ hP hl
end Bodies9
section Rows9
variable {p : Program} {l : Launch} {e : Env} {R : Room} {s : State} {m : MethodId} {args : Array Value} {below : List Frame} {meth : Method} {c : Code} {H : Heap} {locs : List Loc} {cells slots : Nat} {Q : State → Prop}
variable {pc : Nat} {ls : Array Slot} {rest st0 : List Value} {a : Nat} {A : Nat → Prop} {H0 : Heap} {cc : ByteArray} {D : va_G} {cI cZ cL : ClassId} {ws ws' : va_W}
/-- ends -/
theorem e_ret {v : Int32} {ty : FieldType} (hx : p.tables.exec = Jvm.exec) (hb : c.code = cc) (hr : meth.sig.returnType = some ty) (hlk : meth.locks = false) (hn : narrow ty (.int v) = .int v) (hdg : decode cc pc = .ok (.ireturn, 1)) : W p l e R s m args below meth c s.heap [] 0 0 (MQ below (Qrd (some (.int v))) args s 0 0 q_no) (F0 m pc ls [.int v]) :=
  W.zret hx hb hr hn (fun t ht _ => ⟨rfl, ht⟩) (fun _ h => nomatch h) hdg hlk
theorem e_retv (hx : p.tables.exec = Jvm.exec) (hb : c.code = cc) (hr : meth.sig.returnType = none) (hlk : meth.locks = false) (hdg : decode cc pc = .ok (.return_, 1)) : W p l e R s m args below meth c s.heap [] 0 0 (MQ below (Qrd none) args s 0 0 q_no) (F0 m pc ls []) :=
  W.vret hx hb hr (fun t ht _ => ⟨rfl, ht⟩) (fun _ h => nomatch h) hdg hlk
theorem e_wret {v : Int32} {ty : FieldType} (hx : p.tables.exec = Jvm.exec) (hb : c.code = cc) (hr : meth.sig.returnType = some ty) (hlk : meth.locks = false) (hn : narrow ty (.int v) = .int v) (hP : va_P D vwCl ws H) (hS : va_S A s.heap H locs) (hdg : decode cc pc = .ok (.ireturn, 1)) : W p l e R s m args below meth c H locs cells slots (MQ below (Qwr D A ws (some (.int v))) args s cells slots A) (F0 m pc ls [.int v]) :=
  W.zret hx hb hr hn (fun t ht _ => ⟨rfl, by rw [ht]; exact hP, hS.F ht⟩) hS.2.2 hdg hlk
theorem e_wretv (hx : p.tables.exec = Jvm.exec) (hb : c.code = cc) (hr : meth.sig.returnType = none) (hlk : meth.locks = false) (hP : va_P D vwCl ws H) (hS : va_S A s.heap H locs) (hdg : decode cc pc = .ok (.return_, 1)) : W p l e R s m args below meth c H locs cells slots (MQ below (Qwr D A ws none) args s cells slots A) (F0 m pc ls []) :=
  W.vret hx hb hr (fun t ht _ => ⟨rfl, by rw [ht]; exact hP, hS.F ht⟩) hS.2.2 hdg hlk
/-- the top of the stack by another name -/
theorem q_top {x y : Int32} (h : x = y) (k : W p l e R s m args below meth c H locs cells slots Q (F0 m pc ls (.int y :: rest))) : W p l e R s m args below meth c H locs cells slots Q (F0 m pc ls (.int x :: rest)) := h ▸ k
/-- behind a call -/
theorem q_rd {v : Value} (hr : va_Run p l e R s m args below meth c H locs cells slots 0 0 (F0 m pc ls st0) rest (fun st oc t => oc = .returned (some v) ∧ t.heap = st.heap) q_no)
    (kk : W p l e R s m args below meth c H locs cells slots Q (F0 m (pc + 3) ls (v :: rest))) : W p l e R s m args below meth c H locs cells slots Q (F0 m pc ls st0) := by
  intro T hT X
  obtain ⟨v1, st₀, t, T', L, h0, X', hL, e1, e2, ⟨hv, hh⟩, st⟩ := hr T hT X
  have hL0 : L = [] := List.eq_nil_iff_forall_not_mem.mpr (fun q hq => hL q hq)
  subst hL0
  cases hv
  rw [List.append_nil] at X'
  obtain ⟨t2, a1, b1⟩ := kk T' (by rw [e1, hh, h0]) X'
  exact ⟨t2, st t2 a1, b1⟩
theorem q_rdv (hr : va_Run p l e R s m args below meth c H locs cells slots 0 0 (F0 m pc ls st0) rest (fun st oc t => oc = .returned none ∧ t.heap = st.heap) q_no)
    (kk : W p l e R s m args below meth c H locs cells slots Q (F0 m (pc + 3) ls rest)) : W p l e R s m args below meth c H locs cells slots Q (F0 m pc ls st0) := by
  intro T hT X
  obtain ⟨v1, st₀, t, T', L, h0, X', hL, e1, e2, ⟨hv, hh⟩, st⟩ := hr T hT X
  have hL0 : L = [] := List.eq_nil_iff_forall_not_mem.mpr (fun q hq => hL q hq)
  subst hL0
  cases hv
  rw [List.append_nil] at X'
  obtain ⟨t2, a1, b1⟩ := kk T' (by rw [e1, hh, h0]) X'
  exact ⟨t2, st t2 a1, b1⟩
theorem q_Sgo {st₀ t T' : State} {L : List Loc} (h0 : st₀.heap = H) (e1 : T'.heap = t.heap) (hS : va_S A H0 H locs) (hL : ∀ q ∈ L, A q.base) (hF : va_F A st₀ t) : va_S A H0 T'.heap (locs ++ L) :=
  (vx_keep (A1 := A) (free := A) h0 e1 hS (fun _ _ h => h) (fun _ h => h) hL hF).2.2
theorem q_wr {v : Value} {mc ms : Nat} (hr : va_Run p l e R s m args below meth c H locs cells slots mc ms (F0 m pc ls st0) rest (fun st oc t => oc = .returned (some v) ∧ va_P D vwCl ws' t.heap ∧ va_F A st t) A) (hS : va_S A H0 H locs)
    (kk : ∀ (H : Heap) (locs : List Loc), va_P D vwCl ws' H → va_S A H0 H locs → W p l e R s m args below meth c H locs (cells + mc) (slots + ms) Q (F0 m (pc + 3) ls (v :: rest))) : W p l e R s m args below meth c H locs cells slots Q (F0 m pc ls st0) := by
  intro T hT X
  obtain ⟨v1, st₀, t, T', L, h0, X', hL, e1, e2, ⟨hv, hp, hF⟩, st⟩ := hr T hT X
  cases hv
  obtain ⟨t2, a1, b1⟩ := kk T'.heap (locs ++ L) (by rw [e1]; exact hp) (q_Sgo h0 e1 hS hL hF) T' rfl X'
  exact ⟨t2, st t2 a1, b1⟩
theorem q_wrv {mc ms : Nat} (hr : va_Run p l e R s m args below meth c H locs cells slots mc ms (F0 m pc ls st0) rest (fun st oc t => oc = .returned none ∧ va_P D vwCl ws' t.heap ∧ va_F A st t) A) (hS : va_S A H0 H locs)
    (kk : ∀ (H : Heap) (locs : List Loc), va_P D vwCl ws' H → va_S A H0 H locs → W p l e R s m args below meth c H locs (cells + mc) (slots + ms) Q (F0 m (pc + 3) ls rest)) : W p l e R s m args below meth c H locs cells slots Q (F0 m pc ls st0) := by
  intro T hT X
  obtain ⟨v1, st₀, t, T', L, h0, X', hL, e1, e2, ⟨hv, hp, hF⟩, st⟩ := hr T hT X
  cases hv
  obtain ⟨t2, a1, b1⟩ := kk T'.heap (locs ++ L) (by rw [e1]; exact hp) (q_Sgo h0 e1 hS hL hF) T' rfl X'
  exact ⟨t2, st t2 a1, b1⟩
/-- behind a call of a method that throws -/
theorem q_th {mc ms : Nat} {E : String} {ag : Array Value} {Qc : Array Value → State → Outcome → State → Prop} {XC : String → State → State → Prop} (hr : vx_Run p l e R s m args below meth c s.heap [] 0 0 1 6 (F0 m pc ls st0) rest (Qth ag) (Xth E) q_no) (hlk : meth.locks = false) (hxt : ∀ x ∈ c.exceptionTable.toList, False) (hmc : 1 ≤ mc) (hms : 6 ≤ ms)
    (hx : ∀ t : State, s.vm.Alike t.vm → vS q_no s t → XC E s t) : W p l e R s m args below meth c s.heap [] 0 0 (vx_MQ below Qc XC args s mc ms q_no) (F0 m pc ls st0) := by
  intro T hT X
  rcases hr T hT X with ⟨v, st₀, t, T', L, h0, X', hL, e1, e2, h9, st⟩ | ⟨q, st₀, t, T', L, E', ce, h0, X', hL, e1, e2, ⟨hE, hF⟩, hce, hcv, hcl, st⟩
  · exact absurd h9 (fun h => h)
  · subst hE
    obtain ⟨hz, hk⟩ := hF
    rw [h0] at hz hk
    obtain ⟨t2, a1, b1⟩ := vx_out (Qc := Qc) (XC := XC) (mc := mc) (ms := ms) (free := q_no) (rest := rest) (fun x hx => (hxt x hx).elim) hlk (by rw [e1]; exact hce) hcv hcl (fun t9 ht9 hv9 => hx t9 hv9 ⟨by rw [ht9, e1]; exact hz, fun q9 h1 h2 => by rw [ht9, e1]; exact hk q9 h1 h2⟩) (fun z hz => hL z (by simpa using hz)) (by omega) (by omega) T' rfl X'
    exact ⟨t2, st.trans a1, b1⟩
end Rows9
