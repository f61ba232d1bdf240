/-! new; dup; invokespecial, of a nest mate or of another class: the new object's cells come behind the others -/
section MkRows
variable {p : Program} {l : Launch} {e : Env} {R : Room} {s : State} {m : MethodId} {args : Array Value} {below : List Frame} {meth : Method} {c : Code} {H : Heap} {locs : List Loc} {cells slots : Nat} {Q : State → Prop}
variable {pc : Nat} {ls : Array Slot} {rest st0 : List Value} {A : Nat → Prop} {H0 : Heap} {cc : ByteArray} {D : va_G} {cI cZ cL : ClassId} {ws ws' : va_W}
variable {nL ic ix n' k' mc ms ci N : Nat} {own host : String} {y : MethodName} {b' : ByteArray} {T : u_T} {fs0 : List Value} {wf : (Nat → Nat) → va_W} {ty : Nat → FieldType}
theorem q_mkN (hx : p.tables.exec = Jvm.exec) (hb : c.code = cc) (hml : c.maxLocals = nL) (hown : s.vm.findClass own = some m.cls) (hE : EV D cI cZ cL s)
    (hM : ∀ a0 sz, NW l D cI cZ cL y b' n' k' mc ms a0 sz ci fs0 wf) (ck : CKi y b' n' 0) (hl : Cond.methodLinkNest own ix y host ∈ TW) (hcl : Cond.classLink own ic y.cls ∈ TW) (hins : Cond.instantiable y.cls N ∈ TW)
    (hin : ∀ w ∈ u_ws y.cls T N, w ∈ TW) (hty : ∀ k, k < N → parseFieldDescriptor (T k).2.2.1 = some (ty k)) (hc : vwCl[ci]? = some (y.cls, T, N)) (hfs : ∀ j, j < N → defaultValue (ty j) = vp_V fs0 j)
    (hP : va_P D vwCl ws H) (hD : va_D A ws) (hS : va_S A H0 H locs) (hA : ∀ q, H0.size ≤ q → A q) (hls : ls.size = nL)
    (k : Nat) (isR : List Nat) (hC : ∀ q : Nat, [k].map (fun i => (ws ++ [((q, .inr (ci, fs0)) : Nat × va_E)])[i]?) = [((q, .inr (ci, fs0)) : Nat × va_E)].map some) (hC2 : ∀ q : Nat, [k].filterMap (fun i => (ws ++ [((q, .inr (ci, fs0)) : Nat × va_E)])[i]?) = [((q, .inr (ci, fs0)) : Nat × va_E)])
    (hRR : ∀ q : Nat, isR.map (fun i => (ws ++ [((q, .inr (ci, fs0)) : Nat × va_E)])[i]?) = ws.map some) (hn : va_nd isR = true) (hdis : ∀ i ∈ isR, i ∉ [k])
    (hcells : cells + 1 + mc ≤ R.cells) (hslots : slots + N + ms ≤ R.slots) (hR : k' + 1 ≤ R.frames ∧ 8 + (n' + 11) + 30 * k' ≤ R.locals) (hcat : ∀ q : Nat, ((Value.ref q :: rest).map fun v => v.category).sum ≤ 8)
    (d0 : decode cc pc = .ok (.new ic, 3)) (d3 : decode cc (pc + 3) = .ok (.dup, 1)) (d4 : decode cc (pc + 3 + 1) = .ok (.invokespecial ix, 3))
    (kk : ∀ (ad : Nat → Nat) (H : Heap) (locs : List Loc), va_P D vwCl (ws ++ wf ad) H → va_D A (ws ++ wf ad) → va_S A H0 H locs →
      W p l e R s m args below meth c H locs (cells + 1 + mc) (slots + N + ms) Q (F0 m (pc + 3 + 1 + 3) ls (.ref (ad 0) :: rest))) : W p l e R s m args below meth c H locs cells slots Q (F0 m pc ls rest) := by
  refine va_new (Ts := TW) hx hb (fun w h => hE.1 w h args) hin ty hty hown (hE.1 _ hcl args) (hE.1 _ hins args) (hE.1 _ ck.2.1 args) hE.2 hP hD hS hA hc hfs (by omega) (by omega) d0 (fun q H1 hP1 hD1 hS1 => ?_)
  refine lv_dup hx hb d3 rfl ?_
  have hPc : va_P D vwCl [(q, .inr (ci, fs0))] H1 := hP1.sub (ws' := [(q, .inr (ci, fs0))]) [k] (hC2 q)
  have hFc := va_free (wc := [(q, .inr (ci, fs0))]) hD1 hS1 hA [k] (hC q)
  refine va_callv (va_runIN (Ts := []) (As := []) (rest := .ref q :: rest) ⟨hx, hb, hml, hown, fun _ h => nomatch h⟩ (hM q H1.size) ⟨⟨⟨rfl, rfl, hR.1, hR.2, q_code hE.1 ck.1, List.mem_singleton.mpr rfl⟩, hE.1 _ ck.1 _, hE.1 _ ck.2.1 _, ck.2.2.1, q_npar ck.2.2.2.1, hE.1 _ hl _⟩, ck.2.2.2.2.2, hE.1 _ ck.2.2.2.2.1 _⟩
    ⟨fun a U g mk q' => ⟨q'.1, q'.2.1, EV.call q'.2.2.1, q'.2.2.2⟩, fun U hU hW => ⟨rfl, by rw [hU], EV.warm hW hE, by rw [hU]; exact hPc⟩⟩ rfl rfl hls rfl (lv_room (hcat q)) d4 ⟨hcells, hslots⟩) hS1 (fun q _ h => hFc q h) hFc (fun ad t H2 locs2 ht hvm _ hB hz1 hk1 hS2 => ?_)
  obtain ⟨h0, hP2, hD2⟩ := hB
  rw [ht] at hP2
  obtain ⟨hP3, hD3⟩ := va_join (wr := ws) (w1 := wf ad) hP1 hD1 [k] isR (hC q) (hRR q) hn hdis hk1 hFc hP2 hD2
  have h9 := kk ad H2 locs2 hP3 hD3 hS2
  rw [h0] at h9
  exact h9
end MkRows
