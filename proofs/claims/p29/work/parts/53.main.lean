/-! p29: the claim is false at each start with room enough on a script that begins with 110 threes -/
set_option maxHeartbeats 4000000 in
theorem lx_walk (l : Launch) (hflags : l.flags = flags0) (b : Addr) (xs : List Int32) : MetFree l x (headSpec (Jvm.Cond.code x code maxLocals ret :: tables_1) (rg 20 20000)) (fun args s => lw_P b xs args s ∧ 110 ≤ xs.length ∧ ∀ k, k < 110 → xs.getD k 0 = 3) (fun _ _ _ _ _ => True) (fun a s o t => QL a s o t) := by
  refine MetFree.of_bodyS (code := code) (maxLocals := maxLocals) (ret := ret) (by decide) ?_ ?_
  · intro args s m h hn
    obtain ⟨meth, c, h1, h2, h3, h4, h5, h6, -, -⟩ := Cond.code_spec hn (atoms_spec (ws := Jvm.Cond.code x code maxLocals ret :: tables_1) h _ List.mem_cons_self)
    exact ⟨meth, c, h1, h2, h3, h4, h5, h6⟩
  · intro p e s m args below meth c s₁ B hml0 hP _
    obtain ⟨⟨rfl, hx, hbd, hgv⟩, hlen, hthree⟩ := hP
    obtain ⟨scr, harrAt, hlist, hof, hsmall⟩ := hx
    obtain ⟨hcb, hkn, -, -⟩ := State.arrayAt?_spec harrAt
    have hown : s.vm.findClass R_law = some m.cls := findClass_of_methodNamed B.named
    have hts0 : ∀ c ∈ (Jvm.Cond.code x code maxLocals ret :: tables_1), c.before #[Value.ref b] s = true := atoms_spec (ws := Jvm.Cond.code x code maxLocals ret :: tables_1) B.pre
    have hts : ∀ w ∈ lw_tbl, w.before #[Value.ref b] s = true := k2_hts_sels lw_privs (fun w hw => hts0 w (List.mem_cons_of_mem _ hw)) lw_privs_ok
    have hml : c.maxLocals = 20 := B.maxLocals_eq (hts0 _ List.mem_cons_self)
    have X₀ : Stand p l e (rg 20 20000) s m #[Value.ref b] below meth c s₁ [] 0 0 := Stand.of_body B
    have hh0 : s₁.heap = s.heap := by rw [B.state]; rfl
    have hsz : scr.slots.size = xs.length := by rw [← Array.length_toList, hlist, List.length_map]
    have hval : ∀ j : Nat, j < xs.length → scr.slots[j]? = some (.int (xs.getD j 0)) := fun j hj => by
      rw [← Array.getElem?_toList, hlist]
      simp [hj]
    have hbl : b < s.heap.size := (Array.getElem?_eq_some_iff.mp hcb).1
    have hX : va_X b xs.length (fun j => xs.getD j 0) s s.heap := ⟨scr, hcb, hof, hkn, hsz, hval⟩
    have K : W p l e (rg 20 20000) s m #[Value.ref b] below meth c s₁.heap [] 0 0 (MQ below QL #[Value.ref b] s 20000 (6 * 20000) (fun q => s.heap.size ≤ q)) (entryFrame m ([Value.ref b] : List Value).toArray 20) := by
      rw [hh0]
      exact lx_start l hflags hlen hbd hthree ⟨B.exec, B.bytes, B.returns, hml, hown, hts, hX, hbl, B.notSynchronized, hgv⟩
    obtain ⟨t, a1, o, b1, b2, b3, -⟩ := K s₁ rfl X₀
    exact ⟨t, o, a1, b1, b2, b3⟩
/-- **p29's second limb is false** at every start that the Statement allows, on a script that begins with 110 threes, where the room is enough for the law to come to its end (20 frames, 20,000 cells, 120,000 slots): there the law answers 0, or has made more than 161 cells -/
theorem no_vc {l : Launch} (hflags : l.flags = flags0) (hlists : Lists l classFile x code maxLocals ret tables_1 room_1) {p : Program} {e : Env} (ha : l.admits e) (hc : FairCas e.choices) (hk : FairClock e.choices) {s : State} {m : MethodId} {args : Array Value} {below : List Frame}
    (hf : s.frames = Frame.invoking m args :: below) (hfit : argsFit s.vm m args = true) (hheap : heapFits s = true) (happ : (headSpec (Jvm.Cond.code x code maxLocals ret :: tables_1) room_1).applies x e.platform s = true) (hrest : rest_1 p.tables e args s) (hpre : Pre_1 p.tables e args s)
    (hroom : (headSpec (Jvm.Cond.code x code maxLocals ret :: tables_1) (rg 20 20000)).applies x e.platform s = true) {b : Addr} {xs : List Int32} (hargs : args = #[.ref b]) (hxs : s.IntsAt b xs) (h260 : xs.length ≤ 260) (h110 : 110 ≤ xs.length) (h3 : ∀ k, k < 110 → xs.getD k 0 = 3) : ¬ Claimed_1_2 := by
  intro hC
  obtain ⟨n, o, w1, r1, e1, hpost, -, -, hframe⟩ := hC l hflags hlists trivial p e ha hc hk s m args below hf hfit hheap happ ⟨trivial, hrest, hpre⟩
  obtain ⟨n2, o2, w2, r2, e2, hq⟩ := lx_walk l hflags b xs p e ha hc hk s m args below hf ((Spec.applies_iff_loose hf).mp hroom).1 ⟨⟨hargs, hxs, h260, hpre⟩, h110, h3⟩ trivial
  have hn : n = n2 := by
    rcases Nat.lt_trichotomy n n2 with h | h | h
    · exact absurd (w2 n h) e1.not_within
    · exact h
    · exact absurd (w1 n2 h) e2.not_within
  subst hn
  have ho : o = o2 := e1.outcome_unique e2
  subst ho
  rcases hq with h0 | h162
  · subst h0
    have h9 := Cond.after_iff.mp hpost
    rw [show limb_1_2 = Cond.eq .result (.int 1) from rfl, Cond.eq_ints (x := 0) (y := 1) rfl rfl] at h9
    simp at h9
  · have h9 : (stepsAlone p.tables e n s).heap.size ≤ s.heap.size + 161 := hframe.2.2.1
    have h8 : s.heap.size + 162 ≤ (stepsAlone p.tables e n s).heap.size := h162
    omega
theorem no_claim {l : Launch} (hflags : l.flags = flags0) (hlists : Lists l classFile x code maxLocals ret tables_1 room_1) {p : Program} {e : Env} (ha : l.admits e) (hc : FairCas e.choices) (hk : FairClock e.choices) {s : State} {m : MethodId} {args : Array Value} {below : List Frame}
    (hf : s.frames = Frame.invoking m args :: below) (hfit : argsFit s.vm m args = true) (hheap : heapFits s = true) (happ : (headSpec (Jvm.Cond.code x code maxLocals ret :: tables_1) room_1).applies x e.platform s = true) (hrest : rest_1 p.tables e args s) (hpre : Pre_1 p.tables e args s)
    (hroom : (headSpec (Jvm.Cond.code x code maxLocals ret :: tables_1) (rg 20 20000)).applies x e.platform s = true) {b : Addr} {xs : List Int32} (hargs : args = #[.ref b]) (hxs : s.IntsAt b xs) (h260 : xs.length ≤ 260) (h110 : 110 ≤ xs.length) (h3 : ∀ k, k < 110 → xs.getD k 0 = 3) : ¬ (Claimed_1_1 ∧ Claimed_1_2) :=
  fun h => no_vc hflags hlists ha hc hk hf hfit hheap happ hrest hpre hroom hargs hxs h260 h110 h3 h.2
