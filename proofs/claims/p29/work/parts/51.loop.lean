/-! p29: the law from its entry -/
section Start29
variable {p : Program} {l : Launch} {e : Env} {s : State} {m : MethodId} {args : Array Value} {below : List Frame} {meth : Method} {c : Code} {H : Heap} {locs : List Loc}
variable {ls : Array Slot} {D : va_G} {cI cZ cL : ClassId} {ad aa : Nat → Nat} {fa S : Mem} {b L : Nat} {xs : Nat → Int32}
theorem lx_loop (X : LX p l s m meth c b L xs D cI cZ cL ad aa) : ∀ (k n : Nat), 5 ≤ n → n + k = 110 → ∀ (fa S : Mem) (H : Heap) (locs : List Loc) (ls : Array Slot), FA fa 3 2 → GW D cI (fun q => s.heap.size ≤ q) ad aa fa 3 2 s S H locs → s.heap.size + LB n ≤ H.size →
    lv_has ls 20 [(9, .int (bI true)), (10, .int (nI n)), (0, .ref b), (1, .ref (ad 0)), (2, .ref (aa 0)), (3, .ref (aa 1)), (4, .ref (aa 2)), (5, .ref (aa 3)), (6, .ref (aa 4)), (7, .ref (aa 5)), (8, .ref (aa 6))] →
    W p l e (rg 20 20000) s m args below meth c H locs (159 * n + 1000) (6 * (159 * n + 1000)) (MQ below QL args s 20000 (6 * 20000) (fun q => s.heap.size ≤ q)) (F0 m 90 ls []) := by
  intro k
  induction k with
  | zero =>
    intro n h5 hn fa S H locs ls hfa hw hN hl
    have hn' : n = 110 := by omega
    subst hn'
    refine lx_end1 X hfa hw ?_ ⟨by omega, by omega⟩ hl
    have : LB 110 = 175 := rfl
    omega
  | succ k ih =>
    intro n h5 hn fa S H locs ls hfa hw hN hl
    refine lx_G X h5 (by omega) rfl hfa hw hN hl (fun fa S H locs ls hfa hw hN hl => ?_)
    exact W.widen (by omega) (by omega) (ih (n + 1) (by omega) (by omega) fa S H locs ls hfa hw hN hl)
theorem lx_body (X : LX p l s m meth c b L xs D cI cZ cL ad aa) (hfa : FA fa 0 0) (hw : GW D cI (fun q => s.heap.size ≤ q) ad aa fa 0 0 s S H locs) (hN : s.heap.size + 42 ≤ H.size) (hl : lv_has ls 20 [(0, .ref b), (1, .ref (ad 0)), (2, .ref (aa 0)), (3, .ref (aa 1)), (4, .ref (aa 2)), (5, .ref (aa 3)), (6, .ref (aa 4)), (7, .ref (aa 5)), (8, .ref (aa 6))]) :
    W p l e (rg 20 20000) s m args below meth c H locs (600) (6 * (600)) (MQ below QL args s 20000 (6 * 20000) (fun q => s.heap.size ≤ q)) (F0 m 50 ls []) := by
  refine lx_init X hfa hw hN hl (fun fa S H locs ls hfa hw hN hl => ?_)
  refine lx_T0 X rfl hfa hw hN hl (fun fa S H locs ls hfa hw hN hl => ?_)
  refine lx_T1 X rfl hfa hw hN hl (fun fa S H locs ls hfa hw hN hl => ?_)
  refine lx_R2 X rfl hfa hw hN hl (fun fa S H locs ls hfa hw hN hl => ?_)
  refine lx_R3 X rfl hfa hw hN hl (fun fa S H locs ls hfa hw hN hl => ?_)
  refine lx_R4 X rfl hfa hw hN hl (fun fa S H locs ls hfa hw hN hl => ?_)
  exact W.widen (by omega) (by omega) (lx_loop X 105 5 (by omega) (by omega) fa S H locs ls hfa hw hN hl)
end Start29
