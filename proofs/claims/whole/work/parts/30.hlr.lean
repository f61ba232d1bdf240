/-! rows for the law's helpers -/
def aW (ws : va_W) : Nat → Prop := fun q => ∃ (k : Nat) (e : va_E), ws[k]? = some (q, e)
theorem aW_D {ws : va_W} {A : Nat → Prop} (h : va_D A ws) : va_D (aW ws) ws := ⟨h.1, fun k q hk => ⟨k, q.2, hk⟩⟩
theorem q_Swk {A B : Nat → Prop} {H0 H : Heap} {locs : List Loc} (hAB : ∀ q, A q → B q) (h : va_S A H0 H locs) : va_S B H0 H locs := ⟨h.1, fun q h1 h2 => h.2.1 q h1 (fun h3 => h2 (hAB q h3)), fun z hz => hAB _ (h.2.2 z hz)⟩
/-- cells outside of what was written stay -/
theorem q_keep {A : Nat → Prop} {D : va_G} {ws : va_W} {H0 H : Heap} {locs : List Loc} (hS : va_S A H0 H locs) (hP : va_P D vwCl ws H0) (ha : ∀ q, aW ws q → ¬ A q) : va_P D vwCl ws H :=
  va_P.kept hP (fun k x hx => hS.2.1 x.1 ((hP k x hx).lt) (ha x.1 ⟨k, x.2, hx⟩))
section Last9
variable {p : Program} {l : Launch} {e : Env} {R : Room} {s : State} {m : MethodId} {args : Array Value} {below : List Frame} {meth : Method} {c : Code} {H : Heap} {locs : List Loc} {cells slots : Nat} {Q : State → Prop}
variable {pc : Nat} {ls : Array Slot} {rest : List Value} {A : Nat → Prop} {H0 : Heap} {cc : ByteArray} {D : va_G} {cI cZ cL : ClassId} {ws : va_W} {ao : Nat} {f : Nat → Int64} {x : Int64}
theorem q_last (hx : p.tables.exec = Jvm.exec) (hb : c.code = cc) (hE : EV D cI cZ cL s) (hP : va_P D vwCl ws H) (hO : va_P D vwCl (wO ao cL f) H) (hD : va_D A (wO ao cL f ++ ws)) (hS : va_S A H0 H locs) (hdg : decode cc pc = .ok (.lastore, 1))
    (kk : ∀ (H1 : Heap) (locs1 : List Loc), va_P D vwCl ws H1 → va_P D vwCl (wO ao cL (vp_updL f 0 x)) H1 → va_S A H0 H1 locs1 → W p l e R s m args below meth c H1 locs1 cells slots Q (F0 m (pc + 1) ls rest)) : W p l e R s m args below meth c H locs cells slots Q (F0 m pc ls (.long x :: .int 0 :: .ref ao :: rest)) :=
  va_last (i := 0) hx hb hE.2 (hO.app hP) hD hS 0 2 rfl rfl (by unfold vp_in; decide) hdg (fun H1 locs1 h1 _ h3 => kk H1 locs1 (fun k q hk => h1 (k + 1) q hk) (h1.sub [0] rfl) h3)
end Last9
