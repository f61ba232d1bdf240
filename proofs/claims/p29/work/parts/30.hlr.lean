/-! rows for the law's helpers -/
def aW (ws : va_W) : Nat → Prop := fun q => ∃ (k : Nat) (e : va_E), ws[k]? = some (q, e)
theorem aW_D {ws : va_W} {A : Nat → Prop} (h : va_D A ws) : va_D (aW ws) ws := ⟨h.1, fun k q hk => ⟨k, q.2, hk⟩⟩
theorem q_Swk {A B : Nat → Prop} {H0 H : Heap} {locs : List Loc} (hAB : ∀ q, A q → B q) (h : va_S A H0 H locs) : va_S B H0 H locs := ⟨h.1, fun q h1 h2 => h.2.1 q h1 (fun h3 => h2 (hAB q h3)), fun z hz => hAB _ (h.2.2 z hz)⟩
/-- cells outside of what was written stay -/
theorem q_keep {A : Nat → Prop} {D : va_G} {ws : va_W} {H0 H : Heap} {locs : List Loc} (hS : va_S A H0 H locs) (hP : va_P D vwCl ws H0) (ha : ∀ q, aW ws q → ¬ A q) : va_P D vwCl ws H :=
  va_P.kept hP (fun k x hx => hS.2.1 x.1 ((hP k x hx).lt) (ha x.1 ⟨k, x.2, hx⟩))
