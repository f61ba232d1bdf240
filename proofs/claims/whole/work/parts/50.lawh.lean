/-! a helper and the model, whatever is thrown -/
theorem hh_pass (l : Launch) (hfl : l.flags = flags0) (D : va_G) (cI cZ cL : ClassId) (ad : Nat → Nat) (ao : Nat) {S M : Mem} (f : Nat → Int64) (A : Nat → Prop) (hD : va_D A (wO ao cL f ++ wC ad cI S)) (x1 : Int32) (h : Rel S M) : ∃ (S' : Mem) (f' : Nat → Int64) (v : Int32), HL l D cI cZ cL yL_pass cL_pass 4 [(0, 9, 12, 13), (0, 9, 15, 15)] 8 [.ref (ad 0), .int x1, .ref ao] A ao (wC ad cI S) (wC ad cI S') f f' v ∧ v = (mPass M x1).2.1 ∧ Rel S' (mPass M x1).2.2 ∧ (v = 0 → f' 0 = ((mPass M x1).1).toInt64) := by
  rcases sim_pass h x1 with ⟨h1, h2, h3, h4⟩ | ⟨k, E, hk, h1, h2, h4⟩
  · exact ⟨_, _, _, h_pass l D cI cZ cL ad ao S f A hD x1 h.inv.i0 h1, h2.symm, h4, fun _ => by rw [← h3]; exact pk_uLs⟩
  · match k, hk with
    | 0, hk =>
      have e : E = xA := (Option.some.inj hk).symm
      subst e
      exact ⟨_, _, _, h_pass_T0 l hfl D cI cZ cL ad ao S f A x1 h.inv.i0 h1, h2.symm, h4, fun z => absurd z (by decide)⟩
    | 1, hk =>
      have e : E = xS := (Option.some.inj hk).symm
      subst e
      exact ⟨_, _, _, h_pass_T1 l hfl D cI cZ cL ad ao S f A x1 h.inv.i0 h1, h2.symm, h4, fun z => absurd z (by decide)⟩
    | k + 2, hk => exact nomatch (show (none : Option String) = some E from hk)
theorem hh_addRiddle (l : Launch) (hfl : l.flags = flags0) (D : va_G) (cI cZ cL : ClassId) (ad : Nat → Nat) (ao : Nat) {S M : Mem} (f : Nat → Int64) (A : Nat → Prop) (hD : va_D A (wO ao cL f ++ wC ad cI S)) (x1 : Int32) (x2 : Int32) (x3 : Int32) (x4 : Int32) (h : Rel S M) : ∃ (S' : Mem) (f' : Nat → Int64) (v : Int32), HL l D cI cZ cL yL_addRiddle cL_addRiddle 7 [(0, 14, 17, 13), (0, 14, 21, 15)] 8 [.ref (ad 0), .int x1, .int x2, .int x3, .int x4, .ref ao] A ao (wC ad cI S) (wC ad cI S') f f' v ∧ v = (mAddR M x1 x2 x3 x4).2.1 ∧ Rel S' (mAddR M x1 x2 x3 x4).2.2 ∧ (v = 0 → f' 0 = ((mAddR M x1 x2 x3 x4).1).toInt64) := by
  rcases sim_addR h x1 x2 x3 x4 with ⟨h1, h2, h3, h4⟩ | ⟨k, E, hk, h1, h2, h4⟩
  · exact ⟨_, _, _, h_addRiddle l D cI cZ cL ad ao S f A hD x1 x2 x3 x4 h.inv.i0 h1, h2.symm, h4, fun _ => by rw [← h3]; exact pk_uLs⟩
  · match k, hk with
    | 0, hk =>
      have e : E = xA := (Option.some.inj hk).symm
      subst e
      exact ⟨_, _, _, h_addRiddle_T0 l hfl D cI cZ cL ad ao S f A x1 x2 x3 x4 h.inv.i0 h1, h2.symm, h4, fun z => absurd z (by decide)⟩
    | 1, hk =>
      have e : E = xS := (Option.some.inj hk).symm
      subst e
      exact ⟨_, _, _, h_addRiddle_T1 l hfl D cI cZ cL ad ao S f A x1 x2 x3 x4 h.inv.i0 h1, h2.symm, h4, fun z => absurd z (by decide)⟩
    | k + 2, hk => exact nomatch (show (none : Option String) = some E from hk)
theorem hh_need (l : Launch) (hfl : l.flags = flags0) (D : va_G) (cI cZ cL : ClassId) (ad : Nat → Nat) (ao : Nat) {S M : Mem} (f : Nat → Int64) (A : Nat → Prop) (hD : va_D A (wO ao cL f ++ wC ad cI S)) (x1 : Int32) (x2 : Int32) (h : Rel S M) : ∃ (S' : Mem) (f' : Nat → Int64) (v : Int32), HL l D cI cZ cL yL_need cL_need 5 [(0, 10, 13, 25), (0, 10, 17, 13), (0, 10, 21, 15)] 8 [.ref (ad 0), .int x1, .int x2, .ref ao] A ao (wC ad cI S) (wC ad cI S') f f' v ∧ v = (mNeed M x1 x2).2.1 ∧ Rel S' (mNeed M x1 x2).2.2 ∧ (v = 0 → f' 0 = ((mNeed M x1 x2).1).toInt64) := by
  rcases sim_need h x1 x2 with ⟨h1, h2, h3, h4⟩ | ⟨k, E, hk, h1, h2, h4⟩
  · exact ⟨_, _, _, h_need l D cI cZ cL ad ao S f A hD x1 x2 h.inv.i0 h1, h2.symm, h4, fun _ => by rw [← h3]; exact pk_uLs⟩
  · match k, hk with
    | 0, hk =>
      have e : E = xI := (Option.some.inj hk).symm
      subst e
      exact ⟨_, _, _, h_need_T0 l hfl D cI cZ cL ad ao S f A x1 x2 h.inv.i0 h1, h2.symm, h4, fun z => absurd z (by decide)⟩
    | 1, hk =>
      have e : E = xA := (Option.some.inj hk).symm
      subst e
      exact ⟨_, _, _, h_need_T1 l hfl D cI cZ cL ad ao S f A x1 x2 h.inv.i0 h1, h2.symm, h4, fun z => absurd z (by decide)⟩
    | 2, hk =>
      have e : E = xS := (Option.some.inj hk).symm
      subst e
      exact ⟨_, _, _, h_need_T2 l hfl D cI cZ cL ad ao S f A x1 x2 h.inv.i0 h1, h2.symm, h4, fun z => absurd z (by decide)⟩
    | k + 3, hk => exact nomatch (show (none : Option String) = some E from hk)
theorem hh_addTeam (l : Launch) (hfl : l.flags = flags0) (D : va_G) (cI cZ cL : ClassId) (ad : Nat → Nat) (ao : Nat) {S M : Mem} (f : Nat → Int64) (A : Nat → Prop) (hD : va_D A (wO ao cL f ++ wC ad cI S)) (h : Rel S M) : ∃ (S' : Mem) (f' : Nat → Int64) (v : Int32), HL l D cI cZ cL yL_addTeam cL_addTeam 3 [(0, 8, 11, 15)] 8 [.ref (ad 0), .ref ao] A ao (wC ad cI S) (wC ad cI S') f f' v ∧ v = (mAddT M).2.1 ∧ Rel S' (mAddT M).2.2 ∧ (v = 0 → f' 0 = ((mAddT M).1).toInt64) := by
  rcases sim_addT h with ⟨h1, h2, h3, h4⟩ | ⟨k, E, hk, h1, h2, h4⟩
  · exact ⟨_, _, _, h_addTeam l D cI cZ cL ad ao S f A hD h.inv.i0 h1, h2.symm, h4, fun _ => by rw [← h3]; exact pk_uLs⟩
  · match k, hk with
    | 0, hk =>
      have e : E = xS := (Option.some.inj hk).symm
      subst e
      exact ⟨_, _, _, h_addTeam_T0 l hfl D cI cZ cL ad ao S f A h.inv.i0 h1, h2.symm, h4, fun z => absurd z (by decide)⟩
    | k + 1, hk => exact nomatch (show (none : Option String) = some E from hk)
theorem hh_end (l : Launch) (hfl : l.flags = flags0) (D : va_G) (cI cZ cL : ClassId) (ad : Nat → Nat) (ao : Nat) {S M : Mem} (f : Nat → Int64) (A : Nat → Prop) (hD : va_D A (wO ao cL f ++ wC ad cI S)) (h : Rel S M) : ∃ (S' : Mem) (f' : Nat → Int64) (v : Int32), HL l D cI cZ cL yL_end cL_end 3 [(0, 8, 11, 15)] 8 [.ref (ad 0), .ref ao] A ao (wC ad cI S) (wC ad cI S') f f' v ∧ v = (mEnd M).2.1 ∧ Rel S' (mEnd M).2.2 ∧ (v = 0 → f' 0 = ((mEnd M).1).toInt64) := by
  rcases sim_end h with ⟨h1, h2, h3, h4⟩ | ⟨k, E, hk, h1, h2, h4⟩
  · exact ⟨_, _, _, h_end l D cI cZ cL ad ao S f A hD h.inv.i0 h1, h2.symm, h4, fun _ => by rw [← h3]; exact pk_uLs⟩
  · match k, hk with
    | 0, hk =>
      have e : E = xS := (Option.some.inj hk).symm
      subst e
      exact ⟨_, _, _, h_end_T0 l hfl D cI cZ cL ad ao S f A h.inv.i0 h1, h2.symm, h4, fun z => absurd z (by decide)⟩
    | k + 1, hk => exact nomatch (show (none : Option String) = some E from hk)
theorem hh_answer (l : Launch) (hfl : l.flags = flags0) (D : va_G) (cI cZ cL : ClassId) (ad : Nat → Nat) (ao : Nat) {S M : Mem} (f : Nat → Int64) (A : Nat → Prop) (hD : va_D A (wO ao cL f ++ wC ad cI S)) (x1 : Int32) (x2 : Int32) (x3 : Int32) (h : Rel S M) : ∃ (S' : Mem) (f' : Nat → Int64) (v : Int32), HL l D cI cZ cL yL_answer cL_answer 6 [(0, 19, 22, 25), (0, 19, 26, 13), (0, 19, 30, 15)] 8 [.ref (ad 0), .int x1, .int x2, .int x3, .ref ao] A ao (wC ad cI S) (wC ad cI S') f f' v ∧ v = (mAns M x1 x2 x3).2.1 ∧ Rel S' (mAns M x1 x2 x3).2.2 ∧ (v = 0 → f' 0 = (if (mAns M x1 x2 x3).1 = 0 then 0 else 1)) := by
  rcases sim_ans h x1 x2 x3 with ⟨h1, h2, h3, h4⟩ | ⟨k, E, hk, h1, h2, h4⟩
  · exact ⟨_, _, _, h_answer l D cI cZ cL ad ao S f A hD x1 x2 x3 h.inv.i0 h1, h2.symm, h4, fun _ => by rw [← h3]; exact pk_uLs⟩
  · match k, hk with
    | 0, hk =>
      have e : E = xI := (Option.some.inj hk).symm
      subst e
      exact ⟨_, _, _, h_answer_T0 l hfl D cI cZ cL ad ao S f A x1 x2 x3 h.inv.i0 h1, h2.symm, h4, fun z => absurd z (by decide)⟩
    | 1, hk =>
      have e : E = xA := (Option.some.inj hk).symm
      subst e
      exact ⟨_, _, _, h_answer_T1 l hfl D cI cZ cL ad ao S f A x1 x2 x3 h.inv.i0 h1, h2.symm, h4, fun z => absurd z (by decide)⟩
    | 2, hk =>
      have e : E = xS := (Option.some.inj hk).symm
      subst e
      exact ⟨_, _, _, h_answer_T2 l hfl D cI cZ cL ad ao S f A x1 x2 x3 h.inv.i0 h1, h2.symm, h4, fun z => absurd z (by decide)⟩
    | k + 3, hk => exact nomatch (show (none : Option String) = some E from hk)
theorem hh_hint (l : Launch) (hfl : l.flags = flags0) (D : va_G) (cI cZ cL : ClassId) (ad : Nat → Nat) (ao : Nat) {S M : Mem} (f : Nat → Int64) (A : Nat → Prop) (hD : va_D A (wO ao cL f ++ wC ad cI S)) (x1 : Int32) (x2 : Int32) (h : Rel S M) : ∃ (S' : Mem) (f' : Nat → Int64) (v : Int32), HL l D cI cZ cL yL_hint cL_hint 5 [(0, 10, 13, 25), (0, 10, 17, 15)] 8 [.ref (ad 0), .int x1, .int x2, .ref ao] A ao (wC ad cI S) (wC ad cI S') f f' v ∧ v = (mHint M x1 x2).2.1 ∧ Rel S' (mHint M x1 x2).2.2 ∧ (v = 0 → f' 0 = ((mHint M x1 x2).1).toInt64) := by
  rcases sim_hint h x1 x2 with ⟨h1, h2, h3, h4⟩ | ⟨k, E, hk, h1, h2, h4⟩
  · exact ⟨_, _, _, h_hint l D cI cZ cL ad ao S f A hD x1 x2 h.inv.i0 h1, h2.symm, h4, fun _ => by rw [← h3]; exact pk_uLs⟩
  · match k, hk with
    | 0, hk =>
      have e : E = xI := (Option.some.inj hk).symm
      subst e
      exact ⟨_, _, _, h_hint_T0 l hfl D cI cZ cL ad ao S f A x1 x2 h.inv.i0 h1, h2.symm, h4, fun z => absurd z (by decide)⟩
    | 1, hk =>
      have e : E = xS := (Option.some.inj hk).symm
      subst e
      exact ⟨_, _, _, h_hint_T1 l hfl D cI cZ cL ad ao S f A x1 x2 h.inv.i0 h1, h2.symm, h4, fun z => absurd z (by decide)⟩
    | k + 2, hk => exact nomatch (show (none : Option String) = some E from hk)
theorem hh_price (l : Launch) (hfl : l.flags = flags0) (D : va_G) (cI cZ cL : ClassId) (ad : Nat → Nat) (ao : Nat) {S M : Mem} (f : Nat → Int64) (A : Nat → Prop) (hD : va_D A (wO ao cL f ++ wC ad cI S)) (x1 : Int32) (x2 : Int32) (h : Rel S M) : ∃ (S' : Mem) (f' : Nat → Int64) (v : Int32), HL l D cI cZ cL yL_price cL_price 5 [(0, 10, 13, 25), (0, 10, 17, 44)] 8 [.ref (ad 0), .int x1, .int x2, .ref ao] A ao (wC ad cI S) (wC ad cI S') f f' v ∧ v = (mPrice M x1 x2).2.1 ∧ Rel S' (mPrice M x1 x2).2.2 ∧ (v = 0 → f' 0 = ((mPrice M x1 x2).1).toInt64) := by
  rcases sim_price h x1 x2 with ⟨h1, h2, h3, h4⟩ | ⟨k, E, hk, h1, h2, h4⟩
  · have hs : (oPrice S x1 x2).2.2 = S := by
      unfold oPrice o2
      (repeat' split) <;> first | rfl | (dsimp only; (repeat' split) <;> rfl)
    rw [hs] at h4
    exact ⟨_, _, _, h_price l D cI cZ cL ad ao S f A hD x1 x2 h.inv.i0 h1, h2.symm, h4, fun _ => by rw [← h3]; exact pk_uLs⟩
  · match k, hk with
    | 0, hk =>
      have e : E = xI := (Option.some.inj hk).symm
      subst e
      exact ⟨_, _, _, h_price_T0 l hfl D cI cZ cL ad ao S f A x1 x2 h.inv.i0 h1, h2.symm, h4, fun z => absurd z (by decide)⟩
    | 1, hk =>
      have e : E = xN := (Option.some.inj hk).symm
      subst e
      exact ⟨_, _, _, h_price_T1 l hfl D cI cZ cL ad ao S f A x1 x2 h.inv.i0 h1, h2.symm, h4, fun z => absurd z (by decide)⟩
    | k + 2, hk => exact nomatch (show (none : Option String) = some E from hk)
theorem hh_openedAt (l : Launch) (hfl : l.flags = flags0) (D : va_G) (cI cZ cL : ClassId) (ad : Nat → Nat) (ao : Nat) {S M : Mem} (f : Nat → Int64) (A : Nat → Prop) (hD : va_D A (wO ao cL f ++ wC ad cI S)) (x1 : Int32) (x2 : Int32) (h : Rel S M) : ∃ (S' : Mem) (f' : Nat → Int64) (v : Int32), HL l D cI cZ cL yL_openedAt cL_openedAt 5 [(0, 10, 13, 25)] 8 [.ref (ad 0), .int x1, .int x2, .ref ao] A ao (wC ad cI S) (wC ad cI S') f f' v ∧ v = (mOpened M x1 x2).2.1 ∧ Rel S' (mOpened M x1 x2).2.2 ∧ (v = 0 → f' 0 = ((mOpened M x1 x2).1).toInt64) := by
  rcases sim_opened h x1 x2 with ⟨h1, h2, h3, h4⟩ | ⟨k, E, hk, h1, h2, h4⟩
  · have hs : (oOpened S x1 x2).2.2 = S := by
      unfold oOpened o2
      (repeat' split) <;> first | rfl | (dsimp only; (repeat' split) <;> rfl)
    rw [hs] at h4
    exact ⟨_, _, _, h_openedAt l D cI cZ cL ad ao S f A hD x1 x2 h.inv.i0 h1, h2.symm, h4, fun _ => by rw [← h3]; exact pk_uLs⟩
  · match k, hk with
    | 0, hk =>
      have e : E = xI := (Option.some.inj hk).symm
      subst e
      exact ⟨_, _, _, h_openedAt_T0 l hfl D cI cZ cL ad ao S f A x1 x2 h.inv.i0 h1, h2.symm, h4, fun z => absurd z (by decide)⟩
    | k + 1, hk => exact nomatch (show (none : Option String) = some E from hk)
theorem hh_solvedAt (l : Launch) (hfl : l.flags = flags0) (D : va_G) (cI cZ cL : ClassId) (ad : Nat → Nat) (ao : Nat) {S M : Mem} (f : Nat → Int64) (A : Nat → Prop) (hD : va_D A (wO ao cL f ++ wC ad cI S)) (x1 : Int32) (x2 : Int32) (h : Rel S M) : ∃ (S' : Mem) (f' : Nat → Int64) (v : Int32), HL l D cI cZ cL yL_solvedAt cL_solvedAt 5 [(0, 10, 13, 25)] 8 [.ref (ad 0), .int x1, .int x2, .ref ao] A ao (wC ad cI S) (wC ad cI S') f f' v ∧ v = (mSolved M x1 x2).2.1 ∧ Rel S' (mSolved M x1 x2).2.2 ∧ (v = 0 → f' 0 = ((mSolved M x1 x2).1).toInt64) := by
  rcases sim_solved h x1 x2 with ⟨h1, h2, h3, h4⟩ | ⟨k, E, hk, h1, h2, h4⟩
  · have hs : (oSolved S x1 x2).2.2 = S := by
      unfold oSolved o2
      (repeat' split) <;> first | rfl | (dsimp only; (repeat' split) <;> rfl)
    rw [hs] at h4
    exact ⟨_, _, _, h_solvedAt l D cI cZ cL ad ao S f A hD x1 x2 h.inv.i0 h1, h2.symm, h4, fun _ => by rw [← h3]; exact pk_uLs⟩
  · match k, hk with
    | 0, hk =>
      have e : E = xI := (Option.some.inj hk).symm
      subst e
      exact ⟨_, _, _, h_solvedAt_T0 l hfl D cI cZ cL ad ao S f A x1 x2 h.inv.i0 h1, h2.symm, h4, fun z => absurd z (by decide)⟩
    | k + 1, hk => exact nomatch (show (none : Option String) = some E from hk)
theorem hh_clear (l : Launch) (hfl : l.flags = flags0) (D : va_G) (cI cZ cL : ClassId) (ad : Nat → Nat) (ao : Nat) {S M : Mem} (f : Nat → Int64) (A : Nat → Prop) (hD : va_D A (wO ao cL f ++ wC ad cI S)) (x1 : Int32) (x2 : Int32) (h : Rel S M) : ∃ (S' : Mem) (f' : Nat → Int64) (v : Int32), HL l D cI cZ cL yL_clear cL_clear 5 [(0, 17, 20, 25), (0, 17, 24, 15)] 8 [.ref (ad 0), .int x1, .int x2, .ref ao] A ao (wC ad cI S) (wC ad cI S') f f' v ∧ v = (mClear M x1 x2).2.1 ∧ Rel S' (mClear M x1 x2).2.2 ∧ (v = 0 → f' 0 = (if (mClear M x1 x2).1 = 0 then 0 else 1)) := by
  rcases sim_clear h x1 x2 with ⟨h1, h2, h3, h4⟩ | ⟨k, E, hk, h1, h2, h4⟩
  · exact ⟨_, _, _, h_clear l D cI cZ cL ad ao S f A hD x1 x2 h.inv.i0 h1, h2.symm, h4, fun _ => by rw [← h3]; exact pk_uLs⟩
  · match k, hk with
    | 0, hk =>
      have e : E = xI := (Option.some.inj hk).symm
      subst e
      exact ⟨_, _, _, h_clear_T0 l hfl D cI cZ cL ad ao S f A x1 x2 h.inv.i0 h1, h2.symm, h4, fun z => absurd z (by decide)⟩
    | 1, hk =>
      have e : E = xS := (Option.some.inj hk).symm
      subst e
      exact ⟨_, _, _, h_clear_T1 l hfl D cI cZ cL ad ao S f A x1 x2 h.inv.i0 h1, h2.symm, h4, fun z => absurd z (by decide)⟩
    | k + 2, hk => exact nomatch (show (none : Option String) = some E from hk)
theorem hh_pardon (l : Launch) (hfl : l.flags = flags0) (D : va_G) (cI cZ cL : ClassId) (ad : Nat → Nat) (ao : Nat) {S M : Mem} (f : Nat → Int64) (A : Nat → Prop) (hD : va_D A (wO ao cL f ++ wC ad cI S)) (x1 : Int32) (x2 : Int32) (h : Rel S M) : ∃ (S' : Mem) (f' : Nat → Int64) (v : Int32), HL l D cI cZ cL yL_pardon cL_pardon 5 [(0, 17, 20, 25), (0, 17, 24, 13)] 8 [.ref (ad 0), .int x1, .int x2, .ref ao] A ao (wC ad cI S) (wC ad cI S') f f' v ∧ v = (mPardon M x1 x2).2.1 ∧ Rel S' (mPardon M x1 x2).2.2 ∧ (v = 0 → f' 0 = (if (mPardon M x1 x2).1 = 0 then 0 else 1)) := by
  rcases sim_pardon h x1 x2 with ⟨h1, h2, h3, h4⟩ | ⟨k, E, hk, h1, h2, h4⟩
  · exact ⟨_, _, _, h_pardon l D cI cZ cL ad ao S f A hD x1 x2 h.inv.i0 h1, h2.symm, h4, fun _ => by rw [← h3]; exact pk_uLs⟩
  · match k, hk with
    | 0, hk =>
      have e : E = xI := (Option.some.inj hk).symm
      subst e
      exact ⟨_, _, _, h_pardon_T0 l hfl D cI cZ cL ad ao S f A x1 x2 h.inv.i0 h1, h2.symm, h4, fun z => absurd z (by decide)⟩
    | 1, hk =>
      have e : E = xA := (Option.some.inj hk).symm
      subst e
      exact ⟨_, _, _, h_pardon_T1 l hfl D cI cZ cL ad ao S f A x1 x2 h.inv.i0 h1, h2.symm, h4, fun z => absurd z (by decide)⟩
    | k + 2, hk => exact nomatch (show (none : Option String) = some E from hk)
theorem hh_setBound (l : Launch) (hfl : l.flags = flags0) (D : va_G) (cI cZ cL : ClassId) (ad : Nat → Nat) (ao : Nat) {S M : Mem} (f : Nat → Int64) (A : Nat → Prop) (hD : va_D A (wO ao cL f ++ wC ad cI S)) (x1 : Int32) (h : Rel S M) : ∃ (S' : Mem) (f' : Nat → Int64) (v : Int32), HL l D cI cZ cL yL_setBound cL_setBound 4 [(0, 9, 12, 13)] 8 [.ref (ad 0), .int x1, .ref ao] A ao (wC ad cI S) (wC ad cI S') f f' v ∧ v = (mBound M x1).2.1 ∧ Rel S' (mBound M x1).2.2 ∧ (v = 0 → f' 0 = ((mBound M x1).1).toInt64) := by
  rcases sim_bound h x1 with ⟨h1, h2, h3, h4⟩ | ⟨k, E, hk, h1, h2, h4⟩
  · exact ⟨_, _, _, h_setBound l D cI cZ cL ad ao S f A hD x1 h.inv.i0 h1, h2.symm, h4, fun _ => by rw [← h3]; exact pk_uLs⟩
  · match k, hk with
    | 0, hk =>
      have e : E = xA := (Option.some.inj hk).symm
      subst e
      exact ⟨_, _, _, h_setBound_T0 l hfl D cI cZ cL ad ao S f A x1 h.inv.i0 h1, h2.symm, h4, fun z => absurd z (by decide)⟩
    | k + 1, hk => exact nomatch (show (none : Option String) = some E from hk)
theorem hh_isFree (l : Launch) (hfl : l.flags = flags0) (D : va_G) (cI cZ cL : ClassId) (ad : Nat → Nat) (ao : Nat) {S M : Mem} (f : Nat → Int64) (A : Nat → Prop) (hD : va_D A (wO ao cL f ++ wC ad cI S)) (x1 : Int32) (h : Rel S M) : ∃ (S' : Mem) (f' : Nat → Int64) (v : Int32), HL l D cI cZ cL yL_isFree cL_isFree 4 [(0, 16, 19, 25)] 8 [.ref (ad 0), .int x1, .ref ao] A ao (wC ad cI S) (wC ad cI S') f f' v ∧ v = (mFree M x1).2.1 ∧ Rel S' (mFree M x1).2.2 ∧ (v = 0 → f' 0 = (if (mFree M x1).1 = 0 then 0 else 1)) := by
  rcases sim_free h x1 with ⟨h1, h2, h3, h4⟩ | ⟨k, E, hk, h1, h2, h4⟩
  · have hs : (oFree S x1).2.2 = S := by
      unfold oFree
      (repeat' split) <;> first | rfl | (dsimp only; (repeat' split) <;> rfl)
    rw [hs] at h4
    exact ⟨_, _, _, h_isFree l D cI cZ cL ad ao S f A hD x1 h.inv.i0 h1, h2.symm, h4, fun _ => by rw [← h3]; exact pk_uLs⟩
  · match k, hk with
    | 0, hk =>
      have e : E = xI := (Option.some.inj hk).symm
      subst e
      exact ⟨_, _, _, h_isFree_T0 l hfl D cI cZ cL ad ao S f A x1 h.inv.i0 h1, h2.symm, h4, fun z => absurd z (by decide)⟩
    | k + 1, hk => exact nomatch (show (none : Option String) = some E from hk)
theorem hh_likeness (l : Launch) (hfl : l.flags = flags0) (D : va_G) (cI cZ cL : ClassId) (ad : Nat → Nat) (ao : Nat) {S M : Mem} (f : Nat → Int64) (A : Nat → Prop) (hD : va_D A (wO ao cL f ++ wC ad cI S)) (x1 : Int32) (x2 : Int32) (h : Rel S M) : ∃ (S' : Mem) (f' : Nat → Int64) (v : Int32), HL l D cI cZ cL yL_likeness cL_likeness 5 [(0, 10, 13, 25)] 8 [.ref (ad 0), .int x1, .int x2, .ref ao] A ao (wC ad cI S) (wC ad cI S') f f' v ∧ v = (mLike M x1 x2).2.1 ∧ Rel S' (mLike M x1 x2).2.2 ∧ (v = 0 → f' 0 = ((mLike M x1 x2).1).toInt64) := by
  rcases sim_like h x1 x2 with ⟨h1, h2, h3, h4⟩ | ⟨k, E, hk, h1, h2, h4⟩
  · have hs : (oLike S x1 x2).2.2 = S := by
      unfold oLike oTT
      (repeat' split) <;> first | rfl | (dsimp only; (repeat' split) <;> rfl)
    rw [hs] at h4
    exact ⟨_, _, _, h_likeness l D cI cZ cL ad ao S f A hD x1 x2 h.inv.i0 h1, h2.symm, h4, fun _ => by rw [← h3]; exact pk_uLs⟩
  · match k, hk with
    | 0, hk =>
      have e : E = xI := (Option.some.inj hk).symm
      subst e
      exact ⟨_, _, _, h_likeness_T0 l hfl D cI cZ cL ad ao S f A x1 x2 h.inv.i0 h1, h2.symm, h4, fun z => absurd z (by decide)⟩
    | k + 1, hk => exact nomatch (show (none : Option String) = some E from hk)
theorem hh_areLinked (l : Launch) (hfl : l.flags = flags0) (D : va_G) (cI cZ cL : ClassId) (ad : Nat → Nat) (ao : Nat) {S M : Mem} (f : Nat → Int64) (A : Nat → Prop) (hD : va_D A (wO ao cL f ++ wC ad cI S)) (x1 : Int32) (x2 : Int32) (h : Rel S M) : ∃ (S' : Mem) (f' : Nat → Int64) (v : Int32), HL l D cI cZ cL yL_areLinked cL_areLinked 5 [(0, 17, 20, 25)] 8 [.ref (ad 0), .int x1, .int x2, .ref ao] A ao (wC ad cI S) (wC ad cI S') f f' v ∧ v = (mLinked M x1 x2).2.1 ∧ Rel S' (mLinked M x1 x2).2.2 ∧ (v = 0 → f' 0 = (if (mLinked M x1 x2).1 = 0 then 0 else 1)) := by
  rcases sim_linked h x1 x2 with ⟨h1, h2, h3, h4⟩ | ⟨k, E, hk, h1, h2, h4⟩
  · have hs : (oLinked S x1 x2).2.2 = S := by
      unfold oLinked oTT
      (repeat' split) <;> first | rfl | (dsimp only; (repeat' split) <;> rfl)
    rw [hs] at h4
    exact ⟨_, _, _, h_areLinked l D cI cZ cL ad ao S f A hD x1 x2 h.inv.i0 h1, h2.symm, h4, fun _ => by rw [← h3]; exact pk_uLs⟩
  · match k, hk with
    | 0, hk =>
      have e : E = xI := (Option.some.inj hk).symm
      subst e
      exact ⟨_, _, _, h_areLinked_T0 l hfl D cI cZ cL ad ao S f A x1 x2 h.inv.i0 h1, h2.symm, h4, fun z => absurd z (by decide)⟩
    | k + 1, hk => exact nomatch (show (none : Option String) = some E from hk)
theorem hh_isCheated (l : Launch) (hfl : l.flags = flags0) (D : va_G) (cI cZ cL : ClassId) (ad : Nat → Nat) (ao : Nat) {S M : Mem} (f : Nat → Int64) (A : Nat → Prop) (hD : va_D A (wO ao cL f ++ wC ad cI S)) (x1 : Int32) (x2 : Int32) (h : Rel S M) : ∃ (S' : Mem) (f' : Nat → Int64) (v : Int32), HL l D cI cZ cL yL_isCheated cL_isCheated 5 [(0, 17, 20, 25)] 8 [.ref (ad 0), .int x1, .int x2, .ref ao] A ao (wC ad cI S) (wC ad cI S') f f' v ∧ v = (mCheat M x1 x2).2.1 ∧ Rel S' (mCheat M x1 x2).2.2 ∧ (v = 0 → f' 0 = (if (mCheat M x1 x2).1 = 0 then 0 else 1)) := by
  rcases sim_cheat h x1 x2 with ⟨h1, h2, h3, h4⟩ | ⟨k, E, hk, h1, h2, h4⟩
  · have hs : (oCheat S x1 x2).2.2 = S := by
      unfold oCheat o2
      (repeat' split) <;> first | rfl | (dsimp only; (repeat' split) <;> rfl)
    rw [hs] at h4
    exact ⟨_, _, _, h_isCheated l D cI cZ cL ad ao S f A hD x1 x2 h.inv.i0 h1, h2.symm, h4, fun _ => by rw [← h3]; exact pk_uLs⟩
  · match k, hk with
    | 0, hk =>
      have e : E = xI := (Option.some.inj hk).symm
      subst e
      exact ⟨_, _, _, h_isCheated_T0 l hfl D cI cZ cL ad ao S f A x1 x2 h.inv.i0 h1, h2.symm, h4, fun z => absurd z (by decide)⟩
    | k + 1, hk => exact nomatch (show (none : Option String) = some E from hk)
theorem hh_isVoid (l : Launch) (hfl : l.flags = flags0) (D : va_G) (cI cZ cL : ClassId) (ad : Nat → Nat) (ao : Nat) {S M : Mem} (f : Nat → Int64) (A : Nat → Prop) (hD : va_D A (wO ao cL f ++ wC ad cI S)) (x1 : Int32) (x2 : Int32) (h : Rel S M) : ∃ (S' : Mem) (f' : Nat → Int64) (v : Int32), HL l D cI cZ cL yL_isVoid cL_isVoid 5 [(0, 17, 20, 25)] 8 [.ref (ad 0), .int x1, .int x2, .ref ao] A ao (wC ad cI S) (wC ad cI S') f f' v ∧ v = (mVoid M x1 x2).2.1 ∧ Rel S' (mVoid M x1 x2).2.2 ∧ (v = 0 → f' 0 = (if (mVoid M x1 x2).1 = 0 then 0 else 1)) := by
  rcases sim_void h x1 x2 with ⟨h1, h2, h3, h4⟩ | ⟨k, E, hk, h1, h2, h4⟩
  · have hs : (oVoid S x1 x2).2.2 = S := by
      unfold oVoid o2
      (repeat' split) <;> first | rfl | (dsimp only; (repeat' split) <;> rfl)
    rw [hs] at h4
    exact ⟨_, _, _, h_isVoid l D cI cZ cL ad ao S f A hD x1 x2 h.inv.i0 h1, h2.symm, h4, fun _ => by rw [← h3]; exact pk_uLs⟩
  · match k, hk with
    | 0, hk =>
      have e : E = xI := (Option.some.inj hk).symm
      subst e
      exact ⟨_, _, _, h_isVoid_T0 l hfl D cI cZ cL ad ao S f A x1 x2 h.inv.i0 h1, h2.symm, h4, fun z => absurd z (by decide)⟩
    | k + 1, hk => exact nomatch (show (none : Option String) = some E from hk)
theorem hh_hanging (l : Launch) (hfl : l.flags = flags0) (D : va_G) (cI cZ cL : ClassId) (ad : Nat → Nat) (ao : Nat) {S M : Mem} (f : Nat → Int64) (A : Nat → Prop) (hD : va_D A (wO ao cL f ++ wC ad cI S)) (x1 : Int32) (h : Rel S M) : ∃ (S' : Mem) (f' : Nat → Int64) (v : Int32), HL l D cI cZ cL yL_hanging cL_hanging 4 [(0, 9, 12, 25)] 8 [.ref (ad 0), .int x1, .ref ao] A ao (wC ad cI S) (wC ad cI S') f f' v ∧ v = (mHang M x1).2.1 ∧ Rel S' (mHang M x1).2.2 ∧ (v = 0 → f' 0 = ((mHang M x1).1).toInt64) := by
  rcases sim_hang h x1 with ⟨h1, h2, h3, h4⟩ | ⟨k, E, hk, h1, h2, h4⟩
  · have hs : (oHang S x1).2.2 = S := by
      unfold oHang
      (repeat' split) <;> first | rfl | (dsimp only; (repeat' split) <;> rfl)
    rw [hs] at h4
    exact ⟨_, _, _, h_hanging l D cI cZ cL ad ao S f A hD x1 h.inv.i0 h1, h2.symm, h4, fun _ => by rw [← h3]; exact pk_uLs⟩
  · match k, hk with
    | 0, hk =>
      have e : E = xI := (Option.some.inj hk).symm
      subst e
      exact ⟨_, _, _, h_hanging_T0 l hfl D cI cZ cL ad ao S f A x1 h.inv.i0 h1, h2.symm, h4, fun z => absurd z (by decide)⟩
    | k + 1, hk => exact nomatch (show (none : Option String) = some E from hk)
theorem hh_score (l : Launch) (hfl : l.flags = flags0) (D : va_G) (cI cZ cL : ClassId) (ad : Nat → Nat) (ao : Nat) {S M : Mem} (f : Nat → Int64) (A : Nat → Prop) (hD : va_D A (wO ao cL f ++ wC ad cI S)) (x1 : Int32) (h : Rel S M) : ∃ (S' : Mem) (f' : Nat → Int64) (v : Int32), HL l D cI cZ cL yL_score cL_score 4 [(0, 9, 12, 25)] 8 [.ref (ad 0), .int x1, .ref ao] A ao (wC ad cI S) (wC ad cI S') f f' v ∧ v = (mScore M x1).2.1 ∧ Rel S' (mScore M x1).2.2 ∧ (v = 0 → f' 0 = ((mScore M x1).1).toInt64) := by
  rcases sim_score h x1 with ⟨h1, h2, h3, h4⟩ | ⟨k, E, hk, h1, h2, h4⟩
  · have hs : (oScore S x1).2.2 = S := by
      unfold oScore o1
      (repeat' split) <;> first | rfl | (dsimp only; (repeat' split) <;> rfl)
    rw [hs] at h4
    exact ⟨_, _, _, h_score l D cI cZ cL ad ao S f A hD x1 h.inv.i0 h1, h2.symm, h4, fun _ => by rw [← h3]; exact pk_uLs⟩
  · match k, hk with
    | 0, hk =>
      have e : E = xI := (Option.some.inj hk).symm
      subst e
      exact ⟨_, _, _, h_score_T0 l hfl D cI cZ cL ad ao S f A x1 h.inv.i0 h1, h2.symm, h4, fun z => absurd z (by decide)⟩
    | k + 1, hk => exact nomatch (show (none : Option String) = some E from hk)
theorem hh_scoreAnew (l : Launch) (hfl : l.flags = flags0) (D : va_G) (cI cZ cL : ClassId) (ad : Nat → Nat) (ao : Nat) {S M : Mem} (f : Nat → Int64) (A : Nat → Prop) (hD : va_D A (wO ao cL f ++ wC ad cI S)) (x1 : Int32) (h : Rel S M) : ∃ (S' : Mem) (f' : Nat → Int64) (v : Int32), HL l D cI cZ cL yL_scoreAnew cL_scoreAnew 4 [(0, 9, 12, 25)] 8 [.ref (ad 0), .int x1, .ref ao] A ao (wC ad cI S) (wC ad cI S') f f' v ∧ v = (mScore M x1).2.1 ∧ Rel S' (mScore M x1).2.2 ∧ (v = 0 → f' 0 = ((mScore M x1).1).toInt64) := by
  rcases sim_anew h x1 with ⟨h1, h2, h3, h4⟩ | ⟨k, E, hk, h1, h2, h4⟩
  · exact ⟨_, _, _, h_scoreAnew l D cI cZ cL ad ao S f A hD x1 h.inv.i0 h1, h2.symm, h4, fun _ => by rw [← h3]; exact pk_uLs⟩
  · match k, hk with
    | 0, hk =>
      have e : E = xI := (Option.some.inj hk).symm
      subst e
      exact ⟨_, _, _, h_scoreAnew_T0 l hfl D cI cZ cL ad ao S f A x1 h.inv.i0 h1, h2.symm, h4, fun z => absurd z (by decide)⟩
    | k + 1, hk => exact nomatch (show (none : Option String) = some E from hk)
theorem hh_place (l : Launch) (hfl : l.flags = flags0) (D : va_G) (cI cZ cL : ClassId) (ad : Nat → Nat) (ao : Nat) {S M : Mem} (f : Nat → Int64) (A : Nat → Prop) (hD : va_D A (wO ao cL f ++ wC ad cI S)) (x1 : Int32) (h : Rel S M) : ∃ (S' : Mem) (f' : Nat → Int64) (v : Int32), HL l D cI cZ cL yL_place cL_place 4 [(0, 9, 12, 25)] 8 [.ref (ad 0), .int x1, .ref ao] A ao (wC ad cI S) (wC ad cI S') f f' v ∧ v = (mPlace M x1).2.1 ∧ Rel S' (mPlace M x1).2.2 ∧ (v = 0 → f' 0 = ((mPlace M x1).1).toInt64) := by
  rcases sim_place h x1 with ⟨h1, h2, h3, h4⟩ | ⟨k, E, hk, h1, h2, h4⟩
  · exact ⟨_, _, _, h_place l D cI cZ cL ad ao S f A hD x1 h.inv.i0 h1, h2.symm, h4, fun _ => by rw [← h3]; exact pk_uLs⟩
  · match k, hk with
    | 0, hk =>
      have e : E = xI := (Option.some.inj hk).symm
      subst e
      exact ⟨_, _, _, h_place_T0 l hfl D cI cZ cL ad ao S f A x1 h.inv.i0 h1, h2.symm, h4, fun z => absurd z (by decide)⟩
    | k + 1, hk => exact nomatch (show (none : Option String) = some E from hk)
theorem hh_setPrize (l : Launch) (hfl : l.flags = flags0) (D : va_G) (cI cZ cL : ClassId) (ad : Nat → Nat) (ao : Nat) {S M : Mem} (f : Nat → Int64) (A : Nat → Prop) (hD : va_D A (wO ao cL f ++ wC ad cI S)) (x1 : Int32) (x2 : Int32) (h : Rel S M) : ∃ (S' : Mem) (f' : Nat → Int64) (v : Int32), HL l D cI cZ cL yL_setPrize cL_setPrize 5 [(0, 10, 13, 13)] 8 [.ref (ad 0), .int x1, .int x2, .ref ao] A ao (wC ad cI S) (wC ad cI S') f f' v ∧ v = (mSetP M x1 x2).2.1 ∧ Rel S' (mSetP M x1 x2).2.2 ∧ (v = 0 → f' 0 = ((mSetP M x1 x2).1).toInt64) := by
  rcases sim_setP h x1 x2 with ⟨h1, h2, h3, h4⟩ | ⟨k, E, hk, h1, h2, h4⟩
  · exact ⟨_, _, _, h_setPrize l D cI cZ cL ad ao S f A hD x1 x2 h.inv.i0 h1, h2.symm, h4, fun _ => by rw [← h3]; exact pk_uLs⟩
  · match k, hk with
    | 0, hk =>
      have e : E = xA := (Option.some.inj hk).symm
      subst e
      exact ⟨_, _, _, h_setPrize_T0 l hfl D cI cZ cL ad ao S f A x1 x2 h.inv.i0 h1, h2.symm, h4, fun z => absurd z (by decide)⟩
    | k + 1, hk => exact nomatch (show (none : Option String) = some E from hk)
theorem hh_prize (l : Launch) (hfl : l.flags = flags0) (D : va_G) (cI cZ cL : ClassId) (ad : Nat → Nat) (ao : Nat) {S M : Mem} (f : Nat → Int64) (A : Nat → Prop) (hD : va_D A (wO ao cL f ++ wC ad cI S)) (x1 : Int32) (h : Rel S M) : ∃ (S' : Mem) (f' : Nat → Int64) (v : Int32), HL l D cI cZ cL yL_prize cL_prize 4 [(0, 9, 12, 25), (0, 9, 15, 15)] 8 [.ref (ad 0), .int x1, .ref ao] A ao (wC ad cI S) (wC ad cI S') f f' v ∧ v = (mPrize M x1).2.1 ∧ Rel S' (mPrize M x1).2.2 ∧ (v = 0 → f' 0 = ((mPrize M x1).1).toInt64) := by
  rcases sim_prize h x1 with ⟨h1, h2, h3, h4⟩ | ⟨k, E, hk, h1, h2, h4⟩
  · exact ⟨_, _, _, h_prize l D cI cZ cL ad ao S f A hD x1 h.inv.i0 h1, h2.symm, h4, fun _ => by rw [← h3]; exact pk_uLs⟩
  · match k, hk with
    | 0, hk =>
      have e : E = xI := (Option.some.inj hk).symm
      subst e
      exact ⟨_, _, _, h_prize_T0 l hfl D cI cZ cL ad ao S f A x1 h.inv.i0 h1, h2.symm, h4, fun z => absurd z (by decide)⟩
    | 1, hk =>
      have e : E = xS := (Option.some.inj hk).symm
      subst e
      exact ⟨_, _, _, h_prize_T1 l hfl D cI cZ cL ad ao S f A x1 h.inv.i0 h1, h2.symm, h4, fun z => absurd z (by decide)⟩
    | k + 2, hk => exact nomatch (show (none : Option String) = some E from hk)
