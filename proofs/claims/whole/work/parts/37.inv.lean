section
/-! the log of answers (g givers, q riddles, w words, ke keys), what is kept of it, the class's invariant, the relation of class and model -/
abbrev Fn : Type := Nat → Int32
def gB (g q w : Fn) (x r v : Int32) : Nat → Bool
  | 0 => false
  | k + 1 => gB g q w x r v k || (decide (g k = x) && (decide (q k = r) && decide (w k = v)))
def fB (g q w ke : Fn) (k : Nat) : Bool := decide (¬ w k = ke (iN (q k))) && !(gB g q w (g k) (q k) (w k) k)
def lB (g q w ke : Fn) (N t o : Nat) : Nat → Nat
  | 0 => 0
  | k + 1 => lB g q w ke N t o k + (if g k = nI t ∧ (fB g q w ke k && gB g q w (nI o) (q k) (w k) N) = true then 1 else 0)
def cP (g q w ke : Fn) (N t o r : Nat) : Prop := ∃ v, (¬ v = ke r) ∧ gB g q w (nI t) (nI r) v N = true ∧ gB g q w (nI o) (nI r) v N = true
theorem gB_iff {g q w : Fn} {x r v : Int32} : ∀ {n : Nat}, gB g q w x r v n = true ↔ ∃ k, k < n ∧ g k = x ∧ q k = r ∧ w k = v
  | 0 => by
    constructor
    · intro h; cases h
    · rintro ⟨k, hk, -⟩; omega
  | n + 1 => by
    unfold gB
    rw [Bool.or_eq_true, gB_iff (n := n), Bool.and_eq_true, Bool.and_eq_true, decide_eq_true_eq, decide_eq_true_eq, decide_eq_true_eq]
    constructor
    · rintro (⟨k, hk, h⟩ | h)
      · exact ⟨k, by omega, h⟩
      · exact ⟨n, by omega, h⟩
    · rintro ⟨k, hk, h⟩
      by_cases e : k = n
      · subst e; exact .inr h
      · exact .inl ⟨k, by omega, h⟩
theorem gB_first {g q w : Fn} {x r v : Int32} : ∀ {n : Nat}, gB g q w x r v n = true → ∃ k, k < n ∧ g k = x ∧ q k = r ∧ w k = v ∧ gB g q w x r v k = false
  | 0, h => by cases h
  | n + 1, h => by
    cases hn : gB g q w x r v n with
    | true =>
      obtain ⟨k, hk, h2⟩ := gB_first hn
      exact ⟨k, by omega, h2⟩
    | false =>
      obtain ⟨k, hk, h1, h2, h3⟩ := gB_iff.mp h
      by_cases e : k = n
      · subst e; exact ⟨k, by omega, h1, h2, h3, hn⟩
      · have := gB_iff.mpr ⟨k, (by omega : k < n), h1, h2, h3⟩
        rw [hn] at this; cases this
theorem gB_congr {g q w g' q' w' : Fn} {x r v : Int32} : ∀ {n : Nat}, (∀ k, k < n → g' k = g k ∧ q' k = q k ∧ w' k = w k) → gB g' q' w' x r v n = gB g q w x r v n
  | 0, _ => rfl
  | n + 1, h => by
    obtain ⟨h1, h2, h3⟩ := h n (by omega)
    unfold gB
    rw [gB_congr (n := n) (fun k hk => h k (by omega)), h1, h2, h3]
theorem fB_congr {g q w ke g' q' w' ke' : Fn} {k : Nat} (h : ∀ j, j ≤ k → g' j = g j ∧ q' j = q j ∧ w' j = w j) (hk : ke' (iN (q k)) = ke (iN (q k))) : fB g' q' w' ke' k = fB g q w ke k := by
  obtain ⟨h1, h2, h3⟩ := h k (Nat.le_refl k)
  unfold fB
  rw [h1, h2, h3, hk, gB_congr (n := k) (fun j hj => h j (by omega))]
/-- the records at b of X and those at c of Y say the same of what is solved -/
def Eq3 (X : Mem) (b : Nat) (Y : Mem) (c : Nat) : Prop := (∀ i, i < 8 → X (b + 1) i = Y (c + 1) i ∧ X (b + 2) i = Y (c + 2) i) ∧ ∀ i, i < 128 → X (b + 3) i = Y (c + 3) i
theorem Eq3.trans {X Y Z : Mem} {a b c : Nat} (h : Eq3 X a Y b) (h2 : Eq3 Y b Z c) : Eq3 X a Z c := ⟨fun i hi => ⟨(h.1 i hi).1.trans (h2.1 i hi).1, (h.1 i hi).2.trans (h2.1 i hi).2⟩, fun i hi => (h.2 i hi).trans (h2.2 i hi)⟩
theorem Eq3.symm {X Y : Mem} {a b : Nat} (h : Eq3 X a Y b) : Eq3 Y b X a := ⟨fun i hi => ⟨(h.1 i hi).1.symm, (h.1 i hi).2.symm⟩, fun i hi => (h.2 i hi).symm⟩
def iNow (x : Int32) : Prop := ∃ n : Nat, n ≤ 20000 ∧ x = nI n
def iNeed (n6 : Fn) : Prop := ∀ r, r < 16 → ∀ o, B (n6 r) o = true → o < r
def iLog (g q : Fn) (T R N : Nat) : Prop := ∀ k, k < N → (∃ t, t < T ∧ g k = nI t) ∧ ∃ r, r < R ∧ q k = nI r
def iBo (bo : Fn) (T : Nat) : Prop := ∀ t r, T ≤ t → t < 8 → r < 16 → bo (t * 16 + r) = 0
def iTou (x : Int32) (q bo : Fn) (R N : Nat) : Prop := (∀ r, r < 16 → (B x r = true ↔ (∃ k, k < N ∧ q k = nI r) ∨ ∃ t, t < 8 ∧ 0 < bo (t * 16 + r))) ∧ ∀ r, B x r = true → r < R
def iSol (so mi n6 : Fn) (x : Int32) (T : Nat) : Prop := ∀ t r, t < 8 → B (so t) r = true → t < T ∧ B x r = true ∧ (∀ o, B (n6 r) o = true → B (so t) o = true) ∧ ¬ mi (t * 16 + r) < 0
def iSoon (ts so : Fn) : Prop := ∀ t r, t < 8 → B (ts t) r = true → B (so t) r = true
def iLike (li g q w ke : Fn) (N : Nat) : Prop := ∀ t o, t < 8 → o < 8 → li (t * 8 + o) = if t = o then 0 else nI (lB g q w ke N t o N)
def iComm (co g q w ke : Fn) (N : Nat) : Prop := ∀ t o, t < 8 → o < 8 → ¬ t = o → ∀ r, B (co (t * 8 + o)) r = true ↔ r < 16 ∧ cP g q w ke N t o r
def iRep (S : Mem) : Prop := Eq3 S 18 (p_replay (p_wipe S) (cN S)) 25
def iPay (pa pr bo : Fn) : Prop := ∀ c, c < 128 → (∀ n, n < 3 → iN (bo c) ≤ n → pr (c * 3 + n) = 0) ∧ pa c = pr (c * 3 + 0) + pr (c * 3 + 1) + pr (c * 3 + 2)
/-- the class's invariant -/
def Inv (S : Mem) : Prop := (I0 S ∧ iNow (S 0 10) ∧ iNeed (S 6) ∧ iLog (S 8) (S 9) (cT S) (cR S) (cN S) ∧ iBo (S 13) (cT S) ∧ iTou (S 1 5) (S 9) (S 13) (cR S) (cN S)) ∧ (iSol (S 19) (S 21) (S 6) (S 1 5) (cT S) ∧ iSoon (S 20) (S 19)) ∧ (iLike (S 23) (S 8) (S 9) (S 10) (S 3) (cN S) ∧ iComm (S 24) (S 8) (S 9) (S 10) (S 3) (cN S)) ∧ iRep S ∧ iPay (S 22) (S 14) (S 13)
def rSol (so mi m6 : Fn) (T : Nat) : Prop := ∀ t r, t < T → r < 16 → B (so t) r = !(decide (m6 (16 * t + r) = -1)) ∧ (B (so t) r = true → mi (t * 16 + r) = m6 (16 * t + r))
def rBit (a m : Fn) : Prop := ∀ t r, t < 8 → r < 16 → B (a t) r = !(decide (m (16 * t + r) = 0))
def rPar (a m : Fn) : Prop := ∀ t o, t < 8 → o < 8 → B (a t) o = !(decide (m (8 * t + o) = 0)) ∧ m (8 * t + o) = m (8 * o + t)
/-- cells that are the same -/
def Req (S M : Mem) : Prop := ((S 0 9 = M 0 8 ∧ S 1 6 = M 0 2 ∧ S 7 4 = M 0 14) ∧ S 0 10 = M 0 0 ∧ S 0 11 = M 0 1 ∧ S 15 2 = M 0 19) ∧ (S 2 = M 1 ∧ S 3 = M 2 ∧ S 4 = M 3 ∧ S 5 = M 4 ∧ S 6 = M 5) ∧ (S 8 = M 11 ∧ S 9 = M 12 ∧ S 10 = M 13) ∧ S 13 = M 9 ∧ S 22 = M 10 ∧ S 34 = M 15
def Rel (S M : Mem) : Prop := Inv S ∧ Req S M ∧ rSol (S 19) (S 21) (M 6) (cT S) ∧ rBit (S 20) (M 7) ∧ rBit (S 16) (M 8) ∧ rPar (S 17) (M 14)
theorem Inv.i0 {S : Mem} (h : Inv S) : I0 S := h.1.1
theorem Inv.now {S : Mem} (h : Inv S) : iNow (S 0 10) := h.1.2.1
theorem Inv.need {S : Mem} (h : Inv S) : iNeed (S 6) := h.1.2.2.1
theorem Inv.log {S : Mem} (h : Inv S) : iLog (S 8) (S 9) (cT S) (cR S) (cN S) := h.1.2.2.2.1
theorem Inv.bo {S : Mem} (h : Inv S) : iBo (S 13) (cT S) := h.1.2.2.2.2.1
theorem Inv.tou {S : Mem} (h : Inv S) : iTou (S 1 5) (S 9) (S 13) (cR S) (cN S) := h.1.2.2.2.2.2
theorem Inv.sol {S : Mem} (h : Inv S) : iSol (S 19) (S 21) (S 6) (S 1 5) (cT S) := h.2.1.1
theorem Inv.soon {S : Mem} (h : Inv S) : iSoon (S 20) (S 19) := h.2.1.2
theorem Inv.like {S : Mem} (h : Inv S) : iLike (S 23) (S 8) (S 9) (S 10) (S 3) (cN S) := h.2.2.1.1
theorem Inv.comm {S : Mem} (h : Inv S) : iComm (S 24) (S 8) (S 9) (S 10) (S 3) (cN S) := h.2.2.1.2
theorem Inv.rep {S : Mem} (h : Inv S) : iRep S := h.2.2.2.1
theorem Inv.pay {S : Mem} (h : Inv S) : iPay (S 22) (S 14) (S 13) := h.2.2.2.2
theorem Inv.solR {S : Mem} (h : Inv S) {t r : Nat} (ht : t < 8) (hb : B (S 19 t) r = true) : r < cR S := h.tou.2 r (h.sol t r ht hb).2.1
theorem Inv.soonR {S : Mem} (h : Inv S) {t r : Nat} (ht : t < 8) (hb : B (S 20 t) r = true) : r < cR S := h.solR ht (h.soon t r ht hb)
theorem Rel.inv {S M : Mem} (h : Rel S M) : Inv S := h.1
theorem Rel.eT {S M : Mem} (h : Rel S M) : S 0 9 = M 0 8 := h.2.1.1.1.1
theorem Rel.eR {S M : Mem} (h : Rel S M) : S 1 6 = M 0 2 := h.2.1.1.1.2.1
theorem Rel.eN {S M : Mem} (h : Rel S M) : S 7 4 = M 0 14 := h.2.1.1.1.2.2
theorem Rel.eW {S M : Mem} (h : Rel S M) : S 0 10 = M 0 0 := h.2.1.1.2.1
theorem Rel.eE {S M : Mem} (h : Rel S M) : S 0 11 = M 0 1 := h.2.1.1.2.2.1
theorem Rel.eB {S M : Mem} (h : Rel S M) : S 15 2 = M 0 19 := h.2.1.1.2.2.2
theorem Rel.e2 {S M : Mem} (h : Rel S M) : S 2 = M 1 := h.2.1.2.1.1
theorem Rel.e3 {S M : Mem} (h : Rel S M) : S 3 = M 2 := h.2.1.2.1.2.1
theorem Rel.e4 {S M : Mem} (h : Rel S M) : S 4 = M 3 := h.2.1.2.1.2.2.1
theorem Rel.e5 {S M : Mem} (h : Rel S M) : S 5 = M 4 := h.2.1.2.1.2.2.2.1
theorem Rel.e6 {S M : Mem} (h : Rel S M) : S 6 = M 5 := h.2.1.2.1.2.2.2.2
theorem Rel.e8 {S M : Mem} (h : Rel S M) : S 8 = M 11 := h.2.1.2.2.1.1
theorem Rel.e9 {S M : Mem} (h : Rel S M) : S 9 = M 12 := h.2.1.2.2.1.2.1
theorem Rel.e10 {S M : Mem} (h : Rel S M) : S 10 = M 13 := h.2.1.2.2.1.2.2
theorem Rel.e13 {S M : Mem} (h : Rel S M) : S 13 = M 9 := h.2.1.2.2.2.1
theorem Rel.e22 {S M : Mem} (h : Rel S M) : S 22 = M 10 := h.2.1.2.2.2.2.1
theorem Rel.e34 {S M : Mem} (h : Rel S M) : S 34 = M 15 := h.2.1.2.2.2.2.2
theorem Rel.sol {S M : Mem} (h : Rel S M) : rSol (S 19) (S 21) (M 6) (cT S) := h.2.2.1
theorem Rel.ts {S M : Mem} (h : Rel S M) : rBit (S 20) (M 7) := h.2.2.2.1
theorem Rel.cl {S M : Mem} (h : Rel S M) : rBit (S 16) (M 8) := h.2.2.2.2.1
theorem Rel.par {S M : Mem} (h : Rel S M) : rPar (S 17) (M 14) := h.2.2.2.2.2
theorem Rel.T {S M : Mem} (h : Rel S M) : mT M = cT S := by unfold mT cT; rw [h.eT]
theorem Rel.R {S M : Mem} (h : Rel S M) : mR M = cR S := by unfold mR cR; rw [h.eR]
theorem Rel.N {S M : Mem} (h : Rel S M) : mN M = cN S := by unfold mN cN; rw [h.eN]
theorem Rel.J {S M : Mem} (h : Rel S M) : J0 M := by
  have hI := h.inv.i0
  refine ⟨?_, ?_, ?_, fun k hk => ?_⟩
  · rw [h.T, ← h.eT]; exact hI.1
  · rw [h.R, ← h.eR]; exact hI.2.1
  · rw [h.N, ← h.eN]; exact hI.2.2.1
  · rw [h.N] at hk
    have := hI.2.2.2.1 k hk
    unfold aT aR at this
    unfold mg mq
    rw [← h.e8, ← h.e9]; exact this
end
