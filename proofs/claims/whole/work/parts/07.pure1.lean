/-! the class's methods as functions of its memory: sets, solving, what is left -/
def hs (x y : Int32) : Bool := decide (¬ (x >>> (y &&& 31)) &&& 1 = 0)
def cT (S : Mem) : Nat := iN (S 0 9)
def cR (S : Mem) : Nat := iN (S 1 6)
def cN (S : Mem) : Nat := iN (S 7 4)
def aT (S : Mem) (k : Nat) : Nat := iN (S 8 k)
def aR (S : Mem) (k : Nat) : Nat := iN (S 9 k)
/-- counts and places are in their ranges -/
def I0 (S : Mem) : Prop := (S 0 9 = nI (cT S) ∧ cT S ≤ 8) ∧ (S 1 6 = nI (cR S) ∧ cR S ≤ 16) ∧ (S 7 4 = nI (cN S) ∧ cN S ≤ 200) ∧ (∀ k, k < cN S → (S 8 k = nI (aT S k) ∧ aT S k < 8) ∧ S 9 k = nI (aR S k) ∧ aR S k < 16) ∧ (∀ c, c < 128 → S 13 c = nI (iN (S 13 c)) ∧ iN (S 13 c) ≤ 3)
theorem I0.T {S : Mem} (h : I0 S) : S 0 9 = nI (cT S) := h.1.1
theorem I0.R {S : Mem} (h : I0 S) : S 1 6 = nI (cR S) := h.2.1.1
theorem I0.N {S : Mem} (h : I0 S) : S 7 4 = nI (cN S) := h.2.2.1.1
theorem I0.T8 {S : Mem} (h : I0 S) : cT S ≤ 8 := h.1.2
theorem I0.R16 {S : Mem} (h : I0 S) : cR S ≤ 16 := h.2.1.2
theorem I0.N200 {S : Mem} (h : I0 S) : cN S ≤ 200 := h.2.2.1.2
theorem I0.xT {S : Mem} (h : I0 S) {k : Nat} (hk : k < cN S) : S 8 k = nI (aT S k) := (h.2.2.2.1 k hk).1.1
theorem I0.xT8 {S : Mem} (h : I0 S) {k : Nat} (hk : k < cN S) : aT S k < 8 := (h.2.2.2.1 k hk).1.2
theorem I0.xR {S : Mem} (h : I0 S) {k : Nat} (hk : k < cN S) : S 9 k = nI (aR S k) := (h.2.2.2.1 k hk).2.1
theorem I0.xR16 {S : Mem} (h : I0 S) {k : Nat} (hk : k < cN S) : aR S k < 16 := (h.2.2.2.1 k hk).2.2
theorem I0.bo {S : Mem} (h : I0 S) {c : Nat} (hc : c < 128) : S 13 c = nI (iN (S 13 c)) := (h.2.2.2.2 c hc).1
theorem I0.bo3 {S : Mem} (h : I0 S) {c : Nat} (hc : c < 128) : iN (S 13 c) ≤ 3 := (h.2.2.2.2 c hc).2
def p_lsm (S : Mem) (b t : Nat) (set : Int32) : Nat → Int32
  | 0 => 0
  | i + 1 => if hs set (nI i) = true then imax (p_lsm S b t set i) (S (b + 3) (t * 16 + i)) else p_lsm S b t set i
def p_last (S : Mem) (b t : Nat) (set : Int32) : Int32 := if set &&& (S (b + 1) t ^^^ (-1)) = 0 then p_lsm S b t set 16 else -1
def p_open (S : Mem) (b t r : Nat) : Int32 := p_last S b t (S 6 r)
def p_free (S : Mem) (b : Nat) : Nat → Int32
  | 0 => 0
  | t + 1 => p_free S b t ||| (S (b + 2) t &&& (S 16 t ^^^ (-1)))
