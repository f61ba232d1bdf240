/-! the public methods: what is thrown, the answer, the memory afterwards -/
abbrev Out : Type := Option String × Int32 × Mem
abbrev xI : String := "java/lang/IndexOutOfBoundsException"
abbrev xA : String := "java/lang/IllegalArgumentException"
abbrev xS : String := "java/lang/IllegalStateException"
abbrev xN : String := "java/util/NoSuchElementException"
def p_bc (x : Int32) : Int32 :=
  let x1 := x - (ush x 1 &&& 1431655765)
  let x2 := (x1 &&& 858993459) + (ush x1 2 &&& 858993459)
  let x3 := (x2 + ush x2 4) &&& 252645135
  let x4 := x3 + ush x3 8
  let x5 := x4 + ush x4 16
  x5 &&& 63
def oPass (S : Mem) (x : Int32) : Out := if okr x 1 500 = true then (if x ≤ 20000 - S 0 10 then (none, S 0 10 + x, st S 0 10 (S 0 10 + x)) else (some xS, 0, S)) else (some xA, 0, S)
def oAddR (S : Mem) (a b c d : Int32) : Out := if okr a 1 50 = true then (if okr b 0 9999 = true then (if okr c 0 100 = true then (if okr d 1 40 = true then (if S 0 11 = 0 then (if cR S < 16 then (none, nI (cR S), p_addR S a b c d) else (some xS, 0, S)) else (some xS, 0, S)) else (some xA, 0, S)) else (some xA, 0, S)) else (some xA, 0, S)) else (some xA, 0, S)
def needM (S : Mem) (r o : Nat) : Mem := st S 6 r (S 6 r ||| bt (nI o))
def hNeed (S : Mem) (r o : Nat) : Out := if o < r then (if S 0 11 = 0 then (if hs (S 1 5) (nI r) = true then (some xS, 0, S) else (if hs (S 6 r) (nI o) = true then (some xS, 0, S) else (none, p_bc (needM S r o 6 r), needM S r o))) else (some xS, 0, S)) else (some xA, 0, S)
def oNeed (S : Mem) (x y : Int32) : Out := if okn x (cR S) = true then (if okn y (cR S) = true then hNeed S (iN x) (iN y) else (some xI, 0, S)) else (some xI, 0, S)
def oAddT (S : Mem) : Out := if S 0 11 = 0 then (if cT S < 8 then (none, nI (cT S), st S 0 9 (nI (cT S + 1))) else (some xS, 0, S)) else (some xS, 0, S)
def oEnd (S : Mem) : Out := if S 0 11 = 0 then (none, p_bc (p_free (st S 0 11 1) 18 (cT (st S 0 11 1))), st S 0 11 1) else (some xS, 0, S)
def ansM (S : Mem) (t r : Nat) (w : Int32) : Mem := if w = S 3 r then p_noteS S 18 t r (S 0 10) else p_noteW S t r w
def ansN (S S1 : Mem) (t r : Nat) (w : Int32) : Mem := st (p_app S1 t r w (S1 0 10)) 1 5 (p_app S1 t r w (S1 0 10) 1 5 ||| bt (nI r))
def hAns (S : Mem) (t r : Nat) (w : Int32) : Out := if p_under S t r = true then (if cN S < 200 then (if w = S 3 r then (none, 1, ansN S (p_noteS S 18 t r (S 0 10)) t r w) else (none, 0, ansN S (p_noteW S t r w) t r w)) else (some xS, 0, S)) else (some xS, 0, S)
def oAns (S : Mem) (x y w : Int32) : Out := if okn x (cT S) = true then (if okn y (cR S) = true then (if okr w 0 9999 = true then hAns S (iN x) (iN y) w else (some xA, 0, S)) else (some xI, 0, S)) else (some xI, 0, S)
def hintM (S : Mem) (t r : Nat) (x : Int32) : Mem := st (p_pay (p_sold S t r x) 18 t r x) 1 5 (p_pay (p_sold S t r x) 18 t r x 1 5 ||| bt (nI r))
def hHint (S : Mem) (t r : Nat) : Out := if p_under S t r = true then (if p_left S t r = true then (none, p_price S t r, hintM S t r (p_price S t r)) else (some xS, 0, S)) else (some xS, 0, S)
def o2 (S : Mem) (x y : Int32) (f : Nat → Nat → Out) : Out := if okn x (cT S) = true then (if okn y (cR S) = true then f (iN x) (iN y) else (some xI, 0, S)) else (some xI, 0, S)
def oTT (S : Mem) (x y : Int32) (f : Nat → Nat → Out) : Out := if okn x (cT S) = true then (if okn y (cT S) = true then f (iN x) (iN y) else (some xI, 0, S)) else (some xI, 0, S)
def o1 (S : Mem) (x : Int32) (f : Nat → Out) : Out := if okn x (cT S) = true then f (iN x) else (some xI, 0, S)
def oHint (S : Mem) (x y : Int32) : Out := o2 S x y (hHint S)
def oPrice (S : Mem) (x y : Int32) : Out := o2 S x y fun t r => if p_open S 18 t r = -1 then (some xN, 0, S) else (if p_left S t r = true then (none, p_price S t r, S) else (some xN, 0, S))
def oOpened (S : Mem) (x y : Int32) : Out := o2 S x y fun t r => (none, p_open S 18 t r, S)
def oSolved (S : Mem) (x y : Int32) : Out := o2 S x y fun t r => (none, if hs (S 19 t) (nI r) = true then S 21 (t * 16 + r) else -1, S)
def clrM (S : Mem) (t r : Nat) : Mem := st S 16 t (S 16 t ||| bt (nI r))
def oClear (S : Mem) (x y : Int32) : Out := o2 S x y fun t r => if hs (S 20 t) (nI r) = true then (if hs (S 16 t) (nI r) = true then (some xS, 0, S) else (none, bI (hs (p_free (clrM S t r) 18 (cT (clrM S t r))) (nI r)), clrM S t r)) else (some xS, 0, S)
def oPardon (S : Mem) (x y : Int32) : Out := oTT S x y fun t o => if t = o then (some xA, 0, S) else (none, bI (hs (p_swi S t o 17 t) (nI o)), p_swi S t o)
def oBound (S : Mem) (x : Int32) : Out := if okr x 1 20 = true then (none, S 15 2, st S 15 2 x) else (some xA, 0, S)
def oFree (S : Mem) (y : Int32) : Out := if okn y (cR S) = true then (none, bI (hs (p_free S 18 (cT S)) (nI (iN y))), S) else (some xI, 0, S)
def oLike (S : Mem) (x y : Int32) : Out := oTT S x y fun t o => (none, S 23 (t * 8 + o), S)
def oLinked (S : Mem) (x y : Int32) : Out := oTT S x y fun t o => (none, bI (p_links S t o (S 23 (t * 8 + o))), S)
def oCheat (S : Mem) (x y : Int32) : Out := o2 S x y fun t r => (none, bI (hs (p_cheat S 18 t (cT S)) (nI r)), S)
def oVoid (S : Mem) (x y : Int32) : Out := o2 S x y fun t r => (none, bI (hs (p_void S 18 t) (nI r)), S)
def oHang (S : Mem) (y : Int32) : Out := if okn y (cR S) = true then (none, p_hang S (iN y), S) else (some xI, 0, S)
def oScore (S : Mem) (x : Int32) : Out := o1 S x fun t => (none, p_sumUp S 18 t (p_count S 18 t), S)
def oAnew (S : Mem) (x : Int32) : Out := o1 S x fun t => (none, p_sumUp (p_anewM S t) 25 t (p_count (p_anewM S t) 25 t), p_anewM S t)
def oPlace (S : Mem) (x : Int32) : Out := o1 S x fun t => (none, nI (1 + p_better (p_rate S (cT S)) t (cT (p_rate S (cT S)))), p_rate S (cT S))
def p_tat (c : Nat → Bool) (T : Nat) : Nat → Int32
  | 0 => -1
  | n + 1 => if c (T - (n + 1)) = true then nI (T - (n + 1)) else p_tat c T n
def p_at (S1 : Mem) (x : Int32) (t : Nat) : Bool := decide (nI (p_better S1 t (cT S1) + p_alike S1 t t) = x)
def oAt (S : Mem) (x : Int32) : Out := (none, p_tat (p_at (p_rate S (cT S)) x) (cT S) (cT S), p_rate S (cT S))
def oSetP (S : Mem) (x y : Int32) : Out := if okr x 1 8 = true then (if okr y 0 1000 = true then (none, S 34 (iN (x - 1)), st S 34 (iN (x - 1)) y) else (some xA, 0, S)) else (some xA, 0, S)
def hPrize (S1 : Mem) (t : Nat) : Int32 := if 0 < p_alike S1 t (cT S1) then p_prz S1 (p_better S1 t (cT S1)) (p_alike S1 t (cT S1)) / nI (p_alike S1 t (cT S1)) else 0
def oPrize (S : Mem) (x : Int32) : Out := o1 S x fun t => if S 0 11 = 0 then (some xS, 0, S) else (none, hPrize (p_rate S (cT S)) t, p_rate S (cT S))
def oNow (S : Mem) : Out := (none, S 0 10, S)
theorem left_lt {S : Mem} {t r : Nat} (hI : I0 S) (hc : t * 16 + r < 128) (h : p_left S t r = true) : iN (S 13 (t * 16 + r)) < 3 := by
  simp only [p_left, decide_eq_true_eq] at h
  have h3 := hI.bo3 hc
  rw [hI.bo hc] at h
  exact (nI_ltI (by omega) (by decide)).mp h
theorem okn_f1 {x : Int32} {n : Nat} (h : x < 0) : okn x n = false := by
  rw [Int32.lt_iff_toInt_lt, Int32.toInt_zero] at h
  simp only [okn, decide_eq_false_iff_not]; omega
theorem okn_f2 {x : Int32} {n : Nat} (hn : n < 2 ^ 31) (h : ¬ x < nI n) : okn x n = false := by
  rw [Int32.lt_iff_toInt_lt, nI_toInt hn] at h
  simp only [okn, decide_eq_false_iff_not]; omega
theorem p_tat_yes {c : Nat → Bool} {T i : Nat} (hi : i < T) (h : c i = true) : p_tat c T (T - i) = nI i := by
  obtain ⟨n, hn⟩ : ∃ n, T - i = n + 1 := ⟨T - i - 1, by omega⟩
  have e : T - (n + 1) = i := by omega
  rw [hn, p_tat, e, if_pos h]
theorem p_tat_no {c : Nat → Bool} {T i : Nat} (hi : i < T) (h : c i = false) : p_tat c T (T - i) = p_tat c T (T - (i + 1)) := by
  obtain ⟨n, hn⟩ : ∃ n, T - i = n + 1 := ⟨T - i - 1, by omega⟩
  have e : T - (n + 1) = i := by omega
  have e2 : T - (i + 1) = n := by omega
  rw [hn, p_tat, e, h, e2]; rfl
theorem p_tat_end {c : Nat → Bool} {T : Nat} : p_tat c T (T - T) = -1 := by rw [Nat.sub_self]; rfl
