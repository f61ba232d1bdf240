/-! the class's methods as functions of its memory: sets, solving, what is left -/
def hs (x y : Int32) : Bool := decide (¬ (x >>> (y &&& 31)) &&& 1 = 0)
def cT (S : Mem) : Nat := iN (S 0 9)
def cR (S : Mem) : Nat := iN (S 1 6)
def cN (S : Mem) : Nat := iN (S 7 4)
def aT (S : Mem) (k : Nat) : Nat := iN (S 8 k)
def aR (S : Mem) (k : Nat) : Nat := iN (S 9 k)
/-- counts and places are in their ranges -/
def I0 (S : Mem) : Prop := (S 0 9 = nI (cT S) ∧ cT S ≤ 8) ∧ (S 1 6 = nI (cR S) ∧ cR S ≤ 16) ∧ (S 7 4 = nI (cN S) ∧ cN S ≤ 200) ∧ (∀ k, k < cN S → (S 8 k = nI (aT S k) ∧ aT S k < 8) ∧ S 9 k = nI (aR S k) ∧ aR S k < 16) ∧ (∀ c, c < 128 → S 13 c = nI (iN (S 13 c)) ∧ iN (S 13 c) ≤ 3)
theorem I0.T {S : Mem} (h : I0 S) : S 0 9 = nI (cT S) := h.1.1
theorem I0.R {S : Mem} (h : I0 S) : S 1 6 = nI (cR S) := h.2.1.1
theorem I0.N {S : Mem} (h : I0 S) : S 7 4 = nI (cN S) := h.2.2.1.1
theorem I0.T8 {S : Mem} (h : I0 S) : cT S ≤ 8 := h.1.2
theorem I0.R16 {S : Mem} (h : I0 S) : cR S ≤ 16 := h.2.1.2
theorem I0.N200 {S : Mem} (h : I0 S) : cN S ≤ 200 := h.2.2.1.2
theorem I0.xT {S : Mem} (h : I0 S) {k : Nat} (hk : k < cN S) : S 8 k = nI (aT S k) := (h.2.2.2.1 k hk).1.1
theorem I0.xT8 {S : Mem} (h : I0 S) {k : Nat} (hk : k < cN S) : aT S k < 8 := (h.2.2.2.1 k hk).1.2
theorem I0.xR {S : Mem} (h : I0 S) {k : Nat} (hk : k < cN S) : S 9 k = nI (aR S k) := (h.2.2.2.1 k hk).2.1
theorem I0.xR16 {S : Mem} (h : I0 S) {k : Nat} (hk : k < cN S) : aR S k < 16 := (h.2.2.2.1 k hk).2.2
theorem I0.bo {S : Mem} (h : I0 S) {c : Nat} (hc : c < 128) : S 13 c = nI (iN (S 13 c)) := (h.2.2.2.2 c hc).1
theorem I0.bo3 {S : Mem} (h : I0 S) {c : Nat} (hc : c < 128) : iN (S 13 c) ≤ 3 := (h.2.2.2.2 c hc).2
theorem I0_congr {S S' : Mem} (h : ∀ c, c < 15 → S' c = S c) (hI : I0 S) : I0 S' := by
  have e0 := h 0 (by decide)
  have e1 := h 1 (by decide)
  have e7 := h 7 (by decide)
  have e8 := h 8 (by decide)
  have e9 := h 9 (by decide)
  have e13 := h 13 (by decide)
  have a1 : cT S' = cT S := by unfold cT; rw [e0]
  have a2 : cR S' = cR S := by unfold cR; rw [e1]
  have a3 : cN S' = cN S := by unfold cN; rw [e7]
  have a4 : ∀ k, aT S' k = aT S k := fun k => by unfold aT; rw [e8]
  have a5 : ∀ k, aR S' k = aR S k := fun k => by unfold aR; rw [e9]
  refine ⟨?_, ?_, ?_, fun k hk => ?_, fun c hc => ?_⟩
  · rw [a1, e0]; exact hI.1
  · rw [a2, e1]; exact hI.2.1
  · rw [a3, e7]; exact hI.2.2.1
  · rw [a4, a5, e8, e9]; rw [a3] at hk; exact hI.2.2.2.1 k hk
  · rw [e13]; exact hI.2.2.2.2 c hc
/-- an int is a place below n -/
def okn (x : Int32) (n : Nat) : Bool := decide (0 ≤ x.toInt ∧ x.toInt < n)
/-- an int is in a range -/
def okr (x a b : Int32) : Bool := decide (¬ x < a) && decide (x ≤ b)
theorem okn_t {x : Int32} {n : Nat} (h : okn x n = true) : ∃ t : Nat, t < n ∧ x = nI t := by
  simp only [okn, decide_eq_true_eq] at h
  have hlt : ¬ x < 0 := by rw [Int32.lt_iff_toInt_lt, Int32.toInt_zero]; omega
  obtain ⟨j, hj, e⟩ := nI_of hlt
  refine ⟨j, ?_, e⟩
  rw [e, nI_toInt hj] at h; omega
theorem okn_nI {t n : Nat} (ht : t < 2 ^ 31) : okn (nI t) n = decide (t < n) := by
  unfold okn; rw [nI_toInt ht]; congr 1; apply propext; omega
theorem okn_c {x : Int32} {n : Nat} (hn : n < 2 ^ 31) (h1 : ¬ x < 0) (h2 : x < nI n) : okn x n = true := by
  rw [Int32.lt_iff_toInt_lt, Int32.toInt_zero] at h1
  rw [Int32.lt_iff_toInt_lt, nI_toInt hn] at h2
  simp only [okn, decide_eq_true_eq]; omega
theorem okn_n0 {x : Int32} {n : Nat} (h : okn x n = false) (h1 : ¬ x < 0) (hn : n < 2 ^ 31) : ¬ x < nI n := fun h2 => by rw [okn_c hn h1 h2] at h; cases h
/-! the class's methods as functions of its memory -/
def p_lsm (S : Mem) (b t : Nat) (set : Int32) : Nat → Int32
  | 0 => 0
  | i + 1 => if hs set (nI i) = true then imax (p_lsm S b t set i) (S (b + 3) (t * 16 + i)) else p_lsm S b t set i
def p_last (S : Mem) (b t : Nat) (set : Int32) : Int32 := if set &&& (S (b + 1) t ^^^ (-1)) = 0 then p_lsm S b t set 16 else -1
def p_open (S : Mem) (b t r : Nat) : Int32 := p_last S b t (S 6 r)
def p_under (S : Mem) (t r : Nat) : Bool := decide (S 0 11 = 0) && (decide (¬ p_open S 18 t r = -1) && !(hs (S 19 t) (nI r)))
def p_left (S : Mem) (t r : Nat) : Bool := decide (S 13 (t * 16 + r) < 3)
def p_buy (S : Mem) (r : Nat) (x : Int32) : Nat → Nat
  | 0 => 0
  | i + 1 => if x < S 13 (i * 16 + r) then p_buy S r x i + 1 else p_buy S r x i
def p_price (S : Mem) (t r : Nat) : Int32 := imax 1 (S 5 r - (S 0 10 - p_open S 18 t r) / 10 - nI (p_buy S r (S 13 (t * 16 + r)) 8))
def p_solve (S : Mem) (b t r : Nat) (m : Int32) (soon : Bool) : Mem :=
  let S2 := st (st S (b + 1) t (S (b + 1) t ||| bt (nI r))) (b + 3) (t * 16 + r) m
  if soon = true then st S2 (b + 2) t (S (b + 2) t ||| bt (nI r)) else S2
def p_noteS (S : Mem) (b t r : Nat) (m : Int32) : Mem := p_solve S b t r m (decide (¬ S 4 r ≤ m - p_open S b t r))
def p_pay (S : Mem) (b t r : Nat) (x : Int32) : Mem := st S (b + 4) (t * 16 + r) (S (b + 4) (t * 16 + r) + x)
def p_like1 (S : Mem) (b t o : Nat) : Mem := st S (b + 5) (t * 8 + o) (S (b + 5) (t * 8 + o) + 1)
def p_comm1 (S : Mem) (b t o r : Nat) : Mem := st S (b + 6) (t * 8 + o) (S (b + 6) (t * 8 + o) ||| bt (nI r))
def p_common (S : Mem) (b t o r : Nat) : Mem := p_comm1 (p_comm1 (p_like1 (p_like1 S b t o) b o t) b t o r) b o t r
def p_give (S : Mem) (r : Nat) (w : Int32) : Nat → Int32
  | 0 => 0
  | k + 1 => if S 9 k = nI r ∧ S 10 k = w then p_give S r w k ||| bt (S 8 k) else p_give S r w k
def p_nwl (S : Mem) (g : Int32) (t r : Nat) : Nat → Mem
  | 0 => S
  | o + 1 => if hs g (nI o) = true then p_common (p_nwl S g t r o) 18 t o r else p_nwl S g t r o
def p_noteW (S : Mem) (t r : Nat) (w : Int32) : Mem := if hs (p_give S r w (cN S)) (nI t) = true then S else p_nwl S (p_give S r w (cN S)) t r (cT S)
def p_app (S : Mem) (t r : Nat) (w m : Int32) : Mem := st (st (st (st (st S 8 (cN S) (nI t)) 9 (cN S) (nI r)) 10 (cN S) w) 11 (cN S) m) 7 4 (nI (cN S + 1))
def p_sold (S : Mem) (t r : Nat) (x : Int32) : Mem := st (st S 14 ((t * 16 + r) * 3 + iN (S 13 (t * 16 + r))) x) 13 (t * 16 + r) (nI (iN (S 13 (t * 16 + r)) + 1))
def p_free (S : Mem) (b : Nat) : Nat → Int32
  | 0 => 0
  | t + 1 => p_free S b t ||| (S (b + 2) t &&& (S 16 t ^^^ (-1)))
def p_links (S : Mem) (t o : Nat) (x : Int32) : Bool := decide (¬ t = o) && (decide (¬ x < S 15 2) && !(hs (S 17 t) (nI o)))
def p_cheat (S : Mem) (b t : Nat) : Nat → Int32
  | 0 => 0
  | o + 1 => if p_links S t o (S (b + 5) (t * 8 + o)) = true then p_cheat S b t o ||| S (b + 6) (t * 8 + o) else p_cheat S b t o
def p_spread (S : Mem) (set : Int32) : Nat → Int32
  | 0 => set
  | r + 1 => if S 6 r &&& p_spread S set r = 0 then p_spread S set r else p_spread S set r ||| bt (nI r)
def p_void (S : Mem) (b t : Nat) : Int32 := p_spread S (p_cheat S b t (cT S) &&& S (b + 1) t) (cR S) &&& S (b + 1) t
def p_count (S : Mem) (b t : Nat) : Int32 := (S (b + 1) t &&& (p_void S b t ^^^ (-1))) &&& (p_free S b (cT S) ^^^ (-1))
def p_sum (S : Mem) (b t : Nat) (cnt free : Int32) : Nat → Int32
  | 0 => 0
  | r + 1 => if hs cnt (nI r) = true then (if hs free (nI r) = true then p_sum S b t cnt free r + S 2 r else (p_sum S b t cnt free r + S 2 r) - S (b + 4) (t * 16 + r)) else (if hs free (nI r) = true then p_sum S b t cnt free r else p_sum S b t cnt free r - S (b + 4) (t * 16 + r))
def p_sumUp (S : Mem) (b t : Nat) (cnt : Int32) : Int32 := p_sum S b t cnt (p_free S b (cT S)) (cR S)
def p_hang (S : Mem) (r : Nat) : Int32 := p_spread S (bt (nI r)) (cR S) &&& (bt (nI r) ^^^ (-1))
def p_rate (S : Mem) : Nat → Mem
  | 0 => S
  | t + 1 => st (st (p_rate S t) 32 t (p_sumUp (p_rate S t) 18 t (p_count (p_rate S t) 18 t))) 33 t (p_last (st (p_rate S t) 32 t (p_sumUp (p_rate S t) 18 t (p_count (p_rate S t) 18 t))) 18 t (p_count (p_rate S t) 18 t))
def p_better (S : Mem) (t : Nat) : Nat → Nat
  | 0 => 0
  | o + 1 => if S 32 t < S 32 o ∨ (S 32 o = S 32 t ∧ S 33 o < S 33 t) then p_better S t o + 1 else p_better S t o
def p_alike (S : Mem) (t : Nat) : Nat → Nat
  | 0 => 0
  | o + 1 => if S 32 o = S 32 t ∧ S 33 o = S 33 t then p_alike S t o + 1 else p_alike S t o
def p_prz (S : Mem) (f : Nat) : Nat → Int32
  | 0 => 0
  | j + 1 => p_prz S f j + S 34 (f + j)
def p_same (S : Mem) (i j : Nat) : Bool := decide (S 9 i = S 9 j) && decide (S 10 i = S 10 j)
def p_again (S : Mem) (a k : Nat) : Bool := decide (S 8 k = S 8 a) && p_same S k a
def p_rep (S : Mem) (a : Nat) : Bool := (List.range a).any (p_again S a)
theorem p_rep_t {S : Mem} {a k : Nat} (hk : k < a) (h : p_again S a k = true) : p_rep S a = true := List.any_eq_true.mpr ⟨k, List.mem_range.mpr hk, h⟩
theorem p_rep_f {S : Mem} {a : Nat} (h : ∀ k, k < a → p_again S a k = false) : p_rep S a = false := by
  rw [p_rep, List.any_eq_false]; intro k hk; rw [h k (List.mem_range.mp hk)]; simp
def p_right (S : Mem) (k : Nat) : Bool := decide (S 10 k = S 3 (aR S k))
def p_addR (S : Mem) (a b c d : Int32) : Mem := st (st (st (st (st S 2 (cR S) a) 3 (cR S) b) 4 (cR S) c) 5 (cR S) d) 1 6 (nI (cR S + 1))
def p_swi (S : Mem) (t o : Nat) : Mem :=
  let S1 := st S 17 t (S 17 t ^^^ bt (nI o))
  st S1 17 o (S1 17 o ^^^ bt (nI t))
def fillS (S : Mem) (c n : Nat) : Mem := fun k => if k = c then (fun j => if j < n then 0 else S k j) else S k
def p_wipe (S : Mem) : Mem := fillS (fillS (fillS (fillS (fillS (fillS S 26 8) 27 8) 28 128) 29 128) 30 64) 31 64
def p_replay (S : Mem) : Nat → Mem
  | 0 => S
  | k + 1 => if p_right (p_replay S k) k = true then p_noteS (p_replay S k) 25 (aT (p_replay S k) k) (aR (p_replay S k) k) (p_replay S k 11 k) else p_replay S k
def p_cmpO (S : Mem) (a : Nat) : Nat → Mem
  | 0 => S
  | k + 1 => if (¬ p_cmpO S a k 8 k = nI (aT S a)) ∧ p_same (p_cmpO S a k) a k = true ∧ p_rep (p_cmpO S a k) k = false then p_common (p_cmpO S a k) 25 (aT S a) (aT (p_cmpO S a k) k) (aR (p_cmpO S a k) k) else p_cmpO S a k
def p_cmpP (S : Mem) (t : Nat) : Nat → Mem
  | 0 => S
  | k + 1 => if p_cmpP S t k 8 k = nI t ∧ p_right (p_cmpP S t k) k = false ∧ p_rep (p_cmpP S t k) k = false then p_cmpO (p_cmpP S t k) k (cN (p_cmpP S t k)) else p_cmpP S t k
def p_sal1 (S : Mem) (t r : Nat) : Nat → Mem
  | 0 => S
  | n + 1 => p_pay (p_sal1 S t r n) 25 t r (p_sal1 S t r n 14 ((t * 16 + r) * 3 + n))
def p_sals (S : Mem) (t : Nat) : Nat → Mem
  | 0 => S
  | r + 1 => p_sal1 (p_sals S t r) t r 3
def p_anewM (S : Mem) (t : Nat) : Mem := p_sals (p_cmpP (p_replay (p_wipe S) (cN (p_wipe S))) t (cN (p_replay (p_wipe S) (cN (p_wipe S))))) t (cR (p_cmpP (p_replay (p_wipe S) (cN (p_wipe S))) t (cN (p_replay (p_wipe S) (cN (p_wipe S))))))
theorem st_ne {S : Mem} {c i k : Nat} {x : Int32} (h : k ≠ c) : st S c i x k = S k := if_neg h
theorem st_same {S : Mem} {c i : Nat} {x : Int32} : st S c i x c = upd (S c) i x := if_pos rfl
theorem st_at {S : Mem} {c i : Nat} {x : Int32} : st S c i x c i = x := by rw [st_same]; exact if_pos rfl
theorem st_off {S : Mem} {c i j : Nat} {x : Int32} (h : j ≠ i) : st S c i x c j = S c j := by rw [st_same]; exact if_neg h
theorem fr_solve {S : Mem} {b t r k : Nat} {m : Int32} {soon : Bool} (h : k < b + 1 ∨ b + 3 < k) : p_solve S b t r m soon k = S k := by
  unfold p_solve
  split
  · rw [st_ne (by omega), st_ne (by omega), st_ne (by omega)]
  · rw [st_ne (by omega), st_ne (by omega)]
theorem fr_noteS {S : Mem} {b t r k : Nat} {m : Int32} (h : k < b + 1 ∨ b + 3 < k) : p_noteS S b t r m k = S k := fr_solve h
theorem fr_common {S : Mem} {b t o r k : Nat} (h : k < b + 5 ∨ b + 6 < k) : p_common S b t o r k = S k := by
  unfold p_common p_comm1 p_like1
  rw [st_ne (by omega), st_ne (by omega), st_ne (by omega), st_ne (by omega)]
theorem fr_nwl {S : Mem} {g : Int32} {t r k : Nat} (h : k < 23 ∨ 24 < k) : ∀ o, p_nwl S g t r o k = S k
  | 0 => rfl
  | o + 1 => by
    unfold p_nwl
    split
    · rw [fr_common (by omega)]; exact fr_nwl h o
    · exact fr_nwl h o
theorem fr_noteW {S : Mem} {t r k : Nat} {w : Int32} (h : k < 23 ∨ 24 < k) : p_noteW S t r w k = S k := by
  unfold p_noteW
  split
  · rfl
  · exact fr_nwl h _
theorem fr_pay {S : Mem} {b t r k : Nat} {x : Int32} (h : k ≠ b + 4) : p_pay S b t r x k = S k := st_ne h
theorem fr_replay {S : Mem} {k : Nat} (h : k < 26 ∨ 28 < k) : ∀ i, p_replay S i k = S k
  | 0 => rfl
  | i + 1 => by
    unfold p_replay
    split
    · rw [fr_noteS (by omega)]; exact fr_replay h i
    · exact fr_replay h i
theorem fr_cmpO {S : Mem} {a k : Nat} (h : k < 30 ∨ 31 < k) : ∀ i, p_cmpO S a i k = S k
  | 0 => rfl
  | i + 1 => by
    unfold p_cmpO
    split
    · rw [fr_common (by omega)]; exact fr_cmpO h i
    · exact fr_cmpO h i
theorem fr_cmpP {S : Mem} {t k : Nat} (h : k < 30 ∨ 31 < k) : ∀ i, p_cmpP S t i k = S k
  | 0 => rfl
  | i + 1 => by
    unfold p_cmpP
    split
    · rw [fr_cmpO h]; exact fr_cmpP h i
    · exact fr_cmpP h i
theorem fr_sal1 {S : Mem} {t r k : Nat} (h : k ≠ 29) : ∀ i, p_sal1 S t r i k = S k
  | 0 => rfl
  | i + 1 => by
    unfold p_sal1
    rw [fr_pay (by omega)]; exact fr_sal1 h i
theorem fr_sals {S : Mem} {t k : Nat} (h : k ≠ 29) : ∀ i, p_sals S t i k = S k
  | 0 => rfl
  | i + 1 => by
    unfold p_sals
    rw [fr_sal1 h]; exact fr_sals h i
theorem fr_fill {S : Mem} {c n k : Nat} (h : k ≠ c) : fillS S c n k = S k := if_neg h
theorem fr_wipe {S : Mem} {k : Nat} (h : k < 26 ∨ 31 < k) : p_wipe S k = S k := by
  unfold p_wipe
  rw [fr_fill (by omega), fr_fill (by omega), fr_fill (by omega), fr_fill (by omega), fr_fill (by omega), fr_fill (by omega)]
theorem fr_rate {S : Mem} {k : Nat} (h : k < 32 ∨ 33 < k) : ∀ i, p_rate S i k = S k
  | 0 => rfl
  | i + 1 => by
    unfold p_rate
    rw [st_ne (by omega), st_ne (by omega)]; exact fr_rate h i
theorem fill_step {S : Mem} {c i : Nat} : fillS S c (i + 1) = st (fillS S c i) c i 0 := by
  funext k j
  by_cases hk : k = c
  · subst hk
    simp only [fillS, st, upd, if_true]
    by_cases hj : j = i
    · subst hj; simp
    · rw [if_neg hj]; by_cases h2 : j < i
      · rw [if_pos h2, if_pos (by omega)]
      · rw [if_neg h2, if_neg (by omega)]
  · simp only [fillS, st, if_neg hk]
theorem fill_zero {S : Mem} {c : Nat} : fillS S c 0 = S := by
  funext k j
  simp [fillS]
theorem cT_congr {S S' : Mem} (h : S' 0 = S 0) : cT S' = cT S := by unfold cT; rw [h]
theorem cR_congr {S S' : Mem} (h : S' 1 = S 1) : cR S' = cR S := by unfold cR; rw [h]
theorem cN_congr {S S' : Mem} (h : S' 7 = S 7) : cN S' = cN S := by unfold cN; rw [h]
theorem p_better_le (S : Mem) (t : Nat) : ∀ n, p_better S t n ≤ n
  | 0 => Nat.le_refl 0
  | n + 1 => by unfold p_better; have := p_better_le S t n; split <;> omega
theorem p_alike_le (S : Mem) (t : Nat) : ∀ n, p_alike S t n ≤ n
  | 0 => Nat.le_refl 0
  | n + 1 => by unfold p_alike; have := p_alike_le S t n; split <;> omega
theorem p_ba_le (S : Mem) (t : Nat) : ∀ n, p_better S t n + p_alike S t n ≤ n
  | 0 => Nat.le_refl 0
  | n + 1 => by
    unfold p_better p_alike
    have := p_ba_le S t n
    by_cases h : S 32 n = S 32 t ∧ S 33 n = S 33 t
    · have h2 : ¬ (S 32 t < S 32 n ∨ (S 32 n = S 32 t ∧ S 33 n < S 33 t)) := by
        rw [h.1, h.2]; rintro (q | ⟨-, q⟩) <;> exact Int32.lt_irrefl q
      rw [if_pos h, if_neg h2]; omega
    · rw [if_neg h]; split <;> omega
theorem p_buy_le (S : Mem) (r : Nat) (x : Int32) : ∀ n, p_buy S r x n ≤ n
  | 0 => Nat.le_refl 0
  | n + 1 => by unfold p_buy; have := p_buy_le S r x n; split <;> omega
theorem I0_0 {S : Mem} {j : Nat} {x : Int32} (h : j ≠ 9) (hI : I0 S) : I0 (st S 0 j x) := by
  have e : cT (st S 0 j x) = cT S := by unfold cT; rw [st_off (by omega)]
  refine ⟨?_, hI.2.1, hI.2.2.1, hI.2.2.2.1, hI.2.2.2.2⟩
  rw [e, st_off (by omega)]; exact hI.1
theorem I0_2 {S : Mem} {c j : Nat} {x : Int32} (h : 14 < c ∨ (1 < c ∧ c < 7)) (hI : I0 S) : I0 (st S c j x) := by
  have e : ∀ k, (k = 0 ∨ k = 1 ∨ k = 7 ∨ k = 8 ∨ k = 9 ∨ k = 13) → st S c j x k = S k := fun k hk => st_ne (by omega)
  have e0 := e 0 (by omega); have e1 := e 1 (by omega); have e7 := e 7 (by omega); have e8 := e 8 (by omega); have e9 := e 9 (by omega); have e13 := e 13 (by omega)
  have a1 : cT (st S c j x) = cT S := cT_congr e0
  have a2 : cR (st S c j x) = cR S := cR_congr e1
  have a3 : cN (st S c j x) = cN S := cN_congr e7
  refine ⟨?_, ?_, ?_, fun k hk => ?_, fun k hk => ?_⟩
  · rw [a1, e0]; exact hI.1
  · rw [a2, e1]; exact hI.2.1
  · rw [a3, e7]; exact hI.2.2.1
  · have b1 : aT (st S c j x) k = aT S k := by unfold aT; rw [e8]
    have b2 : aR (st S c j x) k = aR S k := by unfold aR; rw [e9]
    rw [b1, b2, e8, e9]; rw [a3] at hk; exact hI.2.2.2.1 k hk
  · rw [e13]; exact hI.2.2.2.2 k hk
theorem okr_m1 {x : Int32} (h : okr x 1 8 = true) : x - 1 = nI (iN (x - 1)) ∧ iN (x - 1) < 8 := by
  simp only [okr, Bool.and_eq_true, decide_eq_true_eq] at h
  obtain ⟨h1, h2⟩ := h
  rw [Int32.lt_iff_toInt_lt] at h1
  rw [Int32.le_iff_toInt_le] at h2
  have e1 : (1 : Int32).toInt = 1 := by decide
  have e8 : (8 : Int32).toInt = 8 := by decide
  rw [e1] at h1; rw [e8] at h2
  obtain ⟨j, hj, e⟩ := nI_of (x := x) (by rw [Int32.lt_iff_toInt_lt, Int32.toInt_zero]; omega)
  subst e
  rw [nI_toInt hj] at h1 h2
  obtain ⟨j', rfl⟩ : ∃ j', j = j' + 1 := ⟨j - 1, by omega⟩
  have e9 : nI (j' + 1) - 1 = nI j' := nI_pred j'
  rw [e9, iN, nI_clamp (by omega)]
  exact ⟨rfl, by omega⟩
section Cells8
variable {p : Program} {l : Launch} {e : Env} {R : Room} {s : State} {m : MethodId} {args : Array Value} {below : List Frame} {meth : Method} {c : Code} {H : Heap} {locs : List Loc} {cells slots : Nat} {Q : State → Prop}
variable {pc : Nat} {ls : Array Slot} {rest st0 : List Value} {A : Nat → Prop} {H0 : Heap} {cc : ByteArray} {D : va_G} {cI cZ cL : ClassId} {ws ws' : va_W}
variable {idx n i a ci N : Nat} {own host C : String} {T : u_T} {fs : List Value} {v : Value} {f : Nat → Int32}
theorem q_putN {ty0 : Nat → FieldType} (hx : p.tables.exec = Jvm.exec) (hb : c.code = cc) (hown : s.vm.findClass own = some m.cls) (hE : EV D cI cZ cL s) (hin : ∀ w ∈ u_ws C T N, w ∈ TW) (hty : ∀ k, k < N → parseFieldDescriptor (T k).2.2.1 = some (ty0 k)) (hnm : ∀ a, a < N → ∀ b, b < N → a ≠ b → (T a).2.1 ≠ (T b).2.1)
    (hP : va_P D vwCl ws H) (hD : va_D A ws) (hS : va_S A H0 H locs) (q0 : Nat) (he : ws[q0]? = some (a, .inr (ci, fs))) (hc : vwCl[ci]? = some (C, T, N)) (k : Nat) (hk : k < N)
    (hl : Cond.fieldLinkNest own idx (T k).1 (T k).2.1 (T k).2.2.1 host ∈ TW) (hfin : (T k).2.2.2 = false) (hn : narrow (ty0 k) v = v) (hfit : fits (ty0 k) v = true) (hlen : k < fs.length) (hws : ws.set q0 (a, .inr (ci, fs.set k v)) = ws') (hdg : decode cc pc = .ok (.putfield idx, 3))
    (kk : ∀ (H : Heap) (locs : List Loc), va_P D vwCl ws' H → va_S A H0 H locs → W p l e R s m args below meth c H locs cells slots Q (F0 m (pc + 3) ls rest)) : W p l e R s m args below meth c H locs cells slots Q (F0 m pc ls (v :: .ref a :: rest)) :=
  va_putN (Ts := TW) hx hb (fun w h => hE.1 w h args) hin ty0 hty hnm hown hE.2 hP hD hS q0 he hc k hk (hE.1 _ hl args) (fun _ h => h) hfin (hty k hk) hn hfit hlen hdg (fun H1 locs1 hP1 hD1 hS1 => kk H1 locs1 (hws ▸ hP1) hS1)
end Cells8
