section
/-! call by call: class and model say the same and stay related (all but hint, answer, scoreAnew) -/
def Sim (xs : List String) (S : Mem) (o : Out) (m : MO) : Prop := (o.1 = none ∧ m.2.1 = 0 ∧ o.2.1 = m.1 ∧ Rel o.2.2 m.2.2) ∨ ∃ k E, xs[k]? = some E ∧ o.1 = some E ∧ m.2.1 = nI (k + 1) ∧ Rel S m.2.2
theorem okr_of {x : Int32} {a b : Nat} (ha : a < 2 ^ 31) (hb : b < 2 ^ 31) (h : okr x (nI a) (nI b) = true) : ∃ m, a ≤ m ∧ m ≤ b ∧ x = nI m := by
  simp only [okr, Bool.and_eq_true, decide_eq_true_eq] at h
  obtain ⟨h1, h2⟩ := h
  rw [Int32.lt_iff_toInt_lt, nI_toInt ha] at h1
  rw [Int32.le_iff_toInt_le, nI_toInt hb] at h2
  obtain ⟨j, hj, e⟩ := nI_of (x := x) (by rw [Int32.lt_iff_toInt_lt, Int32.toInt_zero]; omega)
  subst e
  rw [nI_toInt hj] at h1 h2
  exact ⟨j, by omega, by omega, rfl⟩
theorem sim_2 {S M : Mem} (h : Rel S M) {xs : List String} {x y : Int32} {n1 n2 : Nat} {f : Nat → Nat → Out} {g : Nat → Nat → MO} (hx : xs[0]? = some xI) (h1 : n1 ≤ 16) (h2 : n2 ≤ 16) (hf : ∀ t r, t < n1 → r < n2 → Sim xs S (f t r) (g t r)) : Sim xs S (if okn x n1 = true then (if okn y n2 = true then f (iN x) (iN y) else (some xI, 0, S)) else (some xI, 0, S)) (mm2 M x y n1 n2 g) := by
  unfold mm2
  by_cases c1 : okn x n1 = true
  · rw [if_pos c1, if_pos c1]
    by_cases c2 : okn y n2 = true
    · rw [if_pos c2, if_pos c2]
      obtain ⟨t, ht, e1⟩ := okn_t c1
      obtain ⟨r, hr, e2⟩ := okn_t c2
      rw [e1, e2, iN_nI (by omega), iN_nI (by omega)]
      exact hf t r ht hr
    · rw [if_neg c2, if_neg c2]; exact .inr ⟨0, xI, hx, rfl, rfl, h⟩
  · rw [if_neg c1, if_neg c1]; exact .inr ⟨0, xI, hx, rfl, rfl, h⟩
theorem sim_1 {S M : Mem} (h : Rel S M) {xs : List String} {x : Int32} {n1 : Nat} {f : Nat → Out} {g : Nat → MO} (hx : xs[0]? = some xI) (h1 : n1 ≤ 16) (hf : ∀ t, t < n1 → Sim xs S (f t) (g t)) : Sim xs S (if okn x n1 = true then f (iN x) else (some xI, 0, S)) (mm1 M x n1 g) := by
  unfold mm1
  by_cases c1 : okn x n1 = true
  · rw [if_pos c1, if_pos c1]
    obtain ⟨t, ht, e1⟩ := okn_t c1
    rw [e1, iN_nI (by omega)]
    exact hf t ht
  · rw [if_neg c1, if_neg c1]; exact .inr ⟨0, xI, hx, rfl, rfl, h⟩
theorem T16 {S : Mem} (h : Inv S) : cT S ≤ 16 := Nat.le_trans h.i0.T8 (by omega)
theorem sim_o2 {S M : Mem} (h : Rel S M) {xs : List String} {x y : Int32} {f : Nat → Nat → Out} {g : Nat → Nat → MO} (hx : xs[0]? = some xI) (hf : ∀ t r, t < cT S → r < cR S → Sim xs S (f t r) (g t r)) : Sim xs S (o2 S x y f) (mm2 M x y (cT S) (cR S) g) := sim_2 (f := f) h hx (T16 h.inv) h.inv.i0.R16 hf
theorem sim_oTT {S M : Mem} (h : Rel S M) {xs : List String} {x y : Int32} {f : Nat → Nat → Out} {g : Nat → Nat → MO} (hx : xs[0]? = some xI) (hf : ∀ t r, t < cT S → r < cT S → Sim xs S (f t r) (g t r)) : Sim xs S (oTT S x y f) (mm2 M x y (cT S) (cT S) g) := sim_2 (f := f) h hx (T16 h.inv) (T16 h.inv) hf
/-! readers -/
theorem sim_now {S M : Mem} (h : Rel S M) : Sim [] S (oNow S) (mNow M) := .inl ⟨rfl, rfl, h.eW, h⟩
theorem sim_price {S M : Mem} (h : Rel S M) (x y : Int32) : Sim [xI, xN] S (oPrice S x y) (mPrice M x y) := by
  unfold oPrice mPrice
  rw [h.T, h.R]
  refine sim_o2 h rfl fun t r ht hr => ?_
  have hT := h.inv.i0.T8
  have hR := h.inv.i0.R16
  rw [r_open h ht (by omega), r_price h ht (by omega)]
  by_cases c1 : m_opened M t r = -1
  · rw [if_pos c1, if_pos c1]; exact .inr ⟨1, xN, rfl, rfl, rfl, h⟩
  · rw [if_neg c1, if_neg c1]
    have b3 := h.inv.i0.bo3 (c := t * 16 + r) (by omega)
    have bn := h.inv.i0.bo (c := t * 16 + r) (by omega)
    rw [ix16, ← h.e13]
    unfold p_left
    by_cases c2 : S 13 (t * 16 + r) = 3
    · rw [if_pos c2, c2, if_neg (by decide)]; exact .inr ⟨1, xN, rfl, rfl, rfl, h⟩
    · have l : S 13 (t * 16 + r) < 3 := by
        rw [bn]
        refine (nI_ltI (b := 3) (by omega) (by omega)).mpr ?_
        have : iN (S 13 (t * 16 + r)) ≠ 3 := fun z => c2 (by rw [bn, z]; rfl)
        omega
      rw [if_neg c2, decide_eq_true l, if_pos rfl]
      exact .inl ⟨rfl, rfl, rfl, h⟩
theorem sim_opened {S M : Mem} (h : Rel S M) (x y : Int32) : Sim [xI] S (oOpened S x y) (mOpened M x y) := by
  unfold oOpened mOpened
  rw [h.T, h.R]
  refine sim_o2 h rfl fun t r ht hr => ?_
  have hR := h.inv.i0.R16
  rw [r_open h ht (by omega)]
  exact .inl ⟨rfl, rfl, rfl, h⟩
theorem sim_solved {S M : Mem} (h : Rel S M) (x y : Int32) : Sim [xI] S (oSolved S x y) (mSolved M x y) := by
  unfold oSolved mSolved
  rw [h.T, h.R]
  refine sim_o2 h rfl fun t r ht hr => ?_
  have hR := h.inv.i0.R16
  have es := h.sol t r ht (by omega)
  refine .inl ⟨rfl, rfl, ?_, h⟩
  show (if hs (S 19 t) (nI r) = true then S 21 (t * 16 + r) else -1) = M 6 (16 * t + r)
  rw [hs_B (by omega)]
  by_cases c : B (S 19 t) r = true
  · rw [if_pos c]; exact es.2 c
  · rw [if_neg c]
    apply Classical.byContradiction
    intro q
    exact c ((r_so h ht (by omega)).mpr (fun z => q z.symm))
theorem sim_free {S M : Mem} (h : Rel S M) (x : Int32) : Sim [xI] S (oFree S x) (mFree M x) := by
  unfold mFree
  rw [h.R]
  refine sim_1 (f := fun r => (none, bI (hs (p_free S 18 (cT S)) (nI r)), S)) h rfl h.inv.i0.R16 fun r hr => ?_
  have hR := h.inv.i0.R16
  refine .inl ⟨rfl, rfl, ?_, h⟩
  show bI (hs (p_free S 18 (cT S)) (nI r)) = bI (m_free M r)
  rw [hs_B (by omega), r_free h (by omega)]
theorem sim_like {S M : Mem} (h : Rel S M) (x y : Int32) : Sim [xI] S (oLike S x y) (mLike M x y) := by
  unfold oLike mLike
  rw [h.T]
  refine sim_oTT h rfl fun t o ht ho => ?_
  have hT := h.inv.i0.T8
  exact .inl ⟨rfl, rfl, r_like h (by omega) (by omega), h⟩
theorem sim_linked {S M : Mem} (h : Rel S M) (x y : Int32) : Sim [xI] S (oLinked S x y) (mLinked M x y) := by
  unfold oLinked mLinked
  rw [h.T]
  refine sim_oTT h rfl fun t o ht ho => ?_
  have hT := h.inv.i0.T8
  exact .inl ⟨rfl, rfl, congrArg bI (r_links h (by omega) (by omega)), h⟩
theorem hb1_B {x : Int32} {i : Nat} (hi : i < 32) : hb1 x (nI i) = B x i := b1_B hi
theorem sim_cheat {S M : Mem} (h : Rel S M) (x y : Int32) : Sim [xI] S (oCheat S x y) (mCheat M x y) := by
  unfold oCheat mCheat
  rw [h.T, h.R]
  refine sim_o2 h rfl fun t r ht hr => ?_
  have hR := h.inv.i0.R16
  refine .inl ⟨rfl, rfl, congrArg bI ?_, h⟩
  rw [r_cheat h ht, hs_B (by omega), hb1_B (by omega)]
theorem sim_void {S M : Mem} (h : Rel S M) (x y : Int32) : Sim [xI] S (oVoid S x y) (mVoid M x y) := by
  unfold oVoid mVoid
  rw [h.T, h.R]
  refine sim_o2 h rfl fun t r ht hr => ?_
  have hR := h.inv.i0.R16
  refine .inl ⟨rfl, rfl, congrArg bI ?_, h⟩
  rw [r_void h ht, hs_B (by omega), hb1_B (by omega)]
theorem sim_hang {S M : Mem} (h : Rel S M) (x : Int32) : Sim [xI] S (oHang S x) (mHang M x) := by
  unfold mHang
  rw [h.R]
  refine sim_1 (f := fun r => (none, p_hang S r, S)) h rfl h.inv.i0.R16 fun r hr => ?_
  exact .inl ⟨rfl, rfl, r_hang h hr, h⟩
theorem sim_score {S M : Mem} (h : Rel S M) (x : Int32) : Sim [xI] S (oScore S x) (mScore M x) := by
  unfold mScore
  rw [h.T]
  refine sim_1 (f := fun t => (none, p_sumUp S 18 t (p_count S 18 t), S)) h rfl (T16 h.inv) fun t ht => ?_
  exact .inl ⟨rfl, rfl, r_score h ht, h⟩
theorem sim_place {S M : Mem} (h : Rel S M) (x : Int32) : Sim [xI] S (oPlace S x) (mPlace M x) := by
  unfold mPlace
  rw [h.T]
  refine sim_1 (f := fun t => (none, nI (1 + p_better (p_rate S (cT S)) t (cT (p_rate S (cT S)))), p_rate S (cT S))) h rfl (T16 h.inv) fun t ht => ?_
  refine .inl ⟨rfl, rfl, ?_, Rel_rate h _⟩
  show nI (1 + p_better (p_rate S (cT S)) t (cT (p_rate S (cT S)))) = nI (1 + m_ahead M t false)
  rw [cT_rate, r_ahead0 h ht]
theorem sim_at {S M : Mem} (h : Rel S M) (x : Int32) : Sim [] S (oAt S x) (mAt M x) := by
  exact .inl ⟨rfl, rfl, r_at h x, Rel_rate h _⟩
theorem sim_prize {S M : Mem} (h : Rel S M) (x : Int32) : Sim [xI, xS] S (oPrize S x) (mPrize M x) := by
  unfold mPrize
  rw [h.T]
  refine sim_1 (f := fun t => if S 0 11 = 0 then (some xS, 0, S) else (none, hPrize (p_rate S (cT S)) t, p_rate S (cT S))) h rfl (T16 h.inv) fun t ht => ?_
  rw [← h.eE]
  by_cases c : S 0 11 = 0
  · rw [if_pos c, if_pos c]; exact .inr ⟨1, xS, rfl, rfl, rfl, h⟩
  · rw [if_neg c, if_neg c]
    refine .inl ⟨rfl, rfl, ?_, Rel_rate h _⟩
    have := r_prize h ht
    rw [h.T] at this
    exact this
/-! writers of one cell -/
theorem sim_pass {S M : Mem} (h : Rel S M) (x : Int32) : Sim [xA, xS] S (oPass S x) (mPass M x) := by
  unfold oPass mPass
  by_cases c : okr x 1 500 = true
  · rw [if_pos c, if_pos c]
    obtain ⟨m, h1, h2, e⟩ := okr_of (a := 1) (b := 500) (by omega) (by omega) c
    obtain ⟨n, hn, en⟩ := h.inv.now
    have q1 : x ≤ 20000 - S 0 10 ↔ m ≤ 20000 - n := by
      rw [e, en, show (20000 : Int32) = nI 20000 from rfl, pk_sub hn]
      exact nI_leI (by omega) (by omega)
    have q2 : M 0 0 + x ≤ 20000 ↔ n + m ≤ 20000 := by
      rw [e, ← h.eW, en, show (20000 : Int32) = nI 20000 from rfl, nI_add]
      exact nI_leI (by omega) (by omega)
    by_cases c2 : n + m ≤ 20000
    · rw [if_pos (q1.mpr (by omega)), if_pos (q2.mpr c2)]
      have ew : S 0 10 + x = M 0 0 + x := by rw [h.eW]
      refine .inl ⟨rfl, rfl, ew, ?_⟩
      have hi := h.inv
      have hI : Inv (st S 0 10 (S 0 10 + x)) := ⟨⟨I0_0 (by decide) hi.i0, ⟨n + m, c2, by rw [st_at, en, e, nI_add]⟩, hi.need, hi.log, hi.bo, hi.tou⟩, ⟨hi.sol, hi.soon⟩, ⟨hi.like, hi.comm⟩, iRep_same hi ⟨⟨rfl, rfl, rfl⟩, ⟨rfl, rfl, rfl, rfl⟩, ⟨rfl, rfl, rfl⟩, rfl⟩, hi.pay⟩
      exact ⟨hI, ⟨⟨h.2.1.1.1, ew, h.eE, h.eB⟩, h.2.1.2⟩, h.2.2⟩
    · rw [if_neg (fun z => c2 (by have := q1.mp z; omega)), if_neg (fun z => c2 (q2.mp z))]
      exact .inr ⟨1, xS, rfl, rfl, rfl, h⟩
  · rw [if_neg c, if_neg c]; exact .inr ⟨0, xA, rfl, rfl, rfl, h⟩
theorem sim_end {S M : Mem} (h : Rel S M) : Sim [xS] S (oEnd S) (mEnd M) := by
  unfold oEnd mEnd
  rw [← h.eE]
  by_cases c : S 0 11 = 0
  · rw [if_pos c, if_pos c]
    have hi := h.inv
    have hI : Inv (st S 0 11 1) := ⟨⟨I0_0 (by decide) hi.i0, hi.now, hi.need, hi.log, hi.bo, hi.tou⟩, ⟨hi.sol, hi.soon⟩, ⟨hi.like, hi.comm⟩, iRep_same hi ⟨⟨rfl, rfl, rfl⟩, ⟨rfl, rfl, rfl, rfl⟩, ⟨rfl, rfl, rfl⟩, rfl⟩, hi.pay⟩
    have hR : Rel (st S 0 11 1) (st M 0 1 1) := ⟨hI, ⟨⟨h.2.1.1.1, h.eW, rfl, h.eB⟩, h.2.1.2⟩, h.2.2⟩
    exact .inl ⟨rfl, rfl, r_ends hR, hR⟩
  · rw [if_neg c, if_neg c]; exact .inr ⟨0, xS, rfl, rfl, rfl, h⟩
theorem sim_bound {S M : Mem} (h : Rel S M) (x : Int32) : Sim [xA] S (oBound S x) (mBound M x) := by
  unfold oBound mBound
  by_cases c : okr x 1 20 = true
  · rw [if_pos c, if_pos c]
    have hi := h.inv
    have hI : Inv (st S 15 2 x) := ⟨⟨I0_2 (by omega) hi.i0, hi.now, hi.need, hi.log, hi.bo, hi.tou⟩, ⟨hi.sol, hi.soon⟩, ⟨hi.like, hi.comm⟩, iRep_same hi ⟨⟨rfl, rfl, rfl⟩, ⟨rfl, rfl, rfl, rfl⟩, ⟨rfl, rfl, rfl⟩, rfl⟩, hi.pay⟩
    exact .inl ⟨rfl, rfl, h.eB, hI, ⟨⟨h.2.1.1.1, h.eW, h.eE, rfl⟩, h.2.1.2⟩, h.2.2⟩
  · rw [if_neg c, if_neg c]; exact .inr ⟨0, xA, rfl, rfl, rfl, h⟩
theorem sim_setP {S M : Mem} (h : Rel S M) (x y : Int32) : Sim [xA] S (oSetP S x y) (mSetP M x y) := by
  unfold oSetP mSetP
  by_cases c : okr x 1 8 = true
  · rw [if_pos c, if_pos c]
    by_cases c2 : okr y 0 1000 = true
    · rw [if_pos c2, if_pos c2]
      have hi := h.inv
      have hI : Inv (st S 34 (iN (x - 1)) y) := ⟨⟨I0_2 (by omega) hi.i0, hi.now, hi.need, hi.log, hi.bo, hi.tou⟩, ⟨hi.sol, hi.soon⟩, ⟨hi.like, hi.comm⟩, iRep_same hi ⟨⟨rfl, rfl, rfl⟩, ⟨rfl, rfl, rfl, rfl⟩, ⟨rfl, rfl, rfl⟩, rfl⟩, hi.pay⟩
      have e : st S 34 (iN (x - 1)) y 34 = st M 15 (iN (x - 1)) y 15 := by rw [st_same, st_same, h.e34]
      exact .inl ⟨rfl, rfl, by rw [h.e34], hI, ⟨h.2.1.1, h.2.1.2.1, h.2.1.2.2.1, h.e13, h.e22, e⟩, h.2.2⟩
    · rw [if_neg c2, if_neg c2]; exact .inr ⟨0, xA, rfl, rfl, rfl, h⟩
  · rw [if_neg c, if_neg c]; exact .inr ⟨0, xA, rfl, rfl, rfl, h⟩
theorem rBit_set {a m : Fn} (h : rBit a m) {t r : Nat} {v : Int32} (ht : t < 8) (hr : r < 16) (hv : ¬ v = 0) : rBit (upd a t (a t ||| bt (nI r))) (upd m (16 * t + r) v) := by
  intro t' r' ht' hr'
  by_cases e1 : t' = t
  · subst e1
    rw [pk_us, B_or1 (by omega), h t' r' ht' hr']
    by_cases e2 : r' = r
    · subst e2; rw [pk_us, decide_eq_false hv, decide_eq_true rfl, Bool.or_true]; rfl
    · rw [pk_un (by omega), decide_eq_false e2, Bool.or_false]
  · rw [pk_un e1, h t' r' ht' hr', pk_un (by omega)]
theorem sim_clear {S M : Mem} (h : Rel S M) (x y : Int32) : Sim [xI, xS] S (oClear S x y) (mClear M x y) := by
  unfold oClear mClear
  rw [h.T, h.R]
  refine sim_o2 h rfl fun t r ht hr => ?_
  have hT := h.inv.i0.T8
  have hR := h.inv.i0.R16
  rw [hs_B (by omega), hs_B (by omega), h.ts t r (by omega) (by omega), h.cl t r (by omega) (by omega)]
  by_cases c1 : M 7 (16 * t + r) = 0
  · rw [if_pos c1, decide_eq_true c1, if_neg (by decide)]; exact .inr ⟨1, xS, rfl, rfl, rfl, h⟩
  · rw [if_neg c1, decide_eq_false c1, if_pos (by decide)]
    by_cases c2 : M 8 (16 * t + r) = 0
    · rw [if_pos c2, decide_eq_true c2, if_neg (by decide)]
      have hi := h.inv
      have hI : Inv (clrM S t r) := ⟨⟨I0_2 (by omega) hi.i0, hi.now, hi.need, hi.log, hi.bo, hi.tou⟩, ⟨hi.sol, hi.soon⟩, ⟨hi.like, hi.comm⟩, iRep_same hi ⟨⟨rfl, rfl, rfl⟩, ⟨rfl, rfl, rfl, rfl⟩, ⟨rfl, rfl, rfl⟩, rfl⟩, hi.pay⟩
      have hcl : rBit (clrM S t r 16) (mclrM M t r 8) := rBit_set h.cl (by omega) (by omega) (by decide)
      have hRl : Rel (clrM S t r) (mclrM M t r) := ⟨hI, h.2.1, h.sol, h.ts, hcl, h.par⟩
      refine .inl ⟨rfl, rfl, congrArg bI ?_, hRl⟩
      rw [hs_B (by omega), r_free hRl (by omega)]
    · rw [if_neg c2, decide_eq_false c2, if_pos (by decide)]; exact .inr ⟨1, xS, rfl, rfl, rfl, h⟩
theorem B_xbt {x : Int32} {j : Nat} (hj : j < 32) (i : Nat) : B (x ^^^ bt (nI j)) i = (B x i ^^ decide (i = j)) := by rw [B_xor, B_btA hj]
theorem rPar_set {a m : Fn} (h : rPar a m) {t o : Nat} (ht : t < 8) (ho : o < 8) (hne : ¬ t = o) {x : Int32} (hx : decide (x = 0) = !(decide (m (8 * t + o) = 0))) : rPar (upd (upd a t (a t ^^^ bt (nI o))) o (a o ^^^ bt (nI t))) (upd (upd m (8 * t + o) x) (8 * o + t) x) := by
  have key : ∀ i j, i < 8 → j < 8 → upd (upd m (8 * t + o) x) (8 * o + t) x (8 * i + j) = if (i = t ∧ j = o) ∨ (i = o ∧ j = t) then x else m (8 * i + j) := by
    intro i j hi hj
    by_cases c1 : i = o ∧ j = t
    · rw [c1.1, c1.2, pk_us, if_pos (.inr ⟨rfl, rfl⟩)]
    · rw [pk_un (by omega)]
      by_cases c2 : i = t ∧ j = o
      · rw [c2.1, c2.2, pk_us, if_pos (.inl ⟨rfl, rfl⟩)]
      · rw [pk_un (by omega), if_neg (fun z => z.elim c2 c1)]
  intro i j hi hj
  have hij := h i j hi hj
  have hto := h t o ht ho
  have hot := h o t ho ht
  rw [key i j hi hj, key j i hj hi]
  constructor
  · by_cases e1 : i = o
    · subst e1
      rw [pk_us, B_xbt (by omega), hij.1]
      by_cases e2 : j = t
      · subst e2
        rw [if_pos (.inr ⟨rfl, rfl⟩), decide_eq_true rfl, hx, ← hto.2]
        cases decide (m (8 * j + i) = 0) <;> rfl
      · rw [if_neg (fun z => z.elim (fun y => hne y.1.symm) (fun y => e2 y.2)), decide_eq_false e2, Bool.xor_false]
    · rw [pk_un e1]
      by_cases e3 : i = t
      · subst e3
        rw [pk_us, B_xbt (by omega), hij.1]
        by_cases e2 : j = o
        · subst e2
          rw [if_pos (.inl ⟨rfl, rfl⟩), decide_eq_true rfl, hx]
          cases decide (m (8 * i + j) = 0) <;> rfl
        · rw [if_neg (fun z => z.elim (fun y => e2 y.2) (fun y => e1 y.1)), decide_eq_false e2, Bool.xor_false]
      · rw [pk_un e3, if_neg (fun z => z.elim (fun y => e3 y.1) (fun y => e1 y.1)), hij.1]
  · by_cases c1 : (i = t ∧ j = o) ∨ (i = o ∧ j = t)
    · rw [if_pos c1, if_pos (c1.elim (fun y => .inr ⟨y.2, y.1⟩) (fun y => .inl ⟨y.2, y.1⟩))]
    · rw [if_neg c1, if_neg (fun z => c1 (z.elim (fun y => .inr ⟨y.2, y.1⟩) (fun y => .inl ⟨y.2, y.1⟩))), hij.2]
theorem sim_pardon {S M : Mem} (h : Rel S M) (x y : Int32) : Sim [xI, xA] S (oPardon S x y) (mPardon M x y) := by
  unfold oPardon mPardon
  rw [h.T]
  refine sim_oTT h rfl fun t o ht ho => ?_
  have hT := h.inv.i0.T8
  by_cases c : t = o
  · rw [if_pos c, if_pos c]; exact .inr ⟨1, xA, rfl, rfl, rfl, h⟩
  · rw [if_neg c, if_neg c]
    have hi := h.inv
    have hI : Inv (p_swi S t o) := ⟨⟨I0_2 (by omega) (I0_2 (by omega) hi.i0), hi.now, hi.need, hi.log, hi.bo, hi.tou⟩, ⟨hi.sol, hi.soon⟩, ⟨hi.like, hi.comm⟩, iRep_same hi ⟨⟨rfl, rfl, rfl⟩, ⟨rfl, rfl, rfl, rfl⟩, ⟨rfl, rfl, rfl⟩, rfl⟩, hi.pay⟩
    have e17 : p_swi S t o 17 = upd (upd (S 17) t (S 17 t ^^^ bt (nI o))) o (S 17 o ^^^ bt (nI t)) := by
      show st (st S 17 t (S 17 t ^^^ bt (nI o))) 17 o (st S 17 t (S 17 t ^^^ bt (nI o)) 17 o ^^^ bt (nI t)) 17 = _
      rw [st_same, st_same, pk_un (fun z => c z.symm)]
    have hp := h.par t o (by omega) (by omega)
    have ea : hs (p_swi S t o 17 t) (nI o) = decide (M 14 (8 * t + o) = 0) := by
      rw [e17, pk_un c, pk_us, hs_B (by omega), B_xbt (by omega), hp.1, decide_eq_true rfl]
      cases decide (M 14 (8 * t + o) = 0) <;> rfl
    have hset : ∀ v : Int32, decide (v = 0) = !(decide (M 14 (8 * t + o) = 0)) → Rel (p_swi S t o) (mpard M t o v) := fun v hv => by
      refine ⟨hI, h.2.1, h.sol, h.ts, h.cl, ?_⟩
      rw [e17]
      exact rPar_set h.par (by omega) (by omega) c hv
    by_cases c2 : M 14 (8 * t + o) = 0
    · rw [if_pos c2]
      refine .inl ⟨rfl, rfl, ?_, hset 1 (by rw [decide_eq_true c2]; rfl)⟩
      show bI (hs (p_swi S t o 17 t) (nI o)) = 1
      rw [ea, decide_eq_true c2]; rfl
    · rw [if_neg c2]
      refine .inl ⟨rfl, rfl, ?_, hset 0 (by rw [decide_eq_false c2]; rfl)⟩
      show bI (hs (p_swi S t o 17 t) (nI o)) = 0
      rw [ea, decide_eq_false c2]; rfl
end
