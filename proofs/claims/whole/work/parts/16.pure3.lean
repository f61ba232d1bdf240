/-! the model's methods as functions of its memory (without the field thrown, which stands beside it) -/
def mT (M : Mem) : Nat := iN (M 0 8)
def mR (M : Mem) : Nat := iN (M 0 2)
def mN (M : Mem) : Nat := iN (M 0 14)
def mg (M : Mem) (k : Nat) : Nat := iN (M 11 k)
def mq (M : Mem) (k : Nat) : Nat := iN (M 12 k)
def J0 (M : Mem) : Prop := (M 0 8 = nI (mT M) ∧ mT M ≤ 8) ∧ (M 0 2 = nI (mR M) ∧ mR M ≤ 16) ∧ (M 0 14 = nI (mN M) ∧ mN M ≤ 200) ∧ ∀ k, k < mN M → (M 11 k = nI (mg M k) ∧ mg M k < 8) ∧ M 12 k = nI (mq M k) ∧ mq M k < 16
theorem J0.T {M : Mem} (h : J0 M) : M 0 8 = nI (mT M) := h.1.1
theorem J0.R {M : Mem} (h : J0 M) : M 0 2 = nI (mR M) := h.2.1.1
theorem J0.N {M : Mem} (h : J0 M) : M 0 14 = nI (mN M) := h.2.2.1.1
theorem J0.T8 {M : Mem} (h : J0 M) : mT M ≤ 8 := h.1.2
theorem J0.R16 {M : Mem} (h : J0 M) : mR M ≤ 16 := h.2.1.2
theorem J0.N200 {M : Mem} (h : J0 M) : mN M ≤ 200 := h.2.2.1.2
theorem J0.q {M : Mem} (h : J0 M) {k : Nat} (hk : k < mN M) : M 12 k = nI (mq M k) := (h.2.2.2 k hk).2.1
theorem J0.q16 {M : Mem} (h : J0 M) {k : Nat} (hk : k < mN M) : mq M k < 16 := (h.2.2.2 k hk).2.2
theorem okr_okn {x : Int32} {n : Nat} (hn : n < 2 ^ 30) : okr x 0 (nI n - 1) = okn x n := by
  have h1 : (nI n - 1).toInt = (n : Int) - 1 := pk_sub_toInt (a := n) (b := 1) hn (by decide)
  unfold okr okn
  rw [← Bool.decide_and]
  congr 1
  rw [Int32.lt_iff_toInt_lt, Int32.le_iff_toInt_le, h1, Int32.toInt_zero]
  apply propext; omega
def m_need (M : Mem) (r o : Nat) : Bool := decide ((M 5 r >>> (nI o &&& 31)) &&& 1 = 1)
def m_bits (set : Int32) : Nat → Int32
  | 0 => 0
  | k + 1 => m_bits set k + ((set >>> (nI k &&& 31)) &&& 1)
def m_tA (M : Mem) (r : Nat) : Nat → Bool
  | 0 => false
  | k + 1 => m_tA M r k || decide (M 12 k = nI r)
def m_tB (M : Mem) (r : Nat) : Nat → Bool
  | 0 => m_tA M r (mN M)
  | t + 1 => m_tB M r t || decide (0 < M 9 (16 * t + r))
def m_touch (M : Mem) (r : Nat) : Bool := m_tB M r (mT M)
def m_fre (M : Mem) (r : Nat) : Nat → Bool
  | 0 => false
  | t + 1 => m_fre M r t || (decide (¬ M 7 (16 * t + r) = 0) && decide (M 8 (16 * t + r) = 0))
def m_free (M : Mem) (r : Nat) : Bool := m_fre M r (mT M)
def m_ends (M : Mem) : Nat → Int32
  | 0 => 0
  | r + 1 => m_ends M r + (if m_free M r = true then 1 else 0)
def m_opn (M : Mem) (t r : Nat) : Nat → Int32
  | 0 => 0
  | o + 1 => if m_need M r o = true ∧ (¬ m_opn M t r o = -1) ∧ (M 6 (16 * t + o) = -1 ∨ m_opn M t r o < M 6 (16 * t + o)) then M 6 (16 * t + o) else m_opn M t r o
def m_opened (M : Mem) (t r : Nat) : Int32 := m_opn M t r r
def m_wrong (M : Mem) (x y : Int32) : Int32 := if okn x (mT M) = true ∧ okn y (mR M) = true then 0 else 1
theorem m_wrong_ok {M : Mem} {x y : Int32} (h : decide (m_wrong M x y = 0) = true) : okn x (mT M) = true ∧ okn y (mR M) = true := by
  unfold m_wrong at h
  by_cases q : okn x (mT M) = true ∧ okn y (mR M) = true
  · exact q
  · rw [if_neg q] at h; exact absurd h (by decide)
def m_done (M : Mem) (t r : Nat) : Bool := decide (¬ M 0 1 = 0) || (decide (m_opened M t r = -1) || decide (¬ M 6 (16 * t + r) = -1))
def m_pr (M : Mem) (t r : Nat) : Nat → Int32
  | 0 => M 4 r - (M 0 0 - m_opened M t r) / 10
  | o + 1 => m_pr M t r o - (if M 9 (16 * t + r) < M 9 (16 * o + r) then 1 else 0)
def m_price (M : Mem) (t r : Nat) : Int32 := if 1 < m_pr M t r (mT M) then m_pr M t r (mT M) else 1
def m_gave (M : Mem) (x r w : Int32) : Nat → Bool
  | 0 => false
  | k + 1 => m_gave M x r w k || (decide (M 11 k = x) && (decide (M 12 k = r) && decide (M 13 k = w)))
def m_first (M : Mem) (k : Nat) : Bool := decide (¬ M 13 k = M 2 (mq M k)) && !(m_gave M (M 11 k) (M 12 k) (M 13 k) k)
def m_comm (M : Mem) (k o : Nat) : Bool := m_first M k && m_gave M (nI o) (M 12 k) (M 13 k) (mN M)
def m_lk (M : Mem) (t o : Nat) : Nat → Int32
  | 0 => 0
  | k + 1 => m_lk M t o k + (if M 11 k = nI t ∧ m_comm M k o = true then 1 else 0)
def m_like (M : Mem) (t o : Nat) : Int32 := if t = o then 0 else m_lk M t o (mN M)
theorem m_like_a {M : Mem} {t o i : Nat} (h : 0 < i → ¬ t = o) (c : t = o) : m_lk M t o i = m_like M t o := by
  have hi : i = 0 := by
    rcases Nat.eq_zero_or_pos i with z | z
    · exact z
    · exact absurd c (h z)
  rw [hi, m_like, if_pos c]; rfl
theorem m_like_b {M : Mem} {t o : Nat} (h : 0 < mN M → ¬ t = o) : m_lk M t o (mN M) = m_like M t o := by
  by_cases c : t = o
  · exact m_like_a h c
  · rw [m_like, if_neg c]
def m_are (M : Mem) (t o : Nat) : Bool := decide (¬ t = o) && (decide (M 14 (8 * t + o) = 0) && decide (¬ m_like M t o < M 0 19))
def m_ch2 (M : Mem) (t o : Nat) (s : Int32) : Nat → Int32
  | 0 => s
  | k + 1 => m_ch2 M t o s k ||| (if M 11 k = nI t ∧ m_comm M k o = true then bt (M 12 k) else 0)
def m_ch (M : Mem) (t : Nat) : Nat → Int32
  | 0 => 0
  | o + 1 => if m_are M t o = true then m_ch2 M t o (m_ch M t o) (mN M) else m_ch M t o
theorem m_ch_e2 {M : Mem} {t i j : Nat} (h : 0 < j → m_are M t i = true) (c : m_are M t i = false) : m_ch M t (i + 1) = m_ch2 M t i (m_ch M t i) j := by
  have hj : j = 0 := by
    rcases Nat.eq_zero_or_pos j with z | z
    · exact z
    · rw [h z] at c; cases c
  rw [hj, m_ch, c]; rfl
theorem m_ch_e1 {M : Mem} {t i : Nat} (h : 0 < mN M → m_are M t i = true) : m_ch M t (i + 1) = m_ch2 M t i (m_ch M t i) (mN M) := by
  by_cases c : m_are M t i = true
  · rw [m_ch, if_pos c]
  · exact m_ch_e2 h (eq_false_of_ne_true c)
def m_cheat (M : Mem) (t : Nat) : Int32 := m_ch M t (mT M)
def m_vd (M : Mem) (t : Nat) (ch : Int32) : Nat → Int32
  | 0 => 0
  | r + 1 => m_vd M t ch r ||| (if ((ch >>> (nI r &&& 31)) &&& 1 = 1 ∨ ¬ M 5 r &&& m_vd M t ch r = 0) ∧ ¬ M 6 (16 * t + r) = -1 then bt (nI r) else 0)
def m_void (M : Mem) (t : Nat) : Int32 := m_vd M t (m_cheat M t) (mR M)
def m_hg (M : Mem) (r : Nat) : Nat → Int32
  | 0 => 0
  | j + 1 => m_hg M r j ||| (if M 5 (r + 1 + j) &&& (m_hg M r j ||| bt (nI r)) = 0 then 0 else bt (nI (r + 1 + j)))
def m_hang (M : Mem) (r : Nat) : Int32 := m_hg M r (mR M - (r + 1))
def m_cn (M : Mem) (t : Nat) (vo : Int32) : Nat → Int32
  | 0 => 0
  | r + 1 => m_cn M t vo r ||| (if (¬ M 6 (16 * t + r) = -1) ∧ (vo >>> (nI r &&& 31)) &&& 1 = 0 ∧ m_free M r = false then bt (nI r) else 0)
def m_cnt (M : Mem) (t : Nat) : Int32 := m_cn M t (m_void M t) (mR M)
def m_sc (M : Mem) (t : Nat) (cn : Int32) : Nat → Int32
  | 0 => 0
  | r + 1 => (m_sc M t cn r + (if (cn >>> (nI r &&& 31)) &&& 1 = 1 then M 1 r else 0)) - (if m_free M r = true then 0 else M 10 (16 * t + r))
def m_score (M : Mem) (t : Nat) : Int32 := m_sc M t (m_cnt M t) (mR M)
def m_la (M : Mem) (t : Nat) (cn : Int32) : Nat → Int32
  | 0 => 0
  | r + 1 => if (cn >>> (nI r &&& 31)) &&& 1 = 1 ∧ m_la M t cn r < M 6 (16 * t + r) then M 6 (16 * t + r) else m_la M t cn r
def m_last (M : Mem) (t : Nat) : Int32 := m_la M t (m_cnt M t) (mR M)
def m_ah (M : Mem) (t : Nat) (bn : Bool) : Nat → Nat
  | 0 => 0
  | o + 1 => m_ah M t bn o + (if m_score M t < m_score M o ∨ (m_score M o = m_score M t ∧ (m_last M o < m_last M t ∨ (m_last M o = m_last M t ∧ bn = true ∧ o < t))) then 1 else 0)
def m_ahead (M : Mem) (t : Nat) (bn : Bool) : Nat := m_ah M t bn (mT M)
def m_tat (M : Mem) (x : Int32) : Nat → Int32
  | 0 => -1
  | t + 1 => if nI (m_ahead M t true) = x then nI t else m_tat M x t
def m_pm (M : Mem) (f : Nat) : Nat → Nat
  | 0 => 0
  | o + 1 => if m_ahead M o false = f then m_pm M f o + 1 else m_pm M f o
def m_ps (M : Mem) (f : Nat) : Nat → Int32
  | 0 => 0
  | o + 1 => if m_ahead M o false = f then m_ps M f o + M 15 (f + m_pm M f o) else m_ps M f o
theorem m_ah_le (M : Mem) (t : Nat) (bn : Bool) : ∀ n, m_ah M t bn n ≤ n
  | 0 => Nat.le_refl 0
  | n + 1 => by unfold m_ah; have := m_ah_le M t bn n; split <;> omega
theorem m_pm_le (M : Mem) (f : Nat) : ∀ n, m_pm M f n ≤ n
  | 0 => Nat.le_refl 0
  | n + 1 => by unfold m_pm; have := m_pm_le M f n; split <;> omega
/-! the model's public methods: the answer, thrown, the memory afterwards -/
abbrev MO : Type := Int32 × Int32 × Mem
def mPass (M : Mem) (x : Int32) : MO := if okr x 1 500 = true then (if M 0 0 + x ≤ 20000 then (M 0 0 + x, 0, st M 0 0 (M 0 0 + x)) else (0, 2, M)) else (0, 1, M)
def mNow (M : Mem) : MO := (M 0 0, 0, M)
def addRM (M : Mem) (a b c d : Int32) : Mem := st (st (st (st (st M 1 (mR M) a) 2 (mR M) b) 3 (mR M) c) 4 (mR M) d) 0 2 (nI (mR M + 1))
def mAddR (M : Mem) (a b c d : Int32) : MO := if okr a 1 50 = true then (if okr b 0 9999 = true then (if okr c 0 100 = true then (if okr d 1 40 = true then (if mR M = 16 then (0, 2, M) else (if M 0 1 = 0 then (nI (mR M + 1) - 1, 0, addRM M a b c d) else (0, 2, M))) else (0, 1, M)) else (0, 1, M)) else (0, 1, M)) else (0, 1, M)
def mneedM (M : Mem) (r o : Nat) : Mem := st M 5 r (M 5 r ||| bt (nI o))
def hmNeed (M : Mem) (r o : Nat) : MO := if o < r then (if M 0 1 = 0 then (if m_need M r o = true then (0, 3, M) else (if m_touch M r = true then (0, 3, M) else (m_bits (mneedM M r o 5 r) 16, 0, mneedM M r o))) else (0, 3, M)) else (0, 2, M)
def mm2 (M : Mem) (x y : Int32) (nx ny : Nat) (f : Nat → Nat → MO) : MO := if okn x nx = true then (if okn y ny = true then f (iN x) (iN y) else (0, 1, M)) else (0, 1, M)
def mm1 (M : Mem) (x : Int32) (nx : Nat) (f : Nat → MO) : MO := if okn x nx = true then f (iN x) else (0, 1, M)
def mNeed (M : Mem) (x y : Int32) : MO := mm2 M x y (mR M) (mR M) (hmNeed M)
def m_none (M : Mem) (t : Nat) : Nat → Mem
  | 0 => M
  | r + 1 => st (m_none M t r) 6 (16 * t + r) (-1)
def addTM (M : Mem) : Mem := st (m_none M (mT M) 16) 0 8 (nI (mT M + 1))
def mAddT (M : Mem) : MO := if mT M = 8 then (0, 1, M) else (if M 0 1 = 0 then (nI (mT M + 1) - 1, 0, addTM M) else (0, 1, M))
def mEnd (M : Mem) : MO := if M 0 1 = 0 then (m_ends (st M 0 1 1) (mR (st M 0 1 1)), 0, st M 0 1 1) else (0, 1, M)
def mapp (M : Mem) (t r : Nat) (w : Int32) : Mem := st (st (st (st M 11 (mN M) (nI t)) 12 (mN M) (nI r)) 13 (mN M) w) 0 14 (nI (mN M + 1))
def msol (M : Mem) (t r : Nat) (soon : Int32) : Mem := st (st M 7 (16 * t + r) soon) 6 (16 * t + r) (M 0 0)
def hmAns (M : Mem) (t r : Nat) (w : Int32) : MO := if m_done M t r = true then (0, 3, M) else (if mN M = 200 then (0, 3, M) else (if w = M 2 r then (if M 3 r ≤ M 0 0 - m_opened (mapp M t r w) t r then (1, 0, msol (mapp M t r w) t r 0) else (1, 0, msol (mapp M t r w) t r 1)) else (0, 0, mapp M t r w)))
def mAns (M : Mem) (x y w : Int32) : MO := mm2 M x y (mT M) (mR M) fun t r => if okr w 0 9999 = true then hmAns M t r w else (0, 2, M)
def mhintM (M : Mem) (t r : Nat) (p : Int32) : Mem := st (st M 9 (16 * t + r) (M 9 (16 * t + r) + 1)) 10 (16 * t + r) (M 10 (16 * t + r) + p)
def mHint (M : Mem) (x y : Int32) : MO := mm2 M x y (mT M) (mR M) fun t r => if m_done M t r = true then (0, 2, M) else (if M 9 (16 * t + r) = 3 then (0, 2, M) else (m_price M t r, 0, mhintM M t r (m_price M t r)))
def mPrice (M : Mem) (x y : Int32) : MO := mm2 M x y (mT M) (mR M) fun t r => if m_opened M t r = -1 then (0, 2, M) else (if M 9 (16 * t + r) = 3 then (0, 2, M) else (m_price M t r, 0, M))
def mOpened (M : Mem) (x y : Int32) : MO := mm2 M x y (mT M) (mR M) fun t r => (m_opened M t r, 0, M)
def mSolved (M : Mem) (x y : Int32) : MO := mm2 M x y (mT M) (mR M) fun t r => (M 6 (16 * t + r), 0, M)
def mclrM (M : Mem) (t r : Nat) : Mem := st M 8 (16 * t + r) 1
def mClear (M : Mem) (x y : Int32) : MO := mm2 M x y (mT M) (mR M) fun t r => if M 7 (16 * t + r) = 0 then (0, 2, M) else (if M 8 (16 * t + r) = 0 then (bI (m_free (mclrM M t r) r), 0, mclrM M t r) else (0, 2, M))
def mpard (M : Mem) (t o : Nat) (x : Int32) : Mem := st (st M 14 (8 * t + o) x) 14 (8 * o + t) x
def mPardon (M : Mem) (x y : Int32) : MO := mm2 M x y (mT M) (mT M) fun t o => if t = o then (0, 2, M) else (if M 14 (8 * t + o) = 0 then (1, 0, mpard M t o 1) else (0, 0, mpard M t o 0))
def mBound (M : Mem) (x : Int32) : MO := if okr x 1 20 = true then (M 0 19, 0, st M 0 19 x) else (0, 1, M)
def mFree (M : Mem) (x : Int32) : MO := mm1 M x (mR M) fun r => (bI (m_free M r), 0, M)
def mLike (M : Mem) (x y : Int32) : MO := mm2 M x y (mT M) (mT M) fun t o => (m_like M t o, 0, M)
def mLinked (M : Mem) (x y : Int32) : MO := mm2 M x y (mT M) (mT M) fun t o => (bI (m_are M t o), 0, M)
def hb1 (x y : Int32) : Bool := decide ((x >>> (y &&& 31)) &&& 1 = 1)
def mCheat (M : Mem) (x y : Int32) : MO := mm2 M x y (mT M) (mR M) fun t r => (bI (hb1 (m_cheat M t) (nI r)), 0, M)
def mVoid (M : Mem) (x y : Int32) : MO := mm2 M x y (mT M) (mR M) fun t r => (bI (hb1 (m_void M t) (nI r)), 0, M)
def mHang (M : Mem) (x : Int32) : MO := mm1 M x (mR M) fun r => (m_hang M r, 0, M)
def mScore (M : Mem) (x : Int32) : MO := mm1 M x (mT M) fun t => (m_score M t, 0, M)
def mPlace (M : Mem) (x : Int32) : MO := mm1 M x (mT M) fun t => (nI (1 + m_ahead M t false), 0, M)
def mAt (M : Mem) (x : Int32) : MO := (m_tat M x (mT M), 0, M)
def mSetP (M : Mem) (x y : Int32) : MO := if okr x 1 8 = true then (if okr y 0 1000 = true then (M 15 (iN (x - 1)), 0, st M 15 (iN (x - 1)) y) else (0, 1, M)) else (0, 1, M)
def mPrize (M : Mem) (x : Int32) : MO := mm1 M x (mT M) fun t => if M 0 1 = 0 then (0, 2, M) else (m_ps M (m_ahead M t false) (mT M) / nI (m_pm M (m_ahead M t false) (mT M)), 0, M)
theorem J0_0 {M : Mem} {j : Nat} {x : Int32} (h : j ≠ 8 ∧ j ≠ 2 ∧ j ≠ 14) (hI : J0 M) : J0 (st M 0 j x) := by
  have e : ∀ k, (k = 8 ∨ k = 2 ∨ k = 14) → st M 0 j x 0 k = M 0 k := fun k hk => st_off (by omega)
  have e8 := e 8 (by omega); have e2 := e 2 (by omega); have e14 := e 14 (by omega)
  have a1 : mT (st M 0 j x) = mT M := by unfold mT; rw [e8]
  have a2 : mR (st M 0 j x) = mR M := by unfold mR; rw [e2]
  have a3 : mN (st M 0 j x) = mN M := by unfold mN; rw [e14]
  refine ⟨?_, ?_, ?_, fun k hk => ?_⟩
  · rw [a1, e8]; exact hI.1
  · rw [a2, e2]; exact hI.2.1
  · rw [a3, e14]; exact hI.2.2.1
  · rw [a3] at hk; exact hI.2.2.2 k hk
theorem J0_2 {M : Mem} {c j : Nat} {x : Int32} (h : c ≠ 0 ∧ c ≠ 11 ∧ c ≠ 12) (hI : J0 M) : J0 (st M c j x) := by
  have e0 : st M c j x 0 = M 0 := st_ne (by omega)
  have e11 : st M c j x 11 = M 11 := st_ne (by omega)
  have e12 : st M c j x 12 = M 12 := st_ne (by omega)
  have a1 : mT (st M c j x) = mT M := by unfold mT; rw [e0]
  have a2 : mR (st M c j x) = mR M := by unfold mR; rw [e0]
  have a3 : mN (st M c j x) = mN M := by unfold mN; rw [e0]
  refine ⟨?_, ?_, ?_, fun k hk => ?_⟩
  · rw [a1, e0]; exact hI.1
  · rw [a2, e0]; exact hI.2.1
  · rw [a3, e0]; exact hI.2.2.1
  · have b1 : mg (st M c j x) k = mg M k := by unfold mg; rw [e11]
    have b2 : mq (st M c j x) k = mq M k := by unfold mq; rw [e12]
    rw [b1, b2, e11, e12]; rw [a3] at hk; exact hI.2.2.2 k hk
theorem J0_none {M : Mem} {t : Nat} (hI : J0 M) : ∀ i, J0 (m_none M t i)
  | 0 => hI
  | i + 1 => J0_2 (by omega) (J0_none hI i)
theorem m_none_0 {M : Mem} {t : Nat} : ∀ i, m_none M t i 0 = M 0
  | 0 => rfl
  | i + 1 => by unfold m_none; rw [st_ne (by omega)]; exact m_none_0 i
theorem J0_app {M : Mem} {t r : Nat} {w : Int32} (hI : J0 M) (hn : mN M < 200) (ht : t < 8) (hr : r < 16) : J0 (mapp M t r w) := by
  have z8 : mapp M t r w 0 8 = M 0 8 := rfl
  have z2 : mapp M t r w 0 2 = M 0 2 := rfl
  have z14 : mapp M t r w 0 14 = nI (mN M + 1) := rfl
  have a1 : mT (mapp M t r w) = mT M := by unfold mT; rw [z8]
  have a2 : mR (mapp M t r w) = mR M := by unfold mR; rw [z2]
  have a3 : mN (mapp M t r w) = mN M + 1 := by
    show iN (mapp M t r w 0 14) = _
    rw [z14]; exact iN_nI (by omega)
  have z11 : ∀ k, mapp M t r w 11 k = if k = mN M then nI t else M 11 k := fun k => rfl
  have z12 : ∀ k, mapp M t r w 12 k = if k = mN M then nI r else M 12 k := fun k => rfl
  refine ⟨?_, ?_, ?_, fun k hk => ?_⟩
  · rw [a1, z8]; exact hI.1
  · rw [a2, z2]; exact hI.2.1
  · rw [a3, z14]; exact ⟨rfl, by omega⟩
  · rw [a3] at hk
    have b1 : mg (mapp M t r w) k = iN (if k = mN M then nI t else M 11 k) := rfl
    have b2 : mq (mapp M t r w) k = iN (if k = mN M then nI r else M 12 k) := rfl
    rw [b1, b2, z11, z12]
    by_cases q : k = mN M
    · rw [if_pos q, if_pos q, iN_nI (by omega), iN_nI (by omega)]
      exact ⟨⟨rfl, ht⟩, rfl, hr⟩
    · rw [if_neg q, if_neg q]
      exact hI.2.2.2 k (by omega)
def wQ (am : Nat → Nat) (cI cZ : ClassId) (M : Mem) (th : Int32) : va_W := [(am 0, .inr (6, [.int (M 0 0), .int (M 0 1), .int (M 0 2), .ref (am 1), .ref (am 2), .ref (am 3), .ref (am 4), .ref (am 5), .int (M 0 8), .ref (am 6), .ref (am 7), .ref (am 8), .ref (am 9), .ref (am 10), .int (M 0 14), .ref (am 11), .ref (am 12), .ref (am 13), .ref (am 14), .int (M 0 19), .ref (am 15), .int th])), (am 1, .inl (cI, 16, .inl (M 1))), (am 2, .inl (cI, 16, .inl (M 2))), (am 3, .inl (cI, 16, .inl (M 3))), (am 4, .inl (cI, 16, .inl (M 4))), (am 5, .inl (cI, 16, .inl (M 5))), (am 6, .inl (cI, 128, .inl (M 6))), (am 7, .inl (cZ, 128, .inl (M 7))), (am 8, .inl (cZ, 128, .inl (M 8))), (am 9, .inl (cI, 128, .inl (M 9))), (am 10, .inl (cI, 128, .inl (M 10))), (am 11, .inl (cI, 200, .inl (M 11))), (am 12, .inl (cI, 200, .inl (M 12))), (am 13, .inl (cI, 200, .inl (M 13))), (am 14, .inl (cZ, 64, .inl (M 14))), (am 15, .inl (cI, 8, .inl (M 15)))]
theorem wQ_D {am : Nat → Nat} {cI cZ : ClassId} {M M' : Mem} {th th' : Int32} {A : Nat → Prop} (h : va_D A (wQ am cI cZ M th)) : va_D A (wQ am cI cZ M' th') := q_D (ws := wQ am cI cZ M th) (ws' := wQ am cI cZ M' th') rfl h
theorem wQ_st_1 {am : Nat → Nat} {cI cZ : ClassId} {M : Mem} {th : Int32} {i : Nat} {x : Int32} : (wQ am cI cZ M th).set 1 (am 1, .inl (cI, 16, .inl (upd (M 1) i x))) = wQ am cI cZ (st M 1 i x) th := rfl
theorem wQ_st_2 {am : Nat → Nat} {cI cZ : ClassId} {M : Mem} {th : Int32} {i : Nat} {x : Int32} : (wQ am cI cZ M th).set 2 (am 2, .inl (cI, 16, .inl (upd (M 2) i x))) = wQ am cI cZ (st M 2 i x) th := rfl
theorem wQ_st_3 {am : Nat → Nat} {cI cZ : ClassId} {M : Mem} {th : Int32} {i : Nat} {x : Int32} : (wQ am cI cZ M th).set 3 (am 3, .inl (cI, 16, .inl (upd (M 3) i x))) = wQ am cI cZ (st M 3 i x) th := rfl
theorem wQ_st_4 {am : Nat → Nat} {cI cZ : ClassId} {M : Mem} {th : Int32} {i : Nat} {x : Int32} : (wQ am cI cZ M th).set 4 (am 4, .inl (cI, 16, .inl (upd (M 4) i x))) = wQ am cI cZ (st M 4 i x) th := rfl
theorem wQ_st_5 {am : Nat → Nat} {cI cZ : ClassId} {M : Mem} {th : Int32} {i : Nat} {x : Int32} : (wQ am cI cZ M th).set 5 (am 5, .inl (cI, 16, .inl (upd (M 5) i x))) = wQ am cI cZ (st M 5 i x) th := rfl
theorem wQ_st_6 {am : Nat → Nat} {cI cZ : ClassId} {M : Mem} {th : Int32} {i : Nat} {x : Int32} : (wQ am cI cZ M th).set 6 (am 6, .inl (cI, 128, .inl (upd (M 6) i x))) = wQ am cI cZ (st M 6 i x) th := rfl
theorem wQ_st_7 {am : Nat → Nat} {cI cZ : ClassId} {M : Mem} {th : Int32} {i : Nat} {x : Int32} : (wQ am cI cZ M th).set 7 (am 7, .inl (cZ, 128, .inl (upd (M 7) i x))) = wQ am cI cZ (st M 7 i x) th := rfl
theorem wQ_st_8 {am : Nat → Nat} {cI cZ : ClassId} {M : Mem} {th : Int32} {i : Nat} {x : Int32} : (wQ am cI cZ M th).set 8 (am 8, .inl (cZ, 128, .inl (upd (M 8) i x))) = wQ am cI cZ (st M 8 i x) th := rfl
theorem wQ_st_9 {am : Nat → Nat} {cI cZ : ClassId} {M : Mem} {th : Int32} {i : Nat} {x : Int32} : (wQ am cI cZ M th).set 9 (am 9, .inl (cI, 128, .inl (upd (M 9) i x))) = wQ am cI cZ (st M 9 i x) th := rfl
theorem wQ_st_10 {am : Nat → Nat} {cI cZ : ClassId} {M : Mem} {th : Int32} {i : Nat} {x : Int32} : (wQ am cI cZ M th).set 10 (am 10, .inl (cI, 128, .inl (upd (M 10) i x))) = wQ am cI cZ (st M 10 i x) th := rfl
theorem wQ_st_11 {am : Nat → Nat} {cI cZ : ClassId} {M : Mem} {th : Int32} {i : Nat} {x : Int32} : (wQ am cI cZ M th).set 11 (am 11, .inl (cI, 200, .inl (upd (M 11) i x))) = wQ am cI cZ (st M 11 i x) th := rfl
theorem wQ_st_12 {am : Nat → Nat} {cI cZ : ClassId} {M : Mem} {th : Int32} {i : Nat} {x : Int32} : (wQ am cI cZ M th).set 12 (am 12, .inl (cI, 200, .inl (upd (M 12) i x))) = wQ am cI cZ (st M 12 i x) th := rfl
theorem wQ_st_13 {am : Nat → Nat} {cI cZ : ClassId} {M : Mem} {th : Int32} {i : Nat} {x : Int32} : (wQ am cI cZ M th).set 13 (am 13, .inl (cI, 200, .inl (upd (M 13) i x))) = wQ am cI cZ (st M 13 i x) th := rfl
theorem wQ_st_14 {am : Nat → Nat} {cI cZ : ClassId} {M : Mem} {th : Int32} {i : Nat} {x : Int32} : (wQ am cI cZ M th).set 14 (am 14, .inl (cZ, 64, .inl (upd (M 14) i x))) = wQ am cI cZ (st M 14 i x) th := rfl
theorem wQ_st_15 {am : Nat → Nat} {cI cZ : ClassId} {M : Mem} {th : Int32} {i : Nat} {x : Int32} : (wQ am cI cZ M th).set 15 (am 15, .inl (cI, 8, .inl (upd (M 15) i x))) = wQ am cI cZ (st M 15 i x) th := rfl
