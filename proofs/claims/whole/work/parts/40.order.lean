section
/-! the replay of solutions; what keeps the invariant and the relation; the order of teams -/
theorem solve_1 {S : Mem} {b t r : Nat} {m : Int32} (soon : Bool) : p_solve S b t r m soon (b + 1) = upd (S (b + 1)) t (S (b + 1) t ||| bt (nI r)) := by
  unfold p_solve
  cases soon
  · rw [if_neg (by decide), st_ne (by omega), st_same]
  · rw [if_pos rfl, st_ne (by omega), st_ne (by omega), st_same]
theorem solve_2 {S : Mem} {b t r : Nat} {m : Int32} (soon : Bool) : p_solve S b t r m soon (b + 2) = if soon = true then upd (S (b + 2)) t (S (b + 2) t ||| bt (nI r)) else S (b + 2) := by
  unfold p_solve
  cases soon
  · rw [if_neg (by decide), if_neg (by decide), st_ne (by omega), st_ne (by omega)]
  · rw [if_pos rfl, if_pos rfl, st_same, st_ne (by omega), st_ne (by omega)]
theorem solve_3 {S : Mem} {b t r : Nat} {m : Int32} (soon : Bool) : p_solve S b t r m soon (b + 3) = upd (S (b + 3)) (t * 16 + r) m := by
  unfold p_solve
  cases soon
  · rw [if_neg (by decide), st_same, st_ne (by omega)]
  · rw [if_pos rfl, st_ne (by omega), st_same, st_ne (by omega)]
theorem lsm_eq {X Y : Mem} {b c t : Nat} (h : Eq3 X b Y c) (ht : t < 8) (x : Int32) : ∀ n, n ≤ 16 → p_lsm X b t x n = p_lsm Y c t x n
  | 0, _ => rfl
  | n + 1, hn => by
    show (if hs x (nI n) = true then imax (p_lsm X b t x n) (X (b + 3) (t * 16 + n)) else p_lsm X b t x n) = (if hs x (nI n) = true then imax (p_lsm Y c t x n) (Y (c + 3) (t * 16 + n)) else p_lsm Y c t x n)
    rw [lsm_eq h ht x n (by omega), h.2 (t * 16 + n) (by omega)]
theorem last_eq {X Y : Mem} {b c t : Nat} (h : Eq3 X b Y c) (ht : t < 8) (x : Int32) : p_last X b t x = p_last Y c t x := by
  unfold p_last
  rw [lsm_eq h ht x 16 (by omega), (h.1 t ht).1]
theorem noteS_eq {X Y : Mem} {b c t r : Nat} {m : Int32} (h : Eq3 X b Y c) (ht : t < 8) (h4 : X 4 r = Y 4 r) (h6 : X 6 r = Y 6 r) : Eq3 (p_noteS X b t r m) b (p_noteS Y c t r m) c := by
  have e : p_open X b t r = p_open Y c t r := by unfold p_open; rw [h6]; exact last_eq h ht _
  unfold p_noteS
  rw [h4, e]
  generalize decide (¬ Y 4 r ≤ m - p_open Y c t r) = soon
  refine ⟨fun i hi => ⟨?_, ?_⟩, fun i hi => ?_⟩
  · rw [solve_1, solve_1]
    by_cases q : i = t
    · subst q; rw [pk_us, pk_us, (h.1 i hi).1]
    · rw [pk_un q, pk_un q, (h.1 i hi).1]
  · rw [solve_2, solve_2]
    by_cases z : soon = true
    · rw [if_pos z, if_pos z]
      by_cases q : i = t
      · subst q; rw [pk_us, pk_us, (h.1 i hi).2]
      · rw [pk_un q, pk_un q, (h.1 i hi).2]
    · rw [if_neg z, if_neg z, (h.1 i hi).2]
  · rw [solve_3, solve_3]
    by_cases q : i = t * 16 + r
    · subst q; rw [pk_us, pk_us]
    · rw [pk_un q, pk_un q, h.2 i hi]
theorem rp_cell (S : Mem) (n : Nat) {k : Nat} (hk : k < 26) : p_replay (p_wipe S) n k = S k := by rw [fr_replay (by omega), fr_wipe (by omega)]
theorem rp_step (S : Mem) (n : Nat) : p_replay (p_wipe S) (n + 1) = if p_right S n = true then p_noteS (p_replay (p_wipe S) n) 25 (aT S n) (aR S n) (S 11 n) else p_replay (p_wipe S) n := by
  have a1 : aT (p_replay (p_wipe S) n) n = aT S n := by unfold aT; rw [rp_cell S n (by omega)]
  have a2 : aR (p_replay (p_wipe S) n) n = aR S n := by unfold aR; rw [rp_cell S n (by omega)]
  have a3 : p_right (p_replay (p_wipe S) n) n = p_right S n := by unfold p_right; rw [a2, rp_cell S n (by omega), rp_cell S n (by omega)]
  have a4 : p_replay (p_wipe S) n 11 n = S 11 n := by rw [rp_cell S n (by omega)]
  show (if p_right (p_replay (p_wipe S) n) n = true then p_noteS (p_replay (p_wipe S) n) 25 (aT (p_replay (p_wipe S) n) n) (aR (p_replay (p_wipe S) n) n) (p_replay (p_wipe S) n 11 n) else p_replay (p_wipe S) n) = _
  rw [a1, a2, a3, a4]
theorem wipe_26 (S : Mem) {i : Nat} (hi : i < 8) : p_wipe S 26 i = 0 := by
  show (if i < 8 then 0 else S 26 i) = 0
  rw [if_pos hi]
theorem wipe_27 (S : Mem) {i : Nat} (hi : i < 8) : p_wipe S 27 i = 0 := by
  show (if i < 8 then 0 else S 27 i) = 0
  rw [if_pos hi]
theorem wipe_28 (S : Mem) {i : Nat} (hi : i < 128) : p_wipe S 28 i = 0 := by
  show (if i < 128 then 0 else S 28 i) = 0
  rw [if_pos hi]
theorem wipe_29 (S : Mem) {i : Nat} (hi : i < 128) : p_wipe S 29 i = 0 := by
  show (if i < 128 then 0 else S 29 i) = 0
  rw [if_pos hi]
theorem wipe_30 (S : Mem) {i : Nat} (hi : i < 64) : p_wipe S 30 i = 0 := by
  show (if i < 64 then 0 else S 30 i) = 0
  rw [if_pos hi]
theorem wipe_31 (S : Mem) {i : Nat} (hi : i < 64) : p_wipe S 31 i = 0 := by
  show (if i < 64 then 0 else S 31 i) = 0
  rw [if_pos hi]
theorem rp_congr {S S' : Mem} : ∀ n, (∀ k, k < n → (S' 8 k = S 8 k ∧ S' 9 k = S 9 k ∧ S' 10 k = S 10 k ∧ S' 11 k = S 11 k) ∧ aT S k < 8 ∧ S' 3 (aR S k) = S 3 (aR S k) ∧ S' 4 (aR S k) = S 4 (aR S k) ∧ S' 6 (aR S k) = S 6 (aR S k)) → Eq3 (p_replay (p_wipe S') n) 25 (p_replay (p_wipe S) n) 25
  | 0, _ => ⟨fun i hi => ⟨(wipe_26 S' hi).trans (wipe_26 S hi).symm, (wipe_27 S' hi).trans (wipe_27 S hi).symm⟩, fun i hi => (wipe_28 S' hi).trans (wipe_28 S hi).symm⟩
  | n + 1, h => by
    have ih := rp_congr n (fun k hk => h k (by omega))
    obtain ⟨⟨e8, e9, e10, e11⟩, ht, e3, e4, e6⟩ := h n (by omega)
    have a1 : aT S' n = aT S n := by unfold aT; rw [e8]
    have a2 : aR S' n = aR S n := by unfold aR; rw [e9]
    have a3 : p_right S' n = p_right S n := by unfold p_right; rw [a2, e10, e3]
    rw [rp_step, rp_step, a1, a2, a3, e11]
    by_cases c : p_right S n = true
    · rw [if_pos c, if_pos c]
      exact noteS_eq ih ht (by rw [rp_cell S' n (by omega), rp_cell S n (by omega), e4]) (by rw [rp_cell S' n (by omega), rp_cell S n (by omega), e6])
    · rw [if_neg c, if_neg c]; exact ih
theorem iRep_same {S S' : Mem} (h : Inv S) (e : (S' 3 = S 3 ∧ S' 4 = S 4 ∧ S' 6 = S 6) ∧ (S' 8 = S 8 ∧ S' 9 = S 9 ∧ S' 10 = S 10 ∧ S' 11 = S 11) ∧ (S' 19 = S 19 ∧ S' 20 = S 20 ∧ S' 21 = S 21) ∧ S' 7 4 = S 7 4) : iRep S' := by
  obtain ⟨⟨e3, e4, e6⟩, ⟨e8, e9, e10, e11⟩, ⟨e19, e20, e21⟩, e7⟩ := e
  have a : cN S' = cN S := by unfold cN; rw [e7]
  unfold iRep
  rw [a]
  have h1 : Eq3 S' 18 S 18 := ⟨fun i _ => ⟨congrFun e19 i, congrFun e20 i⟩, fun i _ => congrFun e21 i⟩
  have h2 := rp_congr (S := S) (S' := S') (cN S) (fun k hk => ⟨⟨by rw [e8], by rw [e9], by rw [e10], by rw [e11]⟩, h.i0.xT8 hk, by rw [e3], by rw [e4], by rw [e6]⟩)
  exact h1.trans (h.rep.trans h2.symm)
theorem Inv_congr {S S' : Mem} (e : ∀ k, k < 26 → S' k = S k) (h : Inv S) : Inv S' := by
  have e0 := e 0 (by omega)
  have e1 := e 1 (by omega)
  have e3 := e 3 (by omega)
  have e4 := e 4 (by omega)
  have e6 := e 6 (by omega)
  have e7 := e 7 (by omega)
  have e8 := e 8 (by omega)
  have e9 := e 9 (by omega)
  have e10 := e 10 (by omega)
  have e11 := e 11 (by omega)
  have e13 := e 13 (by omega)
  have e14 := e 14 (by omega)
  have e19 := e 19 (by omega)
  have e20 := e 20 (by omega)
  have e21 := e 21 (by omega)
  have e22 := e 22 (by omega)
  have e23 := e 23 (by omega)
  have e24 := e 24 (by omega)
  have a1 : cT S' = cT S := cT_congr e0
  have a2 : cR S' = cR S := cR_congr e1
  have a3 : cN S' = cN S := cN_congr e7
  have hI : I0 S' := I0_congr (fun c hc => e c (by omega)) h.i0
  have hr : iRep S' := iRep_same h ⟨⟨e3, e4, e6⟩, ⟨e8, e9, e10, e11⟩, ⟨e19, e20, e21⟩, by rw [e7]⟩
  unfold Inv
  rw [a1, a2, a3, e0, e1, e3, e6, e8, e9, e10, e13, e14, e19, e20, e21, e22, e23, e24]
  exact ⟨⟨hI, h.now, h.need, h.log, h.bo, h.tou⟩, ⟨h.sol, h.soon⟩, ⟨h.like, h.comm⟩, hr, h.pay⟩
theorem Rel_congr {S S' M : Mem} (e : ∀ k, k < 26 ∨ k = 34 → S' k = S k) (h : Rel S M) : Rel S' M := by
  have hI := Inv_congr (fun k hk => e k (.inl hk)) h.inv
  have a1 : cT S' = cT S := cT_congr (e 0 (by omega))
  refine ⟨hI, ?_, ?_, ?_, ?_, ?_⟩
  · unfold Req
    rw [e 0 (by omega), e 1 (by omega), e 2 (by omega), e 3 (by omega), e 4 (by omega), e 5 (by omega), e 6 (by omega), e 7 (by omega), e 8 (by omega), e 9 (by omega), e 10 (by omega), e 13 (by omega), e 15 (by omega), e 22 (by omega), e 34 (by omega)]
    exact h.2.1
  · rw [a1, e 19 (by omega), e 21 (by omega)]; exact h.sol
  · rw [e 20 (by omega)]; exact h.ts
  · rw [e 16 (by omega)]; exact h.cl
  · rw [e 17 (by omega)]; exact h.par
/-! the order of teams -/
theorem Rel_rate {S M : Mem} (h : Rel S M) (n : Nat) : Rel (p_rate S n) M := Rel_congr (fun _ hk => fr_rate (by omega) n) h
theorem cT_rate (S : Mem) (n : Nat) : cT (p_rate S n) = cT S := cT_congr (fr_rate (by omega) n)
theorem rate_val {S M : Mem} (h : Rel S M) : ∀ n, n ≤ cT S → ∀ t, t < n → p_rate S n 32 t = m_score M t ∧ p_rate S n 33 t = m_last M t
  | 0, _, t, ht => absurd ht (by omega)
  | n + 1, hn, t, ht => by
    have hZ := Rel_rate h n
    have cZ := cT_rate S n
    have e : p_rate S (n + 1) = st (st (p_rate S n) 32 n (p_sumUp (p_rate S n) 18 n (p_count (p_rate S n) 18 n))) 33 n (p_last (st (p_rate S n) 32 n (p_sumUp (p_rate S n) 18 n (p_count (p_rate S n) 18 n))) 18 n (p_count (p_rate S n) 18 n)) := rfl
    have x : p_sumUp (p_rate S n) 18 n (p_count (p_rate S n) 18 n) = m_score M n := r_score hZ (by rw [cZ]; omega)
    rw [x] at e
    have hW : Rel (st (p_rate S n) 32 n (m_score M n)) M := Rel_congr (fun k hk => st_ne (by omega)) hZ
    have cW : cT (st (p_rate S n) 32 n (m_score M n)) = cT S := (cT_congr (st_ne (by omega))).trans cZ
    have y : p_last (st (p_rate S n) 32 n (m_score M n)) 18 n (p_count (p_rate S n) 18 n) = m_last M n := by
      rw [r_count hZ (by rw [cZ]; omega), ← r_count hW (by rw [cW]; omega)]
      exact r_last hW (by rw [cW]; omega)
    rw [y] at e
    rw [e]
    by_cases q : t = n
    · subst q
      exact ⟨by rw [st_ne (by omega), st_at], st_at⟩
    · have ih := rate_val h n (by omega) t (by omega)
      exact ⟨by rw [st_ne (by omega), st_off q]; exact ih.1, by rw [st_off q, st_ne (by omega)]; exact ih.2⟩
/-- o comes ahead of t -/
abbrev Cnd (M : Mem) (bn : Bool) (o t : Nat) : Prop := m_score M t < m_score M o ∨ (m_score M o = m_score M t ∧ (m_last M o < m_last M t ∨ (m_last M o = m_last M t ∧ bn = true ∧ o < t)))
theorem m_ah_s (M : Mem) (t : Nat) (bn : Bool) (n : Nat) : m_ah M t bn (n + 1) = m_ah M t bn n + (if Cnd M bn n t then 1 else 0) := rfl
theorem c_iff (M : Mem) (bn : Bool) (o t : Nat) : Cnd M bn o t ↔ ((m_score M t).toInt < (m_score M o).toInt ∨ ((m_score M o).toInt = (m_score M t).toInt ∧ ((m_last M o).toInt < (m_last M t).toInt ∨ ((m_last M o).toInt = (m_last M t).toInt ∧ bn = true ∧ o < t)))) := by
  unfold Cnd
  rw [Int32.lt_iff_toInt_lt, Int32.lt_iff_toInt_lt, Int32.toInt_inj, Int32.toInt_inj]
theorem c_trans {M : Mem} {bn : Bool} {o a b : Nat} (h1 : Cnd M bn o a) (h2 : Cnd M bn a b) : Cnd M bn o b := by
  rw [c_iff] at h1 h2 ⊢
  generalize (m_score M o).toInt = s1 at *
  generalize (m_score M a).toInt = s2 at *
  generalize (m_score M b).toInt = s3 at *
  generalize (m_last M o).toInt = l1 at *
  generalize (m_last M a).toInt = l2 at *
  generalize (m_last M b).toInt = l3 at *
  cases bn
  · simp only [Bool.false_eq_true, false_and, and_false, or_false] at h1 h2 ⊢
    omega
  · simp only [true_and] at h1 h2 ⊢
    omega
theorem c_irr {M : Mem} {bn : Bool} {a : Nat} (h : Cnd M bn a a) : False := by
  rw [c_iff] at h
  rcases h with h | ⟨_, h | ⟨_, _, h⟩⟩ <;> omega
theorem c_tri (M : Mem) {a b : Nat} (h : ¬ a = b) : Cnd M true a b ∨ Cnd M true b a := by
  rw [c_iff, c_iff]
  generalize (m_score M a).toInt = s2
  generalize (m_score M b).toInt = s3
  generalize (m_last M a).toInt = l2
  generalize (m_last M b).toInt = l3
  simp only [true_and]
  omega
theorem c_tri0 (M : Mem) {a b : Nat} (h : ¬ (m_score M a = m_score M b ∧ m_last M a = m_last M b)) : Cnd M false a b ∨ Cnd M false b a := by
  rw [← Int32.toInt_inj, ← Int32.toInt_inj] at h
  rw [c_iff, c_iff]
  generalize (m_score M a).toInt = s2 at *
  generalize (m_score M b).toInt = s3 at *
  generalize (m_last M a).toInt = l2 at *
  generalize (m_last M b).toInt = l3 at *
  simp only [Bool.false_eq_true, false_and, and_false, or_false]
  omega
theorem ah_mono {M : Mem} {bn : Bool} {a b : Nat} (h : Cnd M bn a b) : ∀ n, m_ah M a bn n + (if a < n then 1 else 0) ≤ m_ah M b bn n
  | 0 => by
    show 0 + (if a < 0 then 1 else 0) ≤ 0
    rw [if_neg (by omega)]; omega
  | n + 1 => by
    have ih := ah_mono h n
    rw [m_ah_s, m_ah_s]
    by_cases e : n = a
    · subst e
      rw [if_neg (Nat.lt_irrefl n)] at ih
      rw [if_neg (fun z => c_irr z), if_pos h, if_pos (by omega)]; omega
    · have e2 : (if a < n + 1 then 1 else 0) = (if a < n then 1 else 0) := by
        by_cases q : a < n
        · rw [if_pos q, if_pos (by omega)]
        · rw [if_neg q, if_neg (by omega)]
      rw [e2]
      by_cases c1 : Cnd M bn n a
      · rw [if_pos c1, if_pos (c_trans c1 h)]; omega
      · rw [if_neg c1]; omega
theorem ah_self {M : Mem} {bn : Bool} {t : Nat} : ∀ n, m_ah M t bn n + (if t < n then 1 else 0) ≤ n
  | 0 => by
    show 0 + (if t < 0 then 1 else 0) ≤ 0
    rw [if_neg (by omega)]; omega
  | n + 1 => by
    have ih := ah_self (M := M) (bn := bn) (t := t) n
    rw [m_ah_s]
    by_cases e : n = t
    · subst e
      rw [if_neg (Nat.lt_irrefl n)] at ih
      rw [if_neg (fun z => c_irr z), if_pos (by omega)]; omega
    · have e2 : (if t < n + 1 then 1 else 0) = (if t < n then 1 else 0) := by
        by_cases q : t < n
        · rw [if_pos q, if_pos (by omega)]
        · rw [if_neg q, if_neg (by omega)]
      rw [e2]
      split <;> omega
theorem ah_inj {M : Mem} {a b T : Nat} (ha : a < T) (hb : b < T) (h : m_ah M a true T = m_ah M b true T) : a = b := by
  apply Classical.byContradiction
  intro q
  rcases c_tri M q with c | c
  · have := ah_mono c T
    rw [if_pos ha] at this; omega
  · have := ah_mono c T
    rw [if_pos hb] at this; omega
theorem ah_same {M : Mem} {a b : Nat} (h : m_score M a = m_score M b ∧ m_last M a = m_last M b) : ∀ n, m_ah M a false n = m_ah M b false n
  | 0 => rfl
  | n + 1 => by
    have e : Cnd M false n a ↔ Cnd M false n b := by
      unfold Cnd
      rw [h.1, h.2]
      simp only [Bool.false_eq_true, false_and, and_false]
    rw [m_ah_s, m_ah_s, ah_same h n]
    by_cases c : Cnd M false n a
    · rw [if_pos c, if_pos (e.mp c)]
    · rw [if_neg c, if_neg (fun z => c (e.mpr z))]
theorem ah_iff {M : Mem} {a b T : Nat} (ha : a < T) (hb : b < T) : m_ah M a false T = m_ah M b false T ↔ m_score M a = m_score M b ∧ m_last M a = m_last M b := by
  constructor
  · intro h
    apply Classical.byContradiction
    intro q
    rcases c_tri0 M q with c | c
    · have := ah_mono c T
      rw [if_pos ha] at this; omega
    · have := ah_mono c T
      rw [if_pos hb] at this; omega
  · exact fun h => ah_same h T
theorem r_better {S M : Mem} (h : Rel S M) {t : Nat} (ht : t < cT S) : ∀ n, n ≤ cT S → p_better (p_rate S (cT S)) t n = m_ah M t false n
  | 0, _ => rfl
  | n + 1, hn => by
    obtain ⟨a1, a2⟩ := rate_val h _ (Nat.le_refl _) t ht
    obtain ⟨b1, b2⟩ := rate_val h _ (Nat.le_refl _) n (by omega)
    have e : p_better (p_rate S (cT S)) t (n + 1) = if p_rate S (cT S) 32 t < p_rate S (cT S) 32 n ∨ (p_rate S (cT S) 32 n = p_rate S (cT S) 32 t ∧ p_rate S (cT S) 33 n < p_rate S (cT S) 33 t) then p_better (p_rate S (cT S)) t n + 1 else p_better (p_rate S (cT S)) t n := rfl
    have e2 : Cnd M false n t ↔ (m_score M t < m_score M n ∨ (m_score M n = m_score M t ∧ m_last M n < m_last M t)) := by
      unfold Cnd
      simp only [Bool.false_eq_true, false_and, and_false, or_false]
    rw [e, a1, a2, b1, b2, m_ah_s, r_better h ht n (by omega)]
    by_cases c : m_score M t < m_score M n ∨ (m_score M n = m_score M t ∧ m_last M n < m_last M t)
    · rw [if_pos c, if_pos (e2.mpr c)]
    · rw [if_neg c, if_neg (fun z => c (e2.mp z)), Nat.add_zero]
theorem p_alike_s {S M : Mem} (h : Rel S M) {t n : Nat} (ht : t < cT S) (hn : n < cT S) : p_alike (p_rate S (cT S)) t (n + 1) = if m_score M n = m_score M t ∧ m_last M n = m_last M t then p_alike (p_rate S (cT S)) t n + 1 else p_alike (p_rate S (cT S)) t n := by
  obtain ⟨a1, a2⟩ := rate_val h _ (Nat.le_refl _) t ht
  obtain ⟨b1, b2⟩ := rate_val h _ (Nat.le_refl _) n hn
  rw [← a1, ← a2, ← b1, ← b2]; rfl
theorem r_aheadN {S M : Mem} (h : Rel S M) {t : Nat} (ht : t < cT S) : ∀ n, n ≤ cT S → m_ah M t true n = p_better (p_rate S (cT S)) t n + p_alike (p_rate S (cT S)) t (if n < t then n else t)
  | 0, _ => by
    have e : (if 0 < t then 0 else t) = 0 := by
      by_cases q : 0 < t
      · rw [if_pos q]
      · rw [if_neg q]; omega
    rw [e]; rfl
  | n + 1, hn => by
    have ih := r_aheadN h ht n (by omega)
    rw [m_ah_s, ih, r_better h ht n (by omega), r_better h ht (n + 1) hn, m_ah_s]
    have c0 : Cnd M true n t ↔ Cnd M false n t ∨ (m_score M n = m_score M t ∧ m_last M n = m_last M t ∧ n < t) := by
      rw [c_iff, c_iff, ← Int32.toInt_inj, ← Int32.toInt_inj]
      simp only [Bool.false_eq_true, false_and, and_false, or_false, true_and]
      omega
    have c1 : Cnd M false n t → ¬ (m_score M n = m_score M t ∧ m_last M n = m_last M t) := fun z q => by
      rw [c_iff, q.1, q.2] at z
      rcases z with z | ⟨_, z | ⟨_, z, _⟩⟩
      · omega
      · omega
      · cases z
    by_cases q : n < t
    · have e1 : (if n < t then n else t) = n := if_pos q
      have e2 : (if n + 1 < t then n + 1 else t) = n + 1 := by
        by_cases q2 : n + 1 < t
        · rw [if_pos q2]
        · rw [if_neg q2]; omega
      rw [e1, e2, p_alike_s h ht (by omega)]
      by_cases d1 : Cnd M false n t
      · rw [if_pos (c0.mpr (.inl d1)), if_pos d1, if_neg (c1 d1)]; omega
      · by_cases d2 : m_score M n = m_score M t ∧ m_last M n = m_last M t
        · rw [if_pos (c0.mpr (.inr ⟨d2.1, d2.2, q⟩)), if_neg d1, if_pos d2]; omega
        · rw [if_neg (fun z => (c0.mp z).elim d1 (fun y => d2 ⟨y.1, y.2.1⟩)), if_neg d1, if_neg d2]; omega
    · have e1 : (if n < t then n else t) = t := if_neg q
      have e2 : (if n + 1 < t then n + 1 else t) = t := if_neg (by omega)
      rw [e1, e2]
      by_cases d1 : Cnd M false n t
      · rw [if_pos (c0.mpr (.inl d1)), if_pos d1]; omega
      · rw [if_neg (fun z => (c0.mp z).elim d1 (fun y => q y.2.2)), if_neg d1]; omega
theorem r_ahead {S M : Mem} (h : Rel S M) {t : Nat} (ht : t < cT S) : p_better (p_rate S (cT S)) t (cT S) + p_alike (p_rate S (cT S)) t t = m_ahead M t true := by
  have e := r_aheadN h ht (cT S) (Nat.le_refl _)
  rw [if_neg (show ¬ cT S < t by omega)] at e
  rw [m_ahead, h.T, e]
theorem r_ahead0 {S M : Mem} (h : Rel S M) {t : Nat} (ht : t < cT S) : p_better (p_rate S (cT S)) t (cT S) = m_ahead M t false := by rw [r_better h ht _ (Nat.le_refl _), m_ahead, h.T]
/-- one place is found from either end -/
theorem tat_m {M : Mem} {x : Int32} {t : Nat} : ∀ n, t < n → nI (m_ahead M t true) = x → (∀ o, o < n → nI (m_ahead M o true) = x → o = t) → m_tat M x n = nI t
  | 0, h, _, _ => absurd h (by omega)
  | n + 1, h, hx, hu => by
    show (if nI (m_ahead M n true) = x then nI n else m_tat M x n) = nI t
    by_cases c : nI (m_ahead M n true) = x
    · rw [if_pos c, hu n (by omega) c]
    · rw [if_neg c]
      have ne : ¬ t = n := fun e => by subst e; exact c hx
      exact tat_m n (by omega) hx (fun o ho => hu o (by omega))
theorem tat_m0 {M : Mem} {x : Int32} : ∀ n, (∀ o, o < n → ¬ nI (m_ahead M o true) = x) → m_tat M x n = -1
  | 0, _ => rfl
  | n + 1, h => by
    show (if nI (m_ahead M n true) = x then nI n else m_tat M x n) = -1
    rw [if_neg (h n (by omega))]
    exact tat_m0 n (fun o ho => h o (by omega))
theorem tat_p {c : Nat → Bool} {T t : Nat} (ht : t < T) (hx : c t = true) (hu : ∀ o, o < T → c o = true → o = t) : ∀ n, n ≤ T → T - n ≤ t → p_tat c T n = nI t
  | 0, _, h => absurd h (by omega)
  | n + 1, hn, h => by
    show (if c (T - (n + 1)) = true then nI (T - (n + 1)) else p_tat c T n) = nI t
    by_cases q : c (T - (n + 1)) = true
    · rw [if_pos q, hu _ (by omega) q]
    · rw [if_neg q]
      have ne : ¬ T - (n + 1) = t := fun e => by rw [e] at q; exact q hx
      exact tat_p ht hx hu n (by omega) (by omega)
theorem tat_p0 {c : Nat → Bool} {T : Nat} (h : ∀ o, o < T → c o = false) : ∀ n, n ≤ T → p_tat c T n = -1
  | 0, _ => rfl
  | n + 1, hn => by
    show (if c (T - (n + 1)) = true then nI (T - (n + 1)) else p_tat c T n) = -1
    rw [h _ (by omega), if_neg (by decide)]
    exact tat_p0 h n (by omega)
theorem r_at {S M : Mem} (h : Rel S M) (x : Int32) : (oAt S x).2.1 = m_tat M x (mT M) := by
  have hT := h.inv.i0.T8
  have hle : ∀ o, o < cT S → m_ahead M o true < cT S := fun o ho => by
    have := ah_self (M := M) (bn := true) (t := o) (cT S)
    rw [if_pos ho] at this
    rw [m_ahead, h.T]; omega
  rw [h.T]
  show p_tat (p_at (p_rate S (cT S)) x) (cT S) (cT S) = m_tat M x (cT S)
  have ca : ∀ o, o < cT S → p_at (p_rate S (cT S)) x o = decide (nI (m_ahead M o true) = x) := fun o ho => by
    unfold p_at
    rw [cT_rate, r_ahead h ho]
  by_cases q : ∃ t, t < cT S ∧ nI (m_ahead M t true) = x
  · obtain ⟨t, ht, hx⟩ := q
    have hu : ∀ o, o < cT S → nI (m_ahead M o true) = x → o = t := fun o ho e => by
      have l1 := hle o ho
      have l2 := hle t ht
      have := n_eq (by omega) (by omega) (e.trans hx.symm)
      rw [m_ahead, m_ahead, h.T] at this
      exact ah_inj ho ht this
    rw [tat_m _ ht hx hu]
    exact tat_p ht (by rw [ca t ht, decide_eq_true hx]) (fun o ho e => hu o ho (of_decide_eq_true ((ca o ho).symm.trans e))) _ (Nat.le_refl _) (by omega)
  · have q' : ∀ o, o < cT S → ¬ nI (m_ahead M o true) = x := fun o ho e => q ⟨o, ho, e⟩
    rw [tat_m0 _ q']
    exact tat_p0 (fun o ho => by rw [ca o ho, decide_eq_false (q' o ho)]) _ (Nat.le_refl _)
/-! prizes -/
theorem r_pm {S M : Mem} (h : Rel S M) {t : Nat} (ht : t < cT S) : ∀ n, n ≤ cT S → m_pm M (m_ahead M t false) n = p_alike (p_rate S (cT S)) t n
  | 0, _ => rfl
  | n + 1, hn => by
    have e : m_ahead M n false = m_ahead M t false ↔ m_score M n = m_score M t ∧ m_last M n = m_last M t := by
      rw [m_ahead, m_ahead, h.T]; exact ah_iff (by omega) ht
    show (if m_ahead M n false = m_ahead M t false then m_pm M (m_ahead M t false) n + 1 else m_pm M (m_ahead M t false) n) = _
    rw [p_alike_s h ht (by omega), r_pm h ht n (by omega)]
    by_cases c : m_score M n = m_score M t ∧ m_last M n = m_last M t
    · rw [if_pos c, if_pos (e.mpr c)]
    · rw [if_neg c, if_neg (fun z => c (e.mp z))]
theorem r_ps {S M : Mem} (h : Rel S M) (f : Nat) : ∀ n, m_ps M f n = p_prz (p_rate S (cT S)) f (m_pm M f n)
  | 0 => rfl
  | n + 1 => by
    have e34 : p_rate S (cT S) 34 = M 15 := (fr_rate (by omega) _).trans h.e34
    show (if m_ahead M n false = f then m_ps M f n + M 15 (f + m_pm M f n) else m_ps M f n) = p_prz (p_rate S (cT S)) f (if m_ahead M n false = f then m_pm M f n + 1 else m_pm M f n)
    by_cases c : m_ahead M n false = f
    · rw [if_pos c, if_pos c, r_ps h f n, ← e34]; rfl
    · rw [if_neg c, if_neg c, r_ps h f n]
theorem alike_pos {S M : Mem} (h : Rel S M) {t : Nat} (ht : t < cT S) : ∀ n, t < n → n ≤ cT S → 0 < p_alike (p_rate S (cT S)) t n
  | 0, h1, _ => absurd h1 (by omega)
  | n + 1, h1, h2 => by
    rw [p_alike_s h ht (by omega)]
    by_cases c : m_score M n = m_score M t ∧ m_last M n = m_last M t
    · rw [if_pos c]; omega
    · rw [if_neg c]
      have ne : ¬ t = n := fun e => by subst e; exact c ⟨rfl, rfl⟩
      exact alike_pos h ht n (by omega) (by omega)
theorem r_prize {S M : Mem} (h : Rel S M) {t : Nat} (ht : t < cT S) : hPrize (p_rate S (cT S)) t = m_ps M (m_ahead M t false) (mT M) / nI (m_pm M (m_ahead M t false) (mT M)) := by
  have hp := alike_pos h ht (cT S) ht (Nat.le_refl _)
  unfold hPrize
  rw [cT_rate, if_pos hp, h.T, r_ps h, r_pm h ht _ (Nat.le_refl _), r_ahead0 h ht]
end
