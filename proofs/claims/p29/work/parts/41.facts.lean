/-! p29: what the class's calls do in such a memory -/
section F29
variable {S : Mem} {m0 m1 : Nat}
theorem JS.i0 (h : JS S m0 m1) : I0 S := h.1
theorem JS.r (h : JS S m0 m1) : cR S = m0 := h.2.1.1
theorem JS.t (h : JS S m0 m1) : cT S = m1 := h.2.1.2
theorem JS.b0 (h : JS S m0 m1) : m0 ≤ 16 := by have := h.i0.R16; rw [h.r] at this; exact this
theorem JS.b1 (h : JS S m0 m1) : m1 ≤ 8 := by have := h.i0.T8; rw [h.t] at this; exact this
theorem okT (h : JS S m0 m1) {t : Nat} (ht : t < m1) : okn (nI t) (cT S) = true := by
  have := h.b1
  rw [okn_nI (by omega), h.t]; exact decide_eq_true ht
theorem okR (h : JS S m0 m1) {k : Nat} (hk : k < m0) : okn (nI k) (cR S) = true := by
  have := h.b0
  rw [okn_nI (by omega), h.r]; exact decide_eq_true hk
theorem noT (h : JS S m0 m1) {t : Nat} (ht : m1 ≤ t) (hs : t < 100) : okn (nI t) (cT S) = false := by
  rw [okn_nI (by omega), h.t]; exact decide_eq_false (by omega)
theorem noR (h : JS S m0 m1) {k : Nat} (hk : m0 ≤ k) (hs : k < 100) : okn (nI k) (cR S) = false := by
  rw [okn_nI (by omega), h.r]; exact decide_eq_false (by omega)
theorem noM {n : Nat} : okn (-1) n = false := okn_f1 (by decide)
theorem e2 {x y : Int32} {f : Nat → Nat → Out} (h1 : okn x (cT S) = true) (h2 : okn y (cR S) = true) : o2 S x y f = f (iN x) (iN y) := by rw [o2, if_pos h1, if_pos h2]
theorem e2a {x y : Int32} {f : Nat → Nat → Out} (h1 : okn x (cT S) = false) : o2 S x y f = (some xI, 0, S) := by rw [o2, h1]; rfl
theorem e2b {x y : Int32} {f : Nat → Nat → Out} (h1 : okn x (cT S) = true) (h2 : okn y (cR S) = false) : o2 S x y f = (some xI, 0, S) := by rw [o2, if_pos h1, h2]; rfl
theorem eT {x y : Int32} {f : Nat → Nat → Out} (h1 : okn x (cT S) = true) (h2 : okn y (cT S) = true) : oTT S x y f = f (iN x) (iN y) := by rw [oTT, if_pos h1, if_pos h2]
theorem eTa {x y : Int32} {f : Nat → Nat → Out} (h1 : okn x (cT S) = false) : oTT S x y f = (some xI, 0, S) := by rw [oTT, h1]; rfl
theorem eTb {x y : Int32} {f : Nat → Nat → Out} (h1 : okn x (cT S) = true) (h2 : okn y (cT S) = false) : oTT S x y f = (some xI, 0, S) := by rw [oTT, if_pos h1, h2]; rfl
theorem e1 {x : Int32} {f : Nat → Out} (h1 : okn x (cT S) = true) : o1 S x f = f (iN x) := by rw [o1, if_pos h1]
theorem e1a {x : Int32} {f : Nat → Out} (h1 : okn x (cT S) = false) : o1 S x f = (some xI, 0, S) := by rw [o1, h1]; rfl
theorem iNs {n : Nat} (h : n < 100) : iN (nI n) = n := iN_nI (by omega)
/-- calls that answer -/
theorem nn_solved (h : JS S m0 m1) {t k : Nat} (ht : t < m1) (hk : k < m0) : (oSolved S (nI t) (nI k)).1 = none := by rw [oSolved, e2 (okT h ht) (okR h hk)]
theorem nn_opened (h : JS S m0 m1) {t k : Nat} (ht : t < m1) (hk : k < m0) : (oOpened S (nI t) (nI k)).1 = none := by rw [oOpened, e2 (okT h ht) (okR h hk)]
theorem nn_void (h : JS S m0 m1) {t k : Nat} (ht : t < m1) (hk : k < m0) : (oVoid S (nI t) (nI k)).1 = none := by rw [oVoid, e2 (okT h ht) (okR h hk)]
theorem nn_cheat (h : JS S m0 m1) {t k : Nat} (ht : t < m1) (hk : k < m0) : (oCheat S (nI t) (nI k)).1 = none := by rw [oCheat, e2 (okT h ht) (okR h hk)]
theorem nn_like (h : JS S m0 m1) {t k : Nat} (ht : t < m1) (hk : k < m1) : (oLike S (nI t) (nI k)).1 = none := by rw [oLike, eT (okT h ht) (okT h hk)]
theorem nn_linked (h : JS S m0 m1) {t k : Nat} (ht : t < m1) (hk : k < m1) : (oLinked S (nI t) (nI k)).1 = none := by rw [oLinked, eT (okT h ht) (okT h hk)]
theorem nn_free (h : JS S m0 m1) {k : Nat} (hk : k < m0) : (oFree S (nI k)).1 = none := by rw [oFree, if_pos (okR h hk)]
theorem nn_hang (h : JS S m0 m1) {k : Nat} (hk : k < m0) : (oHang S (nI k)).1 = none := by rw [oHang, if_pos (okR h hk)]
theorem nn_score (h : JS S m0 m1) {t : Nat} (ht : t < m1) : (oScore S (nI t)).1 = none := by rw [oScore, e1 (okT h ht)]
theorem nn_anew (h : JS S m0 m1) {t : Nat} (ht : t < m1) : (oAnew S (nI t)).1 = none := by rw [oAnew, e1 (okT h ht)]
theorem nn_place (h : JS S m0 m1) {t : Nat} (ht : t < m1) : (oPlace S (nI t)).1 = none := by rw [oPlace, e1 (okT h ht)]
/-- they leave such a memory -/
theorem js_rate (h : JS S m0 m1) : JS (p_rate S (cT S)) m0 m1 := h.congr (fun c hc => fr_rate (by omega) _)
theorem js_place (h : JS S m0 m1) {t : Nat} (ht : t < m1) : JS (oPlace S (nI t)).2.2 m0 m1 := by rw [oPlace, e1 (okT h ht)]; exact js_rate h
theorem js_at (h : JS S m0 m1) {x : Int32} : JS (oAt S x).2.2 m0 m1 := js_rate h
theorem js_anew (h : JS S m0 m1) {t : Nat} (ht : t < m1) : JS (oAnew S (nI t)).2.2 m0 m1 := by
  rw [oAnew, e1 (okT h ht)]
  refine h.congr (fun c hc => ?_)
  show p_anewM S _ c = S c
  unfold p_anewM
  rw [fr_sals (by omega), fr_cmpP (by omega), fr_replay (by omega), fr_wipe (by omega)]
/-- nothing is needed: each riddle is open from the start, and nobody has solved it -/
theorem lsm_0 {b t : Nat} : ∀ i, p_lsm S b t 0 i = 0
  | 0 => rfl
  | i + 1 => by
    unfold p_lsm
    have h0 : hs 0 (nI i) = false := by
      unfold hs
      rw [decide_eq_false_iff_not, Decidable.not_not]
      have : (0 : Int32) >>> (nI i &&& 31) = 0 := by simp
      rw [this]; decide
    rw [h0]
    exact lsm_0 i
theorem hs_0 (x : Int32) : hs 0 x = false := by
  unfold hs
  rw [decide_eq_false_iff_not, Decidable.not_not]
  have : (0 : Int32) >>> (x &&& 31) = 0 := by simp
  rw [this]; decide
theorem and_0 (x : Int32) : (0 : Int32) &&& x = 0 := by simp
theorem shr_0 (x : Int32) : (0 : Int32) >>> x = 0 := by simp
theorem last_0 {b t : Nat} : p_last S b t 0 = 0 := by
  unfold p_last
  rw [and_0, if_pos rfl, lsm_0]
theorem v_opened (h : JS S m0 m1) {t k : Nat} (ht : t < m1) (hk : k < m0) : (oOpened S (nI t) (nI k)).2.1 = 0 := by
  rw [oOpened, e2 (okT h ht) (okR h hk)]
  show p_open S 18 _ _ = 0
  unfold p_open
  rw [h.2.2.2.1, last_0]
theorem v_solved (h : JS S m0 m1) {t k : Nat} (ht : t < m1) (hk : k < m0) : (oSolved S (nI t) (nI k)).2.1 = -1 := by
  rw [oSolved, e2 (okT h ht) (okR h hk)]
  show (if hs (S 19 _) (nI _) = true then _ else (-1 : Int32)) = -1
  rw [h.2.2.2.2.1, hs_0]; rfl
/-- places: all teams alike -/
theorem cnt_0 (h : JS S m0 m1) (t : Nat) : p_count S 18 t = 0 := by
  unfold p_count
  rw [h.2.2.2.2.1, and_0, and_0]
theorem sum_0 (h : JS S m0 m1) {t : Nat} {fr : Int32} : ∀ r, p_sum S 18 t 0 fr r = 0
  | 0 => rfl
  | r + 1 => by
    unfold p_sum
    rw [hs_0, sum_0 h r, h.2.2.2.2.2.2]
    split
    · split <;> simp_all
    · split <;> simp
theorem rate_0 (h : JS S m0 m1) : ∀ i, (∀ t, t < i → p_rate S i 32 t = 0 ∧ p_rate S i 33 t = 0) ∧ JS (p_rate S i) m0 m1
  | 0 => ⟨fun t ht => absurd ht (by omega), h⟩
  | i + 1 => by
    obtain ⟨h1, h2⟩ := rate_0 h i
    have h3 : JS (p_rate S (i + 1)) m0 m1 := h.congr (fun c hc => fr_rate (by omega) _)
    refine ⟨fun t ht => ?_, h3⟩
    have e1 : p_sumUp (p_rate S i) 18 i (p_count (p_rate S i) 18 i) = 0 := by rw [cnt_0 h2, p_sumUp, sum_0 h2]
    have e2 : p_last (st (p_rate S i) 32 i 0) 18 i 0 = 0 := last_0
    rw [p_rate, e1, cnt_0 h2, e2]
    by_cases ht2 : t = i
    · subst ht2
      exact ⟨by rw [st_ne (by omega)]; exact st_at, st_at⟩
    · obtain ⟨a1, a2⟩ := h1 t (by omega)
      exact ⟨by rw [st_ne (by omega), st_off ht2]; exact a1, by rw [st_off ht2, st_ne (by omega)]; exact a2⟩
theorem better_0 {S1 : Mem} {t : Nat} (h : ∀ o, o ≤ t → S1 32 o = 0 ∧ S1 33 o = 0) {T : Nat} (hT : ∀ o, o < T → S1 32 o = 0 ∧ S1 33 o = 0) : ∀ n, n ≤ T → p_better S1 t n = 0
  | 0, _ => rfl
  | n + 1, hn => by
    unfold p_better
    rw [(hT n (by omega)).1, (hT n (by omega)).2, (h t (Nat.le_refl _)).1, (h t (Nat.le_refl _)).2, better_0 h hT n (by omega)]
    rfl
theorem alike_0 {S1 : Mem} {t : Nat} (h : ∀ o, o ≤ t → S1 32 o = 0 ∧ S1 33 o = 0) : ∀ n, n ≤ t → p_alike S1 t n = n
  | 0, _ => rfl
  | n + 1, hn => by
    unfold p_alike
    rw [(h n (by omega)).1, (h n (by omega)).2, (h t (Nat.le_refl _)).1, (h t (Nat.le_refl _)).2, alike_0 h n (by omega)]
    rfl
theorem v_at (h : JS S m0 m1) {a : Nat} (ha : a < m1) : (oAt S (nI a)).2.1 = nI a := by
  have hm := h.b1
  show p_tat (p_at (p_rate S (cT S)) (nI a)) (cT S) (cT S) = nI a
  rw [h.t]
  obtain ⟨h1, h2⟩ := rate_0 h m1
  have key : ∀ t, t < m1 → p_at (p_rate S m1) (nI a) t = decide (t = a) := fun t ht => by
    unfold p_at
    have hz : ∀ o, o ≤ t → p_rate S m1 32 o = 0 ∧ p_rate S m1 33 o = 0 := fun o ho => h1 o (by omega)
    rw [h2.t, better_0 hz h1 m1 (Nat.le_refl _), alike_0 hz t (Nat.le_refl _)]
    congr 1
    apply propext
    rw [Nat.zero_add]
    exact nI_eq (by omega) (by omega)
  have down : ∀ i, i ≤ a → p_tat (p_at (p_rate S m1) (nI a)) m1 (m1 - i) = nI a := by
    intro i hi
    obtain ⟨d, rfl⟩ : ∃ d, i = a - d := ⟨a - i, by omega⟩
    induction d with
    | zero =>
      refine p_tat_yes (by omega) ?_
      rw [key _ (by omega)]; exact decide_eq_true (by omega)
    | succ d ih =>
      by_cases hd : d + 1 ≤ a
      · rw [p_tat_no (by omega) (by rw [key _ (by omega)]; exact decide_eq_false (by omega))]
        have e : a - (d + 1) + 1 = a - d := by omega
        rw [e]; exact ih (by omega)
      · have e : a - (d + 1) = a - d := by omega
        rw [e]; exact ih (by omega)
  have := down 0 (by omega)
  rw [Nat.sub_zero] at this
  exact this
end F29
