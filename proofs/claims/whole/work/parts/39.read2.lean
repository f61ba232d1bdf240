section
/-! void, counting, sums, last minutes, hanging -/
theorem p_spread_s (S : Mem) (x : Int32) (n : Nat) : p_spread S x (n + 1) = if S 6 n &&& p_spread S x n = 0 then p_spread S x n else p_spread S x n ||| bt (nI n) := rfl
theorem m_vd_s (M : Mem) (t : Nat) (ch : Int32) (n : Nat) : m_vd M t ch (n + 1) = m_vd M t ch n ||| (if ((ch >>> (nI n &&& 31)) &&& 1 = 1 ∨ ¬ M 5 n &&& m_vd M t ch n = 0) ∧ ¬ M 6 (16 * t + n) = -1 then bt (nI n) else 0) := rfl
theorem r_so {S M : Mem} (h : Rel S M) {t r : Nat} (ht : t < cT S) (hr : r < 16) : B (S 19 t) r = true ↔ ¬ M 6 (16 * t + r) = -1 := by
  rw [(h.sol t r ht hr).1, Bool.not_eq_true', decide_eq_false_iff_not]
theorem vd_sub {S M : Mem} (h : Rel S M) {t : Nat} (ht : t < cT S) (ch : Int32) : ∀ n, n ≤ 16 → ∀ r, B (m_vd M t ch n) r = true → r < n ∧ B (S 19 t) r = true
  | 0, _, r, hb => by rw [show m_vd M t ch 0 = 0 from rfl, B_0] at hb; cases hb
  | n + 1, hn, r, hb => by
    rw [m_vd_s, B_or, Bool.or_eq_true] at hb
    rcases hb with hb | hb
    · have := vd_sub h ht ch n (by omega) r hb
      exact ⟨by omega, this.2⟩
    · by_cases c : ((ch >>> (nI n &&& 31)) &&& 1 = 1 ∨ ¬ M 5 n &&& m_vd M t ch n = 0) ∧ ¬ M 6 (16 * t + n) = -1
      · rw [if_pos c, B_btA (by omega), decide_eq_true_eq] at hb
        subst hb
        exact ⟨by omega, (r_so h ht (by omega)).mpr c.2⟩
      · rw [if_neg c, B_0] at hb; cases hb
theorem sp_hi {S : Mem} {x : Int32} : ∀ n, n ≤ 32 → ∀ r, n ≤ r → (B (p_spread S x n) r = true ↔ B x r = true)
  | 0, _, _, _ => Iff.rfl
  | n + 1, hn, r, hr => by
    have ih := sp_hi (S := S) (x := x) n (by omega) r (by omega)
    rw [p_spread_s]
    by_cases c : S 6 n &&& p_spread S x n = 0
    · rw [if_pos c]; exact ih
    · rw [if_neg c, B_or1t (by omega), ih]
      exact ⟨fun z => z.elim id (fun e => absurd e (by omega)), .inl⟩
theorem sp_vd {S M : Mem} (h : Rel S M) {t : Nat} (ht : t < cT S) (ch : Int32) : ∀ n, n ≤ 16 → ∀ r, r < n → B (S 19 t) r = true → (B (p_spread S (ch &&& S 19 t) n) r = true ↔ B (m_vd M t ch n) r = true)
  | 0, _, r, hr, _ => absurd hr (by omega)
  | n + 1, hn, r, hr, hs => by
    have hT := h.inv.i0.T8
    have e1 : B (p_spread S (ch &&& S 19 t) (n + 1)) r = true ↔ B (p_spread S (ch &&& S 19 t) n) r = true ∨ (r = n ∧ ¬ S 6 n &&& p_spread S (ch &&& S 19 t) n = 0) := by
      rw [p_spread_s]
      by_cases c : S 6 n &&& p_spread S (ch &&& S 19 t) n = 0
      · rw [if_pos c]
        exact ⟨.inl, fun z => z.elim id (fun e => absurd c e.2)⟩
      · rw [if_neg c, B_or1t (by omega)]
        exact ⟨fun z => z.imp id (fun e => ⟨e, c⟩), fun z => z.imp id (fun e => e.1)⟩
    have e2 : B (m_vd M t ch (n + 1)) r = true ↔ B (m_vd M t ch n) r = true ∨ (r = n ∧ (B ch n = true ∨ ¬ S 6 n &&& m_vd M t ch n = 0) ∧ B (S 19 t) n = true) := by
      have es := r_so h ht (r := n) (by omega)
      have ev := v1_t (x := ch) (i := n) (by omega)
      rw [m_vd_s, B_or, Bool.or_eq_true, ← h.e6]
      simp only [ev, ← es]
      by_cases c : (B ch n = true ∨ ¬ S 6 n &&& m_vd M t ch n = 0) ∧ B (S 19 t) n = true
      · rw [if_pos c, B_btA (by omega), decide_eq_true_eq]
        exact ⟨fun z => z.imp id (fun e => ⟨e, c⟩), fun z => z.imp id (fun e => e.1)⟩
      · rw [if_neg c, B_0]
        exact ⟨fun z => z.elim .inl (fun e => nomatch e), fun z => z.elim .inl (fun e => absurd e.2 c)⟩
    rw [e1, e2]
    by_cases er : r = n
    · subst er
      have q1 : B (p_spread S (ch &&& S 19 t) r) r = true ↔ B ch r = true := by
        rw [sp_hi r (by omega) r (Nat.le_refl r), B_and, Bool.and_eq_true]
        exact ⟨fun z => z.1, fun z => ⟨z, hs⟩⟩
      have q2 : ¬ B (m_vd M t ch r) r = true := fun z => absurd (vd_sub h ht ch r (by omega) r z).1 (by omega)
      have q3 : (¬ S 6 r &&& p_spread S (ch &&& S 19 t) r = 0) ↔ ¬ S 6 r &&& m_vd M t ch r = 0 := by
        apply not_congr
        rw [B_and0, B_and0]
        have key : ∀ o, B (S 6 r) o = true → (B (p_spread S (ch &&& S 19 t) r) o = true ↔ B (m_vd M t ch r) o = true) := fun o ho =>
          sp_vd h ht ch r (by omega) o (h.inv.need r (by omega) o ho) ((h.inv.sol t r (by omega) hs).2.2.1 o ho)
        constructor
        · intro z o ho
          cases c : B (m_vd M t ch r) o with
          | false => rfl
          | true => have := z o ho; rw [(key o ho).mpr c] at this; cases this
        · intro z o ho
          cases c : B (p_spread S (ch &&& S 19 t) r) o with
          | false => rfl
          | true => have := z o ho; rw [(key o ho).mp c] at this; cases this
      rw [q1, q3]
      constructor
      · rintro (z | z)
        · exact .inr ⟨rfl, .inl z, hs⟩
        · exact .inr ⟨rfl, .inr z.2, hs⟩
      · rintro (z | z)
        · exact absurd z q2
        · exact z.2.1.imp id (fun e => ⟨rfl, e⟩)
    · have ih := sp_vd h ht ch n (by omega) r (by omega) hs
      rw [ih]
      exact ⟨fun z => z.imp id (fun e => absurd e.1 er), fun z => z.imp id (fun e => absurd e.1 er)⟩
theorem r_void {S M : Mem} (h : Rel S M) {t : Nat} (ht : t < cT S) : p_void S 18 t = m_void M t := by
  have hT := h.inv.i0.T8
  have hR := h.inv.i0.R16
  unfold p_void m_void
  rw [r_cheat h ht, h.R]
  apply B_xt
  intro r
  rw [B_and, Bool.and_eq_true]
  constructor
  · rintro ⟨h1, h2⟩
    have h3 : B (S 19 t) r = true := h2
    exact (sp_vd h ht _ (cR S) hR r (h.inv.solR (by omega) h3) h3).mp h1
  · intro h1
    obtain ⟨h2, h3⟩ := vd_sub h ht _ (cR S) hR r h1
    exact ⟨(sp_vd h ht _ (cR S) hR r h2 h3).mpr h1, h3⟩
theorem m_cn_bit {M : Mem} (t : Nat) (vo : Int32) : ∀ n, n ≤ 16 → ∀ r, B (m_cn M t vo n) r = true ↔ r < n ∧ (¬ M 6 (16 * t + r) = -1) ∧ B vo r = false ∧ m_free M r = false
  | 0, _, r => by
    rw [show m_cn M t vo 0 = 0 from rfl, B_0]
    exact ⟨fun z => (nomatch z), fun z => absurd z.1 (by omega)⟩
  | n + 1, hn, r => by
    rw [show m_cn M t vo (n + 1) = m_cn M t vo n ||| (if (¬ M 6 (16 * t + n) = -1) ∧ (vo >>> (nI n &&& 31)) &&& 1 = 0 ∧ m_free M n = false then bt (nI n) else 0) from rfl, B_or, Bool.or_eq_true, m_cn_bit t vo n (by omega) r]
    have ev := v1_f (x := vo) (i := n) (by omega)
    simp only [ev]
    by_cases c : (¬ M 6 (16 * t + n) = -1) ∧ B vo n = false ∧ m_free M n = false
    · rw [if_pos c, B_btA (by omega), decide_eq_true_eq]
      constructor
      · rintro (z | z)
        · exact ⟨by omega, z.2⟩
        · subst z; exact ⟨by omega, c⟩
      · rintro ⟨z1, z2⟩
        by_cases e : r = n
        · exact .inr e
        · exact .inl ⟨by omega, z2⟩
    · rw [if_neg c, B_0]
      constructor
      · rintro (z | z)
        · exact ⟨by omega, z.2⟩
        · cases z
      · rintro ⟨z1, z2⟩
        by_cases e : r = n
        · subst e; exact absurd z2 c
        · exact .inl ⟨by omega, z2⟩
theorem r_count {S M : Mem} (h : Rel S M) {t : Nat} (ht : t < cT S) : p_count S 18 t = m_cnt M t := by
  have hT := h.inv.i0.T8
  have hR := h.inv.i0.R16
  unfold p_count m_cnt
  rw [r_void h ht, h.R]
  apply B_xt
  intro r
  rw [B_diff, B_diff, Bool.and_eq_true, Bool.and_eq_true, Bool.not_eq_true', Bool.not_eq_true', m_cn_bit t _ (cR S) hR r]
  constructor
  · rintro ⟨⟨h1, h2⟩, h3⟩
    have h4 : B (S 19 t) r = true := h1
    have h5 := h.inv.solR (by omega) h4
    exact ⟨h5, (r_so h ht (by omega)).mp h4, h2, (r_free h (by omega)).symm.trans h3⟩
  · rintro ⟨h1, h2, h3, h4⟩
    exact ⟨⟨(r_so h ht (by omega)).mpr h2, h3⟩, (r_free h (by omega)).trans h4⟩
theorem m_cnt_so {S M : Mem} (h : Rel S M) {t : Nat} (ht : t < cT S) {r : Nat} (hb : B (m_cnt M t) r = true) : r < cR S ∧ B (S 19 t) r = true := by
  have hR := h.inv.i0.R16
  unfold m_cnt at hb
  rw [m_cn_bit t _ _ (by rw [h.R]; exact hR) r, h.R] at hb
  exact ⟨hb.1, (r_so h ht (by omega)).mpr hb.2.1⟩
theorem r_sumN {S M : Mem} (h : Rel S M) (t : Nat) (cnt : Int32) : ∀ n, n ≤ cR S → p_sum S 18 t cnt (p_free S 18 (cT S)) n = m_sc M t cnt n
  | 0, _ => rfl
  | n + 1, hn => by
    have hR := h.inv.i0.R16
    have ih := r_sumN h t cnt n (by omega)
    have e1 : p_sum S 18 t cnt (p_free S 18 (cT S)) (n + 1) = if hs cnt (nI n) = true then (if hs (p_free S 18 (cT S)) (nI n) = true then p_sum S 18 t cnt (p_free S 18 (cT S)) n + S 2 n else (p_sum S 18 t cnt (p_free S 18 (cT S)) n + S 2 n) - S 22 (t * 16 + n)) else (if hs (p_free S 18 (cT S)) (nI n) = true then p_sum S 18 t cnt (p_free S 18 (cT S)) n else p_sum S 18 t cnt (p_free S 18 (cT S)) n - S 22 (t * 16 + n)) := rfl
    have e2 : m_sc M t cnt (n + 1) = (m_sc M t cnt n + (if (cnt >>> (nI n &&& 31)) &&& 1 = 1 then M 1 n else 0)) - (if m_free M n = true then 0 else M 10 (16 * t + n)) := rfl
    rw [e1, e2, ih, hs_B (by omega), hs_B (by omega), r_free h (by omega), ← h.e2, ← h.e22, ix16]
    have ev := v1_t (x := cnt) (i := n) (by omega)
    simp only [ev]
    by_cases c1 : B cnt n = true
    · rw [if_pos c1, if_pos c1]
      by_cases c2 : m_free M n = true
      · rw [if_pos c2, if_pos c2, Int32.sub_zero]
      · rw [if_neg c2, if_neg c2]
    · rw [if_neg c1, if_neg c1, Int32.add_zero]
      by_cases c2 : m_free M n = true
      · rw [if_pos c2, if_pos c2, Int32.sub_zero]
      · rw [if_neg c2, if_neg c2]
theorem r_score {S M : Mem} (h : Rel S M) {t : Nat} (ht : t < cT S) : p_sumUp S 18 t (p_count S 18 t) = m_score M t := by
  unfold p_sumUp m_score
  rw [r_count h ht, h.R]
  exact r_sumN h t _ _ (Nat.le_refl _)
theorem r_laN {S M : Mem} (h : Rel S M) {t : Nat} (ht : t < cT S) : ∀ n, n ≤ cR S → p_lsm S 18 t (m_cnt M t) n = m_la M t (m_cnt M t) n
  | 0, _ => rfl
  | n + 1, hn => by
    have hR := h.inv.i0.R16
    have ih := r_laN h ht n (by omega)
    have e1 : p_lsm S 18 t (m_cnt M t) (n + 1) = if hs (m_cnt M t) (nI n) = true then imax (p_lsm S 18 t (m_cnt M t) n) (S 21 (t * 16 + n)) else p_lsm S 18 t (m_cnt M t) n := rfl
    have e2 : m_la M t (m_cnt M t) (n + 1) = if ((m_cnt M t) >>> (nI n &&& 31)) &&& 1 = 1 ∧ m_la M t (m_cnt M t) n < M 6 (16 * t + n) then M 6 (16 * t + n) else m_la M t (m_cnt M t) n := rfl
    have ev := v1_t (x := m_cnt M t) (i := n) (by omega)
    rw [e1, e2, ih, hs_B (by omega)]
    simp only [ev]
    by_cases c1 : B (m_cnt M t) n = true
    · have e3 := (h.sol t n ht (by omega)).2 (m_cnt_so h ht c1).2
      rw [if_pos c1, e3]
      unfold imax
      by_cases c2 : m_la M t (m_cnt M t) n < M 6 (16 * t + n)
      · rw [if_pos c2, if_pos ⟨c1, c2⟩]
      · rw [if_neg c2, if_neg (fun z => c2 z.2)]
    · rw [if_neg c1, if_neg (fun z => c1 z.1)]
theorem r_last {S M : Mem} (h : Rel S M) {t : Nat} (ht : t < cT S) : p_last S 18 t (p_count S 18 t) = m_last M t := by
  have hR := h.inv.i0.R16
  unfold p_last m_last
  rw [r_count h ht, h.R]
  have c : m_cnt M t &&& (S (18 + 1) t ^^^ (-1)) = 0 := B_zero.mpr fun i => by
    rw [B_diff]
    cases hb : B (m_cnt M t) i with
    | false => rfl
    | true =>
      have e : B (S (18 + 1) t) i = true := (m_cnt_so h ht hb).2
      rw [e]; rfl
  rw [if_pos c, r_lsmtop (a := cR S) (fun i hi => by
    cases hb : B (m_cnt M t) i with
    | false => rfl
    | true => have := (m_cnt_so h ht hb).1; omega) 16 hR (by omega)]
  exact r_laN h ht _ (Nat.le_refl _)
/-! hanging -/
theorem m_hg_bit {M : Mem} {r : Nat} : ∀ j, r + j < 16 → ∀ i, B (m_hg M r j) i = true → r < i ∧ i ≤ r + j
  | 0, _, i, hb => by rw [show m_hg M r 0 = 0 from rfl, B_0] at hb; cases hb
  | j + 1, hj, i, hb => by
    rw [show m_hg M r (j + 1) = m_hg M r j ||| (if M 5 (r + 1 + j) &&& (m_hg M r j ||| bt (nI r)) = 0 then 0 else bt (nI (r + 1 + j))) from rfl, B_or, Bool.or_eq_true] at hb
    rcases hb with hb | hb
    · have := m_hg_bit j (by omega) i hb; omega
    · by_cases c : M 5 (r + 1 + j) &&& (m_hg M r j ||| bt (nI r)) = 0
      · rw [if_pos c, B_0] at hb; cases hb
      · rw [if_neg c, B_btA (by omega), decide_eq_true_eq] at hb; omega
theorem sp_low {S : Mem} (h : Inv S) {r : Nat} (hr : r < 16) : ∀ n, n ≤ r + 1 → p_spread S (bt (nI r)) n = bt (nI r)
  | 0, _ => rfl
  | n + 1, hn => by
    have ih := sp_low h hr n (by omega)
    have c : S 6 n &&& bt (nI r) = 0 := B_and0.mpr fun i hi => by
      have := h.need n (by omega) i hi
      rw [B_btA (by omega), decide_eq_false (by omega)]
    rw [p_spread_s, ih, if_pos c]
theorem sp_hg {S M : Mem} (h : Rel S M) {r : Nat} (hr : r < 16) : ∀ j, r + j < 16 → p_spread S (bt (nI r)) (r + 1 + j) = m_hg M r j ||| bt (nI r)
  | 0, _ => by
    have e : m_hg M r 0 ||| bt (nI r) = bt (nI r) := B_xt fun i => by rw [show m_hg M r 0 = 0 from rfl, B_or, B_0, Bool.false_or]
    rw [e]
    exact sp_low h.inv hr _ (by omega)
  | j + 1, hj => by
    have ih := sp_hg h hr j (by omega)
    have e1 : p_spread S (bt (nI r)) (r + 1 + (j + 1)) = if S 6 (r + 1 + j) &&& p_spread S (bt (nI r)) (r + 1 + j) = 0 then p_spread S (bt (nI r)) (r + 1 + j) else p_spread S (bt (nI r)) (r + 1 + j) ||| bt (nI (r + 1 + j)) := rfl
    rw [e1, ih, show m_hg M r (j + 1) = m_hg M r j ||| (if M 5 (r + 1 + j) &&& (m_hg M r j ||| bt (nI r)) = 0 then 0 else bt (nI (r + 1 + j))) from rfl, ← h.e6]
    by_cases c : S 6 (r + 1 + j) &&& (m_hg M r j ||| bt (nI r)) = 0
    · rw [if_pos c, if_pos c]
      exact B_xt fun i => by rw [B_or, B_or, B_or, B_0, Bool.or_false]
    · rw [if_neg c, if_neg c]
      apply B_xt
      intro i
      rw [B_or, B_or, B_or, B_or, Bool.or_right_comm]
theorem r_hang {S M : Mem} (h : Rel S M) {r : Nat} (hr : r < cR S) : p_hang S r = m_hang M r := by
  have hR := h.inv.i0.R16
  unfold p_hang m_hang
  have e : cR S = r + 1 + (cR S - (r + 1)) := by omega
  rw [h.R, e, sp_hg h (by omega) (cR S - (r + 1)) (by omega)]
  have e2 : r + 1 + (cR S - (r + 1)) - (r + 1) = cR S - (r + 1) := by omega
  rw [e2]
  apply B_xt
  intro i
  rw [B_diff, B_or, Bool.and_eq_true, Bool.or_eq_true, Bool.not_eq_true']
  constructor
  · rintro ⟨z1 | z1, z2⟩
    · exact z1
    · rw [z1] at z2; cases z2
  · intro z
    have := m_hg_bit (M := M) (r := r) (cR S - (r + 1)) (by omega) i z
    exact ⟨.inl z, by rw [B_btA (by omega), decide_eq_false (by omega)]⟩
/-! counts of bits -/
theorem r_bits {x : Int32} (h : ∀ i, 16 ≤ i → B x i = false) : p_bc x = m_bits x 16 := by rw [bc_cnt h, m_bits_cnt x 16 (by omega)]
theorem m_ends_cnt (M : Mem) : ∀ n, m_ends M n = nI (cntB (m_free M) n)
  | 0 => nI_0.symm
  | n + 1 => by
    show m_ends M n + (if m_free M n = true then 1 else 0) = nI (cntB (m_free M) n + (if m_free M n = true then 1 else 0))
    rw [m_ends_cnt M n]
    by_cases c : m_free M n = true
    · rw [if_pos c, if_pos c, nI_1]
    · rw [if_neg c, if_neg c, Int32.add_zero, Nat.add_zero]
theorem r_ends {S M : Mem} (h : Rel S M) : p_bc (p_free S 18 (cT S)) = m_ends M (mR M) := by
  have hR := h.inv.i0.R16
  have hx : ∀ i, cR S ≤ i → B (p_free S 18 (cT S)) i = false := fun i hi => by
    cases hb : B (p_free S 18 (cT S)) i with
    | false => rfl
    | true => have := p_freeR h.inv _ h.inv.i0.T8 i hb; omega
  rw [bc_cnt (fun i hi => hx i (by omega)), m_ends_cnt, h.R, cntB_top (a := cR S) 16 hR (fun i h1 _ => hx i h1)]
  exact congrArg nI (cntB_congr _ fun i hi => r_free h (by omega))
end
