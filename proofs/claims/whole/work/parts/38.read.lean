section
/-! what both answer, under the relation -/
theorem ix16 (t r : Nat) : 16 * t + r = t * 16 + r := by omega
theorem ix8 (t r : Nat) : 8 * t + r = t * 8 + r := by omega
theorem r_fre {S M : Mem} (h : Rel S M) {r : Nat} (hr : r < 16) : ∀ n, n ≤ 8 → B (p_free S 18 n) r = m_fre M r n
  | 0, _ => B_0 r
  | n + 1, hn => by
    have e1 : B (S (18 + 2) n) r = !(decide (M 7 (16 * n + r) = 0)) := h.ts n r (by omega) hr
    have e2 : B (S 16 n) r = !(decide (M 8 (16 * n + r) = 0)) := h.cl n r (by omega) hr
    show B (p_free S 18 n ||| (S (18 + 2) n &&& (S 16 n ^^^ (-1)))) r = (m_fre M r n || (decide (¬ M 7 (16 * n + r) = 0) && decide (M 8 (16 * n + r) = 0)))
    rw [B_or, B_diff, r_fre h hr n (by omega), e1, e2, Bool.not_not, decide_not]
theorem r_free {S M : Mem} (h : Rel S M) {r : Nat} (hr : r < 16) : B (p_free S 18 (cT S)) r = m_free M r := by
  rw [m_free, h.T]; exact r_fre h hr _ h.inv.i0.T8
theorem p_freeR {S : Mem} (h : Inv S) : ∀ n, n ≤ 8 → ∀ r, B (p_free S 18 n) r = true → r < cR S
  | 0, _, r, hb => by rw [show p_free S 18 0 = 0 from rfl, B_0] at hb; cases hb
  | n + 1, hn, r, hb => by
    rw [show p_free S 18 (n + 1) = p_free S 18 n ||| (S (18 + 2) n &&& (S 16 n ^^^ (-1))) from rfl, B_or, B_diff, Bool.or_eq_true, Bool.and_eq_true] at hb
    rcases hb with hb | hb
    · exact p_freeR h n (by omega) r hb
    · exact h.soonR (by omega) hb.1
theorem r_lsmtop {S : Mem} {b t : Nat} {x : Int32} {a : Nat} (hx : ∀ i, a ≤ i → B x i = false) : ∀ k, a ≤ k → k ≤ 32 → p_lsm S b t x k = p_lsm S b t x a
  | 0, h, _ => by rw [Nat.le_zero.mp h]
  | k + 1, h, hk => by
    by_cases e : a = k + 1
    · rw [e]
    · rw [show p_lsm S b t x (k + 1) = if hs x (nI k) = true then imax (p_lsm S b t x k) (S (b + 3) (t * 16 + k)) else p_lsm S b t x k from rfl, hs_B (by omega), hx k (by omega), if_neg (by decide)]
      exact r_lsmtop hx k (by omega) (by omega)
theorem r_opn {S M : Mem} (h : Rel S M) {t r : Nat} (ht : t < cT S) (hr : r < 16) : ∀ i, i ≤ 16 → ((∀ o, o < i → B (S 6 r) o = true → B (S 19 t) o = true) → m_opn M t r i = p_lsm S 18 t (S 6 r) i ∧ ¬ m_opn M t r i < 0) ∧ ((¬ ∀ o, o < i → B (S 6 r) o = true → B (S 19 t) o = true) → m_opn M t r i = -1)
  | 0, _ => by
    refine ⟨fun _ => ⟨rfl, ?_⟩, fun q => absurd (fun o ho => absurd ho (by omega)) q⟩
    show ¬ (0 : Int32) < 0
    decide
  | i + 1, hi => by
    have ih := r_opn h ht hr i (by omega)
    have em : m_need M r i = B (S 6 r) i := by unfold m_need; rw [← h.e6]; exact b1_B (by omega)
    have es := h.sol t i ht (by omega)
    have e1 : m_opn M t r (i + 1) = if m_need M r i = true ∧ (¬ m_opn M t r i = -1) ∧ (M 6 (16 * t + i) = -1 ∨ m_opn M t r i < M 6 (16 * t + i)) then M 6 (16 * t + i) else m_opn M t r i := rfl
    have e2 : p_lsm S 18 t (S 6 r) (i + 1) = if hs (S 6 r) (nI i) = true then imax (p_lsm S 18 t (S 6 r) i) (S 21 (t * 16 + i)) else p_lsm S 18 t (S 6 r) i := rfl
    rw [em] at e1
    rw [hs_B (by omega)] at e2
    cases hb : B (S 6 r) i with
    | false =>
      rw [hb, if_neg (fun z => absurd z.1 (by decide))] at e1
      rw [hb, if_neg (by decide)] at e2
      rw [e1, e2]
      have hq : (∀ o, o < i → B (S 6 r) o = true → B (S 19 t) o = true) → (∀ o, o < i + 1 → B (S 6 r) o = true → B (S 19 t) o = true) := fun q o ho hx => by
        by_cases e : o = i
        · subst e; rw [hb] at hx; cases hx
        · exact q o (by omega) hx
      exact ⟨fun q => ih.1 (fun o ho => q o (by omega)), fun q => ih.2 (fun z => q (hq z))⟩
    | true =>
      rw [hb] at e1
      rw [hb, if_pos rfl] at e2
      refine ⟨fun q => ?_, fun q => ?_⟩
      · obtain ⟨a1, a2⟩ := ih.1 (fun o ho => q o (by omega))
        have a3 : ¬ m_opn M t r i = -1 := fun z => a2 (by rw [z]; decide)
        have b1 : B (S 19 t) i = true := q i (by omega) hb
        have b2 : ¬ M 6 (16 * t + i) = -1 := fun z => by
          have := es.1
          rw [b1, z] at this
          exact absurd this (by decide)
        have b3 : S 21 (t * 16 + i) = M 6 (16 * t + i) := es.2 b1
        have b4 : ¬ M 6 (16 * t + i) < 0 := by
          rw [← b3]; exact (h.inv.sol t i (by have := h.inv.i0.T8; omega) b1).2.2.2
        rw [e1, e2, b3, ← a1]
        unfold imax
        by_cases c : m_opn M t r i < M 6 (16 * t + i)
        · rw [if_pos ⟨rfl, a3, .inr c⟩, if_pos c]; exact ⟨rfl, b4⟩
        · rw [if_neg (fun z => z.2.2.elim b2 c), if_neg c]; exact ⟨rfl, a2⟩
      · by_cases q1 : ∀ o, o < i → B (S 6 r) o = true → B (S 19 t) o = true
        · obtain ⟨a1, a2⟩ := ih.1 q1
          have a3 : ¬ m_opn M t r i = -1 := fun z => a2 (by rw [z]; decide)
          have b1 : ¬ B (S 19 t) i = true := fun z => q (fun o ho hx => by
            by_cases e : o = i
            · subst e; exact z
            · exact q1 o (by omega) hx)
          have b2 : M 6 (16 * t + i) = -1 := by
            have := es.1
            rw [eq_false_of_ne_true b1] at this
            by_cases c : M 6 (16 * t + i) = -1
            · exact c
            · rw [decide_eq_false c] at this; exact absurd this (by decide)
          rw [e1, if_pos ⟨rfl, a3, .inl b2⟩, b2]
        · have a1 := ih.2 q1
          rw [e1, if_neg (fun z => z.2.1 a1)]; exact a1
theorem r_open {S M : Mem} (h : Rel S M) {t r : Nat} (ht : t < cT S) (hr : r < 16) : p_open S 18 t r = m_opened M t r := by
  have hx : ∀ i, r ≤ i → B (S 6 r) i = false := fun i hi => by
    cases hb : B (S 6 r) i with
    | false => rfl
    | true => have := h.inv.need r hr i hb; omega
  have ho := r_opn h ht hr r (by omega)
  show p_last S 18 t (S 6 r) = m_opn M t r r
  unfold p_last
  by_cases q : ∀ o, o < r → B (S 6 r) o = true → B (S 19 t) o = true
  · have c : S 6 r &&& (S (18 + 1) t ^^^ (-1)) = 0 := B_zero.mpr fun i => by
      rw [B_diff]
      cases hb : B (S 6 r) i with
      | false => rfl
      | true =>
        have e : B (S (18 + 1) t) i = true := q i (h.inv.need r hr i hb) hb
        rw [e]; rfl
    rw [if_pos c, (ho.1 q).1, r_lsmtop hx 16 (by omega) (by omega)]
  · have c : ¬ S 6 r &&& (S (18 + 1) t ^^^ (-1)) = 0 := fun z => q fun i hi hb => by
      have := B_zero.mp z i
      rw [B_diff, hb] at this
      cases e : B (S 19 t) i with
      | true => rfl
      | false =>
        have e2 : B (S (18 + 1) t) i = false := e
        rw [e2] at this; exact absurd this (by decide)
    rw [if_neg c, ho.2 q]
theorem r_pr {S M : Mem} (h : Rel S M) (t r : Nat) : ∀ n, m_pr M t r n = m_pr M t r 0 - nI (p_buy S r (S 13 (t * 16 + r)) n)
  | 0 => by
    show m_pr M t r 0 = m_pr M t r 0 - nI 0
    rw [nI_0, Int32.sub_zero]
  | n + 1 => by
    have e1 : m_pr M t r (n + 1) = m_pr M t r n - (if M 9 (16 * t + r) < M 9 (16 * n + r) then 1 else 0) := rfl
    have e2 : p_buy S r (S 13 (t * 16 + r)) (n + 1) = if S 13 (t * 16 + r) < S 13 (n * 16 + r) then p_buy S r (S 13 (t * 16 + r)) n + 1 else p_buy S r (S 13 (t * 16 + r)) n := rfl
    rw [e1, e2, r_pr h t r n, ix16 t r, ix16 n r, ← h.e13]
    by_cases c : S 13 (t * 16 + r) < S 13 (n * 16 + r)
    · rw [if_pos c, if_pos c, Int32.sub_sub, nI_1]
    · rw [if_neg c, if_neg c, Int32.sub_zero]
theorem p_buy_top {S : Mem} {r : Nat} {x : Int32} {a : Nat} : ∀ k, a ≤ k → (∀ i, a ≤ i → i < k → ¬ x < S 13 (i * 16 + r)) → p_buy S r x k = p_buy S r x a
  | 0, h, _ => by rw [Nat.le_zero.mp h]
  | k + 1, h, hx => by
    by_cases e : a = k + 1
    · rw [e]
    · rw [show p_buy S r x (k + 1) = if x < S 13 (k * 16 + r) then p_buy S r x k + 1 else p_buy S r x k from rfl, if_neg (hx k (by omega) (by omega))]
      exact p_buy_top k (by omega) (fun i h1 h2 => hx i h1 (by omega))
theorem bo_pos {S : Mem} (h : I0 S) {c : Nat} (hc : c < 128) : ¬ S 13 c < 0 := by
  rw [h.bo hc]; exact nI_pos (by have := h.bo3 hc; omega)
theorem r_price {S M : Mem} (h : Rel S M) {t r : Nat} (ht : t < cT S) (hr : r < 16) : p_price S t r = m_price M t r := by
  have hT := h.inv.i0.T8
  have e : m_pr M t r (mT M) = S 5 r - (S 0 10 - p_open S 18 t r) / 10 - nI (p_buy S r (S 13 (t * 16 + r)) 8) := by
    rw [h.T, r_pr h t r (cT S), p_buy_top (a := cT S) 8 hT (fun i h1 h2 => by
      rw [h.inv.bo i r h1 h2 hr]; exact bo_pos h.inv.i0 (by omega)), r_open h ht hr, h.e5, h.eW]
    rfl
  unfold p_price m_price imax
  rw [e]
theorem m_gave_B (M : Mem) (x r w : Int32) : ∀ n, m_gave M x r w n = gB (M 11) (M 12) (M 13) x r w n
  | 0 => rfl
  | n + 1 => by
    show (m_gave M x r w n || _) = (gB (M 11) (M 12) (M 13) x r w n || _)
    rw [m_gave_B M x r w n]
theorem m_first_B (M : Mem) (k : Nat) : m_first M k = fB (M 11) (M 12) (M 13) (M 2) k := by unfold m_first fB; rw [m_gave_B]; rfl
theorem m_comm_B (M : Mem) (k o : Nat) : m_comm M k o = (fB (M 11) (M 12) (M 13) (M 2) k && gB (M 11) (M 12) (M 13) (nI o) (M 12 k) (M 13 k) (mN M)) := by unfold m_comm; rw [m_first_B, m_gave_B]
theorem m_lk_B (M : Mem) (t o : Nat) : ∀ n, m_lk M t o n = nI (lB (M 11) (M 12) (M 13) (M 2) (mN M) t o n)
  | 0 => nI_0.symm
  | n + 1 => by
    show m_lk M t o n + (if M 11 n = nI t ∧ m_comm M n o = true then 1 else 0) = nI (lB (M 11) (M 12) (M 13) (M 2) (mN M) t o n + (if M 11 n = nI t ∧ (fB (M 11) (M 12) (M 13) (M 2) n && gB (M 11) (M 12) (M 13) (nI o) (M 12 n) (M 13 n) (mN M)) = true then 1 else 0))
    rw [m_lk_B M t o n, m_comm_B]
    by_cases c : M 11 n = nI t ∧ (fB (M 11) (M 12) (M 13) (M 2) n && gB (M 11) (M 12) (M 13) (nI o) (M 12 n) (M 13 n) (mN M)) = true
    · rw [if_pos c, if_pos c, nI_1]
    · rw [if_neg c, if_neg c, Int32.add_zero, Nat.add_zero]
theorem r_like {S M : Mem} (h : Rel S M) {t o : Nat} (ht : t < 8) (ho : o < 8) : S 23 (t * 8 + o) = m_like M t o := by
  rw [h.inv.like t o ht ho, m_like, m_lk_B, h.e8, h.e9, h.e10, h.e3, h.N]
theorem r_links {S M : Mem} (h : Rel S M) {t o : Nat} (ht : t < 8) (ho : o < 8) : p_links S t o (S 23 (t * 8 + o)) = m_are M t o := by
  unfold p_links m_are
  rw [r_like h ht ho, hs_B (by omega), (h.par t o ht ho).1, h.eB, Bool.not_not]
  congr 1
  exact Bool.and_comm _ _
theorem p_cheat_bit (S : Mem) (b t : Nat) : ∀ n r, B (p_cheat S b t n) r = true ↔ ∃ o, o < n ∧ p_links S t o (S (b + 5) (t * 8 + o)) = true ∧ B (S (b + 6) (t * 8 + o)) r = true
  | 0, r => by
    rw [show p_cheat S b t 0 = 0 from rfl, B_0]
    exact ⟨fun z => (nomatch z), fun ⟨o, ho, _⟩ => absurd ho (by omega)⟩
  | n + 1, r => by
    have ih := p_cheat_bit S b t n r
    rw [show p_cheat S b t (n + 1) = if p_links S t n (S (b + 5) (t * 8 + n)) = true then p_cheat S b t n ||| S (b + 6) (t * 8 + n) else p_cheat S b t n from rfl]
    by_cases c : p_links S t n (S (b + 5) (t * 8 + n)) = true
    · rw [if_pos c, B_or, Bool.or_eq_true, ih]
      constructor
      · rintro (⟨o, ho, h1⟩ | h1)
        · exact ⟨o, by omega, h1⟩
        · exact ⟨n, by omega, c, h1⟩
      · rintro ⟨o, ho, h1, h2⟩
        by_cases e : o = n
        · subst e; exact .inr h2
        · exact .inl ⟨o, by omega, h1, h2⟩
    · rw [if_neg c, ih]
      constructor
      · rintro ⟨o, ho, h1⟩; exact ⟨o, by omega, h1⟩
      · rintro ⟨o, ho, h1, h2⟩
        by_cases e : o = n
        · subst e; exact absurd h1 c
        · exact ⟨o, by omega, h1, h2⟩
theorem m_ch2_bit {M : Mem} (hJ : J0 M) (t o : Nat) (s : Int32) (r : Nat) : ∀ k, k ≤ mN M → (B (m_ch2 M t o s k) r = true ↔ B s r = true ∨ ∃ j, j < k ∧ M 11 j = nI t ∧ m_comm M j o = true ∧ r = mq M j)
  | 0, _ => by
    rw [show m_ch2 M t o s 0 = s from rfl]
    exact ⟨.inl, fun z => z.elim id fun ⟨j, hj, _⟩ => absurd hj (by omega)⟩
  | k + 1, hk => by
    have ih := m_ch2_bit hJ t o s r k (by omega)
    rw [show m_ch2 M t o s (k + 1) = m_ch2 M t o s k ||| (if M 11 k = nI t ∧ m_comm M k o = true then bt (M 12 k) else 0) from rfl, B_or, Bool.or_eq_true, ih]
    have hq := hJ.q (k := k) (by omega)
    have hq16 := hJ.q16 (k := k) (by omega)
    by_cases c : M 11 k = nI t ∧ m_comm M k o = true
    · rw [if_pos c, hq, B_btA (by omega), decide_eq_true_eq]
      constructor
      · rintro ((h1 | ⟨j, hj, h1⟩) | h1)
        · exact .inl h1
        · exact .inr ⟨j, by omega, h1⟩
        · exact .inr ⟨k, by omega, c.1, c.2, h1⟩
      · rintro (h1 | ⟨j, hj, h1, h2, h3⟩)
        · exact .inl (.inl h1)
        · by_cases e : j = k
          · subst e; exact .inr h3
          · exact .inl (.inr ⟨j, by omega, h1, h2, h3⟩)
    · rw [if_neg c, B_0]
      constructor
      · rintro ((h1 | ⟨j, hj, h1⟩) | h1)
        · exact .inl h1
        · exact .inr ⟨j, by omega, h1⟩
        · cases h1
      · rintro (h1 | ⟨j, hj, h1, h2, h3⟩)
        · exact .inl (.inl h1)
        · by_cases e : j = k
          · subst e; exact absurd ⟨h1, h2⟩ c
          · exact .inl (.inr ⟨j, by omega, h1, h2, h3⟩)
theorem m_comm_cP {M : Mem} (hJ : J0 M) (t o r : Nat) : (∃ j, j < mN M ∧ M 11 j = nI t ∧ m_comm M j o = true ∧ r = mq M j) ↔ r < 16 ∧ cP (M 11) (M 12) (M 13) (M 2) (mN M) t o r := by
  constructor
  · rintro ⟨j, hj, h1, h2, h3⟩
    rw [m_comm_B, Bool.and_eq_true] at h2
    obtain ⟨h4, h5⟩ := h2
    unfold fB at h4
    rw [Bool.and_eq_true, decide_eq_true_eq] at h4
    have hq := hJ.q hj
    rw [← h3] at hq
    have e : iN (M 12 j) = r := by rw [h3]; rfl
    rw [e] at h4
    rw [hq] at h5
    exact ⟨by rw [h3]; exact hJ.q16 hj, M 13 j, h4.1, gB_iff.mpr ⟨j, hj, h1, hq, rfl⟩, h5⟩
  · rintro ⟨hr, v, h1, h2, h3⟩
    obtain ⟨k, hk, a1, a2, a3, a4⟩ := gB_first h2
    have e : iN (nI r) = r := iN_nI (by omega)
    refine ⟨k, hk, a1, ?_, ?_⟩
    · rw [m_comm_B, Bool.and_eq_true]
      refine ⟨?_, by rw [a2, a3]; exact h3⟩
      unfold fB
      rw [a1, a2, a3, a4, e, decide_eq_true h1]; rfl
    · show r = iN (M 12 k)
      rw [a2, e]
theorem m_ch_bit {M : Mem} (hJ : J0 M) (t r : Nat) : ∀ n, B (m_ch M t n) r = true ↔ ∃ o, o < n ∧ m_are M t o = true ∧ r < 16 ∧ cP (M 11) (M 12) (M 13) (M 2) (mN M) t o r
  | 0 => by
    rw [show m_ch M t 0 = 0 from rfl, B_0]
    exact ⟨fun z => (nomatch z), fun ⟨o, ho, _⟩ => absurd ho (by omega)⟩
  | n + 1 => by
    have ih := m_ch_bit hJ t r n
    rw [show m_ch M t (n + 1) = if m_are M t n = true then m_ch2 M t n (m_ch M t n) (mN M) else m_ch M t n from rfl]
    by_cases c : m_are M t n = true
    · rw [if_pos c, m_ch2_bit hJ t n _ r _ (Nat.le_refl _), m_comm_cP hJ, ih]
      constructor
      · rintro (⟨o, ho, h1⟩ | h1)
        · exact ⟨o, by omega, h1⟩
        · exact ⟨n, by omega, c, h1⟩
      · rintro ⟨o, ho, h1, h2⟩
        by_cases e : o = n
        · subst e; exact .inr h2
        · exact .inl ⟨o, by omega, h1, h2⟩
    · rw [if_neg c, ih]
      constructor
      · rintro ⟨o, ho, h1⟩; exact ⟨o, by omega, h1⟩
      · rintro ⟨o, ho, h1, h2⟩
        by_cases e : o = n
        · subst e; exact absurd h1 c
        · exact ⟨o, by omega, h1, h2⟩
theorem m_are_ne {M : Mem} {t o : Nat} (h : m_are M t o = true) : ¬ t = o := by
  unfold m_are at h
  rw [Bool.and_eq_true, decide_eq_true_eq] at h
  exact h.1
theorem r_cheat {S M : Mem} (h : Rel S M) {t : Nat} (ht : t < cT S) : p_cheat S 18 t (cT S) = m_cheat M t := by
  have hT := h.inv.i0.T8
  apply B_xt
  intro r
  rw [m_cheat, p_cheat_bit, m_ch_bit h.J, h.T]
  constructor
  · rintro ⟨o, ho, h1, h2⟩
    have h3 : m_are M t o = true := (r_links h (by omega) (by omega)).symm.trans h1
    have h4 := (h.inv.comm t o (by omega) (by omega) (m_are_ne h3) r).mp h2
    rw [h.e8, h.e9, h.e10, h.e3, ← h.N] at h4
    exact ⟨o, ho, h3, h4⟩
  · rintro ⟨o, ho, h3, h4⟩
    rw [h.N, ← h.e8, ← h.e9, ← h.e10, ← h.e3] at h4
    exact ⟨o, ho, (r_links h (by omega) (by omega)).trans h3, (h.inv.comm t o (by omega) (by omega) (m_are_ne h3) r).mpr h4⟩
end
