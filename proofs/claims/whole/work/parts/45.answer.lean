section
/-! answer -/
theorem Inv_ans {S S1 : Mem} (h : Inv S) {t r : Nat} {w : Int32} (ht : t < cT S) (hr : r < cR S) (hN : cN S < 200) (e : ∀ c, (c < 19 ∨ c = 22 ∨ 24 < c) → S1 c = S c) (hsol : iSol (S1 19) (S1 21) (S 6) (S 1 5 ||| bt (nI r)) (cT S)) (hsoon : iSoon (S1 20) (S1 19)) (hlike : iLike (S1 23) (upd (S 8) (cN S) (nI t)) (upd (S 9) (cN S) (nI r)) (upd (S 10) (cN S) w) (S 3) (cN S + 1)) (hcomm : iComm (S1 24) (upd (S 8) (cN S) (nI t)) (upd (S 9) (cN S) (nI r)) (upd (S 10) (cN S) w) (S 3) (cN S + 1)) (hrep : iRep (ansN S S1 t r w)) : Inv (ansN S S1 t r w) := by
  have hT := h.i0.T8
  have hR := h.i0.R16
  have aN : cN S1 = cN S := cN_congr (e 7 (by omega))
  have x0 : ansN S S1 t r w 0 = S 0 := e 0 (by omega)
  have x3 : ansN S S1 t r w 3 = S 3 := e 3 (by omega)
  have x6 : ansN S S1 t r w 6 = S 6 := e 6 (by omega)
  have x13 : ansN S S1 t r w 13 = S 13 := e 13 (by omega)
  have x14 : ansN S S1 t r w 14 = S 14 := e 14 (by omega)
  have x22 : ansN S S1 t r w 22 = S 22 := e 22 (by omega)
  have x8 : ansN S S1 t r w 8 = upd (S 8) (cN S) (nI t) := by
    show upd (S1 8) (cN S1) (nI t) = _
    rw [aN, e 8 (by omega)]
  have x9 : ansN S S1 t r w 9 = upd (S 9) (cN S) (nI r) := by
    show upd (S1 9) (cN S1) (nI r) = _
    rw [aN, e 9 (by omega)]
  have x10 : ansN S S1 t r w 10 = upd (S 10) (cN S) w := by
    show upd (S1 10) (cN S1) w = _
    rw [aN, e 10 (by omega)]
  have x16 : ansN S S1 t r w 1 6 = S 1 6 := congrFun (e 1 (by omega)) 6
  have x15 : ansN S S1 t r w 1 5 = S 1 5 ||| bt (nI r) := by
    show S1 1 5 ||| bt (nI r) = _
    rw [e 1 (by omega)]
  have x7 : ansN S S1 t r w 7 4 = nI (cN S + 1) := by
    show nI (cN S1 + 1) = _
    rw [aN]
  have cN' : cN (ansN S S1 t r w) = cN S + 1 := by
    unfold cN at *
    rw [x7]; exact iN_nI (by omega)
  have cT' : cT (ansN S S1 t r w) = cT S := cT_congr x0
  have cR' : cR (ansN S S1 t r w) = cR S := by unfold cR; rw [x16]
  have hI : I0 (ansN S S1 t r w) := by
    refine ⟨by rw [cT', x0]; exact h.i0.1, by rw [cR', x16]; exact h.i0.2.1, by rw [cN', x7]; exact ⟨rfl, by omega⟩, fun k hk => ?_, by rw [x13]; exact h.i0.2.2.2.2⟩
    rw [cN'] at hk
    unfold aT aR
    rw [x8, x9]
    by_cases q : k = cN S
    · rw [q, pk_us, pk_us, iN_nI (by omega), iN_nI (by omega)]
      exact ⟨⟨rfl, by omega⟩, rfl, by omega⟩
    · rw [pk_un q, pk_un q]
      exact h.i0.2.2.2.1 k (by omega)
  refine ⟨⟨hI, by rw [x0]; exact h.now, by rw [x6]; exact h.need, ?_, by rw [x13, cT']; exact h.bo, ?_⟩, ⟨?_, hsoon⟩, ⟨?_, ?_⟩, hrep, by rw [x22, x14, x13]; exact h.pay⟩
  · rw [x8, x9, cT', cR', cN']
    intro k hk
    by_cases q : k = cN S
    · rw [q, pk_us, pk_us]; exact ⟨⟨t, ht, rfl⟩, r, hr, rfl⟩
    · rw [pk_un q, pk_un q]; exact h.log k (by omega)
  · rw [x15, x9, x13, cR', cN']
    refine ⟨fun r' hr' => ?_, fun r' hb => ?_⟩
    · rw [B_or1t (by omega), h.tou.1 r' hr']
      constructor
      · rintro ((⟨k, hk, z⟩ | z) | z)
        · exact .inl ⟨k, by omega, by rw [pk_un (by omega)]; exact z⟩
        · exact .inr z
        · exact .inl ⟨cN S, by omega, by rw [pk_us, z]⟩
      · rintro (⟨k, hk, z⟩ | z)
        · by_cases q : k = cN S
          · rw [q, pk_us] at z
            exact .inr (n_inj8 (by omega) (by omega) z).symm
          · rw [pk_un q] at z
            exact .inl (.inl ⟨k, by omega, z⟩)
        · exact .inl (.inr z)
    · rcases (B_or1t (by omega)).mp hb with z | z
      · exact h.tou.2 r' z
      · rw [z]; exact hr
  · rw [x6, x15, cT']; exact hsol
  · rw [x8, x9, x10, x3, cN']; exact hlike
  · rw [x8, x9, x10, x3, cN']; exact hcomm
/-- the replay of one answer more -/
theorem iRep_ans {S S1 : Mem} (h : Inv S) {t r : Nat} {w : Int32} (ht : t < cT S) (hr : r < cR S) (hN : cN S < 200) (e : ∀ c, (c < 19 ∨ c = 22 ∨ 24 < c) → S1 c = S c) (hs : (w = S 3 r ∧ S1 19 = p_noteS S 18 t r (S 0 10) 19 ∧ S1 20 = p_noteS S 18 t r (S 0 10) 20 ∧ S1 21 = p_noteS S 18 t r (S 0 10) 21) ∨ ((¬ w = S 3 r) ∧ S1 19 = S 19 ∧ S1 20 = S 20 ∧ S1 21 = S 21)) : iRep (ansN S S1 t r w) := by
  have hT := h.i0.T8
  have hR := h.i0.R16
  have aN : cN S1 = cN S := cN_congr (e 7 (by omega))
  have x3 : ansN S S1 t r w 3 = S 3 := e 3 (by omega)
  have x4 : ansN S S1 t r w 4 = S 4 := e 4 (by omega)
  have x6 : ansN S S1 t r w 6 = S 6 := e 6 (by omega)
  have x8 : ansN S S1 t r w 8 = upd (S 8) (cN S) (nI t) := by
    show upd (S1 8) (cN S1) (nI t) = _
    rw [aN, e 8 (by omega)]
  have x9 : ansN S S1 t r w 9 = upd (S 9) (cN S) (nI r) := by
    show upd (S1 9) (cN S1) (nI r) = _
    rw [aN, e 9 (by omega)]
  have x10 : ansN S S1 t r w 10 = upd (S 10) (cN S) w := by
    show upd (S1 10) (cN S1) w = _
    rw [aN, e 10 (by omega)]
  have x11 : ansN S S1 t r w 11 = upd (S 11) (cN S) (S 0 10) := by
    show upd (S1 11) (cN S1) (S1 0 10) = _
    rw [aN, e 11 (by omega), e 0 (by omega)]
  have x7 : ansN S S1 t r w 7 4 = nI (cN S + 1) := by
    show nI (cN S1 + 1) = _
    rw [aN]
  have cN' : cN (ansN S S1 t r w) = cN S + 1 := by
    unfold cN at *
    rw [x7]; exact iN_nI (by omega)
  have aT' : aT (ansN S S1 t r w) (cN S) = t := by
    unfold aT
    rw [x8, pk_us]; exact iN_nI (by omega)
  have aR' : aR (ansN S S1 t r w) (cN S) = r := by
    unfold aR
    rw [x9, pk_us]; exact iN_nI (by omega)
  have hpr : p_right (ansN S S1 t r w) (cN S) = decide (w = S 3 r) := by
    unfold p_right
    rw [aR', x10, x3, pk_us]
  have hrp : Eq3 (p_replay (p_wipe (ansN S S1 t r w)) (cN S)) 25 (p_replay (p_wipe S) (cN S)) 25 := rp_congr (cN S) (fun k hk => by
    rw [x8, x9, x10, x11, x3, x4, x6, pk_un (by omega), pk_un (by omega), pk_un (by omega), pk_un (by omega)]
    exact ⟨⟨rfl, rfl, rfl, rfl⟩, h.i0.xT8 hk, rfl, rfl, rfl⟩)
  have h18 : Eq3 S 18 (p_replay (p_wipe (ansN S S1 t r w)) (cN S)) 25 := h.rep.trans hrp.symm
  unfold iRep
  rw [cN', rp_step, hpr, aT', aR']
  rcases hs with ⟨hw, e19, e20, e21⟩ | ⟨hw, e19, e20, e21⟩
  · rw [decide_eq_true hw, if_pos rfl, x11, pk_us]
    have h2 := noteS_eq (m := S 0 10) h18 (show t < 8 by omega) (show S 4 r = p_replay (p_wipe (ansN S S1 t r w)) (cN S) 4 r by rw [rp_cell _ _ (by omega), x4]) (show S 6 r = p_replay (p_wipe (ansN S S1 t r w)) (cN S) 6 r by rw [rp_cell _ _ (by omega), x6])
    refine Eq3.trans ?_ h2
    exact ⟨fun i _ => ⟨congrFun e19 i, congrFun e20 i⟩, fun i _ => congrFun e21 i⟩
  · rw [decide_eq_false hw, if_neg (by decide)]
    refine Eq3.trans ?_ h18
    exact ⟨fun i _ => ⟨congrFun e19 i, congrFun e20 i⟩, fun i _ => congrFun e21 i⟩
theorem open_solved {S : Mem} {t r : Nat} (h : ¬ p_open S 18 t r = -1) {o : Nat} (ho : B (S 6 r) o = true) : B (S 19 t) o = true := by
  unfold p_open p_last at h
  by_cases c : S 6 r &&& (S (18 + 1) t ^^^ (-1)) = 0
  · have := B_zero.mp c o
    rw [B_diff, ho, Bool.true_and, Bool.not_eq_false'] at this
    exact this
  · rw [if_neg c] at h; exact absurd rfl h
theorem now_pos {S : Mem} (h : Inv S) : ¬ S 0 10 < 0 := by
  obtain ⟨n, hn, e⟩ := h.now
  rw [e]; exact nI_pos (by omega)
theorem Inv_right {S : Mem} (h : Inv S) {t r : Nat} {w : Int32} (ht : t < cT S) (hr : r < cR S) (hN : cN S < 200) (hw : w = S 3 r) (hop : ¬ p_open S 18 t r = -1) : Inv (ansN S (p_noteS S 18 t r (S 0 10)) t r w) := by
  have hT := h.i0.T8
  have hR := h.i0.R16
  have e : ∀ c, (c < 19 ∨ c = 22 ∨ 24 < c) → p_noteS S 18 t r (S 0 10) c = S c := fun c hc => fr_noteS (by omega)
  have s19 : p_noteS S 18 t r (S 0 10) 19 = upd (S 19) t (S 19 t ||| bt (nI r)) := solve_1 _
  have s20 : p_noteS S 18 t r (S 0 10) 20 = if decide (¬ S 4 r ≤ S 0 10 - p_open S 18 t r) = true then upd (S 20) t (S 20 t ||| bt (nI r)) else S 20 := solve_2 _
  have s21 : p_noteS S 18 t r (S 0 10) 21 = upd (S 21) (t * 16 + r) (S 0 10) := solve_3 _
  have s23 : p_noteS S 18 t r (S 0 10) 23 = S 23 := fr_noteS (by omega)
  have s24 : p_noteS S 18 t r (S 0 10) 24 = S 24 := fr_noteS (by omega)
  refine Inv_ans h ht hr hN e ?_ ?_ ?_ ?_ (iRep_ans h ht hr hN e (.inl ⟨hw, rfl, rfl, rfl⟩))
  · rw [s19, s21]
    intro t' i ht' hb
    by_cases q : t' = t
    · subst q
      rw [pk_us] at hb ⊢
      by_cases q2 : i = r
      · subst q2
        refine ⟨ht, (B_or1t (by omega)).mpr (.inr rfl), fun o ho => (B_or1t (by omega)).mpr (.inl (open_solved hop ho)), ?_⟩
        rw [pk_us]; exact now_pos h
      · have hb2 : B (S 19 t') i = true := ((B_or1t (by omega)).mp hb).elim id (fun z => absurd z q2)
        obtain ⟨h1, h2, h3, h4⟩ := h.sol t' i ht' hb2
        refine ⟨h1, (B_or1t (by omega)).mpr (.inl h2), fun o ho => (B_or1t (by omega)).mpr (.inl (h3 o ho)), ?_⟩
        rw [pk_un (by omega)]; exact h4
    · rw [pk_un q] at hb ⊢
      obtain ⟨h1, h2, h3, h4⟩ := h.sol t' i ht' hb
      have hi : i < cR S := h.solR ht' hb
      refine ⟨h1, (B_or1t (by omega)).mpr (.inl h2), h3, ?_⟩
      rw [pk_un (by omega)]; exact h4
  · rw [s19, s20]
    intro t' i ht' hb
    by_cases q : t' = t
    · subst q
      rw [pk_us]
      by_cases c : decide (¬ S 4 r ≤ S 0 10 - p_open S 18 t' r) = true
      · rw [if_pos c, pk_us] at hb
        exact (B_or1t (by omega)).mpr (((B_or1t (by omega)).mp hb).imp (h.soon t' i ht') id)
      · rw [if_neg c] at hb
        exact (B_or1t (by omega)).mpr (.inl (h.soon t' i ht' hb))
    · rw [pk_un q]
      by_cases c : decide (¬ S 4 r ≤ S 0 10 - p_open S 18 t r) = true
      · rw [if_pos c, pk_un q] at hb; exact h.soon t' i ht' hb
      · rw [if_neg c] at hb; exact h.soon t' i ht' hb
  · rw [s23]
    intro x y hx hy
    rw [h.like x y hx hy, lB_right (by omega) hw]
  · rw [s24]
    intro x y hx hy hxy z
    rw [h.comm x y hx hy hxy z]
    constructor
    · rintro ⟨h1, h2⟩; exact ⟨h1, (cP_right (by omega) h1 hw).mpr h2⟩
    · rintro ⟨h1, h2⟩; exact ⟨h1, (cP_right (by omega) h1 hw).mp h2⟩
theorem gB_T {S : Mem} (h : Inv S) {x : Nat} {a v : Int32} (hx : x < 16) (hb : gB (S 8) (S 9) (S 10) (nI x) a v (cN S) = true) : x < cT S := by
  have hT := h.i0.T8
  obtain ⟨k, hk, z, _⟩ := gB_iff.mp hb
  obtain ⟨t, ht, z2⟩ := (h.log k hk).1
  rw [z2] at z
  have := n_inj8 (by omega) hx z
  omega
theorem Inv_wrong {S : Mem} (h : Inv S) {t r : Nat} {w : Int32} (ht : t < cT S) (hr : r < cR S) (hN : cN S < 200) (hw : ¬ w = S 3 r) : Inv (ansN S (p_noteW S t r w) t r w) := by
  have hT := h.i0.T8
  have hR := h.i0.R16
  have e : ∀ c, (c < 19 ∨ c = 22 ∨ 24 < c) → p_noteW S t r w c = S c := fun c hc => fr_noteW (by omega)
  have s19 : p_noteW S t r w 19 = S 19 := fr_noteW (by omega)
  have s20 : p_noteW S t r w 20 = S 20 := fr_noteW (by omega)
  have s21 : p_noteW S t r w 21 = S 21 := fr_noteW (by omega)
  have hg : ∀ o, o < 16 → B (p_give S r w (cN S)) o = gB (S 8) (S 9) (S 10) (nI o) (nI r) w (cN S) := fun o ho => give_bit h.i0 r w ho (cN S) (Nat.le_refl _)
  refine Inv_ans h ht hr hN e (by rw [s19, s21]; exact iSol_x h.sol (by omega)) (by rw [s19, s20]; exact h.soon) ?_ ?_ (iRep_ans h ht hr hN e (.inr ⟨hw, s19, s20, s21⟩))
  · by_cases c : B (p_give S r w (cN S)) t = true
    · have e1 : p_noteW S t r w = S := by unfold p_noteW; rw [hs_B (by omega), if_pos c]
      rw [e1]
      rw [hg t (by omega)] at c
      intro x y hx hy
      rw [h.like x y hx hy, lB_again c]
    · have e1 : p_noteW S t r w = p_nwl S (p_give S r w (cN S)) t r (cT S) := by unfold p_noteW; rw [hs_B (by omega), if_neg c]
      have c' := eq_false_of_ne_true c
      rw [e1]
      intro x y hx hy
      have hv := nwl_val (S := S) (g := p_give S r w (cN S)) (t := t) (r := r) (c := 23) (p := fun z => z + 1) (by omega) c' (fun Z o ho hne => common_5 (b := 18) (by omega) ho hne) hx hy (cT S) hT
      rw [hv, hg x (by omega), hg y (by omega), h.like x y hx hy]
      rw [hg t (by omega)] at c'
      by_cases q : x = y
      · subst q
        rw [if_pos rfl, if_neg (fun z => z.elim (fun z2 => by rw [z2.1, c'] at z2; exact absurd z2.2.2 (by decide)) (fun z2 => by rw [z2.1, c'] at z2; exact absurd z2.2.2 (by decide))), if_pos rfl]
      · rw [if_neg q, if_neg q, lB_wrong hx hy (by omega) (by omega) q hw c']
        by_cases d : (x = t ∧ gB (S 8) (S 9) (S 10) (nI y) (nI r) w (cN S) = true) ∨ (y = t ∧ gB (S 8) (S 9) (S 10) (nI x) (nI r) w (cN S) = true)
        · rw [if_pos d, if_pos (d.imp (fun z => ⟨z.1, gB_T h (by omega) z.2, z.2⟩) (fun z => ⟨z.1, gB_T h (by omega) z.2, z.2⟩))]
          exact nI_1 _
        · rw [if_neg d, if_neg (fun z => d (z.imp (fun z2 => ⟨z2.1, z2.2.2⟩) (fun z2 => ⟨z2.1, z2.2.2⟩))), Nat.add_zero]
  · by_cases c : B (p_give S r w (cN S)) t = true
    · have e1 : p_noteW S t r w = S := by unfold p_noteW; rw [hs_B (by omega), if_pos c]
      rw [e1]
      rw [hg t (by omega)] at c
      intro x y hx hy hxy z
      rw [h.comm x y hx hy hxy z, cP_again c]
    · have e1 : p_noteW S t r w = p_nwl S (p_give S r w (cN S)) t r (cT S) := by unfold p_noteW; rw [hs_B (by omega), if_neg c]
      have c' := eq_false_of_ne_true c
      rw [e1]
      intro x y hx hy hxy z
      have hv := nwl_val (S := S) (g := p_give S r w (cN S)) (t := t) (r := r) (c := 24) (p := fun z => z ||| bt (nI r)) (by omega) c' (fun Z o ho hne => common_6 (b := 18) (by omega) ho hne) hx hy (cT S) hT
      rw [hv, hg x (by omega), hg y (by omega)]
      have hcm := h.comm x y hx hy hxy z
      by_cases d : (x = t ∧ gB (S 8) (S 9) (S 10) (nI y) (nI r) w (cN S) = true) ∨ (y = t ∧ gB (S 8) (S 9) (S 10) (nI x) (nI r) w (cN S) = true)
      · rw [if_pos (d.imp (fun z => ⟨z.1, gB_T h (by omega) z.2, z.2⟩) (fun z => ⟨z.1, gB_T h (by omega) z.2, z.2⟩))]
        rw [B_or1t (by omega), hcm]
        constructor
        · rintro (⟨z1, z2⟩ | z1)
          · exact ⟨z1, (cP_wrong hx hy (by omega) (by omega) z1 hxy hw).mpr (.inl z2)⟩
          · exact ⟨by omega, (cP_wrong hx hy (by omega) (by omega) (by omega) hxy hw).mpr (.inr ⟨z1, d⟩)⟩
        · rintro ⟨z1, z2⟩
          rcases (cP_wrong hx hy (by omega) (by omega) z1 hxy hw).mp z2 with z3 | z3
          · exact .inl ⟨z1, z3⟩
          · exact .inr z3.1
      · rw [if_neg (fun z => d (z.imp (fun z2 => ⟨z2.1, z2.2.2⟩) (fun z2 => ⟨z2.1, z2.2.2⟩))), hcm]
        constructor
        · rintro ⟨z1, z2⟩; exact ⟨z1, (cP_wrong hx hy (by omega) (by omega) z1 hxy hw).mpr (.inl z2)⟩
        · rintro ⟨z1, z2⟩
          rcases (cP_wrong hx hy (by omega) (by omega) z1 hxy hw).mp z2 with z3 | z3
          · exact ⟨z1, z3⟩
          · exact absurd z3.2 d
/-! the model's side -/
theorem opn_congr {M M' : Mem} (h5 : M' 5 = M 5) (h6 : M' 6 = M 6) (t r : Nat) : ∀ i, m_opn M' t r i = m_opn M t r i
  | 0 => rfl
  | i + 1 => by
    have en : m_need M' r i = m_need M r i := by unfold m_need; rw [h5]
    show (if m_need M' r i = true ∧ (¬ m_opn M' t r i = -1) ∧ (M' 6 (16 * t + i) = -1 ∨ m_opn M' t r i < M' 6 (16 * t + i)) then M' 6 (16 * t + i) else m_opn M' t r i) = (if m_need M r i = true ∧ (¬ m_opn M t r i = -1) ∧ (M 6 (16 * t + i) = -1 ∨ m_opn M t r i < M 6 (16 * t + i)) then M 6 (16 * t + i) else m_opn M t r i)
    rw [opn_congr h5 h6 t r i, en, h6]
theorem Req_ans {S S1 M M' : Mem} (h : Rel S M) {t r : Nat} {w : Int32} (e : ∀ c, (c < 19 ∨ c = 22 ∨ 24 < c) → S1 c = S c) (em : M' 0 = mapp M t r w 0 ∧ (M' 1 = M 1 ∧ M' 2 = M 2 ∧ M' 3 = M 3 ∧ M' 4 = M 4 ∧ M' 5 = M 5) ∧ (M' 11 = upd (M 11) (mN M) (nI t) ∧ M' 12 = upd (M 12) (mN M) (nI r) ∧ M' 13 = upd (M 13) (mN M) w) ∧ M' 9 = M 9 ∧ M' 10 = M 10 ∧ M' 15 = M 15) : Req (ansN S S1 t r w) M' := by
  have aN : cN S1 = cN S := cN_congr (e 7 (by omega))
  obtain ⟨m0, ⟨m1, m2, m3, m4, m5⟩, ⟨m11, m12, m13⟩, m9, m10, m15⟩ := em
  refine ⟨⟨⟨?_, ?_, ?_⟩, ?_, ?_, ?_⟩, ⟨?_, ?_, ?_, ?_, ?_⟩, ⟨?_, ?_, ?_⟩, ?_, ?_, ?_⟩
  · rw [m0]; exact (congrFun (e 0 (by omega)) 9).trans h.eT
  · rw [m0]; exact (congrFun (e 1 (by omega)) 6).trans h.eR
  · rw [m0]
    show nI (cN S1 + 1) = nI (mN M + 1)
    rw [aN, h.N]
  · rw [m0]; exact (congrFun (e 0 (by omega)) 10).trans h.eW
  · rw [m0]; exact (congrFun (e 0 (by omega)) 11).trans h.eE
  · rw [m0]; exact (congrFun (e 15 (by omega)) 2).trans h.eB
  · rw [m1]; exact (e 2 (by omega)).trans h.e2
  · rw [m2]; exact (e 3 (by omega)).trans h.e3
  · rw [m3]; exact (e 4 (by omega)).trans h.e4
  · rw [m4]; exact (e 5 (by omega)).trans h.e5
  · rw [m5]; exact (e 6 (by omega)).trans h.e6
  · rw [m11]
    show upd (S1 8) (cN S1) (nI t) = _
    rw [aN, e 8 (by omega), h.e8, h.N]
  · rw [m12]
    show upd (S1 9) (cN S1) (nI r) = _
    rw [aN, e 9 (by omega), h.e9, h.N]
  · rw [m13]
    show upd (S1 10) (cN S1) w = _
    rw [aN, e 10 (by omega), h.e10, h.N]
  · rw [m9]; exact (e 13 (by omega)).trans h.e13
  · rw [m10]; exact (e 22 (by omega)).trans h.e22
  · rw [m15]; exact (e 34 (by omega)).trans h.e34
theorem Rel_wrong {S M : Mem} (h : Rel S M) {t r : Nat} {w : Int32} (ht : t < cT S) (hr : r < cR S) (hN : cN S < 200) (hw : ¬ w = S 3 r) : Rel (ansN S (p_noteW S t r w) t r w) (mapp M t r w) := by
  have e : ∀ c, (c < 19 ∨ c = 22 ∨ 24 < c) → p_noteW S t r w c = S c := fun c hc => fr_noteW (by omega)
  have x0 : ansN S (p_noteW S t r w) t r w 0 = S 0 := e 0 (by omega)
  have x16 : ansN S (p_noteW S t r w) t r w 16 = S 16 := e 16 (by omega)
  have x17 : ansN S (p_noteW S t r w) t r w 17 = S 17 := e 17 (by omega)
  have x19 : ansN S (p_noteW S t r w) t r w 19 = S 19 := fr_noteW (by omega)
  have x20 : ansN S (p_noteW S t r w) t r w 20 = S 20 := fr_noteW (by omega)
  have x21 : ansN S (p_noteW S t r w) t r w 21 = S 21 := fr_noteW (by omega)
  refine ⟨Inv_wrong h.inv ht hr hN hw, Req_ans h e ⟨rfl, ⟨rfl, rfl, rfl, rfl, rfl⟩, ⟨rfl, rfl, rfl⟩, rfl, rfl, rfl⟩, ?_, ?_, ?_, ?_⟩
  · rw [x19, x21, cT_congr x0]; exact h.sol
  · rw [x20]; exact h.ts
  · rw [x16]; exact h.cl
  · rw [x17]; exact h.par
theorem Rel_right {S M : Mem} (h : Rel S M) {t r : Nat} {w s : Int32} (ht : t < cT S) (hr : r < cR S) (hN : cN S < 200) (hw : w = S 3 r) (hop : ¬ p_open S 18 t r = -1) (hns : B (S 19 t) r = false) (hs : decide (s = 0) = decide (S 4 r ≤ S 0 10 - p_open S 18 t r)) : Rel (ansN S (p_noteS S 18 t r (S 0 10)) t r w) (msol (mapp M t r w) t r s) := by
  have hT := h.inv.i0.T8
  have hR := h.inv.i0.R16
  have e : ∀ c, (c < 19 ∨ c = 22 ∨ 24 < c) → p_noteS S 18 t r (S 0 10) c = S c := fun c hc => fr_noteS (by omega)
  have x0 : ansN S (p_noteS S 18 t r (S 0 10)) t r w 0 = S 0 := e 0 (by omega)
  have x16 : ansN S (p_noteS S 18 t r (S 0 10)) t r w 16 = S 16 := e 16 (by omega)
  have x17 : ansN S (p_noteS S 18 t r (S 0 10)) t r w 17 = S 17 := e 17 (by omega)
  have x19 : ansN S (p_noteS S 18 t r (S 0 10)) t r w 19 = upd (S 19) t (S 19 t ||| bt (nI r)) := solve_1 (b := 18) _
  have x20 : ansN S (p_noteS S 18 t r (S 0 10)) t r w 20 = if decide (¬ S 4 r ≤ S 0 10 - p_open S 18 t r) = true then upd (S 20) t (S 20 t ||| bt (nI r)) else S 20 := solve_2 (b := 18) _
  have x21 : ansN S (p_noteS S 18 t r (S 0 10)) t r w 21 = upd (S 21) (t * 16 + r) (S 0 10) := solve_3 (b := 18) _
  have y6 : msol (mapp M t r w) t r s 6 = upd (M 6) (16 * t + r) (S 0 10) := by rw [h.eW]; rfl
  have y7 : msol (mapp M t r w) t r s 7 = upd (M 7) (16 * t + r) s := rfl
  refine ⟨Inv_right h.inv ht hr hN hw hop, Req_ans h e ⟨rfl, ⟨rfl, rfl, rfl, rfl, rfl⟩, ⟨rfl, rfl, rfl⟩, rfl, rfl, rfl⟩, ?_, ?_, ?_, ?_⟩
  · rw [x19, x21, y6, cT_congr x0]
    intro t' r' ht' hr'
    by_cases q : t' = t ∧ r' = r
    · rw [q.1, q.2, pk_us, pk_us, pk_us, (B_or1t (by omega)).mpr (.inr rfl)]
      refine ⟨?_, fun _ => rfl⟩
      rw [decide_eq_false (fun z => now_pos h.inv (by rw [z]; decide))]; rfl
    · have e1 : B (upd (S 19) t (S 19 t ||| bt (nI r)) t') r' = B (S 19 t') r' := by
        by_cases q1 : t' = t
        · rw [q1, pk_us, B_or1 (by omega), decide_eq_false (fun z => q ⟨q1, z⟩), Bool.or_false]
        · rw [pk_un q1]
      rw [e1, pk_un (by omega), pk_un (by omega)]
      exact h.sol t' r' ht' hr'
  · rw [x20, y7]
    by_cases c : S 4 r ≤ S 0 10 - p_open S 18 t r
    · rw [decide_eq_true c] at hs
      have s0 : s = 0 := of_decide_eq_true hs
      rw [decide_eq_false (fun z => z c), if_neg (by decide), s0]
      intro t' r' ht' hr'
      by_cases q : t' = t ∧ r' = r
      · rw [q.1, q.2, pk_us]
        cases hb : B (S 20 t) r with
        | false => rfl
        | true =>
          have := h.inv.soon t r (by omega) hb
          rw [hns] at this; cases this
      · rw [pk_un (by omega)]; exact h.ts t' r' ht' hr'
    · rw [decide_eq_false c] at hs
      have s1 : ¬ s = 0 := of_decide_eq_false hs
      rw [decide_eq_true c, if_pos rfl]
      exact rBit_set h.ts (by omega) (by omega) s1
  · rw [x16]; exact h.cl
  · rw [x17]; exact h.par
theorem sim_ans {S M : Mem} (h : Rel S M) (x y w : Int32) : Sim [xI, xA, xS] S (oAns S x y w) (mAns M x y w) := by
  unfold oAns mAns
  rw [h.T, h.R]
  refine sim_2 (f := fun t r => if okr w 0 9999 = true then hAns S t r w else (some xA, 0, S)) h rfl (T16 h.inv) h.inv.i0.R16 fun t r ht hr => ?_
  have hT := h.inv.i0.T8
  have hR := h.inv.i0.R16
  by_cases c0 : okr w 0 9999 = true
  · rw [if_pos c0, if_pos c0]
    unfold hAns hmAns
    have hu := r_under h ht (show r < 16 by omega)
    rw [hu]
    by_cases c1 : m_done M t r = true
    · rw [if_pos c1, c1, if_neg (show ¬ (!true) = true by decide)]; exact .inr ⟨2, xS, rfl, rfl, rfl, h⟩
    · rw [eq_false_of_ne_true c1] at hu
      rw [if_neg c1, eq_false_of_ne_true c1, if_pos (show (!false) = true from rfl), h.N]
      by_cases c2 : cN S < 200
      · rw [if_pos c2, if_neg (show ¬ cN S = 200 by omega)]
        unfold p_under at hu
        rw [Bool.not_false, Bool.and_eq_true, Bool.and_eq_true, decide_eq_true_eq, decide_eq_true_eq, hs_B (by omega), Bool.not_eq_true'] at hu
        obtain ⟨_, hop, hns⟩ := hu
        by_cases c3 : w = S 3 r
        · have eo : m_opened (mapp M t r w) t r = p_open S 18 t r := by
            rw [r_open h ht (by omega)]; exact opn_congr (M := M) (M' := mapp M t r w) rfl rfl t r r
          rw [if_pos c3, if_pos (show w = M 2 r by rw [← h.e3]; exact c3), eo, ← h.e4, ← h.eW]
          by_cases c4 : S 4 r ≤ S 0 10 - p_open S 18 t r
          · rw [if_pos c4]
            exact .inl ⟨rfl, rfl, rfl, Rel_right h ht hr c2 c3 hop hns (by rw [decide_eq_true c4]; rfl)⟩
          · rw [if_neg c4]
            exact .inl ⟨rfl, rfl, rfl, Rel_right h ht hr c2 c3 hop hns (by rw [decide_eq_false c4]; rfl)⟩
        · rw [if_neg c3, if_neg (show ¬ w = M 2 r by rw [← h.e3]; exact c3)]
          exact .inl ⟨rfl, rfl, rfl, Rel_wrong h ht hr c2 c3⟩
      · have := h.inv.i0.N200
        rw [if_neg c2, if_pos (show cN S = 200 by omega)]; exact .inr ⟨2, xS, rfl, rfl, rfl, h⟩
  · rw [if_neg c0, if_neg c0]; exact .inr ⟨1, xA, rfl, rfl, rfl, h⟩
end
