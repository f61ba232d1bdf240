section
/-! addRiddle, need, addTeam, hint -/
theorem lB_congr {g q w ke g' q' w' ke' : Fn} {N t o : Nat} (h : ∀ k, k < N → g' k = g k ∧ q' k = q k ∧ w' k = w k ∧ ke' (iN (q k)) = ke (iN (q k))) : ∀ n, n ≤ N → lB g' q' w' ke' N t o n = lB g q w ke N t o n
  | 0, _ => rfl
  | n + 1, hn => by
    obtain ⟨h1, h2, h3, h4⟩ := h n (by omega)
    have e1 : fB g' q' w' ke' n = fB g q w ke n := fB_congr (fun j hj => ⟨(h j (by omega)).1, (h j (by omega)).2.1, (h j (by omega)).2.2.1⟩) h4
    have e2 : ∀ x r v, gB g' q' w' x r v N = gB g q w x r v N := fun x r v => gB_congr (fun j hj => ⟨(h j hj).1, (h j hj).2.1, (h j hj).2.2.1⟩)
    show lB g' q' w' ke' N t o n + (if g' n = nI t ∧ (fB g' q' w' ke' n && gB g' q' w' (nI o) (q' n) (w' n) N) = true then 1 else 0) = lB g q w ke N t o n + (if g n = nI t ∧ (fB g q w ke n && gB g q w (nI o) (q n) (w n) N) = true then 1 else 0)
    rw [lB_congr h n (by omega), e1, e2, h1, h2, h3]
theorem cP_congr {g q w ke g' q' w' ke' : Fn} {N t o r : Nat} (hr : r < 16) (h : ∀ k, k < N → g' k = g k ∧ q' k = q k ∧ w' k = w k ∧ ke' (iN (q k)) = ke (iN (q k))) : cP g' q' w' ke' N t o r ↔ cP g q w ke N t o r := by
  have e2 : ∀ x r v, gB g' q' w' x r v N = gB g q w x r v N := fun x r v => gB_congr (fun j hj => ⟨(h j hj).1, (h j hj).2.1, (h j hj).2.2.1⟩)
  unfold cP
  have key : ∀ v, gB g q w (nI t) (nI r) v N = true → ke' r = ke r := fun v hv => by
    obtain ⟨k, hk, _, a2, _⟩ := gB_iff.mp hv
    have := (h k hk).2.2.2
    rw [a2, iN_nI (by omega)] at this; exact this
  constructor
  · rintro ⟨v, h1, h2, h3⟩
    rw [e2] at h2 h3
    exact ⟨v, by rw [← key v h2]; exact h1, h2, h3⟩
  · rintro ⟨v, h1, h2, h3⟩
    exact ⟨v, by rw [key v h2]; exact h1, by rw [e2]; exact h2, by rw [e2]; exact h3⟩
theorem iLike_congr {li g q w ke ke' : Fn} {N : Nat} (h : iLike li g q w ke N) (hk : ∀ k, k < N → ke' (iN (q k)) = ke (iN (q k))) : iLike li g q w ke' N := fun t o ht ho => by
  rw [h t o ht ho, lB_congr (g' := g) (q' := q) (w' := w) (ke' := ke') (fun k hk2 => ⟨rfl, rfl, rfl, hk k hk2⟩) N (Nat.le_refl N)]
theorem iComm_congr {co g q w ke ke' : Fn} {N : Nat} (h : iComm co g q w ke N) (hk : ∀ k, k < N → ke' (iN (q k)) = ke (iN (q k))) : iComm co g q w ke' N := fun t o ht ho hne r => by
  rw [h t o ht ho hne r]
  constructor
  · rintro ⟨hr, hc⟩
    exact ⟨hr, (cP_congr (g' := g) (q' := q) (w' := w) (ke' := ke') hr (fun k hk2 => ⟨rfl, rfl, rfl, hk k hk2⟩)).mpr hc⟩
  · rintro ⟨hr, hc⟩
    exact ⟨hr, (cP_congr (g' := g) (q' := q) (w' := w) (ke' := ke') hr (fun k hk2 => ⟨rfl, rfl, rfl, hk k hk2⟩)).mp hc⟩
theorem iRep_gen {S S' : Mem} (h : Inv S) (hN : S' 7 4 = S 7 4) (e19 : S' 19 = S 19 ∧ S' 20 = S 20 ∧ S' 21 = S 21) (hl : S' 8 = S 8 ∧ S' 9 = S 9 ∧ S' 10 = S 10 ∧ S' 11 = S 11) (hk : ∀ k, k < cN S → S' 3 (aR S k) = S 3 (aR S k) ∧ S' 4 (aR S k) = S 4 (aR S k) ∧ S' 6 (aR S k) = S 6 (aR S k)) : iRep S' := by
  obtain ⟨e8, e9, e10, e11⟩ := hl
  obtain ⟨c19, c20, c21⟩ := e19
  have a : cN S' = cN S := by unfold cN; rw [hN]
  unfold iRep
  rw [a]
  have h1 : Eq3 S' 18 S 18 := ⟨fun i _ => ⟨congrFun c19 i, congrFun c20 i⟩, fun i _ => congrFun c21 i⟩
  have h2 := rp_congr (S := S) (S' := S') (cN S) (fun k hk2 => ⟨⟨by rw [e8], by rw [e9], by rw [e10], by rw [e11]⟩, h.i0.xT8 hk2, hk k hk2⟩)
  exact h1.trans (h.rep.trans h2.symm)
theorem aR_lt {S : Mem} (h : Inv S) {k : Nat} (hk : k < cN S) : aR S k < cR S ∧ S 9 k = nI (aR S k) := by
  have hR := h.i0.R16
  obtain ⟨r, hr, e⟩ := (h.log k hk).2
  have : aR S k = r := by unfold aR; rw [e, iN_nI (by omega)]
  rw [this]; exact ⟨hr, e⟩
theorem aT_lt {S : Mem} (h : Inv S) {k : Nat} (hk : k < cN S) : aT S k < cT S ∧ S 8 k = nI (aT S k) := by
  have hT := h.i0.T8
  obtain ⟨r, hr, e⟩ := (h.log k hk).1
  have : aT S k = r := by unfold aT; rw [e, iN_nI (by omega)]
  rw [this]; exact ⟨hr, e⟩
/-! addRiddle -/
theorem I0_R {S : Mem} (h : I0 S) (hR : cR S < 16) : I0 (st S 1 6 (nI (cR S + 1))) := by
  have e : cR (st S 1 6 (nI (cR S + 1))) = cR S + 1 := iN_nI (by omega)
  refine ⟨h.1, ?_, h.2.2.1, h.2.2.2.1, h.2.2.2.2⟩
  rw [e]; exact ⟨rfl, by omega⟩
theorem Inv_addR {S : Mem} (h : Inv S) (hR : cR S < 16) (a b c d : Int32) : Inv (p_addR S a b c d) := by
  have hI : I0 (p_addR S a b c d) := I0_R (S := st (st (st (st S 2 (cR S) a) 3 (cR S) b) 4 (cR S) c) 5 (cR S) d) (I0_2 (by omega) (I0_2 (by omega) (I0_2 (by omega) (I0_2 (by omega) h.i0)))) hR
  have e : cR (p_addR S a b c d) = cR S + 1 := iN_nI (by omega)
  have hk : ∀ k, k < cN S → upd (S 3) (cR S) b (iN (S 9 k)) = S 3 (iN (S 9 k)) := fun k hk => by
    have := (aR_lt h hk).1
    unfold aR at this
    exact pk_un (by omega)
  have e3 : p_addR S a b c d 3 = upd (S 3) (cR S) b := rfl
  have e4 : p_addR S a b c d 4 = upd (S 4) (cR S) c := rfl
  refine ⟨⟨hI, h.now, h.need, ?_, h.bo, ?_⟩, ⟨h.sol, h.soon⟩, ⟨?_, ?_⟩, ?_, h.pay⟩
  · rw [e]
    intro k hk
    obtain ⟨h1, r, hr, h2⟩ := h.log k hk
    exact ⟨h1, r, by omega, h2⟩
  · rw [e]
    exact ⟨h.tou.1, fun r hb => by have := h.tou.2 r hb; omega⟩
  · rw [e3]; exact iLike_congr h.like hk
  · rw [e3]; exact iComm_congr h.comm hk
  · refine iRep_gen h rfl ⟨rfl, rfl, rfl⟩ ⟨rfl, rfl, rfl, rfl⟩ (fun k hk => ?_)
    have := (aR_lt h hk).1
    rw [e3, e4, pk_un (by omega), pk_un (by omega)]
    exact ⟨rfl, rfl, rfl⟩
theorem sim_addR {S M : Mem} (h : Rel S M) (a b c d : Int32) : Sim [xA, xS] S (oAddR S a b c d) (mAddR M a b c d) := by
  unfold oAddR mAddR
  by_cases c1 : okr a 1 50 = true
  · rw [if_pos c1, if_pos c1]
    by_cases c2 : okr b 0 9999 = true
    · rw [if_pos c2, if_pos c2]
      by_cases c3 : okr c 0 100 = true
      · rw [if_pos c3, if_pos c3]
        by_cases c4 : okr d 1 40 = true
        · rw [if_pos c4, if_pos c4, h.R, ← h.eE]
          have hR := h.inv.i0.R16
          by_cases c5 : S 0 11 = 0
          · rw [if_pos c5, if_pos c5]
            by_cases c6 : cR S < 16
            · rw [if_pos c6, if_neg (by omega)]
              refine .inl ⟨rfl, rfl, (nI_pred _).symm, Inv_addR h.inv c6 a b c d, ⟨⟨⟨h.eT, ?_, h.eN⟩, h.eW, h.eE, h.eB⟩, ⟨?_, ?_, ?_, ?_, h.e6⟩, h.2.1.2.2⟩, h.2.2⟩
              · show nI (cR S + 1) = nI (mR M + 1)
                rw [h.R]
              · show upd (S 2) (cR S) a = upd (M 1) (mR M) a
                rw [h.R, h.e2]
              · show upd (S 3) (cR S) b = upd (M 2) (mR M) b
                rw [h.R, h.e3]
              · show upd (S 4) (cR S) c = upd (M 3) (mR M) c
                rw [h.R, h.e4]
              · show upd (S 5) (cR S) d = upd (M 4) (mR M) d
                rw [h.R, h.e5]
            · rw [if_neg c6, if_pos (by omega)]; exact .inr ⟨1, xS, rfl, rfl, rfl, h⟩
          · rw [if_neg c5, if_neg c5]
            refine .inr ⟨1, xS, rfl, rfl, ?_, ?_⟩
            · split <;> rfl
            · split <;> exact h
        · rw [if_neg c4, if_neg c4]; exact .inr ⟨0, xA, rfl, rfl, rfl, h⟩
      · rw [if_neg c3, if_neg c3]; exact .inr ⟨0, xA, rfl, rfl, rfl, h⟩
    · rw [if_neg c2, if_neg c2]; exact .inr ⟨0, xA, rfl, rfl, rfl, h⟩
  · rw [if_neg c1, if_neg c1]; exact .inr ⟨0, xA, rfl, rfl, rfl, h⟩
/-! need -/
theorem m_tA_iff (M : Mem) (r : Nat) : ∀ n, m_tA M r n = true ↔ ∃ k, k < n ∧ M 12 k = nI r
  | 0 => ⟨fun z => (nomatch z), fun ⟨k, hk, _⟩ => absurd hk (by omega)⟩
  | n + 1 => by
    show (m_tA M r n || decide (M 12 n = nI r)) = true ↔ _
    rw [Bool.or_eq_true, m_tA_iff M r n, decide_eq_true_eq]
    constructor
    · rintro (⟨k, hk, z⟩ | z)
      · exact ⟨k, by omega, z⟩
      · exact ⟨n, by omega, z⟩
    · rintro ⟨k, hk, z⟩
      by_cases e : k = n
      · subst e; exact .inr z
      · exact .inl ⟨k, by omega, z⟩
theorem m_tB_iff (M : Mem) (r : Nat) : ∀ n, m_tB M r n = true ↔ m_tA M r (mN M) = true ∨ ∃ t, t < n ∧ 0 < M 9 (16 * t + r)
  | 0 => ⟨.inl, fun z => z.elim id fun ⟨k, hk, _⟩ => absurd hk (by omega)⟩
  | n + 1 => by
    show (m_tB M r n || decide (0 < M 9 (16 * n + r))) = true ↔ _
    rw [Bool.or_eq_true, m_tB_iff M r n, decide_eq_true_eq]
    constructor
    · rintro ((z | ⟨k, hk, z⟩) | z)
      · exact .inl z
      · exact .inr ⟨k, by omega, z⟩
      · exact .inr ⟨n, by omega, z⟩
    · rintro (z | ⟨k, hk, z⟩)
      · exact .inl (.inl z)
      · by_cases e : k = n
        · subst e; exact .inr z
        · exact .inl (.inr ⟨k, by omega, z⟩)
theorem r_touch {S M : Mem} (h : Rel S M) {r : Nat} (hr : r < 16) : m_touch M r = B (S 1 5) r := by
  have hT := h.inv.i0.T8
  apply Bool.eq_iff_iff.mpr
  rw [m_touch, m_tB_iff, m_tA_iff, h.inv.tou.1 r hr, h.N, h.T, ← h.e9, ← h.e13]
  constructor
  · rintro (z | ⟨t, ht, z⟩)
    · exact .inl z
    · exact .inr ⟨t, by omega, by rw [← ix16]; exact z⟩
  · rintro (z | ⟨t, ht, z⟩)
    · exact .inl z
    · by_cases c : t < cT S
      · exact .inr ⟨t, c, by rw [ix16]; exact z⟩
      · rw [h.inv.bo t r (by omega) ht hr] at z
        exact absurd z Int32.lt_irrefl
theorem Inv_need {S : Mem} (h : Inv S) {r o : Nat} (hr : r < 16) (ho : o < r) (hu : B (S 1 5) r = false) : Inv (needM S r o) := by
  have e6 : needM S r o 6 = upd (S 6) r (S 6 r ||| bt (nI o)) := rfl
  refine ⟨⟨I0_2 (by omega) h.i0, h.now, ?_, h.log, h.bo, h.tou⟩, ⟨?_, h.soon⟩, ⟨h.like, h.comm⟩, ?_, h.pay⟩
  · rw [e6]
    intro r' hr' o' hb
    by_cases e : r' = r
    · subst e
      rw [pk_us, B_or1t (by omega)] at hb
      rcases hb with hb | hb
      · exact h.need r' hr' o' hb
      · omega
    · rw [pk_un e] at hb; exact h.need r' hr' o' hb
  · rw [e6]
    intro t r' ht hb
    have hs := h.sol t r' ht hb
    have ne : ¬ r' = r := fun e => by subst e; rw [hu] at hs; exact absurd hs.2.1 (by decide)
    rw [pk_un ne]; exact hs
  · refine iRep_gen h rfl ⟨rfl, rfl, rfl⟩ ⟨rfl, rfl, rfl, rfl⟩ (fun k hk => ⟨rfl, rfl, ?_⟩)
    have a := aR_lt h hk
    have hR := h.i0.R16
    have hb : B (S 1 5) (aR S k) = true := (h.tou.1 _ (by omega)).mpr (.inl ⟨k, hk, a.2⟩)
    rw [e6]
    exact pk_un (fun e => by rw [e, hu] at hb; cases hb)
theorem sim_need {S M : Mem} (h : Rel S M) (x y : Int32) : Sim [xI, xA, xS] S (oNeed S x y) (mNeed M x y) := by
  unfold oNeed mNeed
  rw [h.R]
  refine sim_2 (f := hNeed S) h rfl h.inv.i0.R16 h.inv.i0.R16 fun r o hr ho => ?_
  have hR := h.inv.i0.R16
  unfold hNeed hmNeed
  by_cases c1 : o < r
  · have e1 : hs (S 1 5) (nI r) = m_touch M r := by rw [hs_B (by omega), r_touch h (by omega)]
    have e2 : hs (S 6 r) (nI o) = m_need M r o := by
      rw [hs_B (by omega), m_need, ← h.e6]; exact (b1_B (by omega)).symm
    rw [if_pos c1, if_pos c1, ← h.eE, e1, e2]
    by_cases c2 : S 0 11 = 0
    · rw [if_pos c2, if_pos c2]
      by_cases c3 : m_touch M r = true
      · rw [if_pos c3, if_pos c3]
        refine .inr ⟨2, xS, rfl, rfl, ?_, ?_⟩
        · split <;> rfl
        · split <;> exact h
      · rw [if_neg c3, if_neg c3]
        by_cases c4 : m_need M r o = true
        · rw [if_pos c4, if_pos c4]; exact .inr ⟨2, xS, rfl, rfl, rfl, h⟩
        · rw [if_neg c4, if_neg c4]
          have hu : B (S 1 5) r = false := by rw [← r_touch h (by omega)]; exact eq_false_of_ne_true c3
          have hI := Inv_need h.inv (show r < 16 by omega) c1 hu
          have e6 : needM S r o 6 = mneedM M r o 5 := by
            show upd (S 6) r (S 6 r ||| bt (nI o)) = upd (M 5) r (M 5 r ||| bt (nI o))
            rw [h.e6]
          refine .inl ⟨rfl, rfl, ?_, hI, ⟨h.2.1.1, ⟨h.e2, h.e3, h.e4, h.e5, e6⟩, h.2.1.2.2⟩, h.2.2⟩
          show p_bc (needM S r o 6 r) = m_bits (mneedM M r o 5 r) 16
          rw [← e6]
          refine r_bits (fun i hi => ?_)
          cases hb : B (needM S r o 6 r) i with
          | false => rfl
          | true => have := hI.need r (by omega) i hb; omega
    · rw [if_neg c2, if_neg c2]; exact .inr ⟨2, xS, rfl, rfl, rfl, h⟩
  · rw [if_neg c1, if_neg c1]; exact .inr ⟨1, xA, rfl, rfl, rfl, h⟩
/-! addTeam -/
theorem m_none_ne {M : Mem} {t c : Nat} (hc : ¬ c = 6) : ∀ n, m_none M t n c = M c
  | 0 => rfl
  | n + 1 => by
    show st (m_none M t n) 6 (16 * t + n) (-1) c = M c
    rw [st_ne hc]; exact m_none_ne hc n
theorem m_none_out {M : Mem} {t j : Nat} : ∀ n, (j < 16 * t ∨ 16 * t + n ≤ j) → m_none M t n 6 j = M 6 j
  | 0, _ => rfl
  | n + 1, h => by
    show st (m_none M t n) 6 (16 * t + n) (-1) 6 j = M 6 j
    rw [st_off (by omega)]; exact m_none_out n (by omega)
theorem m_none_in {M : Mem} {t i : Nat} : ∀ n, i < n → m_none M t n 6 (16 * t + i) = -1
  | 0, h => absurd h (by omega)
  | n + 1, h => by
    show st (m_none M t n) 6 (16 * t + n) (-1) 6 (16 * t + i) = -1
    by_cases e : i = n
    · subst e; exact st_at
    · rw [st_off (by omega)]; exact m_none_in n (by omega)
theorem I0_T {S : Mem} (h : I0 S) (hT : cT S < 8) : I0 (st S 0 9 (nI (cT S + 1))) := by
  have e : cT (st S 0 9 (nI (cT S + 1))) = cT S + 1 := iN_nI (by omega)
  refine ⟨?_, h.2.1, h.2.2.1, h.2.2.2.1, h.2.2.2.2⟩
  rw [e]; exact ⟨rfl, by omega⟩
theorem sim_addT {S M : Mem} (h : Rel S M) : Sim [xS] S (oAddT S) (mAddT M) := by
  unfold oAddT mAddT
  have hT := h.inv.i0.T8
  rw [h.T, ← h.eE]
  by_cases c1 : S 0 11 = 0
  · rw [if_pos c1, if_pos c1]
    by_cases c2 : cT S < 8
    · rw [if_pos c2, if_neg (by omega)]
      have hi := h.inv
      have e : cT (st S 0 9 (nI (cT S + 1))) = cT S + 1 := iN_nI (by omega)
      have hI : Inv (st S 0 9 (nI (cT S + 1))) := by
        refine ⟨⟨I0_T hi.i0 c2, hi.now, hi.need, ?_, ?_, hi.tou⟩, ⟨?_, hi.soon⟩, ⟨hi.like, hi.comm⟩, iRep_same hi ⟨⟨rfl, rfl, rfl⟩, ⟨rfl, rfl, rfl, rfl⟩, ⟨rfl, rfl, rfl⟩, rfl⟩, hi.pay⟩
        · rw [e]
          intro k hk
          obtain ⟨⟨t, ht, h1⟩, h2⟩ := hi.log k hk
          exact ⟨⟨t, by omega, h1⟩, h2⟩
        · rw [e]
          intro t r ht ht8 hr
          exact hi.bo t r (by omega) ht8 hr
        · rw [e]
          intro t r ht hb
          obtain ⟨h1, h2⟩ := hi.sol t r ht hb
          exact ⟨by omega, h2⟩
      have en : ∀ c, ¬ c = 6 → ¬ c = 0 → addTM M c = M c := fun c h6 h0 => by
        unfold addTM
        rw [st_ne h0, m_none_ne h6]
      have e0 : ∀ j, ¬ j = 8 → addTM M 0 j = M 0 j := fun j hj => by
        unfold addTM
        rw [st_off hj, m_none_0]
      have e6 : ∀ j, addTM M 6 j = m_none M (mT M) 16 6 j := fun j => by
        unfold addTM
        rw [st_ne (by omega)]
      refine .inl ⟨rfl, rfl, (nI_pred _).symm, hI, ?_, ?_, ?_, ?_, ?_⟩
      · refine ⟨⟨⟨?_, ?_, ?_⟩, ?_, ?_, ?_⟩, ⟨?_, ?_, ?_, ?_, ?_⟩, ⟨?_, ?_, ?_⟩, ?_, ?_, ?_⟩
        · show nI (cT S + 1) = nI (mT M + 1)
          rw [h.T]
        · exact h.eR.trans (e0 2 (by omega)).symm
        · exact h.eN.trans (e0 14 (by omega)).symm
        · exact h.eW.trans (e0 0 (by omega)).symm
        · exact h.eE.trans (e0 1 (by omega)).symm
        · exact h.eB.trans (e0 19 (by omega)).symm
        · exact h.e2.trans (en 1 (by omega) (by omega)).symm
        · exact h.e3.trans (en 2 (by omega) (by omega)).symm
        · exact h.e4.trans (en 3 (by omega) (by omega)).symm
        · exact h.e5.trans (en 4 (by omega) (by omega)).symm
        · exact h.e6.trans (en 5 (by omega) (by omega)).symm
        · exact h.e8.trans (en 11 (by omega) (by omega)).symm
        · exact h.e9.trans (en 12 (by omega) (by omega)).symm
        · exact h.e10.trans (en 13 (by omega) (by omega)).symm
        · exact h.e13.trans (en 9 (by omega) (by omega)).symm
        · exact h.e22.trans (en 10 (by omega) (by omega)).symm
        · exact h.e34.trans (en 15 (by omega) (by omega)).symm
      · rw [e]
        intro t r ht hr
        show B (S 19 t) r = !(decide (addTM M 6 (16 * t + r) = -1)) ∧ (B (S 19 t) r = true → S 21 (t * 16 + r) = addTM M 6 (16 * t + r))
        rw [e6, h.T]
        by_cases q : t = cT S
        · subst q
          have hb : B (S 19 (cT S)) r = false := by
            cases hb : B (S 19 (cT S)) r with
            | false => rfl
            | true => have := (hi.sol (cT S) r c2 hb).1; omega
          rw [m_none_in 16 hr, hb]
          exact ⟨rfl, fun z => nomatch z⟩
        · rw [m_none_out 16 (by omega)]
          exact h.sol t r (by omega) hr
      · show rBit (S 20) (addTM M 7)
        rw [en 7 (by omega) (by omega)]; exact h.ts
      · show rBit (S 16) (addTM M 8)
        rw [en 8 (by omega) (by omega)]; exact h.cl
      · show rPar (S 17) (addTM M 14)
        rw [en 14 (by omega) (by omega)]; exact h.par
    · rw [if_neg c2, if_pos (by omega)]; exact .inr ⟨0, xS, rfl, rfl, rfl, h⟩
  · rw [if_neg c1, if_neg c1]
    refine .inr ⟨0, xS, rfl, rfl, ?_, ?_⟩
    · split <;> rfl
    · split <;> exact h
end
