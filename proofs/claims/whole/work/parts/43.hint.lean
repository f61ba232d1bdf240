section
/-! hint -/
theorem r_under {S M : Mem} (h : Rel S M) {t r : Nat} (ht : t < cT S) (hr : r < 16) : p_under S t r = !(m_done M t r) := by
  unfold p_under m_done
  rw [r_open h ht hr, hs_B (by omega), (h.sol t r ht hr).1, h.eE, decide_not, decide_not, decide_not]
  cases decide (M 0 1 = 0) <;> cases decide (m_opened M t r = -1) <;> cases decide (M 6 (16 * t + r) = -1) <;> rfl
theorem r_left {S M : Mem} (h : Rel S M) {t r : Nat} (ht : t < cT S) (hr : r < 16) : p_left S t r = !(decide (M 9 (16 * t + r) = 3)) := by
  have hT := h.inv.i0.T8
  have b3 := h.inv.i0.bo3 (c := t * 16 + r) (by omega)
  have bn := h.inv.i0.bo (c := t * 16 + r) (by omega)
  rw [ix16, ← h.e13]
  unfold p_left
  by_cases c2 : S 13 (t * 16 + r) = 3
  · rw [c2]; decide
  · have l : S 13 (t * 16 + r) < 3 := by
      rw [bn]
      refine (nI_ltI (b := 3) (by omega) (by omega)).mpr ?_
      have : iN (S 13 (t * 16 + r)) ≠ 3 := fun z => c2 (by rw [bn, z]; rfl)
      omega
    rw [decide_eq_true l, decide_eq_false c2]; rfl
theorem I0_b {S : Mem} (h : I0 S) {c n : Nat} (hn : n ≤ 3) : I0 (st S 13 c (nI n)) := by
  refine ⟨h.1, h.2.1, h.2.2.1, h.2.2.2.1, fun c' hc' => ?_⟩
  by_cases e : c' = c
  · subst e; rw [st_at, iN_nI (by omega)]; exact ⟨rfl, hn⟩
  · rw [st_off e]; exact h.2.2.2.2 c' hc'
theorem I0_14 {S : Mem} (h : I0 S) {j : Nat} {x : Int32} : I0 (st S 14 j x) := ⟨h.1, h.2.1, h.2.2.1, h.2.2.2.1, h.2.2.2.2⟩
theorem I0_m {S : Mem} (h : I0 S) {x : Int32} : I0 (st S 1 5 x) := ⟨h.1, h.2.1, h.2.2.1, h.2.2.2.1, h.2.2.2.2⟩
theorem iSol_x {so mi n6 : Fn} {x : Int32} {T r : Nat} (h : iSol so mi n6 x T) (hr : r < 32) : iSol so mi n6 (x ||| bt (nI r)) T := fun t i ht hb => by
  obtain ⟨h1, h2, h3, h4⟩ := h t i ht hb
  exact ⟨h1, (B_or1t hr).mpr (.inl h2), h3, h4⟩
theorem iPay_sold {pa pr bo : Fn} (h : iPay pa pr bo) {c n : Nat} {x : Int32} (hn : n < 3) (hb : iN (bo c) = n) (hc : c < 128) : iPay (upd pa c (pa c + x)) (upd pr (c * 3 + n) x) (upd bo c (nI (n + 1))) := by
  intro c' hc'
  by_cases e : c' = c
  · subst e
    obtain ⟨h1, h2⟩ := h c' hc'
    rw [hb] at h1
    rw [pk_us, pk_us, iN_nI (by omega)]
    refine ⟨fun m hm hnm => ?_, ?_⟩
    · rw [pk_un (by omega)]; exact h1 m hm (by omega)
    · rw [h2]
      by_cases n0 : n = 0
      · subst n0
        rw [pk_us, pk_un (by omega), pk_un (by omega), h1 0 (by omega) (by omega), h1 1 (by omega) (by omega), h1 2 (by omega) (by omega), Int32.add_zero, Int32.add_zero, Int32.zero_add, Int32.add_zero, Int32.add_zero]
      · by_cases n1 : n = 1
        · subst n1
          rw [pk_us, pk_un (by omega), pk_un (by omega), h1 1 (by omega) (by omega), h1 2 (by omega) (by omega), Int32.add_zero, Int32.add_zero, Int32.add_zero]
        · have n2 : n = 2 := by omega
          subst n2
          rw [pk_us, pk_un (by omega), pk_un (by omega), h1 2 (by omega) (by omega), Int32.add_zero]
  · obtain ⟨h1, h2⟩ := h c' hc'
    rw [pk_un e, pk_un e, pk_un (by omega), pk_un (by omega), pk_un (by omega)]
    exact ⟨fun m hm hnm => by rw [pk_un (by omega)]; exact h1 m hm hnm, h2⟩
theorem Inv_hint {S : Mem} (h : Inv S) {t r : Nat} (ht : t < cT S) (hr : r < cR S) (hl : iN (S 13 (t * 16 + r)) < 3) (x : Int32) : Inv (hintM S t r x) := by
  have hT := h.i0.T8
  have hR := h.i0.R16
  have e13 : hintM S t r x 13 = upd (S 13) (t * 16 + r) (nI (iN (S 13 (t * 16 + r)) + 1)) := rfl
  have e14 : hintM S t r x 14 = upd (S 14) ((t * 16 + r) * 3 + iN (S 13 (t * 16 + r))) x := rfl
  have e22 : hintM S t r x 22 = upd (S 22) (t * 16 + r) (S 22 (t * 16 + r) + x) := rfl
  have e15 : hintM S t r x 1 5 = S 1 5 ||| bt (nI r) := rfl
  have a1 : I0 (st (st S 14 ((t * 16 + r) * 3 + iN (S 13 (t * 16 + r))) x) 13 (t * 16 + r) (nI (iN (S 13 (t * 16 + r)) + 1))) := I0_b (I0_14 h.i0) (by omega)
  have hI : I0 (hintM S t r x) := I0_m (I0_2 (by omega) a1)
  refine ⟨⟨hI, h.now, h.need, h.log, ?_, ?_⟩, ⟨?_, h.soon⟩, ⟨h.like, h.comm⟩, iRep_same h ⟨⟨rfl, rfl, rfl⟩, ⟨rfl, rfl, rfl, rfl⟩, ⟨rfl, rfl, rfl⟩, rfl⟩, ?_⟩
  · rw [e13]
    intro t' r' h1 h2 h3
    have h4 : cT S ≤ t' := h1
    rw [pk_un (by omega)]; exact h.bo t' r' h4 h2 h3
  · rw [e13, e15]
    refine ⟨fun r' hr' => ?_, fun r' hb => ?_⟩
    · rw [B_or1t (by omega), h.tou.1 r' hr']
      by_cases e : r' = r
      · subst e
        refine ⟨fun _ => .inr ⟨t, by omega, ?_⟩, fun _ => .inr rfl⟩
        rw [pk_us]
        exact nI_lt (a := 0) (by omega) (by omega)
      · have e2 : ∀ t', upd (S 13) (t * 16 + r) (nI (iN (S 13 (t * 16 + r)) + 1)) (t' * 16 + r') = S 13 (t' * 16 + r') := fun t' => pk_un (by omega)
        simp only [e2]
        exact ⟨fun z => z.elim id (fun y => absurd y e), .inl⟩
    · rcases (B_or1t (by omega)).mp hb with z | z
      · exact h.tou.2 r' z
      · rw [z]; exact hr
  · rw [e15]; exact iSol_x h.sol (by omega)
  · rw [e13, e14, e22]; exact iPay_sold h.pay hl rfl (by omega)
theorem sim_hint {S M : Mem} (h : Rel S M) (x y : Int32) : Sim [xI, xS] S (oHint S x y) (mHint M x y) := by
  unfold oHint mHint
  rw [h.T, h.R]
  refine sim_o2 h rfl fun t r ht hr => ?_
  have hT := h.inv.i0.T8
  have hR := h.inv.i0.R16
  unfold hHint
  rw [r_under h ht (by omega), r_left h ht (by omega), r_price h ht (by omega)]
  by_cases c1 : m_done M t r = true
  · rw [c1, if_neg (by decide), if_pos rfl]; exact .inr ⟨1, xS, rfl, rfl, rfl, h⟩
  · rw [eq_false_of_ne_true c1, if_pos (show (!false) = true from rfl), if_neg (show ¬ false = true by decide)]
    by_cases c2 : M 9 (16 * t + r) = 3
    · rw [if_pos c2, decide_eq_true c2, if_neg (by decide)]; exact .inr ⟨1, xS, rfl, rfl, rfl, h⟩
    · have hl : iN (S 13 (t * 16 + r)) < 3 := left_lt h.inv.i0 (by omega) (by rw [r_left h ht (by omega), decide_eq_false c2]; rfl)
      rw [if_neg c2, decide_eq_false c2, if_pos (by decide)]
      have bn := h.inv.i0.bo (c := t * 16 + r) (by omega)
      refine .inl ⟨rfl, rfl, rfl, Inv_hint h.inv ht hr hl _, ⟨h.2.1.1, h.2.1.2.1, h.2.1.2.2.1, ?_, ?_, h.e34⟩, h.2.2⟩
      · show upd (S 13) (t * 16 + r) (nI (iN (S 13 (t * 16 + r)) + 1)) = upd (M 9) (16 * t + r) (M 9 (16 * t + r) + 1)
        rw [ix16, ← h.e13, nI_succ, ← bn]
      · show upd (S 22) (t * 16 + r) (S 22 (t * 16 + r) + m_price M t r) = upd (M 10) (16 * t + r) (M 10 (16 * t + r) + m_price M t r)
        rw [ix16, ← h.e22]
end
