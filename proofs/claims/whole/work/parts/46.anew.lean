section
/-! scoreAnew -/
theorem rep_gB (S : Mem) (a : Nat) : p_rep S a = gB (S 8) (S 9) (S 10) (S 8 a) (S 9 a) (S 10 a) a := by
  apply Bool.eq_iff_iff.mpr
  unfold p_rep
  rw [gB_iff, List.any_eq_true]
  constructor
  · rintro ⟨k, hk, hb⟩
    unfold p_again p_same at hb
    rw [Bool.and_eq_true, Bool.and_eq_true, decide_eq_true_eq, decide_eq_true_eq, decide_eq_true_eq] at hb
    exact ⟨k, List.mem_range.mp hk, hb⟩
  · rintro ⟨k, hk, h1, h2, h3⟩
    refine ⟨k, List.mem_range.mpr hk, ?_⟩
    unfold p_again p_same
    rw [decide_eq_true h1, decide_eq_true h2, decide_eq_true h3]; rfl
theorem cmpO_val {S Y : Mem} (hI : I0 S) (hY : ∀ k, k < 26 → Y k = S k) {a u o : Nat} (hu : aT S a = u) (hou : ¬ o = u) (ho : o < 8) (hu8 : u < 8) : ∀ n, n ≤ cN S → p_cmpO Y a n 30 (u * 8 + o) = (if gB (S 8) (S 9) (S 10) (nI o) (S 9 a) (S 10 a) n = true then Y 30 (u * 8 + o) + 1 else Y 30 (u * 8 + o)) ∧ (S 9 a = nI (aR S a) → aR S a < 16 → ∀ z, B (p_cmpO Y a n 31 (u * 8 + o)) z = true ↔ B (Y 31 (u * 8 + o)) z = true ∨ (z = aR S a ∧ gB (S 8) (S 9) (S 10) (nI o) (S 9 a) (S 10 a) n = true))
  | 0, _ => ⟨rfl, fun _ _ z => ⟨.inl, fun q => q.elim id (fun q2 => nomatch q2.2)⟩⟩
  | n + 1, hn => by
    obtain ⟨ih1, ih2⟩ := cmpO_val hI hY hu hou ho hu8 n (by omega)
    have h8 := hI.xT (k := n) (by omega)
    have h88 := hI.xT8 (k := n) (by omega)
    have hW : ∀ k, k < 26 → p_cmpO Y a n k = S k := fun k hk => by rw [fr_cmpO (by omega), hY k hk]
    have w8 := hW 8 (by omega)
    have w9 := hW 9 (by omega)
    have w10 := hW 10 (by omega)
    have eT : aT Y a = u := by
      rw [← hu]; unfold aT; rw [hY 8 (by omega)]
    have eTn : aT (p_cmpO Y a n) n = aT S n := by unfold aT; rw [w8]
    have eRn : aR (p_cmpO Y a n) n = aR S n := by unfold aR; rw [w9]
    have eS : p_same (p_cmpO Y a n) a n = (decide (S 9 a = S 9 n) && decide (S 10 a = S 10 n)) := by unfold p_same; rw [w9, w10]
    have eP : p_rep (p_cmpO Y a n) n = gB (S 8) (S 9) (S 10) (S 8 n) (S 9 n) (S 10 n) n := by rw [rep_gB, w8, w9, w10]
    have es : gB (S 8) (S 9) (S 10) (nI o) (S 9 a) (S 10 a) (n + 1) = (gB (S 8) (S 9) (S 10) (nI o) (S 9 a) (S 10 a) n || (decide (S 8 n = nI o) && (decide (S 9 n = S 9 a) && decide (S 10 n = S 10 a)))) := rfl
    have step : p_cmpO Y a (n + 1) = if (¬ p_cmpO Y a n 8 n = nI (aT Y a)) ∧ p_same (p_cmpO Y a n) a n = true ∧ p_rep (p_cmpO Y a n) n = false then p_common (p_cmpO Y a n) 25 (aT Y a) (aT (p_cmpO Y a n) n) (aR (p_cmpO Y a n) n) else p_cmpO Y a n := rfl
    rw [step, w8, eT, eTn, eRn, eS, eP]
    by_cases c : (¬ S 8 n = nI u) ∧ (decide (S 9 a = S 9 n) && decide (S 10 a = S 10 n)) = true ∧ gB (S 8) (S 9) (S 10) (S 8 n) (S 9 n) (S 10 n) n = false
    · obtain ⟨c1, c2, c3⟩ := c
      have hb : ¬ u = aT S n := fun z => c1 (by rw [h8, z])
      have c2' := c2
      rw [Bool.and_eq_true, decide_eq_true_eq, decide_eq_true_eq] at c2'
      have eR : aR S n = aR S a := by unfold aR; rw [c2'.1]
      rw [if_pos ⟨c1, c2, c3⟩, es, decide_eq_true c2'.1.symm, decide_eq_true c2'.2.symm, Bool.and_true, Bool.and_true, eR]
      have v5 : p_common (p_cmpO Y a n) 25 u (aT S n) (aR S a) 30 (u * 8 + o) = if o = aT S n then p_cmpO Y a n 30 (u * 8 + o) + 1 else p_cmpO Y a n 30 (u * 8 + o) := by
        have := common_5 (S := p_cmpO Y a n) (b := 25) (r := aR S a) hu8 h88 hb
        show p_common (p_cmpO Y a n) 25 u (aT S n) (aR S a) (25 + 5) (u * 8 + o) = _
        rw [this, upd2 (p := fun z => z + 1) hu8 h88 hb hu8 ho]
        by_cases q : o = aT S n
        · rw [if_pos (.inl ⟨rfl, q⟩), if_pos q]
        · rw [if_neg (fun z => z.elim (fun z2 => q z2.2) (fun z2 => hb z2.1)), if_neg q]
      have v6 : p_common (p_cmpO Y a n) 25 u (aT S n) (aR S a) 31 (u * 8 + o) = if o = aT S n then p_cmpO Y a n 31 (u * 8 + o) ||| bt (nI (aR S a)) else p_cmpO Y a n 31 (u * 8 + o) := by
        have := common_6 (S := p_cmpO Y a n) (b := 25) (r := aR S a) hu8 h88 hb
        show p_common (p_cmpO Y a n) 25 u (aT S n) (aR S a) (25 + 6) (u * 8 + o) = _
        rw [this, upd2 (p := fun z => z ||| bt (nI (aR S a))) hu8 h88 hb hu8 ho]
        by_cases q : o = aT S n
        · rw [if_pos (.inl ⟨rfl, q⟩), if_pos q]
        · rw [if_neg (fun z => z.elim (fun z2 => q z2.2) (fun z2 => hb z2.1)), if_neg q]
      rw [v5, v6]
      by_cases q : o = aT S n
      · have g0 : gB (S 8) (S 9) (S 10) (nI o) (S 9 a) (S 10 a) n = false := by
          rw [c2'.1, c2'.2, q, ← h8]; exact c3
        rw [if_pos q, if_pos q, g0, decide_eq_true (show S 8 n = nI o by rw [q]; exact h8), ih1, g0]
        refine ⟨rfl, fun hq hr z => ?_⟩
        rw [B_or1t (by omega), ih2 hq hr z, g0]
        exact ⟨fun y => y.elim (fun y2 => y2.elim .inl (fun y3 => nomatch y3.2)) (fun y2 => .inr ⟨y2, rfl⟩), fun y => y.elim (fun y2 => .inl (.inl y2)) (fun y2 => .inr y2.1)⟩
      · rw [if_neg q, if_neg q, decide_eq_false (show ¬ S 8 n = nI o from fun z => q (n_inj8 (by omega) (by omega) (h8.symm.trans z)).symm), Bool.or_false]
        exact ⟨ih1, ih2⟩
    · have g1 : gB (S 8) (S 9) (S 10) (nI o) (S 9 a) (S 10 a) (n + 1) = gB (S 8) (S 9) (S 10) (nI o) (S 9 a) (S 10 a) n := by
        rw [es]
        cases hb : (decide (S 8 n = nI o) && (decide (S 9 n = S 9 a) && decide (S 10 n = S 10 a))) with
        | false => rw [Bool.or_false]
        | true =>
          rw [Bool.and_eq_true, Bool.and_eq_true, decide_eq_true_eq, decide_eq_true_eq, decide_eq_true_eq] at hb
          obtain ⟨b1, b2, b3⟩ := hb
          have d1 : ¬ S 8 n = nI u := fun z => hou (n_inj8 (by omega) (by omega) (b1.symm.trans z))
          have d2 : (decide (S 9 a = S 9 n) && decide (S 10 a = S 10 n)) = true := by rw [decide_eq_true b2.symm, decide_eq_true b3.symm]; rfl
          have d3 : gB (S 8) (S 9) (S 10) (S 8 n) (S 9 n) (S 10 n) n = true := by
            cases hg : gB (S 8) (S 9) (S 10) (S 8 n) (S 9 n) (S 10 n) n with
            | true => rfl
            | false => exact absurd ⟨d1, d2, hg⟩ c
          rw [b1, b2, b3] at d3
          rw [d3]; rfl
      rw [if_neg c, g1]
      exact ⟨ih1, ih2⟩
theorem cmpP_val {S X : Mem} (h : Inv S) (hX : ∀ k, k < 26 → X k = S k) {u o : Nat} (hou : ¬ o = u) (ho : o < 8) (hu8 : u < 8) (h30 : X 30 (u * 8 + o) = 0) (h31 : X 31 (u * 8 + o) = 0) : ∀ n, n ≤ cN S → p_cmpP X u n 30 (u * 8 + o) = nI (lB (S 8) (S 9) (S 10) (S 3) (cN S) u o n) ∧ ∀ z, B (p_cmpP X u n 31 (u * 8 + o)) z = true ↔ ∃ a, a < n ∧ S 8 a = nI u ∧ (fB (S 8) (S 9) (S 10) (S 3) a && gB (S 8) (S 9) (S 10) (nI o) (S 9 a) (S 10 a) (cN S)) = true ∧ z = aR S a
  | 0, _ => by
    refine ⟨h30.trans nI_0.symm, fun z => ?_⟩
    show B (X 31 (u * 8 + o)) z = true ↔ _
    rw [h31, B_0]
    exact ⟨fun q => (nomatch q), fun ⟨a, ha, _⟩ => absurd ha (by omega)⟩
  | n + 1, hn => by
    obtain ⟨ih1, ih2⟩ := cmpP_val h hX hou ho hu8 h30 h31 n (by omega)
    have hV : ∀ k, k < 26 → p_cmpP X u n k = S k := fun k hk => by rw [fr_cmpP (by omega), hX k hk]
    have v3 := hV 3 (by omega)
    have v8 := hV 8 (by omega)
    have v9 := hV 9 (by omega)
    have v10 := hV 10 (by omega)
    have eN : cN (p_cmpP X u n) = cN S := cN_congr (hV 7 (by omega))
    have eR : aR (p_cmpP X u n) n = aR S n := by unfold aR; rw [v9]
    have e1 : p_right (p_cmpP X u n) n = decide (S 10 n = S 3 (iN (S 9 n))) := by
      unfold p_right
      rw [eR, v10, v3]; rfl
    have e2 : p_rep (p_cmpP X u n) n = gB (S 8) (S 9) (S 10) (S 8 n) (S 9 n) (S 10 n) n := by rw [rep_gB, v8, v9, v10]
    have ef : (decide (S 10 n = S 3 (iN (S 9 n))) = false ∧ gB (S 8) (S 9) (S 10) (S 8 n) (S 9 n) (S 10 n) n = false) ↔ fB (S 8) (S 9) (S 10) (S 3) n = true := by
      unfold fB
      rw [Bool.and_eq_true, decide_eq_true_eq, decide_eq_false_iff_not, Bool.not_eq_true']
    have step : p_cmpP X u (n + 1) = if p_cmpP X u n 8 n = nI u ∧ p_right (p_cmpP X u n) n = false ∧ p_rep (p_cmpP X u n) n = false then p_cmpO (p_cmpP X u n) n (cN (p_cmpP X u n)) else p_cmpP X u n := rfl
    rw [step, v8, e1, e2, eN, lB_s]
    by_cases c : S 8 n = nI u ∧ decide (S 10 n = S 3 (iN (S 9 n))) = false ∧ gB (S 8) (S 9) (S 10) (S 8 n) (S 9 n) (S 10 n) n = false
    · have cf := ef.mp c.2
      have hu : aT S n = u := by unfold aT; rw [c.1, iN_nI (by omega)]
      obtain ⟨o1, o2⟩ := cmpO_val h.i0 hV hu hou ho hu8 (cN S) (Nat.le_refl _)
      have o3 := o2 (h.i0.xR (by omega)) (h.i0.xR16 (by omega))
      rw [if_pos c, o1, ih1, cf, Bool.true_and]
      by_cases q : gB (S 8) (S 9) (S 10) (nI o) (S 9 n) (S 10 n) (cN S) = true
      · rw [if_pos q, if_pos ⟨c.1, q⟩]
        refine ⟨nI_1 _, fun z => ?_⟩
        rw [o3 z, ih2 z]
        constructor
        · rintro (⟨a, ha, b1, b2, b3⟩ | ⟨b1, b2⟩)
          · exact ⟨a, by omega, b1, b2, b3⟩
          · exact ⟨n, by omega, c.1, by rw [cf, q]; rfl, b1⟩
        · rintro ⟨a, ha, b1, b2, b3⟩
          by_cases e : a = n
          · subst e; exact .inr ⟨b3, q⟩
          · exact .inl ⟨a, by omega, b1, b2, b3⟩
      · rw [if_neg q, if_neg (fun z => q z.2)]
        refine ⟨rfl, fun z => ?_⟩
        rw [o3 z, ih2 z]
        constructor
        · rintro (⟨a, ha, b1, b2, b3⟩ | ⟨b1, b2⟩)
          · exact ⟨a, by omega, b1, b2, b3⟩
          · exact absurd b2 q
        · rintro ⟨a, ha, b1, b2, b3⟩
          by_cases e : a = n
          · subst e
            rw [cf, Bool.true_and] at b2
            exact absurd b2 q
          · exact .inl ⟨a, by omega, b1, b2, b3⟩
    · have nc : ¬ (S 8 n = nI u ∧ (fB (S 8) (S 9) (S 10) (S 3) n && gB (S 8) (S 9) (S 10) (nI o) (S 9 n) (S 10 n) (cN S)) = true) := fun z => by
        have z2 := z.2
        rw [Bool.and_eq_true] at z2
        exact c ⟨z.1, ef.mpr z2.1⟩
      rw [if_neg c, if_neg nc, ih1]
      refine ⟨rfl, fun z => ?_⟩
      rw [ih2 z]
      constructor
      · rintro ⟨a, ha, b1, b2, b3⟩
        exact ⟨a, by omega, b1, b2, b3⟩
      · rintro ⟨a, ha, b1, b2, b3⟩
        by_cases e : a = n
        · subst e; exact absurd ⟨b1, b2⟩ nc
        · exact ⟨a, by omega, b1, b2, b3⟩
theorem sal1_val {Y : Mem} {u r : Nat} : p_sal1 Y u r 3 29 = upd (Y 29) (u * 16 + r) (Y 29 (u * 16 + r) + Y 14 ((u * 16 + r) * 3 + 0) + Y 14 ((u * 16 + r) * 3 + 1) + Y 14 ((u * 16 + r) * 3 + 2)) := by
  have s : ∀ n, p_sal1 Y u r (n + 1) 29 = upd (p_sal1 Y u r n 29) (u * 16 + r) (p_sal1 Y u r n 29 (u * 16 + r) + Y 14 ((u * 16 + r) * 3 + n)) := fun n => by
    rw [← fr_sal1 (S := Y) (t := u) (r := r) (show 14 ≠ 29 by omega) n]
    show st (p_sal1 Y u r n) 29 (u * 16 + r) (p_sal1 Y u r n 29 (u * 16 + r) + p_sal1 Y u r n 14 ((u * 16 + r) * 3 + n)) 29 = _
    exact st_same
  funext j
  rw [s 2, s 1, s 0]
  by_cases q : j = u * 16 + r
  · rw [q, pk_us, pk_us, pk_us, pk_us]; rfl
  · rw [pk_un q, pk_un q, pk_un q, pk_un q]; rfl
theorem sals_val {X : Mem} {u r : Nat} (hr : r < 16) : ∀ n, n ≤ 16 → p_sals X u n 29 (u * 16 + r) = if r < n then X 29 (u * 16 + r) + X 14 ((u * 16 + r) * 3 + 0) + X 14 ((u * 16 + r) * 3 + 1) + X 14 ((u * 16 + r) * 3 + 2) else X 29 (u * 16 + r)
  | 0, _ => by rw [if_neg (by omega)]; rfl
  | n + 1, hn => by
    have ih := sals_val (X := X) (u := u) hr n (by omega)
    have e14 : p_sals X u n 14 = X 14 := fr_sals (by omega) n
    show p_sal1 (p_sals X u n) u n 3 29 (u * 16 + r) = _
    rw [sal1_val, e14]
    by_cases q : r = n
    · subst q
      rw [pk_us, ih, if_neg (Nat.lt_irrefl r), if_pos (by omega)]
    · rw [pk_un (by omega), ih]
      by_cases q2 : r < n
      · rw [if_pos q2, if_pos (by omega)]
      · rw [if_neg q2, if_neg (by omega)]
theorem spread_congr {S S' : Mem} (h6 : S' 6 = S 6) (x : Int32) : ∀ n, p_spread S' x n = p_spread S x n
  | 0 => rfl
  | n + 1 => by rw [p_spread_s, p_spread_s, spread_congr h6 x n, h6]
theorem free_congr {S S' : Mem} (h16 : S' 16 = S 16) (h2 : ∀ i, i < 8 → S' 27 i = S 20 i) : ∀ n, n ≤ 8 → p_free S' 25 n = p_free S 18 n
  | 0, _ => rfl
  | n + 1, hn => by
    show p_free S' 25 n ||| (S' 27 n &&& (S' 16 n ^^^ (-1))) = p_free S 18 n ||| (S 20 n &&& (S 16 n ^^^ (-1)))
    rw [free_congr h16 h2 n (by omega), h2 n (by omega), h16]
theorem cheat_congr {S S' : Mem} {u : Nat} (h15 : S' 15 = S 15) (h17 : S' 17 = S 17) (h5 : ∀ o, o < 8 → (¬ u = o) → S' 30 (u * 8 + o) = S 23 (u * 8 + o)) (h6 : ∀ o, o < 8 → (¬ u = o) → S' 31 (u * 8 + o) = S 24 (u * 8 + o)) : ∀ n, n ≤ 8 → p_cheat S' 25 u n = p_cheat S 18 u n
  | 0, _ => rfl
  | n + 1, hn => by
    show (if p_links S' u n (S' 30 (u * 8 + n)) = true then p_cheat S' 25 u n ||| S' 31 (u * 8 + n) else p_cheat S' 25 u n) = (if p_links S u n (S 23 (u * 8 + n)) = true then p_cheat S 18 u n ||| S 24 (u * 8 + n) else p_cheat S 18 u n)
    rw [cheat_congr h15 h17 h5 h6 n (by omega)]
    by_cases q : u = n
    · have l : ∀ (Z : Mem) (x : Int32), ¬ p_links Z u n x = true := fun Z x z => by
        unfold p_links at z
        rw [decide_eq_false (fun y => y q), Bool.false_and] at z
        cases z
      rw [if_neg (l _ _), if_neg (l _ _)]
    · rw [h5 n (by omega) q, h6 n (by omega) q]
      have l : p_links S' u n (S 23 (u * 8 + n)) = p_links S u n (S 23 (u * 8 + n)) := by
        unfold p_links
        rw [h15, h17]
      rw [l]
theorem sum_congr {S S' : Mem} {u : Nat} {cnt free : Int32} (h2 : S' 2 = S 2) : ∀ n, (∀ r, r < n → S' 29 (u * 16 + r) = S 22 (u * 16 + r)) → p_sum S' 25 u cnt free n = p_sum S 18 u cnt free n
  | 0, _ => rfl
  | n + 1, h => by
    have ih := sum_congr (cnt := cnt) (free := free) h2 n (fun r hr => h r (by omega))
    have e := h n (by omega)
    show (if hs cnt (nI n) = true then (if hs free (nI n) = true then p_sum S' 25 u cnt free n + S' 2 n else (p_sum S' 25 u cnt free n + S' 2 n) - S' 29 (u * 16 + n)) else (if hs free (nI n) = true then p_sum S' 25 u cnt free n else p_sum S' 25 u cnt free n - S' 29 (u * 16 + n))) = (if hs cnt (nI n) = true then (if hs free (nI n) = true then p_sum S 18 u cnt free n + S 2 n else (p_sum S 18 u cnt free n + S 2 n) - S 22 (u * 16 + n)) else (if hs free (nI n) = true then p_sum S 18 u cnt free n else p_sum S 18 u cnt free n - S 22 (u * 16 + n)))
    rw [ih, e, h2]
theorem anew_eq (S : Mem) (u : Nat) : p_anewM S u = p_sals (p_cmpP (p_replay (p_wipe S) (cN S)) u (cN S)) u (cR S) := by
  have e1 : cN (p_wipe S) = cN S := cN_congr (fr_wipe (by omega))
  have e2 : cN (p_replay (p_wipe S) (cN S)) = cN S := cN_congr (rp_cell S _ (by omega))
  have e3 : cR (p_cmpP (p_replay (p_wipe S) (cN S)) u (cN S)) = cR S := cR_congr (by rw [fr_cmpP (by omega), rp_cell S _ (by omega)])
  unfold p_anewM
  rw [e1, e2, e3]
theorem fr_anew (S : Mem) (u : Nat) {k : Nat} (hk : k < 26 ∨ 31 < k) : p_anewM S u k = S k := by rw [anew_eq, fr_sals (by omega), fr_cmpP (by omega), fr_replay (by omega), fr_wipe (by omega)]
theorem Rel_anew {S M : Mem} (h : Rel S M) (u : Nat) : Rel (p_anewM S u) M := Rel_congr (fun _ hk => fr_anew S u (by omega)) h
theorem r_anew {S M : Mem} (h : Rel S M) {u : Nat} (hu : u < cT S) : p_sumUp (p_anewM S u) 25 u (p_count (p_anewM S u) 25 u) = m_score M u := by
  have hT := h.inv.i0.T8
  have hR := h.inv.i0.R16
  have hu8 : u < 8 := by omega
  have q0 : p_anewM S u 0 = S 0 := fr_anew S u (by omega)
  have q1 : p_anewM S u 1 = S 1 := fr_anew S u (by omega)
  have q2 : p_anewM S u 2 = S 2 := fr_anew S u (by omega)
  have q6 : p_anewM S u 6 = S 6 := fr_anew S u (by omega)
  have q15 : p_anewM S u 15 = S 15 := fr_anew S u (by omega)
  have q16 : p_anewM S u 16 = S 16 := fr_anew S u (by omega)
  have q17 : p_anewM S u 17 = S 17 := fr_anew S u (by omega)
  have q26 : p_anewM S u 26 = p_replay (p_wipe S) (cN S) 26 := by rw [anew_eq, fr_sals (by omega), fr_cmpP (by omega)]
  have q27 : p_anewM S u 27 = p_replay (p_wipe S) (cN S) 27 := by rw [anew_eq, fr_sals (by omega), fr_cmpP (by omega)]
  have eT : cT (p_anewM S u) = cT S := cT_congr q0
  have eR : cR (p_anewM S u) = cR S := cR_congr q1
  have hX : ∀ k, k < 26 → p_replay (p_wipe S) (cN S) k = S k := fun k hk => rp_cell S _ hk
  have z30 : ∀ i, i < 64 → p_replay (p_wipe S) (cN S) 30 i = 0 := fun i hi => by rw [fr_replay (by omega)]; exact wipe_30 S hi
  have z31 : ∀ i, i < 64 → p_replay (p_wipe S) (cN S) 31 i = 0 := fun i hi => by rw [fr_replay (by omega)]; exact wipe_31 S hi
  have z29 : ∀ i, i < 128 → p_cmpP (p_replay (p_wipe S) (cN S)) u (cN S) 29 i = 0 := fun i hi => by rw [fr_cmpP (by omega), fr_replay (by omega)]; exact wipe_29 S hi
  have h5 : ∀ o, o < 8 → (¬ u = o) → p_anewM S u 30 (u * 8 + o) = S 23 (u * 8 + o) := fun o ho hne => by
    rw [anew_eq, fr_sals (by omega), (cmpP_val h.inv hX (fun z => hne z.symm) ho hu8 (z30 _ (by omega)) (z31 _ (by omega)) (cN S) (Nat.le_refl _)).1, h.inv.like u o hu8 ho, if_neg hne]
  have h6 : ∀ o, o < 8 → (¬ u = o) → p_anewM S u 31 (u * 8 + o) = S 24 (u * 8 + o) := fun o ho hne => by
    apply B_xt
    intro z
    rw [anew_eq, fr_sals (by omega), (cmpP_val h.inv hX (fun z => hne z.symm) ho hu8 (z30 _ (by omega)) (z31 _ (by omega)) (cN S) (Nat.le_refl _)).2 z, h.inv.comm u o hu8 ho hne z]
    have hc := m_comm_cP h.J u o z
    rw [h.N, ← h.e8, ← h.e9, ← h.e10, ← h.e3] at hc
    rw [← hc]
    constructor
    · rintro ⟨a, ha, b1, b2, b3⟩
      refine ⟨a, ha, b1, ?_, ?_⟩
      · rw [m_comm_B, h.N, ← h.e8, ← h.e9, ← h.e10, ← h.e3]; exact b2
      · rw [b3]; unfold aR mq; rw [h.e9]
    · rintro ⟨a, ha, b1, b2, b3⟩
      refine ⟨a, ha, b1, ?_, ?_⟩
      · rw [m_comm_B, h.N, ← h.e8, ← h.e9, ← h.e10, ← h.e3] at b2; exact b2
      · rw [b3]; unfold aR mq; rw [h.e9]
  have hpay : ∀ r, r < cR S → p_anewM S u 29 (u * 16 + r) = S 22 (u * 16 + r) := fun r hr => by
    have e14 : p_cmpP (p_replay (p_wipe S) (cN S)) u (cN S) 14 = S 14 := by rw [fr_cmpP (by omega), rp_cell S _ (by omega)]
    rw [anew_eq, sals_val (by omega) (cR S) hR, if_pos hr, z29 _ (by omega), e14, Int32.zero_add, (h.inv.pay (u * 16 + r) (by omega)).2]
  have eF : p_free (p_anewM S u) 25 (cT S) = p_free S 18 (cT S) := free_congr q16 (fun i hi => by
    rw [q27]; exact ((h.inv.rep.1 i hi).2).symm) _ hT
  have eC : p_cheat (p_anewM S u) 25 u (cT S) = p_cheat S 18 u (cT S) := cheat_congr q15 q17 h5 h6 _ hT
  have e26 : p_anewM S u 26 u = S 19 u := by rw [q26]; exact ((h.inv.rep.1 u hu8).1).symm
  have eV : p_void (p_anewM S u) 25 u = p_void S 18 u := by
    show p_spread (p_anewM S u) (p_cheat (p_anewM S u) 25 u (cT (p_anewM S u)) &&& p_anewM S u 26 u) (cR (p_anewM S u)) &&& p_anewM S u 26 u = p_spread S (p_cheat S 18 u (cT S) &&& S 19 u) (cR S) &&& S 19 u
    rw [eT, eR, eC, e26, spread_congr q6]
  have eK : p_count (p_anewM S u) 25 u = p_count S 18 u := by
    show (p_anewM S u 26 u &&& (p_void (p_anewM S u) 25 u ^^^ (-1))) &&& (p_free (p_anewM S u) 25 (cT (p_anewM S u)) ^^^ (-1)) = (S 19 u &&& (p_void S 18 u ^^^ (-1))) &&& (p_free S 18 (cT S) ^^^ (-1))
    rw [eT, eF, eV, e26]
  rw [← r_score h hu, eK]
  unfold p_sumUp
  rw [eT, eR, eF]
  exact sum_congr q2 _ hpay
theorem sim_ok {xs : List String} {S S2 M2 : Mem} {a b : Int32} (h : Rel S2 M2) (e : a = b) : Sim xs S (none, a, S2) (b, 0, M2) := .inl ⟨rfl, rfl, e, h⟩
theorem sim_1t {S M : Mem} (h : Rel S M) {xs : List String} {x : Int32} {a b : Nat → Int32} {c : Nat → Mem} (hx : xs[0]? = some xI) (hf : ∀ t, t < cT S → Sim xs S (none, a t, c t) (b t, 0, M)) : Sim xs S (o1 S x fun t => (none, a t, c t)) (mm1 M x (cT S) fun t => (b t, 0, M)) := sim_1 (f := fun t => (none, a t, c t)) h hx (T16 h.inv) hf
theorem sim_anew {S M : Mem} (h : Rel S M) (x : Int32) : Sim [xI] S (oAnew S x) (mScore M x) := by
  unfold oAnew mScore
  rw [h.T]
  exact sim_1t h rfl (fun t ht => sim_ok (Rel_anew h t) (r_anew h ht))
/-! what the model's prize asks -/
theorem r_hfm {S M : Mem} (h : Rel S M) : ∀ t o, t < mT M → o < mT M → m_ahead M o false = m_ahead M t false → m_ahead M t false + m_pm M (m_ahead M t false) o < 8 := by
  intro t o ht ho e
  have hT := h.inv.i0.T8
  rw [h.T] at ht ho
  rw [r_pm h ht o (by omega)]
  have e1 := r_ahead0 h ht
  have e2 := p_ba_le (p_rate S (cT S)) t (cT S)
  have e3 : p_alike (p_rate S (cT S)) t o < p_alike (p_rate S (cT S)) t (cT S) := by
    have hs : m_score M o = m_score M t ∧ m_last M o = m_last M t := by
      rw [m_ahead, m_ahead, h.T] at e
      exact (ah_iff ho ht).mp e
    have e4 := p_alike_s h ht ho
    rw [if_pos hs] at e4
    have mono : ∀ n, n ≤ cT S → o + 1 ≤ n → p_alike (p_rate S (cT S)) t (o + 1) ≤ p_alike (p_rate S (cT S)) t n := by
      intro n
      induction n with
      | zero => intro _ q; omega
      | succ n ih =>
        intro q1 q2
        by_cases q : o + 1 = n + 1
        · rw [q]; exact Nat.le_refl _
        · have := ih (by omega) (by omega)
          rw [p_alike_s h ht (show n < cT S by omega)]
          split <;> omega
    have := mono (cT S) (Nat.le_refl _) (by omega)
    omega
  omega
theorem r_hpos {S M : Mem} (h : Rel S M) : ∀ t, t < mT M → 0 < m_pm M (m_ahead M t false) (mT M) := by
  intro t ht
  rw [h.T] at ht ⊢
  rw [r_pm h ht _ (Nat.le_refl _)]
  exact alike_pos h ht (cT S) ht (Nat.le_refl _)
end
