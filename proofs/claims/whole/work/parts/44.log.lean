section
/-! an answer more in the log: likeness and riddles in common -/
theorem gB_low {g q w : Fn} {N n : Nat} {a b c x r v : Int32} (h : n ≤ N) : gB (upd g N a) (upd q N b) (upd w N c) x r v n = gB g q w x r v n := gB_congr fun k hk => ⟨pk_un (by omega), pk_un (by omega), pk_un (by omega)⟩
theorem gB_top {g q w : Fn} {N : Nat} {a b c x r v : Int32} : gB (upd g N a) (upd q N b) (upd w N c) x r v (N + 1) = (gB g q w x r v N || (decide (a = x) && (decide (b = r) && decide (c = v)))) := by
  show (gB (upd g N a) (upd q N b) (upd w N c) x r v N || (decide (upd g N a N = x) && (decide (upd q N b N = r) && decide (upd w N c N = v)))) = _
  rw [gB_low (Nat.le_refl N), pk_us, pk_us, pk_us]
theorem gB_topt {g q w : Fn} {N : Nat} {a b c x r v : Int32} : gB (upd g N a) (upd q N b) (upd w N c) x r v (N + 1) = true ↔ gB g q w x r v N = true ∨ (a = x ∧ b = r ∧ c = v) := by
  rw [gB_top, Bool.or_eq_true, Bool.and_eq_true, Bool.and_eq_true, decide_eq_true_eq, decide_eq_true_eq, decide_eq_true_eq]
theorem fB_low {g q w ke : Fn} {N k : Nat} {a b c : Int32} (h : k < N) : fB (upd g N a) (upd q N b) (upd w N c) ke k = fB g q w ke k := fB_congr (fun j hj => ⟨pk_un (by omega), pk_un (by omega), pk_un (by omega)⟩) rfl
theorem fB_new {g q w ke : Fn} {N : Nat} {a b c : Int32} : fB (upd g N a) (upd q N b) (upd w N c) ke N = (decide (¬ c = ke (iN b)) && !(gB g q w a b c N)) := by
  unfold fB
  rw [pk_us, pk_us, pk_us, gB_low (Nat.le_refl N)]
theorem lB_s {g q w ke : Fn} {N t o n : Nat} : lB g q w ke N t o (n + 1) = lB g q w ke N t o n + (if g n = nI t ∧ (fB g q w ke n && gB g q w (nI o) (q n) (w n) N) = true then 1 else 0) := rfl
theorem lB_same {g q w ke : Fn} {N x y : Nat} {a b c : Int32} (hk : ∀ k, k < N → g k = nI x → fB g q w ke k = true → a = nI y → b = q k → c = w k → gB g q w (nI y) (q k) (w k) N = true) : ∀ n, n ≤ N → lB (upd g N a) (upd q N b) (upd w N c) ke (N + 1) x y n = lB g q w ke N x y n
  | 0, _ => rfl
  | n + 1, hn => by
    rw [lB_s, lB_s, lB_same hk n (by omega), pk_un (by omega), pk_un (by omega), pk_un (by omega), fB_low (by omega)]
    by_cases d1 : g n = nI x
    · by_cases d2 : fB g q w ke n = true
      · have e : gB (upd g N a) (upd q N b) (upd w N c) (nI y) (q n) (w n) (N + 1) = gB g q w (nI y) (q n) (w n) N := by
          apply Bool.eq_iff_iff.mpr
          rw [gB_topt]
          exact ⟨fun z => z.elim id (fun z2 => hk n (by omega) d1 d2 z2.1 z2.2.1 z2.2.2), .inl⟩
        rw [e]
      · rw [eq_false_of_ne_true d2, Bool.false_and, Bool.false_and]
    · rw [if_neg (fun z => d1 z.1), if_neg (fun z => d1 z.1)]
theorem lB_plus {g q w ke : Fn} {N x t r : Nat} {v : Int32} (hx : x < 8) (ht : t < 8) (hr : r < 16) (hne : ¬ x = t) (hv : ¬ v = ke r) (hnew : gB g q w (nI t) (nI r) v N = false) : ∀ n, n ≤ N → lB (upd g N (nI t)) (upd q N (nI r)) (upd w N v) ke (N + 1) x t n = lB g q w ke N x t n + (if gB g q w (nI x) (nI r) v n = true then 1 else 0)
  | 0, _ => rfl
  | n + 1, hn => by
    have ih := lB_plus hx ht hr hne hv hnew n (by omega)
    have er : iN (nI r) = r := iN_nI (by omega)
    have es : gB g q w (nI x) (nI r) v (n + 1) = (gB g q w (nI x) (nI r) v n || (decide (g n = nI x) && (decide (q n = nI r) && decide (w n = v)))) := rfl
    rw [lB_s, lB_s, ih, pk_un (by omega), pk_un (by omega), pk_un (by omega), fB_low (by omega), es]
    by_cases d1 : g n = nI x
    · by_cases d2 : q n = nI r ∧ w n = v
      · have ef : fB g q w ke n = !(gB g q w (nI x) (nI r) v n) := by
          unfold fB
          rw [d1, d2.1, d2.2, er, decide_eq_true hv, Bool.true_and]
        have eg : gB (upd g N (nI t)) (upd q N (nI r)) (upd w N v) (nI t) (q n) (w n) (N + 1) = true := gB_topt.mpr (.inr ⟨rfl, d2.1.symm, d2.2.symm⟩)
        have t1 : ¬ (g n = nI x ∧ (fB g q w ke n && gB g q w (nI t) (q n) (w n) N) = true) := fun z => by
          have z2 := z.2
          rw [d2.1, d2.2, hnew, Bool.and_false] at z2
          cases z2
        have t2 : (gB g q w (nI x) (nI r) v n || (decide (g n = nI x) && (decide (q n = nI r) && decide (w n = v)))) = true := by
          rw [decide_eq_true d1, decide_eq_true d2.1, decide_eq_true d2.2, Bool.and_self, Bool.and_self, Bool.or_true]
        rw [eg, Bool.and_true, if_neg t1, if_pos t2, ef]
        by_cases c : gB g q w (nI x) (nI r) v n = true
        · have t3 : ¬ (g n = nI x ∧ (!(gB g q w (nI x) (nI r) v n)) = true) := fun z => by
            have z2 := z.2
            rw [c] at z2
            cases z2
          rw [if_pos c, if_neg t3]
        · have t3 : g n = nI x ∧ (!(gB g q w (nI x) (nI r) v n)) = true := ⟨d1, by rw [eq_false_of_ne_true c]; rfl⟩
          rw [if_neg c, if_pos t3]
      · have eg : gB (upd g N (nI t)) (upd q N (nI r)) (upd w N v) (nI t) (q n) (w n) (N + 1) = gB g q w (nI t) (q n) (w n) N := by
          apply Bool.eq_iff_iff.mpr
          rw [gB_topt]
          exact ⟨fun z => z.elim id (fun z2 => absurd ⟨z2.2.1.symm, z2.2.2.symm⟩ d2), .inl⟩
        have e0 : (decide (g n = nI x) && (decide (q n = nI r) && decide (w n = v))) = false := by
          cases hb : (decide (g n = nI x) && (decide (q n = nI r) && decide (w n = v))) with
          | false => rfl
          | true =>
            rw [Bool.and_eq_true, Bool.and_eq_true, decide_eq_true_eq, decide_eq_true_eq, decide_eq_true_eq] at hb
            exact absurd hb.2 d2
        rw [eg, e0, Bool.or_false]; omega
    · have t1 : ∀ b : Bool, ¬ (g n = nI x ∧ b = true) := fun b z => d1 z.1
      rw [if_neg (t1 (fB g q w ke n && gB g q w (nI t) (q n) (w n) N)), if_neg (t1 (fB g q w ke n && gB (upd g N (nI t)) (upd q N (nI r)) (upd w N v) (nI t) (q n) (w n) (N + 1))), decide_eq_false d1, Bool.false_and, Bool.or_false]; omega
theorem n_inj8 {a b : Nat} (ha : a < 16) (hb : b < 16) (h : nI a = nI b) : a = b := n_eq (by omega) (by omega) h
/-- a right answer changes nothing -/
theorem lB_right {g q w ke : Fn} {N x y t r : Nat} {v : Int32} (hr : r < 16) (hv : v = ke r) : lB (upd g N (nI t)) (upd q N (nI r)) (upd w N v) ke (N + 1) x y (N + 1) = lB g q w ke N x y N := by
  have er : iN (nI r) = r := iN_nI (by omega)
  have h1 := lB_same (g := g) (q := q) (w := w) (ke := ke) (N := N) (x := x) (y := y) (a := nI t) (b := nI r) (c := v) (fun k hk _ d2 _ e2 e3 => by
    unfold fB at d2
    rw [← e2, ← e3, er, hv, decide_eq_false (fun z => z rfl), Bool.false_and] at d2
    cases d2) N (Nat.le_refl N)
  rw [lB_s, h1, fB_new, er, decide_eq_false (fun z => z hv), Bool.false_and, Bool.false_and, if_neg (fun z => absurd z.2 (by decide)), Nat.add_zero]
theorem cP_right {g q w ke : Fn} {N x y t r z : Nat} {v : Int32} (hr : r < 16) (hz : z < 16) (hv : v = ke r) : cP (upd g N (nI t)) (upd q N (nI r)) (upd w N v) ke (N + 1) x y z ↔ cP g q w ke N x y z := by
  have key : ∀ (i : Nat) (u : Int32), (¬ u = ke z) → (gB (upd g N (nI t)) (upd q N (nI r)) (upd w N v) (nI i) (nI z) u (N + 1) = true ↔ gB g q w (nI i) (nI z) u N = true) := fun i u hu => by
    rw [gB_topt]
    refine ⟨fun q1 => q1.elim id (fun q2 => absurd ?_ hu), .inl⟩
    have := n_inj8 hr hz q2.2.1
    rw [← this, ← hv]; exact q2.2.2.symm
  unfold cP
  constructor
  · rintro ⟨u, h1, h2, h3⟩
    exact ⟨u, h1, (key x u h1).mp h2, (key y u h1).mp h3⟩
  · rintro ⟨u, h1, h2, h3⟩
    exact ⟨u, h1, (key x u h1).mpr h2, (key y u h1).mpr h3⟩
/-- nor does one that was given before -/
theorem gB_again {g q w : Fn} {N t r : Nat} {v : Int32} (hg : gB g q w (nI t) (nI r) v N = true) (x a u : Int32) : gB (upd g N (nI t)) (upd q N (nI r)) (upd w N v) x a u (N + 1) = gB g q w x a u N := by
  apply Bool.eq_iff_iff.mpr
  rw [gB_topt]
  refine ⟨fun z => z.elim id (fun z2 => ?_), .inl⟩
  rw [← z2.1, ← z2.2.1, ← z2.2.2]; exact hg
theorem lB_again {g q w ke : Fn} {N x y t r : Nat} {v : Int32} (hg : gB g q w (nI t) (nI r) v N = true) : lB (upd g N (nI t)) (upd q N (nI r)) (upd w N v) ke (N + 1) x y (N + 1) = lB g q w ke N x y N := by
  have h1 := lB_same (g := g) (q := q) (w := w) (ke := ke) (N := N) (x := x) (y := y) (a := nI t) (b := nI r) (c := v) (fun k hk _ _ e1 e2 e3 => by
    rw [← e1, ← e2, ← e3]; exact hg) N (Nat.le_refl N)
  rw [lB_s, h1, fB_new, hg, Bool.not_true, Bool.and_false, Bool.false_and, if_neg (fun z => absurd z.2 (by decide)), Nat.add_zero]
theorem cP_again {g q w ke : Fn} {N x y t r z : Nat} {v : Int32} (hg : gB g q w (nI t) (nI r) v N = true) : cP (upd g N (nI t)) (upd q N (nI r)) (upd w N v) ke (N + 1) x y z ↔ cP g q w ke N x y z := by
  unfold cP
  simp only [gB_again hg]
/-- a wrong one that is new to its team: one more with each team that gave it -/
theorem lB_wrong {g q w ke : Fn} {N x y t r : Nat} {v : Int32} (hx : x < 8) (hy : y < 8) (ht : t < 8) (hr : r < 16) (hxy : ¬ x = y) (hv : ¬ v = ke r) (hnew : gB g q w (nI t) (nI r) v N = false) : lB (upd g N (nI t)) (upd q N (nI r)) (upd w N v) ke (N + 1) x y (N + 1) = lB g q w ke N x y N + (if (x = t ∧ gB g q w (nI y) (nI r) v N = true) ∨ (y = t ∧ gB g q w (nI x) (nI r) v N = true) then 1 else 0) := by
  have er : iN (nI r) = r := iN_nI (by omega)
  rw [lB_s, fB_new, er, pk_us, pk_us, pk_us, hnew, decide_eq_true hv, Bool.not_false, Bool.true_and, Bool.true_and, gB_top]
  by_cases c1 : y = t
  · subst c1
    have h1 := lB_plus (g := g) (q := q) (w := w) (ke := ke) (N := N) hx ht hr hxy hv hnew N (Nat.le_refl N)
    have t1 : ∀ b : Bool, ¬ (nI y = nI x ∧ b = true) := fun b z => hxy (n_inj8 (by omega) (by omega) z.1).symm
    rw [h1, if_neg (t1 _)]
    by_cases c2 : gB g q w (nI x) (nI r) v N = true
    · have t2 : (x = y ∧ gB g q w (nI y) (nI r) v N = true) ∨ (y = y ∧ gB g q w (nI x) (nI r) v N = true) := .inr ⟨rfl, c2⟩
      rw [if_pos c2, if_pos t2]
    · have t2 : ¬ ((x = y ∧ gB g q w (nI y) (nI r) v N = true) ∨ (y = y ∧ gB g q w (nI x) (nI r) v N = true)) := fun z => z.elim (fun z2 => hxy z2.1) (fun z2 => c2 z2.2)
      rw [if_neg c2, if_neg t2]
  · have h1 := lB_same (g := g) (q := q) (w := w) (ke := ke) (N := N) (x := x) (y := y) (a := nI t) (b := nI r) (c := v) (fun k hk _ _ e1 _ _ => absurd (n_inj8 (by omega) (by omega) e1).symm c1) N (Nat.le_refl N)
    have e2 : decide (nI t = nI y) = false := decide_eq_false (fun z => c1 (n_inj8 (by omega) (by omega) z).symm)
    rw [h1, e2, Bool.false_and, Bool.or_false]
    by_cases c2 : x = t
    · subst c2
      by_cases c3 : gB g q w (nI y) (nI r) v N = true
      · rw [if_pos ⟨rfl, c3⟩, if_pos (.inl ⟨rfl, c3⟩)]
      · rw [if_neg (fun z => c3 z.2), if_neg (fun z => z.elim (fun z2 => c3 z2.2) (fun z2 => c1 z2.1))]
    · rw [if_neg (fun z => c2 (n_inj8 (by omega) (by omega) z.1).symm), if_neg (fun z => z.elim (fun z2 => c2 z2.1) (fun z2 => c1 z2.1))]
theorem cP_wrong {g q w ke : Fn} {N x y t r z : Nat} {v : Int32} (hx : x < 8) (hy : y < 8) (ht : t < 8) (hr : r < 16) (hz : z < 16) (hxy : ¬ x = y) (hv : ¬ v = ke r) : cP (upd g N (nI t)) (upd q N (nI r)) (upd w N v) ke (N + 1) x y z ↔ cP g q w ke N x y z ∨ (z = r ∧ ((x = t ∧ gB g q w (nI y) (nI r) v N = true) ∨ (y = t ∧ gB g q w (nI x) (nI r) v N = true))) := by
  unfold cP
  constructor
  · rintro ⟨u, h1, h2, h3⟩
    rw [gB_topt] at h2 h3
    rcases h2 with h2 | ⟨a1, a2, a3⟩
    · rcases h3 with h3 | ⟨b1, b2, b3⟩
      · exact .inl ⟨u, h1, h2, h3⟩
      · have e1 := n_inj8 (by omega) (by omega) b1
        have e2 := n_inj8 (by omega) (by omega) b2
        subst e2
        subst b3
        exact .inr ⟨rfl, .inr ⟨e1.symm, h2⟩⟩
    · have e1 := n_inj8 (by omega) (by omega) a1
      have e2 := n_inj8 (by omega) (by omega) a2
      subst e2
      subst a3
      rcases h3 with h3 | ⟨b1, b2, b3⟩
      · exact .inr ⟨rfl, .inl ⟨e1.symm, h3⟩⟩
      · exact absurd (e1.symm.trans (n_inj8 (by omega) (by omega) b1)) hxy
  · rintro (⟨u, h1, h2, h3⟩ | ⟨e, ⟨e1, h3⟩ | ⟨e1, h3⟩⟩)
    · exact ⟨u, h1, gB_topt.mpr (.inl h2), gB_topt.mpr (.inl h3)⟩
    · subst e
      subst e1
      exact ⟨v, hv, gB_topt.mpr (.inr ⟨rfl, rfl, rfl⟩), gB_topt.mpr (.inl h3)⟩
    · subst e
      subst e1
      exact ⟨v, hv, gB_topt.mpr (.inl h3), gB_topt.mpr (.inr ⟨rfl, rfl, rfl⟩)⟩
/-! the class's tables -/
theorem give_bit {S : Mem} (hI : I0 S) (r : Nat) (v : Int32) {o : Nat} (ho : o < 16) : ∀ n, n ≤ cN S → B (p_give S r v n) o = gB (S 8) (S 9) (S 10) (nI o) (nI r) v n
  | 0, _ => B_0 o
  | n + 1, hn => by
    have h8 := hI.xT (k := n) (by omega)
    have h88 := hI.xT8 (k := n) (by omega)
    rw [show p_give S r v (n + 1) = if S 9 n = nI r ∧ S 10 n = v then p_give S r v n ||| bt (S 8 n) else p_give S r v n from rfl, show gB (S 8) (S 9) (S 10) (nI o) (nI r) v (n + 1) = (gB (S 8) (S 9) (S 10) (nI o) (nI r) v n || (decide (S 8 n = nI o) && (decide (S 9 n = nI r) && decide (S 10 n = v)))) from rfl, ← give_bit hI r v ho n (by omega)]
    by_cases c : S 9 n = nI r ∧ S 10 n = v
    · rw [if_pos c, decide_eq_true c.1, decide_eq_true c.2, Bool.and_true, Bool.and_true, h8, B_or1 (by omega)]
      congr 1
      by_cases e : o = aT S n
      · rw [decide_eq_true e, decide_eq_true (by rw [e])]
      · rw [decide_eq_false e, decide_eq_false (fun z => e (n_inj8 (by omega) (by omega) z).symm)]
    · rw [if_neg c]
      cases hb : (decide (S 8 n = nI o) && (decide (S 9 n = nI r) && decide (S 10 n = v))) with
      | false => rw [Bool.or_false]
      | true =>
        rw [Bool.and_eq_true, Bool.and_eq_true, decide_eq_true_eq, decide_eq_true_eq, decide_eq_true_eq] at hb
        exact absurd hb.2 c
theorem like1_5 {S : Mem} {b t o : Nat} : p_like1 S b t o (b + 5) = upd (S (b + 5)) (t * 8 + o) (S (b + 5) (t * 8 + o) + 1) := st_same
theorem like1_6 {S : Mem} {b t o : Nat} : p_like1 S b t o (b + 6) = S (b + 6) := st_ne (by omega)
theorem comm1_5 {S : Mem} {b t o r : Nat} : p_comm1 S b t o r (b + 5) = S (b + 5) := st_ne (by omega)
theorem comm1_6 {S : Mem} {b t o r : Nat} : p_comm1 S b t o r (b + 6) = upd (S (b + 6)) (t * 8 + o) (S (b + 6) (t * 8 + o) ||| bt (nI r)) := st_same
theorem common_5 {S : Mem} {b t o r : Nat} (ht : t < 8) (ho : o < 8) (hne : ¬ t = o) : p_common S b t o r (b + 5) = upd (upd (S (b + 5)) (t * 8 + o) (S (b + 5) (t * 8 + o) + 1)) (o * 8 + t) (S (b + 5) (o * 8 + t) + 1) := by
  unfold p_common
  rw [comm1_5, comm1_5, like1_5, like1_5, pk_un (by omega)]
theorem common_6 {S : Mem} {b t o r : Nat} (ht : t < 8) (ho : o < 8) (hne : ¬ t = o) : p_common S b t o r (b + 6) = upd (upd (S (b + 6)) (t * 8 + o) (S (b + 6) (t * 8 + o) ||| bt (nI r))) (o * 8 + t) (S (b + 6) (o * 8 + t) ||| bt (nI r)) := by
  unfold p_common
  rw [comm1_6, comm1_6, like1_6, like1_6, pk_un (by omega)]
theorem upd2 {f : Fn} {t o x y : Nat} {p : Int32 → Int32} (ht : t < 8) (ho : o < 8) (hne : ¬ t = o) (hx : x < 8) (hy : y < 8) : upd (upd f (t * 8 + o) (p (f (t * 8 + o)))) (o * 8 + t) (p (f (o * 8 + t))) (x * 8 + y) = if (x = t ∧ y = o) ∨ (x = o ∧ y = t) then p (f (x * 8 + y)) else f (x * 8 + y) := by
  by_cases c1 : x = o ∧ y = t
  · rw [c1.1, c1.2, pk_us, if_pos (.inr ⟨rfl, rfl⟩)]
  · rw [pk_un (by omega)]
    by_cases c2 : x = t ∧ y = o
    · rw [c2.1, c2.2, pk_us, if_pos (.inl ⟨rfl, rfl⟩)]
    · rw [pk_un (by omega), if_neg (fun z => z.elim c2 c1)]
theorem nwl_val {S : Mem} {g : Int32} {t r c : Nat} {p : Int32 → Int32} (ht : t < 8) (hg : B g t = false) (hc : ∀ (Z : Mem) (o : Nat), o < 8 → (¬ t = o) → p_common Z 18 t o r c = upd (upd (Z c) (t * 8 + o) (p (Z c (t * 8 + o)))) (o * 8 + t) (p (Z c (o * 8 + t)))) {x y : Nat} (hx : x < 8) (hy : y < 8) : ∀ n, n ≤ 8 → p_nwl S g t r n c (x * 8 + y) = if (x = t ∧ y < n ∧ B g y = true) ∨ (y = t ∧ x < n ∧ B g x = true) then p (S c (x * 8 + y)) else S c (x * 8 + y)
  | 0, _ => by
    rw [if_neg (fun z => z.elim (fun z2 => absurd z2.2.1 (by omega)) (fun z2 => absurd z2.2.1 (by omega)))]; rfl
  | n + 1, hn => by
    have ih := nwl_val (S := S) ht hg hc hx hy n (by omega)
    rw [show p_nwl S g t r (n + 1) = if hs g (nI n) = true then p_common (p_nwl S g t r n) 18 t n r else p_nwl S g t r n from rfl, hs_B (by omega)]
    by_cases hb : B g n = true
    · have ne : ¬ t = n := fun e => by rw [e, hb] at hg; cases hg
      rw [if_pos hb, hc _ n (by omega) ne, upd2 ht (by omega) ne hx hy, ih]
      by_cases c1 : (x = t ∧ y = n) ∨ (x = n ∧ y = t)
      · rw [if_pos c1, if_neg (fun z => by rcases c1 with c1 | c1 <;> rcases z with z | z <;> omega)]
        rw [if_pos (by
          rcases c1 with c1 | c1
          · exact .inl ⟨c1.1, by omega, by rw [c1.2]; exact hb⟩
          · exact .inr ⟨c1.2, by omega, by rw [c1.1]; exact hb⟩)]
      · rw [if_neg c1]
        by_cases c2 : (x = t ∧ y < n ∧ B g y = true) ∨ (y = t ∧ x < n ∧ B g x = true)
        · rw [if_pos c2, if_pos (c2.imp (fun z => ⟨z.1, by omega, z.2.2⟩) (fun z => ⟨z.1, by omega, z.2.2⟩))]
        · rw [if_neg c2, if_neg (fun z => by
            rcases z with ⟨z1, z2, z3⟩ | ⟨z1, z2, z3⟩
            · by_cases e : y = n
              · exact c1 (.inl ⟨z1, e⟩)
              · exact c2 (.inl ⟨z1, by omega, z3⟩)
            · by_cases e : x = n
              · exact c1 (.inr ⟨e, z1⟩)
              · exact c2 (.inr ⟨z1, by omega, z3⟩))]
    · rw [if_neg hb, ih]
      by_cases c2 : (x = t ∧ y < n ∧ B g y = true) ∨ (y = t ∧ x < n ∧ B g x = true)
      · rw [if_pos c2, if_pos (c2.imp (fun z => ⟨z.1, by omega, z.2.2⟩) (fun z => ⟨z.1, by omega, z.2.2⟩))]
      · rw [if_neg c2, if_neg (fun z => by
          rcases z with ⟨z1, z2, z3⟩ | ⟨z1, z2, z3⟩
          · by_cases e : y = n
            · exact hb (by rw [← e]; exact z3)
            · exact c2 (.inl ⟨z1, by omega, z3⟩)
          · by_cases e : x = n
            · exact hb (by rw [← e]; exact z3)
            · exact c2 (.inr ⟨z1, by omega, z3⟩))]
end
