/-! p29: the ends of the law -/
section Ends29
variable {p : Program} {l : Launch} {e : Env} {s : State} {m : MethodId} {args : Array Value} {below : List Frame} {meth : Method} {c : Code} {H : Heap} {locs : List Loc} {cells slots : Nat}
variable {pc : Nat} {ls : Array Slot} {D : va_G} {cI cZ cL : ClassId} {ad aa : Nat → Nat} {fa S : Mem} {m0 m1 : Nat} {b L : Nat} {xs : Nat → Int32}
theorem lx_ret {v : Int32} (X : LX p l s m meth c b L xs D cI cZ cL ad aa) (hw : GW D cI (fun q => s.heap.size ≤ q) ad aa fa m0 m1 s S H locs) (hn : narrow .boolean (.int v) = .int v) (hq : v = 0 ∨ s.heap.size + 162 ≤ H.size) (hc : cells ≤ 20000 ∧ slots ≤ 6 * 20000) (hdg : decode code pc = .ok (.ireturn, 1)) :
    W p l e (rg 20 20000) s m args below meth c H locs cells slots (MQ below QL args s 20000 (6 * 20000) (fun q => s.heap.size ≤ q)) (F0 m pc ls [.int v]) :=
  W.widen hc.1 hc.2 (W.zret X.1.1.1 X.1.1.2.1 X.2.1.1 hn (fun t ht _ => hq.elim (fun h => .inl (by rw [h])) (fun h => .inr (by rw [ht]; exact h))) hw.2.2.1.2.2 hdg X.2.1.2)
theorem lx_end0 {n : Nat} (X : LX p l s m meth c b L xs D cI cZ cL ad aa) (hw : GW D cI (fun q => s.heap.size ≤ q) ad aa fa m0 m1 s S H locs) (hn : n < 2 ^ 31) (hc : cells ≤ 20000 ∧ slots ≤ 6 * 20000) (hl : lv_has ls 20 [(9, .int (bI false)), (10, .int (nI n))]) :
    W p l e (rg 20 20000) s m args below meth c H locs cells slots (MQ below QL args s 20000 (6 * 20000) (fun q => s.heap.size ≤ q)) (F0 m 90 ls []) := by
  have hx := X.1.1.1
  have hb := X.1.1.2.1
  have tail : W p l e (rg 20 20000) s m args below meth c H locs cells slots (MQ below QL args s 20000 (6 * 20000) (fun q => s.heap.size ≤ q)) (F0 m 1311 ls []) := by
    refine lv_iload hx hb dL_law_1311 (lv_at hl 0 rfl) ?_
    refine lv_if_eq (tgt := 1334) hx hb dL_law_1313 (by decide) (fun c_1 => ?_) (fun c_1 => absurd rfl c_1)
    refine lv_iconst (v := 0) hx hb dL_law_1334 (by decide) ?_
    exact lx_ret X hw rfl (.inl rfl) hc dL_law_1335
  refine lv_iload hx hb dL_law_90 (lv_at hl 1 rfl) ?_
  refine lv_bipush (v := 110) hx hb dL_law_92 (by decide) ?_
  refine lv_icmp_ge (tgt := 1311) hx hb dL_law_94 (by decide) (fun c_1 => tail) (fun c_1 => ?_)
  refine lv_iload hx hb dL_law_97 (lv_at hl 0 rfl) ?_
  exact lv_if_eq (tgt := 1311) hx hb dL_law_99 (by decide) (fun c_1 => tail) (fun c_1 => absurd rfl c_1)
theorem lx_end1 (X : LX p l s m meth c b L xs D cI cZ cL ad aa) (hfa : FA fa m0 m1) (hw : GW D cI (fun q => s.heap.size ≤ q) ad aa fa m0 m1 s S H locs) (hN : s.heap.size + 162 ≤ H.size) (hc : cells + 2 ≤ 20000 ∧ slots + 6 * 2 ≤ 6 * 20000)
    (hl : lv_has ls 20 [(9, .int (bI true)), (10, .int (nI 110)), (0, .ref b), (1, .ref (ad 0)), (2, .ref (aa 0)), (3, .ref (aa 1)), (4, .ref (aa 2)), (5, .ref (aa 3)), (6, .ref (aa 4)), (7, .ref (aa 5)), (8, .ref (aa 6))]) :
    W p l e (rg 20 20000) s m args below meth c H locs cells slots (MQ below QL args s 20000 (6 * 20000) (fun q => s.heap.size ≤ q)) (F0 m 90 ls []) := by
  have hx := X.1.1.1
  have hb := X.1.1.2.1
  have C := X.1
  refine lv_iload hx hb dL_law_90 (lv_at hl 1 rfl) ?_
  refine lv_bipush (v := 110) hx hb dL_law_92 (by decide) ?_
  refine lv_icmp_ge (tgt := 1311) hx hb dL_law_94 (by decide) (fun c_1 => ?_) (fun c_1 => absurd c_1 (by decide))
  refine lv_iload hx hb dL_law_1311 (lv_at hl 0 rfl) ?_
  refine lv_if_eq (tgt := 1334) hx hb dL_law_1313 (by decide) (fun c_1 => absurd c_1 (by decide)) (fun c_1 => ?_)
  refine lv_aload_n hx hb dL_law_1316 rfl (lv_at hl 3 rfl) ?_
  refine lv_aload_n hx hb dL_law_1317 rfl (lv_at hl 4 rfl) ?_
  refine lv_aload hx hb dL_law_1318 (lv_at hl 6 rfl) ?_
  refine lv_aload hx hb dL_law_1320 (lv_at hl 8 rfl) ?_
  refine lv_aload hx hb dL_law_1322 (lv_at hl 9 rfl) ?_
  refine g_hl (rest := []) C hw (t_areScores C.1.2.2.2.2 C.2.2.1 C.2.2.2.1 hfa hw.2.2.2) ck_L_areScores v_680 hl.1 rfl ⟨Nat.le_of_ble_eq_true rfl, Nat.le_of_ble_eq_true rfl⟩ (Nat.le_of_ble_eq_true rfl) dL_law_1324 ⟨hc.1, hc.2⟩ (fun v S H1 locs hpo hle hw => ?_)
  obtain ⟨z, rfl⟩ := hpo
  have hN2 : s.heap.size + 162 ≤ H1.size := Nat.le_trans hN hle
  refine lv_if_eq (tgt := 1334) hx hb dL_law_1327 (by decide) (fun c_1 => ?_) (fun c_1 => ?_)
  · refine lv_iconst (v := 0) hx hb dL_law_1334 (by decide) ?_
    exact lx_ret X hw rfl (.inr hN2) hc dL_law_1335
  · refine lv_iconst (v := 1) hx hb dL_law_1330 (by decide) ?_
    refine lv_goto (tgt := 1335) hx hb dL_law_1331 (by decide) ?_
    exact lx_ret X hw (by decide) (.inr hN2) hc dL_law_1335
/-- so many cells apart, all new: the heap has grown by as many -/
theorem pigeon {M : Nat} : ∀ (N k : Nat) (f : Nat → Nat), (∀ i, i < k → M ≤ f i ∧ f i < N) → (∀ i j, i < k → j < k → f i = f j → i = j) → M + k ≤ N ∨ k = 0
  | 0, k, f, h, _ => by
    cases k with
    | zero => exact .inr rfl
    | succ k => exact absurd (h 0 (by omega)).2 (by omega)
  | N + 1, k, f, h, hi => by
    cases k with
    | zero => exact .inr rfl
    | succ k =>
      by_cases hN : ∃ i, i < k + 1 ∧ f i = N
      · obtain ⟨i, h1, h2⟩ := hN
        have h3 := (h i h1).1
        rcases pigeon (M := M) N k (fun j => if f j = N then f k else f j) (fun j hj => by
          have hj2 := h j (by omega)
          have hk2 := h k (by omega)
          (try dsimp only)
          by_cases e1 : f j = N
          · rw [if_pos e1]
            refine ⟨hk2.1, ?_⟩
            have : f k ≠ N := fun e2 => by have := hi j k (by omega) (by omega) (e1.trans e2.symm); omega
            omega
          · rw [if_neg e1]; omega) (fun a b ha hb e9 => by
          (try dsimp only at e9)
          by_cases e1 : f a = N
          · by_cases e2 : f b = N
            · exact hi a b (by omega) (by omega) (e1.trans e2.symm)
            · rw [if_pos e1, if_neg e2] at e9
              have := hi k b (by omega) (by omega) e9
              omega
          · by_cases e2 : f b = N
            · rw [if_neg e1, if_pos e2] at e9
              have := hi a k (by omega) (by omega) e9
              omega
            · rw [if_neg e1, if_neg e2] at e9
              exact hi a b (by omega) (by omega) e9) with h4 | h4
        · exact .inl (by omega)
        · subst h4; exact .inl (by omega)
      · rcases pigeon (M := M) N (k + 1) f (fun i hk => ⟨(h i hk).1, by
          have h5 := (h i hk).2
          have : f i ≠ N := fun e2 => hN ⟨i, hk, e2⟩
          omega⟩) hi with h4 | h4
        · exact .inl (by omega)
        · omega
theorem grown {D : va_G} {ws : va_W} {M : Nat} {H : Heap} (hP : va_P D vwCl ws H) (hD : va_D (fun q => M ≤ q) ws) (h0 : 0 < ws.length) : M + ws.length ≤ H.size := by
  have key : ∀ i, i < ws.length → ∃ x, ws[i]? = some x := fun i hi => ⟨ws[i], List.getElem?_eq_getElem hi⟩
  rcases pigeon (M := M) H.size ws.length (fun i => ((ws[i]?).map Prod.fst).getD 0) (fun i hi => by
    obtain ⟨x, hx⟩ := key i hi
    (try dsimp only)
    rw [hx]
    exact ⟨hD.2 i x hx, (hP i x hx).lt⟩) (fun i j hi hj h => by
    obtain ⟨x, hx⟩ := key i hi
    obtain ⟨y, hy⟩ := key j hj
    (try dsimp only at h)
    rw [hx, hy] at h
    exact hD.1 i j x y hx hy h) with h | h
  · exact h
  · omega
end Ends29
theorem lb_step (n : Nat) : (n % 22 = 0 ∧ (n + 1 + 21) / 22 = (n + 21) / 22 + 1) ∨ (0 < n % 22 ∧ (n + 1 + 21) / 22 = (n + 21) / 22) := by
  obtain ⟨o, r, hr, rfl⟩ : ∃ o r, r < 22 ∧ n = 22 * o + r := ⟨n / 22, n % 22, Nat.mod_lt _ (by decide), (Nat.div_add_mod n 22).symm⟩
  have e1 : (22 * o + r) % 22 = r := by rw [Nat.mul_add_mod]; exact Nat.mod_eq_of_lt hr
  have e2 : (22 * o + r + 1 + 21) / 22 = o + 1 := by
    have : 22 * o + r + 1 + 21 = 22 * (o + 1) + r := by omega
    rw [this, Nat.mul_add_div (by decide), Nat.div_eq_of_lt hr]
  rw [e1, e2]
  by_cases h : r = 0
  · subst h
    left
    refine ⟨rfl, ?_⟩
    show o + 1 = (22 * o + 21) / 22 + 1
    rw [Nat.mul_add_div (m := 22) (by decide)]
  · right
    refine ⟨by omega, ?_⟩
    have : 22 * o + r + 21 = 22 * (o + 1) + (r - 1) := by omega
    rw [this, Nat.mul_add_div (by decide), Nat.div_eq_of_lt (by omega)]
