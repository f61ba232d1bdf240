/-! what the law's start gives: words, texts, statics, exceptions, classes -/
theorem st_EN {s : State} {b : Nat} (hts : ∀ w ∈ lw_tbl, w.before #[Value.ref b] s = true) : EN s := fun w hw A => q_warm (State.WarmedH.refl s) w #[Value.ref b] A ((List.mem_filter.mp hw).2) (hts w (List.mem_filter.mp hw).1)
theorem st_ES {s : State} {b : Nat} (hts : ∀ w ∈ lw_tbl, w.before #[Value.ref b] s = true) : ES s := by
  intro own k tx hm
  have h1 : (Cond.stringRef own k tx).before #[] s = true := by
    have h0 := hts _ hm
    simp only [Cond.before, Cond.holds, Cond.value] at h0 ⊢
    exact h0
  have hcur : ∃ cur, s.vm.findClass own = some cur := by
    have h2 := h1
    simp only [Cond.before, Cond.holds, Cond.value] at h2
    cases hc : s.vm.findClass own with
    | none => simp [hc] at h2
    | some cur => exact ⟨cur, rfl⟩
  obtain ⟨cur, hcur⟩ := hcur
  obtain ⟨k9, cf, i9, a, _, _, _, _, _, he⟩ := Cond.stringRef_spec hcur h1
  exact ⟨a, vk_R.of h1 he⟩
theorem st_pairs : ∀ q ∈ exPairs, Cond.not (.castable q.1 q.2) ∈ flatC (Jvm.Cond.and given_1 narrow_1) := by decide +kernel
theorem st_EC {s : State} {b : Nat} (hgv : (Jvm.Cond.and given_1 narrow_1).before #[Value.ref b] s = true) : EC s := fun q hq => va_Nc.of (flat_of_before _ hgv _ (st_pairs q hq))
theorem st_EZ {s : State} {b : Nat} (hts : ∀ w ∈ lw_tbl, w.before #[Value.ref b] s = true) (hgv : (Jvm.Cond.and given_1 narrow_1).before #[Value.ref b] s = true) : EZ (fun q => s.heap.size ≤ q) s s.heap :=
  ⟨vx_Zqof (args := #[Value.ref b]) (hts _ (List.mem_of_getElem? (i := 266) (by decide +kernel))) (hts _ (List.mem_of_getElem? (i := 46) (by decide +kernel))) (flat_of_before _ hgv _ (by decide +kernel)) (fun a ha => Nat.not_le.mpr ha),
    vx_Zqof (args := #[Value.ref b]) (hts _ (List.mem_of_getElem? (i := 268) (by decide +kernel))) (hts _ (List.mem_of_getElem? (i := 46) (by decide +kernel))) (flat_of_before _ hgv _ (by decide +kernel)) (fun a ha => Nat.not_le.mpr ha)⟩
theorem st_ai {s : State} {args : Array Value} (h : (Cond.arrayClass .int).before args s = true) : ∃ cA, ArrOfT s cA .int ∧ va_RA s cA .int := by
  obtain ⟨cA, kA, comp, h1, h2, h3⟩ := Cond.arrayClass_spec h
  exact ⟨cA, fun n z => ⟨(fun k h => by cases h), kA, h2, comp, h3⟩, h1⟩

theorem st_K {s : State} (hE : EN s) : ∃ (D : va_G) (cI cZ cL : ClassId), EV D cI cZ cL s := by
  have hT : ∀ w ∈ TW, w.before #[] s = true := fun w hw => hE w hw #[]
  obtain ⟨c0, i0, h0⟩ := u_known (C := RX0) (T := TX0) (N := 5) (n := 5) hT inT_X0 (hE _ w_122 #[])
  obtain ⟨c1, i1, h1⟩ := u_known (C := RX1) (T := TX1) (N := 3) (n := 3) hT inT_X1 (hE _ w_164 #[])
  obtain ⟨c2, i2, h2⟩ := u_known (C := RX2) (T := TX2) (N := 6) (n := 6) hT inT_X2 (hE _ w_182 #[])
  obtain ⟨c3, i3, h3⟩ := u_known (C := RX3) (T := TX3) (N := 7) (n := 7) hT inT_X3 (hE _ w_87 #[])
  obtain ⟨c4, i4, h4⟩ := u_known (C := RX4) (T := TX4) (N := 2) (n := 2) hT inT_X4 (hE _ w_149 #[])
  obtain ⟨c5, i5, h5⟩ := u_known (C := RX5) (T := TX5) (N := 12) (n := 12) hT inT_X5 (hE _ w_79 #[])
  obtain ⟨cI, a1, a2⟩ := st_ai (hE _ w_120 #[])
  refine ⟨(fun k => match k with | 0 => c0 | 1 => c1 | 2 => c2 | 3 => c3 | 4 => c4 | _ => c5, fun k => match k with | 0 => i0 | 1 => i1 | 2 => i2 | 3 => i3 | 4 => i4 | _ => i5), cI, cI, cI, hE, fun k q hq => ?_, fun k q hq => ?_⟩
  · match k, hq with
    | 0, hq => cases hq; exact h0
    | 1, hq => cases hq; exact h1
    | 2, hq => cases hq; exact h2
    | 3, hq => cases hq; exact h3
    | 4, hq => cases hq; exact h4
    | 5, hq => cases hq; exact h5
    | k + 6, hq => exact nomatch (show (none : Option vw_C) = some q from hq)
  · match k, hq with
    | 0, hq => cases hq; exact ⟨a1, a2⟩
    | k + 1, hq => exact nomatch (show (none : Option (ClassId × FieldType)) = some q from hq)
theorem cki_X5 : CKi yX5_init cX5_init 1 0 := ⟨w_82, w_61, by decide, by decide +kernel, w_81, rfl⟩
theorem fs0_X5 : ∀ j, j < 12 → defaultValue (tyX5 j) = vp_V [.null, .null, .null, .null, .null, .null, .null, .null, .null, .int 0, .int 0, .int 0] j := fun j hj => by
  rcases (show j = 0 ∨ j = 1 ∨ j = 2 ∨ j = 3 ∨ j = 4 ∨ j = 5 ∨ j = 6 ∨ j = 7 ∨ j = 8 ∨ j = 9 ∨ j = 10 ∨ j = 11 by omega) with rfl | rfl | rfl | rfl | rfl | rfl | rfl | rfl | rfl | rfl | rfl | rfl <;> rfl
def lw_P (b : Addr) (xs : List Int32) (args : Array Value) (s : State) : Prop := args = #[.ref b] ∧ s.IntsAt b xs ∧ xs.length ≤ 260 ∧ (Jvm.Cond.and given_1 narrow_1).before args s = true
def lw_At (p : Program) (s : State) (m : MethodId) (meth : Method) (c : Code) (b L : Nat) (xs : Nat → Int32) : Prop :=
  p.tables.exec = Jvm.exec ∧ c.code = code ∧ meth.sig.returnType = ret ∧ c.maxLocals = 20 ∧ s.vm.findClass R_law = some m.cls ∧ (∀ w ∈ lw_tbl, w.before #[Value.ref b] s = true) ∧ va_X b L xs s s.heap ∧ b < s.heap.size ∧ meth.locks = false ∧ (Jvm.Cond.and given_1 narrow_1).before #[Value.ref b] s = true
set_option maxHeartbeats 8000000 in
set_option maxRecDepth 100000 in
theorem lx_start {p : Program} {e : Env} {s : State} {m : MethodId} {below : List Frame} {meth : Method} {c : Code} (l : Launch) (hflags : l.flags = flags0) {b L : Nat} {xs : Nat → Int32} (hL : 110 ≤ L) (hL2 : L ≤ 260) (hv : ∀ k, k < 110 → xs k = 3) (C0 : lw_At p s m meth c b L xs) :
    W p l e (rg 20 20000) s m #[Value.ref b] below meth c s.heap [] 0 0 (MQ below QL #[Value.ref b] s 20000 (6 * 20000) (fun q => s.heap.size ≤ q)) (entryFrame m ([Value.ref b] : List Value).toArray 20) := by
  obtain ⟨hx, hb, hr, hml, hown, hts, hX, hbl, hlk, hgv⟩ := C0
  have hEN := st_EN hts
  obtain ⟨D, cI, cZ, cL, hE⟩ := st_K hEN
  have hA : ∀ q : Nat, s.heap.size ≤ q → (fun q : Nat => s.heap.size ≤ q) q := fun _ h => h
  have hS : va_S (fun q : Nat => s.heap.size ≤ q) s.heap s.heap [] := va_S.rf
  have hP : va_P D vwCl [] s.heap := fun k q h => by simp at h
  have hD : va_D (fun q : Nat => s.heap.size ≤ q) [] := ⟨fun i j p q h => by simp at h, fun k q h => by simp at h⟩
  have hl := lv_entry ([.ref b]) (n := 20) (Nat.le_of_ble_eq_true rfl)
  rw [lg_entry_eq]
  generalize (lg_sl ([.ref b]) ++ List.replicate (20 - (lg_sl ([.ref b])).length) Slot.unset).toArray = ls at hl ⊢
  have hl : lv_has ls 20 [(0, .ref b)] := hl
  refine q_mkO (fs0 := [.null, .null, .null, .null, .null, .null, .null, .null, .null, .int 0, .int 0, .int 0]) (T := TX5) (N := 12) (ci := 5) (ty := tyX5) (own := R_law) hx hb hml hown hE (fun a0 sz => n_X5 l D cI cZ cL a0 sz) cki_X5 v_58 v_56 w_79 inT_X5 tyX5_ok rfl fs0_X5 hP hD hS hA hl.1 0 [] (fun _ => rfl) (fun _ => rfl) (fun _ => rfl) (by decide) (by decide) (Nat.le_of_ble_eq_true rfl) (Nat.le_of_ble_eq_true rfl) ⟨Nat.le_of_ble_eq_true rfl, Nat.le_of_ble_eq_true rfl⟩ (fun _ => Nat.le_of_ble_eq_true rfl) dL_law_0 dL_law_3 dL_law_4 (fun ad H locs hP hD hS => ?_)
  have hP : va_P D vwCl (wC ad cI mem0) H := hP
  have hD : va_D (fun q : Nat => s.heap.size ≤ q) (wC ad cI mem0) := hD
  refine lv_astore_n (lv' := [(1, .ref (ad 0)), (0, .ref b)]) hx hb dL_law_7 rfl hl (by decide) rfl (fun ls hl => ?_)
  refine lv_bipush (v := 48) hx hb dL_law_8 (by decide) ?_
  refine q_newa (n := 48) (N' := 48) hx hb hE hP hD hS hA (by decide) (by decide) (by decide) (Nat.le_of_ble_eq_true rfl) (Nat.le_of_ble_eq_true rfl) dL_law_10 (fun q0 H hP hD hS => ?_)
  refine lv_astore_n (lv' := [(2, .ref q0), (1, .ref (ad 0)), (0, .ref b)]) hx hb dL_law_12 rfl hl (by decide) rfl (fun ls hl => ?_)
  refine lv_bipush (v := 64) hx hb dL_law_13 (by decide) ?_
  refine q_newa (n := 64) (N' := 64) hx hb hE hP hD hS hA (by decide) (by decide) (by decide) (Nat.le_of_ble_eq_true rfl) (Nat.le_of_ble_eq_true rfl) dL_law_15 (fun q1 H hP hD hS => ?_)
  refine lv_astore_n (lv' := [(3, .ref q1), (2, .ref q0), (1, .ref (ad 0)), (0, .ref b)]) hx hb dL_law_17 rfl hl (by decide) rfl (fun ls hl => ?_)
  refine lv_bipush (v := 40) hx hb dL_law_18 (by decide) ?_
  refine q_newa (n := 40) (N' := 40) hx hb hE hP hD hS hA (by decide) (by decide) (by decide) (Nat.le_of_ble_eq_true rfl) (Nat.le_of_ble_eq_true rfl) dL_law_20 (fun q2 H hP hD hS => ?_)
  refine lv_astore (lv' := [(4, .ref q2), (3, .ref q1), (2, .ref q0), (1, .ref (ad 0)), (0, .ref b)]) hx hb dL_law_22 hl (by decide) rfl (fun ls hl => ?_)
  refine lv_iconst (v := 5) hx hb dL_law_24 (by decide) ?_
  refine q_newa (n := 5) (N' := 5) hx hb hE hP hD hS hA (by decide) (by decide) (by decide) (Nat.le_of_ble_eq_true rfl) (Nat.le_of_ble_eq_true rfl) dL_law_25 (fun q3 H hP hD hS => ?_)
  refine lv_astore (lv' := [(5, .ref q3), (4, .ref q2), (3, .ref q1), (2, .ref q0), (1, .ref (ad 0)), (0, .ref b)]) hx hb dL_law_27 hl (by decide) rfl (fun ls hl => ?_)
  refine lv_bipush (v := 8) hx hb dL_law_29 (by decide) ?_
  refine q_newa (n := 8) (N' := 8) hx hb hE hP hD hS hA (by decide) (by decide) (by decide) (Nat.le_of_ble_eq_true rfl) (Nat.le_of_ble_eq_true rfl) dL_law_31 (fun q4 H hP hD hS => ?_)
  refine lv_astore (lv' := [(6, .ref q4), (5, .ref q3), (4, .ref q2), (3, .ref q1), (2, .ref q0), (1, .ref (ad 0)), (0, .ref b)]) hx hb dL_law_33 hl (by decide) rfl (fun ls hl => ?_)
  refine lv_iconst (v := 5) hx hb dL_law_35 (by decide) ?_
  refine q_newa (n := 5) (N' := 5) hx hb hE hP hD hS hA (by decide) (by decide) (by decide) (Nat.le_of_ble_eq_true rfl) (Nat.le_of_ble_eq_true rfl) dL_law_36 (fun q5 H hP hD hS => ?_)
  refine lv_astore (lv' := [(7, .ref q5), (6, .ref q4), (5, .ref q3), (4, .ref q2), (3, .ref q1), (2, .ref q0), (1, .ref (ad 0)), (0, .ref b)]) hx hb dL_law_38 hl (by decide) rfl (fun ls hl => ?_)
  refine lv_iconst (v := 5) hx hb dL_law_40 (by decide) ?_
  refine q_newa (n := 5) (N' := 5) hx hb hE hP hD hS hA (by decide) (by decide) (by decide) (Nat.le_of_ble_eq_true rfl) (Nat.le_of_ble_eq_true rfl) dL_law_41 (fun q6 H hP hD hS => ?_)
  refine lv_astore (lv' := [(8, .ref q6), (7, .ref q5), (6, .ref q4), (5, .ref q3), (4, .ref q2), (3, .ref q1), (2, .ref q0), (1, .ref (ad 0)), (0, .ref b)]) hx hb dL_law_43 hl (by decide) rfl (fun ls hl => ?_)
  obtain ⟨aa, haa⟩ : ∃ aa : Nat → Nat, aa = (fun i : Nat => ([q0, q1, q2, q3, q4, q5, q6] : List Nat).getD i 0) := ⟨_, rfl⟩
  have hD9 : va_D (fun q : Nat => s.heap.size ≤ q) (wC ad cI mem0 ++ wA aa cI (fun _ _ => 0)) := by subst haa; exact hD
  have hP9 : va_P D vwCl (wC ad cI mem0 ++ wA aa cI (fun _ _ => 0)) H := by subst haa; exact hP
  have hN : s.heap.size + 42 ≤ H.size := grown hP9 hD9 (by show 0 < 42; omega)
  have hD1 : va_D (fun q : Nat => s.heap.size ≤ q) (wA aa cI (fun _ _ => 0) ++ wC ad cI mem0) := va_D.app (D_right hD9) (D_left hD9) (fun i j p q hi hj e => D_apart hD9 (q := q.1) ⟨j, q.2, hj⟩ (by rw [← e]; exact ⟨i, p.2, hi⟩))
  have X : LX p l s m meth c b L xs D cI cZ cL ad aa := ⟨⟨⟨hx, hb, hml, hown, hflags⟩, ⟨hE, st_ES hts, st_EZ hts hgv, st_EC hgv⟩, aW_D (D_left hD9), fun q h1 h2 => D_apart hD9 h2 (aW_map (ws := wA aa cI mem0) (ws' := wA aa cI (fun _ _ => 0)) rfl h1), fun q h => D_in (D_left hD9) h⟩, ⟨hr, hlk⟩, fun fa S => q_D (ws := wA aa cI (fun _ _ => 0) ++ wC ad cI mem0) rfl hD1, ⟨hX, hbl⟩, hL, by omega, hv⟩
  have hw : GW D cI (fun q => s.heap.size ≤ q) ad aa (fun _ _ => 0) 0 0 s mem0 H locs := ⟨fun k q hk => hP9 k q (ap_l hk), fun k q hk => hP9 _ q (ap_r (w1 := wC ad cI mem0) hk), hS, js_0⟩
  have hl : lv_has ls 20 [(8, .ref (aa 6)), (7, .ref (aa 5)), (6, .ref (aa 4)), (5, .ref (aa 3)), (4, .ref (aa 2)), (3, .ref (aa 1)), (2, .ref (aa 0)), (1, .ref (ad 0)), (0, .ref b)] := by subst haa; exact hl
  refine lv_aload hx hb dL_law_45 (lv_at hl 1 rfl) ?_
  refine lv_iconst (v := 3) hx hb dL_law_47 (by decide) ?_
  refine lv_iconst (v := 3) hx hb dL_law_48 (by decide) ?_
  refine g_st (x := 3) (i := 3) (n := 5) X hw 5 rfl (by omega) (Nat.le_of_ble_eq_true rfl) rfl dL_law_49 (fun H locs hle hw => ?_)
  refine W.widen (k := 600) (n := 6 * 600) (Nat.le_of_ble_eq_true rfl) (Nat.le_of_ble_eq_true rfl) ?_
  exact lx_body X fa_0 hw (by omega) (lv_sub hl [8, 7, 6, 5, 4, 3, 2, 1, 0] rfl)
