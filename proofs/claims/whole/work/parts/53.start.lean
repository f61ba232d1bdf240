section
/-! what the law's start gives: words, texts, statics, exceptions, classes -/
theorem st_EN {s : State} {b : Nat} (hts : ∀ w ∈ lw_tbl, w.before #[Value.ref b] s = true) : EN s := fun w hw A => q_warm (State.WarmedH.refl s) w #[Value.ref b] A ((List.mem_filter.mp hw).2) (hts w (List.mem_filter.mp hw).1)
theorem st_ES {s : State} {b : Nat} (hts : ∀ w ∈ lw_tbl, w.before #[Value.ref b] s = true) : ES s := by
  intro own k tx hm
  have h1 : (Cond.stringRef own k tx).before #[] s = true := by
    have h0 := hts _ hm
    simp only [Cond.before, Cond.holds, Cond.value] at h0 ⊢
    exact h0
  have hcur : ∃ cur, s.vm.findClass own = some cur := by
    have h2 := h1
    simp only [Cond.before, Cond.holds, Cond.value] at h2
    cases hc : s.vm.findClass own with
    | none => simp [hc] at h2
    | some cur => exact ⟨cur, rfl⟩
  obtain ⟨cur, hcur⟩ := hcur
  obtain ⟨k9, cf, i9, a, _, _, _, _, _, he⟩ := Cond.stringRef_spec hcur h1
  exact ⟨a, vk_R.of h1 he⟩
theorem st_pairs : ∀ q ∈ exPairs, Cond.not (.castable q.1 q.2) ∈ flatC (Jvm.Cond.and given_1 narrow_1) := by decide +kernel
theorem st_EC {s : State} {b : Nat} (hgv : (Jvm.Cond.and given_1 narrow_1).before #[Value.ref b] s = true) : EC s := fun q hq => va_Nc.of (flat_of_before _ hgv _ (st_pairs q hq))
theorem st_EZ {s : State} {b : Nat} (hts : ∀ w ∈ lw_tbl, w.before #[Value.ref b] s = true) (hgv : (Jvm.Cond.and given_1 narrow_1).before #[Value.ref b] s = true) : EZ (fun q => s.heap.size ≤ q) s s.heap :=
  ⟨vx_Zqof (args := #[Value.ref b]) (hts _ (List.mem_of_getElem? (i := 358) (by decide +kernel))) (hts _ (List.mem_of_getElem? (i := 68) (by decide +kernel))) (flat_of_before _ hgv _ (by decide +kernel)) (fun a ha => Nat.not_le.mpr ha),
    vx_Zqof (args := #[Value.ref b]) (hts _ (List.mem_of_getElem? (i := 360) (by decide +kernel))) (hts _ (List.mem_of_getElem? (i := 68) (by decide +kernel))) (flat_of_before _ hgv _ (by decide +kernel)) (fun a ha => Nat.not_le.mpr ha)⟩
theorem st_ai {s : State} {args : Array Value} (h : (Cond.arrayClass .int).before args s = true) : ∃ cA, ArrOfT s cA .int ∧ va_RA s cA .int := by
  obtain ⟨cA, kA, comp, h1, h2, h3⟩ := Cond.arrayClass_spec h
  exact ⟨cA, fun n z => ⟨(fun k h => by cases h), kA, h2, comp, h3⟩, h1⟩
theorem st_az {s : State} {args : Array Value} (h : (Cond.arrayClass .boolean).before args s = true) : ∃ cA, ArrOfT s cA .boolean ∧ va_RA s cA .boolean := by
  obtain ⟨cA, kA, comp, h1, h2, h3⟩ := Cond.arrayClass_spec h
  exact ⟨cA, fun n z => ⟨(fun k h => by cases h), kA, h2, comp, h3⟩, h1⟩
theorem st_al {s : State} {args : Array Value} (h : (Cond.arrayClass .long).before args s = true) : ∃ cA, ArrOfT s cA .long ∧ va_RA s cA .long := by
  obtain ⟨cA, kA, comp, h1, h2, h3⟩ := Cond.arrayClass_spec h
  exact ⟨cA, fun n z => ⟨(fun k h => by cases h), kA, h2, comp, h3⟩, h1⟩
theorem st_K {s : State} (hE : EN s) : ∃ (D : va_G) (cI cZ cL : ClassId), EV D cI cZ cL s := by
  have hT : ∀ w ∈ TW, w.before #[] s = true := fun w hw => hE w hw #[]
  obtain ⟨c0, i0, h0⟩ := u_known (C := RX0) (T := TX0) (N := 5) (n := 5) hT inT_X0 (hE _ w_122 #[])
  obtain ⟨c1, i1, h1⟩ := u_known (C := RX1) (T := TX1) (N := 3) (n := 3) hT inT_X1 (hE _ w_164 #[])
  obtain ⟨c2, i2, h2⟩ := u_known (C := RX2) (T := TX2) (N := 6) (n := 6) hT inT_X2 (hE _ w_182 #[])
  obtain ⟨c3, i3, h3⟩ := u_known (C := RX3) (T := TX3) (N := 7) (n := 7) hT inT_X3 (hE _ w_87 #[])
  obtain ⟨c4, i4, h4⟩ := u_known (C := RX4) (T := TX4) (N := 2) (n := 2) hT inT_X4 (hE _ w_149 #[])
  obtain ⟨c5, i5, h5⟩ := u_known (C := RX5) (T := TX5) (N := 12) (n := 12) hT inT_X5 (hE _ w_79 #[])
  obtain ⟨c6, i6, h6⟩ := u_known (C := RX6) (T := TX6) (N := 22) (n := 22) hT inT_X6 (hE _ w_753 #[])
  obtain ⟨cI, a1, a2⟩ := st_ai (hE _ w_120 #[])
  obtain ⟨cZ, z1, z2⟩ := st_az (hE _ w_825 #[])
  obtain ⟨cL, l1, l2⟩ := st_al (hE _ w_1027 #[])
  refine ⟨(fun k => match k with | 0 => c0 | 1 => c1 | 2 => c2 | 3 => c3 | 4 => c4 | 5 => c5 | _ => c6, fun k => match k with | 0 => i0 | 1 => i1 | 2 => i2 | 3 => i3 | 4 => i4 | 5 => i5 | _ => i6), cI, cZ, cL, hE, fun k q hq => ?_, fun k q hq => ?_⟩
  · match k, hq with
    | 0, hq => cases hq; exact h0
    | 1, hq => cases hq; exact h1
    | 2, hq => cases hq; exact h2
    | 3, hq => cases hq; exact h3
    | 4, hq => cases hq; exact h4
    | 5, hq => cases hq; exact h5
    | 6, hq => cases hq; exact h6
    | k + 7, hq => exact nomatch (show (none : Option vw_C) = some q from hq)
  · match k, hq with
    | 0, hq => cases hq; exact ⟨a1, a2⟩
    | 1, hq => cases hq; exact ⟨z1, z2⟩
    | 2, hq => cases hq; exact ⟨l1, l2⟩
    | k + 3, hq => exact nomatch (show (none : Option (ClassId × FieldType)) = some q from hq)
theorem cki_X5 : CKi yX5_init cX5_init 1 0 := ⟨w_82, w_61, by decide, by decide +kernel, w_81, rfl⟩
theorem cki_X6 : CKi yX6_init cX6_init 1 0 := ⟨w_756, w_67, by decide, by decide +kernel, w_755, rfl⟩
theorem fs0_X5 : ∀ j, j < 12 → defaultValue (tyX5 j) = vp_V [.null, .null, .null, .null, .null, .null, .null, .null, .null, .int 0, .int 0, .int 0] j := fun j hj => by
  rcases (show j = 0 ∨ j = 1 ∨ j = 2 ∨ j = 3 ∨ j = 4 ∨ j = 5 ∨ j = 6 ∨ j = 7 ∨ j = 8 ∨ j = 9 ∨ j = 10 ∨ j = 11 by omega) with rfl | rfl | rfl | rfl | rfl | rfl | rfl | rfl | rfl | rfl | rfl | rfl <;> rfl
theorem fs0_X6 : ∀ j, j < 22 → defaultValue (tyX6 j) = vp_V [.int 0, .int 0, .int 0, .null, .null, .null, .null, .null, .int 0, .null, .null, .null, .null, .null, .int 0, .null, .null, .null, .null, .int 0, .null, .int 0] j := fun j hj => by
  rcases (show j = 0 ∨ j = 1 ∨ j = 2 ∨ j = 3 ∨ j = 4 ∨ j = 5 ∨ j = 6 ∨ j = 7 ∨ j = 8 ∨ j = 9 ∨ j = 10 ∨ j = 11 ∨ j = 12 ∨ j = 13 ∨ j = 14 ∨ j = 15 ∨ j = 16 ∨ j = 17 ∨ j = 18 ∨ j = 19 ∨ j = 20 ∨ j = 21 by omega) with rfl | rfl | rfl | rfl | rfl | rfl | rfl | rfl | rfl | rfl | rfl | rfl | rfl | rfl | rfl | rfl | rfl | rfl | rfl | rfl | rfl | rfl <;> rfl
set_option maxHeartbeats 8000000 in
set_option maxRecDepth 100000 in
/-- the law, from its entry -/
theorem whole_start {p : Program} {e : Env} {s : State} {m : MethodId} {below : List Frame} {meth : Method} {c : Code} (l : Launch) (hflags : l.flags = flags0) {b L : Nat} {xs : Nat → Int32} (hL : L ≤ 2560) (C0 : lw_At p s m meth c b L xs) : W p l e room_1 s m #[Value.ref b] below meth c s.heap [] 0 0 (lw_Z below #[Value.ref b] s) (entryFrame m ([Value.ref b] : List Value).toArray 7) := by
  obtain ⟨hx, hb, hr, hml, hown, hts, hX, hbl, hlk, hgv⟩ := C0
  have hEN := st_EN hts
  obtain ⟨D, cI, cZ, cL, hE⟩ := st_K hEN
  have hA : ∀ q : Nat, s.heap.size ≤ q → (fun q : Nat => s.heap.size ≤ q) q := fun _ h => h
  have hS : va_S (fun q : Nat => s.heap.size ≤ q) s.heap s.heap [] := va_S.rf
  have hP : va_P D vwCl [] s.heap := fun k q h => by simp at h
  have hD : va_D (fun q : Nat => s.heap.size ≤ q) [] := ⟨fun i j p q h => by simp at h, fun k q h => by simp at h⟩
  have hl := lv_entry ([.ref b]) (n := 7) (Nat.le_of_ble_eq_true rfl)
  rw [lg_entry_eq]
  generalize (lg_sl ([.ref b]) ++ List.replicate (7 - (lg_sl ([.ref b])).length) Slot.unset).toArray = ls at hl ⊢
  have hl : lv_has ls 7 [(0, .ref b)] := hl
  refine q_mkO (fs0 := [.null, .null, .null, .null, .null, .null, .null, .null, .null, .int 0, .int 0, .int 0]) (T := TX5) (N := 12) (ci := 5) (ty := tyX5) (own := R_law) hx hb hml hown hE (fun a0 sz => n_X5 l D cI cZ cL a0 sz) cki_X5 w_80 w_78 w_79 inT_X5 tyX5_ok rfl fs0_X5 hP hD hS hA hl.1 0 [] (fun _ => rfl) (fun _ => rfl) (fun _ => rfl) (by decide) (by decide) (Nat.le_of_ble_eq_true rfl) (Nat.le_of_ble_eq_true rfl) ⟨Nat.le_of_ble_eq_true rfl, Nat.le_of_ble_eq_true rfl⟩ (fun _ => Nat.le_of_ble_eq_true rfl) dw_0 dw_3 dw_4 (fun ad H locs hP hD hS => ?_)
  have hP : va_P D vwCl (wC ad cI mem0) H := hP
  have hD : va_D (fun q : Nat => s.heap.size ≤ q) (wC ad cI mem0) := hD
  refine lv_astore_n (lv' := [(1, .ref (ad 0)), (0, .ref b)]) hx hb dw_7 rfl hl (by decide) rfl (fun ls hl => ?_)
  refine q_mkO (fs0 := [.int 0, .int 0, .int 0, .null, .null, .null, .null, .null, .int 0, .null, .null, .null, .null, .null, .int 0, .null, .null, .null, .null, .int 0, .null, .int 0]) (T := TX6) (N := 22) (ci := 6) (ty := tyX6) (own := R_law) hx hb hml hown hE (fun a0 sz => n_X6 l D cI cZ cL a0 sz) cki_X6 w_754 w_752 w_753 inT_X6 tyX6_ok rfl fs0_X6 hP hD hS hA hl.1 35 [0, 1, 2, 3, 4, 5, 6, 7, 8, 9, 10, 11, 12, 13, 14, 15, 16, 17, 18, 19, 20, 21, 22, 23, 24, 25, 26, 27, 28, 29, 30, 31, 32, 33, 34] (fun _ => rfl) (fun _ => rfl) (fun _ => rfl) (by decide) (by decide) (Nat.le_of_ble_eq_true rfl) (Nat.le_of_ble_eq_true rfl) ⟨Nat.le_of_ble_eq_true rfl, Nat.le_of_ble_eq_true rfl⟩ (fun _ => Nat.le_of_ble_eq_true rfl) dw_8 dw_11 dw_12 (fun am H locs hP hD hS => ?_)
  rw [nwX6_Q] at hP hD
  refine lv_astore_n (lv' := [(2, .ref (am 0)), (1, .ref (ad 0)), (0, .ref b)]) hx hb dw_15 rfl hl (by decide) rfl (fun ls hl => ?_)
  refine lv_iconst (v := 1) hx hb dw_16 (by decide) ?_
  refine q_newl (n := 1) (N' := 1) hx hb hE hP hD hS hA (by decide) (by decide) (by decide) (Nat.le_of_ble_eq_true rfl) (Nat.le_of_ble_eq_true rfl) dw_17 (fun ao H hP hD hS => ?_)
  refine lv_astore_n (lv' := [(3, .ref ao), (2, .ref (am 0)), (1, .ref (ad 0)), (0, .ref b)]) hx hb dw_19 rfl hl (by decide) rfl (fun ls hl => ?_)
  refine lv_iconst (v := 0) hx hb dw_20 (by decide) ?_
  refine lv_istore (lv' := [(4, .int 0), (3, .ref ao), (2, .ref (am 0)), (1, .ref (ad 0)), (0, .ref b)]) hx hb dw_21 hl (by decide) rfl (fun ls hl => ?_)
  have hD1 : va_D (fun q : Nat => s.heap.size ≤ q) (wO ao cL (fun _ => 0) ++ (wC ad cI mem0 ++ wQ am cI cZ memQ 0)) := va_D.app (D_right hD) (D_left hD) (fun i j p q hi hj e => D_apart hD (q := q.1) ⟨j, q.2, hj⟩ (by rw [← e]; exact ⟨i, p.2, hi⟩))
  have hPa : va_P D vwCl (wC ad cI mem0) H := fun k q hk => hP k q (ap_l (ap_l hk))
  have hPb : va_P D vwCl (wQ am cI cZ memQ 0) H := fun k q hk => hP _ q (ap_l (ap_r (w1 := wC ad cI mem0) hk))
  have hPo : va_P D vwCl (wO ao cL (fun _ => 0)) H := fun k q hk => hP _ q (ap_r (w1 := wC ad cI mem0 ++ wQ am cI cZ memQ 0) hk)
  have C : LC p l s m meth c b L xs D cI cZ cL ad am ao := ⟨⟨hx, hb, hr, hml, hown, hlk, hflags, hL⟩, ⟨hE, st_ES hts, st_EZ hts hgv, st_EC hgv⟩, ⟨hX, hbl⟩, fun S M th f => q_D (ws := wO ao cL (fun _ => 0) ++ (wC ad cI mem0 ++ wQ am cI cZ memQ 0)) rfl hD1⟩
  exact law_loop C (L + 1) 0 mem0 memQ 0 (fun _ => 0) H _ ls (by omega) (by omega) Rel0 ⟨hPa, hPo, hPb, hS⟩ (lv_sub hl [4, 3, 2, 1, 0] rfl)
end
