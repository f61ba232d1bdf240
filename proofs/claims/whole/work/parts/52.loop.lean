section
/-! the start of both, and the law's loop -/
theorem Rel0 : Rel mem0 memQ := by
  have zT : cT mem0 = 0 := by decide
  have zR : cR mem0 = 0 := by decide
  have zN : cN mem0 = 0 := by decide
  have h0 : ∀ c j, ¬ c = 15 → mem0 c j = 0 := fun c j hc => by
    unfold mem0
    split
    · exact absurd rfl hc
    · rfl
  have hI : I0 mem0 := by
    refine ⟨⟨by decide, by decide⟩, ⟨by decide, by decide⟩, ⟨by decide, by decide⟩, fun k hk => ?_, fun c hc => ?_⟩
    · rw [zN] at hk; omega
    · rw [h0 13 c (by decide)]
      exact ⟨by decide, by decide⟩
  have nb : ∀ c t r, ¬ c = 15 → B (mem0 c t) r = true → False := fun c t r hc hb => by
    rw [h0 c t hc, B_0] at hb; cases hb
  have hInv : Inv mem0 := by
    refine ⟨⟨hI, ⟨0, by omega, nI_0.symm⟩, fun r _ o hb => (nb 6 r o (by decide) hb).elim, fun k hk => ?_, fun t r _ _ _ => h0 13 _ (by decide), ⟨fun r _ => ⟨fun hb => (nb 1 5 r (by decide) hb).elim, fun z => ?_⟩, fun r hb => (nb 1 5 r (by decide) hb).elim⟩⟩, ⟨fun t r _ hb => (nb 19 t r (by decide) hb).elim, fun t r _ hb => (nb 20 t r (by decide) hb).elim⟩, ⟨fun t o _ _ => ?_, fun t o _ _ _ r => ⟨fun hb => (nb 24 _ r (by decide) hb).elim, fun z => ?_⟩⟩, ?_, fun c _ => ⟨fun n _ _ => h0 14 _ (by decide), ?_⟩⟩
    · rw [zN] at hk; omega
    · rcases z with ⟨k, hk, _⟩ | ⟨t, _, z⟩
      · rw [zN] at hk; omega
      · rw [h0 13 _ (by decide)] at z
        exact absurd z Int32.lt_irrefl
    · rw [h0 23 _ (by decide), zN]
      by_cases q : t = o
      · rw [if_pos q]
      · rw [if_neg q]; exact nI_0.symm
    · obtain ⟨_, v, _, h1, _⟩ := z
      rw [zN] at h1
      cases h1
    · unfold iRep
      rw [zN]
      exact ⟨fun i hi => ⟨(h0 19 i (by decide)).trans (wipe_26 mem0 hi).symm, (h0 20 i (by decide)).trans (wipe_27 mem0 hi).symm⟩, fun i hi => (h0 21 i (by decide)).trans (wipe_28 mem0 hi).symm⟩
    · rw [h0 22 _ (by decide), h0 14 _ (by decide), h0 14 _ (by decide), h0 14 _ (by decide)]; decide
  refine ⟨hInv, ⟨⟨⟨rfl, rfl, rfl⟩, rfl, rfl, rfl⟩, ⟨rfl, rfl, rfl, rfl, rfl⟩, ⟨rfl, rfl, rfl⟩, rfl, rfl, rfl⟩, fun t r ht _ => ?_, fun t r _ _ => ?_, fun t r _ _ => ?_, fun t o _ _ => ⟨?_, rfl⟩⟩
  · rw [zT] at ht; omega
  · rw [h0 20 t (by decide), B_0]; rfl
  · rw [h0 16 t (by decide), B_0]; rfl
  · rw [h0 17 t (by decide), B_0]; rfl
set_option maxHeartbeats 4000000 in
set_option maxRecDepth 100000 in
theorem law_loop {p : Program} {l : Launch} {e : Env} {s : State} {m : MethodId} {below : List Frame} {meth : Method} {c : Code} {b L : Nat} {xs : Nat → Int32} {D : va_G} {cI cZ cL : ClassId} {ad am : Nat → Nat} {ao : Nat} (C : LC p l s m meth c b L xs D cI cZ cL ad am ao) :
    ∀ (n k : Nat) (S M : Mem) (th : Int32) (f : Nat → Int64) (H : Heap) (locs : List Loc) (ls : Array Slot), L + 1 ≤ 5 * k + n → 5 * k ≤ L → Rel S M → LW s D cI cZ cL ad am ao S M th f H locs → lv_has ls 7 [(0, .ref b), (1, .ref (ad 0)), (2, .ref (am 0)), (3, .ref ao), (4, .int (nI (5 * k)))] → W p l e room_1 s m #[Value.ref b] below meth c H locs (52 + k) (3688 + 6 * k) (lw_Z below #[Value.ref b] s) (F0 m 23 ls []) := by
  intro n
  induction n with
  | zero =>
    intro k S M th f H locs ls h1 h2
    exact absurd h1 (by omega)
  | succ n ih =>
    intro k S M th f H locs ls hn hk hR hw hl
    obtain ⟨hx, hb, hr, hml, hown, hlk, hfl, hL⟩ := C.1
    obtain ⟨hX, hbl⟩ := C.2.2.1
    refine lv_iload hx hb dw_23 (lv_at hl 4 rfl) ?_
    refine lv_aload_n hx hb dw_25 rfl (lv_at hl 0 rfl) ?_
    refine va_slen hx hb hX hbl (Nat.not_le.mpr hbl) hw.2.2.2 dw_26 ?_
    refine lv_iconst (v := 5) hx hb dw_27 (by decide) ?_
    refine lv_isub hx hb dw_28 ?_
    refine lv_icmp_gt (tgt := 1773) hx hb dw_29 (by decide) (fun c1 => ?_) (fun c1 => ?_)
    · refine lv_iconst (v := 1) hx hb dw_1773 (by decide) ?_
      refine va_forget (fun q hq => hw.2.2.2.2.2 q hq) ?_
      refine W.widen (k := 1091) (n := 11970) (by omega) (by omega) ?_
      exact lw_ret hx hb hr hlk dw_1774
    · have h5 : 5 * k + 5 ≤ L := by
        have e1 : (Int32.ofNat L - 5).toInt = (L : Int) - 5 := pk_sub_toInt (a := L) (b := 5) (by omega) (by omega)
        rw [Int32.lt_iff_toInt_lt, e1, nI_toInt (by omega)] at c1
        omega
      refine lv_aload_n hx hb dw_32 rfl (lv_at hl 0 rfl) ?_
      refine lv_iload hx hb dw_33 (lv_at hl 4 rfl) ?_
      refine va_sld hx hb hX hbl (Nat.not_le.mpr hbl) hw.2.2.2 (vp_in_nI (show 5 * k < L by omega) (by omega)) dw_35 ?_
      refine lv_bipush (v := 31) hx hb dw_36 (by decide) ?_
      refine lv_iand hx hb dw_38 ?_
      obtain ⟨j, hj, ej⟩ := pk_andE (xs (nI (5 * k)).toNatClampNeg) (m := 31) 5 (by decide)
      refine q_top ej ?_
      have hcs : 52 + k + 1 ≤ 1091 ∧ 3688 + 6 * k + 6 ≤ 11970 := ⟨by omega, by omega⟩
      have next : NX p l e s m #[Value.ref b] below meth c b D cI cZ cL ad am ao (5 * k) (52 + k + 1) (3688 + 6 * k + 6) (lw_Z below #[Value.ref b] s) := by
        intro S' M' th' f' H locs ls hR hw hl
        refine lv_iinc (v := nI (5 * (k + 1))) (lv' := [(4, .int (nI (5 * (k + 1)))), (0, .ref b), (1, .ref (ad 0)), (2, .ref (am 0)), (3, .ref ao)]) hx hb dw_1767 hl (k := 4) rfl (nI_add (5 * k) 5) (by decide) rfl (fun ls hl => ?_)
        refine lv_goto (tgt := 23) hx hb dw_1770 (by decide) ?_
        have h9 := ih (k + 1) S' M' th' f' H locs ls (by omega) (by omega) hR hw (lv_sub hl [1, 2, 3, 4, 0] rfl)
        rw [show 52 + (k + 1) = 52 + k + 1 by omega, show 3688 + 6 * (k + 1) = 3688 + 6 * k + 6 by omega] at h9
        exact h9
      match j, hj with
      | 0, _ =>
        refine lv_tableIn (off := 117) (tgt := 156) hx hb dw_39 (by decide) (by decide) (by decide) (by decide) ?_
        exact lc_pass C hR hw hcs h5 hl next
      | 1, _ =>
        refine lv_tableIn (off := 173) (tgt := 212) hx hb dw_39 (by decide) (by decide) (by decide) (by decide) ?_
        exact lc_now C hR hw hcs h5 hl next
      | 2, _ =>
        refine lv_tableIn (off := 186) (tgt := 225) hx hb dw_39 (by decide) (by decide) (by decide) (by decide) ?_
        exact lc_addRiddle C hR hw hcs h5 hl next
      | 3, _ =>
        refine lv_tableIn (off := 278) (tgt := 317) hx hb dw_39 (by decide) (by decide) (by decide) (by decide) ?_
        exact lc_need C hR hw hcs h5 hl next
      | 4, _ =>
        refine lv_tableIn (off := 346) (tgt := 385) hx hb dw_39 (by decide) (by decide) (by decide) (by decide) ?_
        exact lc_addTeam C hR hw hcs h5 hl next
      | 5, _ =>
        refine lv_tableIn (off := 390) (tgt := 429) hx hb dw_39 (by decide) (by decide) (by decide) (by decide) ?_
        exact lc_end C hR hw hcs h5 hl next
      | 6, _ =>
        refine lv_tableIn (off := 434) (tgt := 473) hx hb dw_39 (by decide) (by decide) (by decide) (by decide) ?_
        exact lc_answer C hR hw hcs h5 hl next
      | 7, _ =>
        refine lv_tableIn (off := 521) (tgt := 560) hx hb dw_39 (by decide) (by decide) (by decide) (by decide) ?_
        exact lc_hint C hR hw hcs h5 hl next
      | 8, _ =>
        refine lv_tableIn (off := 589) (tgt := 628) hx hb dw_39 (by decide) (by decide) (by decide) (by decide) ?_
        exact lc_price C hR hw hcs h5 hl next
      | 9, _ =>
        refine lv_tableIn (off := 657) (tgt := 696) hx hb dw_39 (by decide) (by decide) (by decide) (by decide) ?_
        exact lc_openedAt C hR hw hcs h5 hl next
      | 10, _ =>
        refine lv_tableIn (off := 725) (tgt := 764) hx hb dw_39 (by decide) (by decide) (by decide) (by decide) ?_
        exact lc_solvedAt C hR hw hcs h5 hl next
      | 11, _ =>
        refine lv_tableIn (off := 793) (tgt := 832) hx hb dw_39 (by decide) (by decide) (by decide) (by decide) ?_
        exact lc_clear C hR hw hcs h5 hl next
      | 12, _ =>
        refine lv_tableIn (off := 868) (tgt := 907) hx hb dw_39 (by decide) (by decide) (by decide) (by decide) ?_
        exact lc_pardon C hR hw hcs h5 hl next
      | 13, _ =>
        refine lv_tableIn (off := 943) (tgt := 982) hx hb dw_39 (by decide) (by decide) (by decide) (by decide) ?_
        exact lc_setBound C hR hw hcs h5 hl next
      | 14, _ =>
        refine lv_tableIn (off := 999) (tgt := 1038) hx hb dw_39 (by decide) (by decide) (by decide) (by decide) ?_
        exact lc_isFree C hR hw hcs h5 hl next
      | 15, _ =>
        refine lv_tableIn (off := 1062) (tgt := 1101) hx hb dw_39 (by decide) (by decide) (by decide) (by decide) ?_
        exact lc_likeness C hR hw hcs h5 hl next
      | 16, _ =>
        refine lv_tableIn (off := 1130) (tgt := 1169) hx hb dw_39 (by decide) (by decide) (by decide) (by decide) ?_
        exact lc_areLinked C hR hw hcs h5 hl next
      | 17, _ =>
        refine lv_tableIn (off := 1205) (tgt := 1244) hx hb dw_39 (by decide) (by decide) (by decide) (by decide) ?_
        exact lc_isCheated C hR hw hcs h5 hl next
      | 18, _ =>
        refine lv_tableIn (off := 1280) (tgt := 1319) hx hb dw_39 (by decide) (by decide) (by decide) (by decide) ?_
        exact lc_isVoid C hR hw hcs h5 hl next
      | 19, _ =>
        refine lv_tableIn (off := 1355) (tgt := 1394) hx hb dw_39 (by decide) (by decide) (by decide) (by decide) ?_
        exact lc_hanging C hR hw hcs h5 hl next
      | 20, _ =>
        refine lv_tableIn (off := 1411) (tgt := 1450) hx hb dw_39 (by decide) (by decide) (by decide) (by decide) ?_
        exact lc_score C hR hw hcs h5 hl next
      | 21, _ =>
        refine lv_tableIn (off := 1467) (tgt := 1506) hx hb dw_39 (by decide) (by decide) (by decide) (by decide) ?_
        exact lc_scoreAnew C hR hw hcs h5 hl next
      | 22, _ =>
        refine lv_tableIn (off := 1523) (tgt := 1562) hx hb dw_39 (by decide) (by decide) (by decide) (by decide) ?_
        exact lc_place C hR hw hcs h5 hl next
      | 23, _ =>
        refine lv_tableIn (off := 1579) (tgt := 1618) hx hb dw_39 (by decide) (by decide) (by decide) (by decide) ?_
        exact lc_teamAt C hR hw hcs h5 hl next
      | 24, _ =>
        refine lv_tableIn (off := 1604) (tgt := 1643) hx hb dw_39 (by decide) (by decide) (by decide) (by decide) ?_
        exact lc_setPrize C hR hw hcs h5 hl next
      | 25, _ =>
        refine lv_tableIn (off := 1672) (tgt := 1711) hx hb dw_39 (by decide) (by decide) (by decide) (by decide) ?_
        exact lc_prize C hR hw hcs h5 hl next
      | j + 26, hj =>
        refine lv_tableOut (tgt := 1767) hx hb dw_39 (.inr (by rw [nI_toInt (by omega)]; omega)) (by decide) ?_
        refine W.widen (k := 52 + k + 1) (n := 3688 + 6 * k + 6) (by omega) (by omega) ?_
        exact next _ _ _ _ H locs ls hR hw hl
end
