/-! worlds: the class (35 cells), the model (16 cells); S c i = what cell c holds at i -/
abbrev Mem : Type := Nat → Nat → Int32
def st (S : Mem) (c i : Nat) (x : Int32) : Mem := fun k => if k = c then upd (S k) i x else S k
def bI (b : Bool) : Int32 := if b = true then 1 else 0
def bt (x : Int32) : Int32 := 1 <<< (x &&& 31)
def ush (x y : Int32) : Int32 := (x.toUInt32 >>> (y.toUInt32 &&& Int32.toUInt32 31)).toInt32
def imax (x y : Int32) : Int32 := if x < y then y else x
def iN (x : Int32) : Nat := x.toNatClampNeg
theorem q_D {A : Nat → Prop} {ws ws' : va_W} (h : ws.map Prod.fst = ws'.map Prod.fst) (hD : va_D A ws) : va_D A ws' := by
  have key : ∀ (k : Nat) (q : Nat × va_E), ws'[k]? = some q → ∃ q0, ws[k]? = some q0 ∧ q0.1 = q.1 := by
    intro k q hk
    have h1 : (ws'.map Prod.fst)[k]? = some q.1 := by rw [List.getElem?_map, hk]; rfl
    rw [← h, List.getElem?_map] at h1
    cases h2 : ws[k]? with
    | none => rw [h2] at h1; cases h1
    | some q0 => rw [h2] at h1; exact ⟨q0, rfl, Option.some.inj h1⟩
  refine ⟨fun i j p q hi hj hpq => ?_, fun k q hk => ?_⟩
  · obtain ⟨p0, a1, a2⟩ := key i p hi
    obtain ⟨q0, b1, b2⟩ := key j q hj
    exact hD.1 i j p0 q0 a1 b1 (by rw [a2, b2]; exact hpq)
  · obtain ⟨q0, a1, a2⟩ := key k q hk
    rw [← a2]; exact hD.2 k q0 a1
theorem q_in {C : String} {T : u_T} {N : Nat} (ps : List Nat) (h : u_ws C T N = ps.filterMap (fun i => lw_tbl[i]?)) (hq : (u_ws C T N).all q_ok = true) : ∀ w ∈ u_ws C T N, w ∈ TW := by
  intro w hw
  have h1 := List.all_eq_true.mp hq w hw
  rw [h] at hw
  obtain ⟨i, -, hi⟩ := List.mem_filterMap.mp hw
  exact q_mem i hi h1
theorem n_eq {a b : Nat} (ha : a < 2 ^ 31) (hb : b < 2 ^ 31) (h : nI a = nI b) : a = b := (nI_eq ha hb).mp h
theorem n_ne {a b : Nat} (ha : a < 2 ^ 31) (hb : b < 2 ^ 31) (h : ¬ nI a = nI b) : ¬ a = b := fun q => h (by rw [q])
theorem n_le {a b : Nat} (ha : a < 2 ^ 31) (hb : b < 2 ^ 31) (h : nI a ≤ nI b) : a ≤ b := (nI_leI ha hb).mp h
theorem n_nle {a b : Nat} (ha : a < 2 ^ 31) (hb : b < 2 ^ 31) (h : ¬ nI a ≤ nI b) : b < a := Nat.lt_of_not_le fun q => h ((nI_leI ha hb).mpr q)
theorem n_lt {a b : Nat} (ha : a < 2 ^ 31) (hb : b < 2 ^ 31) (h : nI a < nI b) : a < b := (nI_ltI ha hb).mp h
theorem n_nlt {a b : Nat} (ha : a < 2 ^ 31) (hb : b < 2 ^ 31) (h : ¬ nI a < nI b) : b ≤ a := Nat.le_of_not_lt fun q => h ((nI_ltI ha hb).mpr q)
theorem b_f {b : Bool} (h : bI b = 0) : b = false := by cases b with | false => rfl | true => exact absurd h (by decide)
theorem b_t {b : Bool} (h : ¬ bI b = 0) : b = true := by cases b with | false => exact absurd rfl h | true => rfl
theorem n_bI (b : Bool) : narrow .boolean (.int (bI b)) = .int (bI b) := by cases b <;> decide
theorem v_bI (b : Bool) : vp_nar .boolean (bI b) = bI b := by cases b <;> decide
theorem iN_nI {n : Nat} (h : n < 2 ^ 31) : iN (nI n) = n := nI_clamp h
def wC (ad : Nat → Nat) (cI : ClassId) (S : Mem) : va_W := [(ad 0, .inr (5, [.ref (ad 1), .ref (ad 7), .ref (ad 12), .ref (ad 15), .ref (ad 18), .ref (ad 25), .ref (ad 32), .ref (ad 33), .ref (ad 34), .int (S 0 9), .int (S 0 10), .int (S 0 11)])), (ad 1, .inr (3, [.ref (ad 2), .ref (ad 3), .ref (ad 4), .ref (ad 5), .ref (ad 6), .int (S 1 5), .int (S 1 6)])), (ad 2, .inl (cI, 16, .inl (S 2))), (ad 3, .inl (cI, 16, .inl (S 3))), (ad 4, .inl (cI, 16, .inl (S 4))), (ad 5, .inl (cI, 16, .inl (S 5))), (ad 6, .inl (cI, 16, .inl (S 6))), (ad 7, .inr (0, [.ref (ad 8), .ref (ad 9), .ref (ad 10), .ref (ad 11), .int (S 7 4)])), (ad 8, .inl (cI, 200, .inl (S 8))), (ad 9, .inl (cI, 200, .inl (S 9))), (ad 10, .inl (cI, 200, .inl (S 10))), (ad 11, .inl (cI, 200, .inl (S 11))), (ad 12, .inr (4, [.ref (ad 13), .ref (ad 14)])), (ad 13, .inl (cI, 128, .inl (S 13))), (ad 14, .inl (cI, 384, .inl (S 14))), (ad 15, .inr (1, [.ref (ad 16), .ref (ad 17), .int (S 15 2)])), (ad 16, .inl (cI, 8, .inl (S 16))), (ad 17, .inl (cI, 8, .inl (S 17))), (ad 18, .inr (2, [.ref (ad 19), .ref (ad 20), .ref (ad 21), .ref (ad 22), .ref (ad 23), .ref (ad 24)])), (ad 19, .inl (cI, 8, .inl (S 19))), (ad 20, .inl (cI, 8, .inl (S 20))), (ad 21, .inl (cI, 128, .inl (S 21))), (ad 22, .inl (cI, 128, .inl (S 22))), (ad 23, .inl (cI, 64, .inl (S 23))), (ad 24, .inl (cI, 64, .inl (S 24))), (ad 25, .inr (2, [.ref (ad 26), .ref (ad 27), .ref (ad 28), .ref (ad 29), .ref (ad 30), .ref (ad 31)])), (ad 26, .inl (cI, 8, .inl (S 26))), (ad 27, .inl (cI, 8, .inl (S 27))), (ad 28, .inl (cI, 128, .inl (S 28))), (ad 29, .inl (cI, 128, .inl (S 29))), (ad 30, .inl (cI, 64, .inl (S 30))), (ad 31, .inl (cI, 64, .inl (S 31))), (ad 32, .inl (cI, 8, .inl (S 32))), (ad 33, .inl (cI, 8, .inl (S 33))), (ad 34, .inl (cI, 8, .inl (S 34)))]
theorem wC_D {ad : Nat → Nat} {cI : ClassId} {S S' : Mem} {A : Nat → Prop} (h : va_D A (wC ad cI S)) : va_D A (wC ad cI S') := q_D (ws := wC ad cI S) (ws' := wC ad cI S') rfl h
theorem wC_st_2 {ad : Nat → Nat} {cI : ClassId} {S : Mem} {i : Nat} {x : Int32} : (wC ad cI S).set 2 (ad 2, .inl (cI, 16, .inl (upd (S 2) i x))) = wC ad cI (st S 2 i x) := rfl
theorem wC_st_3 {ad : Nat → Nat} {cI : ClassId} {S : Mem} {i : Nat} {x : Int32} : (wC ad cI S).set 3 (ad 3, .inl (cI, 16, .inl (upd (S 3) i x))) = wC ad cI (st S 3 i x) := rfl
theorem wC_st_4 {ad : Nat → Nat} {cI : ClassId} {S : Mem} {i : Nat} {x : Int32} : (wC ad cI S).set 4 (ad 4, .inl (cI, 16, .inl (upd (S 4) i x))) = wC ad cI (st S 4 i x) := rfl
theorem wC_st_5 {ad : Nat → Nat} {cI : ClassId} {S : Mem} {i : Nat} {x : Int32} : (wC ad cI S).set 5 (ad 5, .inl (cI, 16, .inl (upd (S 5) i x))) = wC ad cI (st S 5 i x) := rfl
theorem wC_st_6 {ad : Nat → Nat} {cI : ClassId} {S : Mem} {i : Nat} {x : Int32} : (wC ad cI S).set 6 (ad 6, .inl (cI, 16, .inl (upd (S 6) i x))) = wC ad cI (st S 6 i x) := rfl
theorem wC_st_8 {ad : Nat → Nat} {cI : ClassId} {S : Mem} {i : Nat} {x : Int32} : (wC ad cI S).set 8 (ad 8, .inl (cI, 200, .inl (upd (S 8) i x))) = wC ad cI (st S 8 i x) := rfl
theorem wC_st_9 {ad : Nat → Nat} {cI : ClassId} {S : Mem} {i : Nat} {x : Int32} : (wC ad cI S).set 9 (ad 9, .inl (cI, 200, .inl (upd (S 9) i x))) = wC ad cI (st S 9 i x) := rfl
theorem wC_st_10 {ad : Nat → Nat} {cI : ClassId} {S : Mem} {i : Nat} {x : Int32} : (wC ad cI S).set 10 (ad 10, .inl (cI, 200, .inl (upd (S 10) i x))) = wC ad cI (st S 10 i x) := rfl
theorem wC_st_11 {ad : Nat → Nat} {cI : ClassId} {S : Mem} {i : Nat} {x : Int32} : (wC ad cI S).set 11 (ad 11, .inl (cI, 200, .inl (upd (S 11) i x))) = wC ad cI (st S 11 i x) := rfl
theorem wC_st_13 {ad : Nat → Nat} {cI : ClassId} {S : Mem} {i : Nat} {x : Int32} : (wC ad cI S).set 13 (ad 13, .inl (cI, 128, .inl (upd (S 13) i x))) = wC ad cI (st S 13 i x) := rfl
theorem wC_st_14 {ad : Nat → Nat} {cI : ClassId} {S : Mem} {i : Nat} {x : Int32} : (wC ad cI S).set 14 (ad 14, .inl (cI, 384, .inl (upd (S 14) i x))) = wC ad cI (st S 14 i x) := rfl
theorem wC_st_16 {ad : Nat → Nat} {cI : ClassId} {S : Mem} {i : Nat} {x : Int32} : (wC ad cI S).set 16 (ad 16, .inl (cI, 8, .inl (upd (S 16) i x))) = wC ad cI (st S 16 i x) := rfl
theorem wC_st_17 {ad : Nat → Nat} {cI : ClassId} {S : Mem} {i : Nat} {x : Int32} : (wC ad cI S).set 17 (ad 17, .inl (cI, 8, .inl (upd (S 17) i x))) = wC ad cI (st S 17 i x) := rfl
theorem wC_st_19 {ad : Nat → Nat} {cI : ClassId} {S : Mem} {i : Nat} {x : Int32} : (wC ad cI S).set 19 (ad 19, .inl (cI, 8, .inl (upd (S 19) i x))) = wC ad cI (st S 19 i x) := rfl
theorem wC_st_20 {ad : Nat → Nat} {cI : ClassId} {S : Mem} {i : Nat} {x : Int32} : (wC ad cI S).set 20 (ad 20, .inl (cI, 8, .inl (upd (S 20) i x))) = wC ad cI (st S 20 i x) := rfl
theorem wC_st_21 {ad : Nat → Nat} {cI : ClassId} {S : Mem} {i : Nat} {x : Int32} : (wC ad cI S).set 21 (ad 21, .inl (cI, 128, .inl (upd (S 21) i x))) = wC ad cI (st S 21 i x) := rfl
theorem wC_st_22 {ad : Nat → Nat} {cI : ClassId} {S : Mem} {i : Nat} {x : Int32} : (wC ad cI S).set 22 (ad 22, .inl (cI, 128, .inl (upd (S 22) i x))) = wC ad cI (st S 22 i x) := rfl
theorem wC_st_23 {ad : Nat → Nat} {cI : ClassId} {S : Mem} {i : Nat} {x : Int32} : (wC ad cI S).set 23 (ad 23, .inl (cI, 64, .inl (upd (S 23) i x))) = wC ad cI (st S 23 i x) := rfl
theorem wC_st_24 {ad : Nat → Nat} {cI : ClassId} {S : Mem} {i : Nat} {x : Int32} : (wC ad cI S).set 24 (ad 24, .inl (cI, 64, .inl (upd (S 24) i x))) = wC ad cI (st S 24 i x) := rfl
theorem wC_st_26 {ad : Nat → Nat} {cI : ClassId} {S : Mem} {i : Nat} {x : Int32} : (wC ad cI S).set 26 (ad 26, .inl (cI, 8, .inl (upd (S 26) i x))) = wC ad cI (st S 26 i x) := rfl
theorem wC_st_27 {ad : Nat → Nat} {cI : ClassId} {S : Mem} {i : Nat} {x : Int32} : (wC ad cI S).set 27 (ad 27, .inl (cI, 8, .inl (upd (S 27) i x))) = wC ad cI (st S 27 i x) := rfl
theorem wC_st_28 {ad : Nat → Nat} {cI : ClassId} {S : Mem} {i : Nat} {x : Int32} : (wC ad cI S).set 28 (ad 28, .inl (cI, 128, .inl (upd (S 28) i x))) = wC ad cI (st S 28 i x) := rfl
theorem wC_st_29 {ad : Nat → Nat} {cI : ClassId} {S : Mem} {i : Nat} {x : Int32} : (wC ad cI S).set 29 (ad 29, .inl (cI, 128, .inl (upd (S 29) i x))) = wC ad cI (st S 29 i x) := rfl
theorem wC_st_30 {ad : Nat → Nat} {cI : ClassId} {S : Mem} {i : Nat} {x : Int32} : (wC ad cI S).set 30 (ad 30, .inl (cI, 64, .inl (upd (S 30) i x))) = wC ad cI (st S 30 i x) := rfl
theorem wC_st_31 {ad : Nat → Nat} {cI : ClassId} {S : Mem} {i : Nat} {x : Int32} : (wC ad cI S).set 31 (ad 31, .inl (cI, 64, .inl (upd (S 31) i x))) = wC ad cI (st S 31 i x) := rfl
theorem wC_st_32 {ad : Nat → Nat} {cI : ClassId} {S : Mem} {i : Nat} {x : Int32} : (wC ad cI S).set 32 (ad 32, .inl (cI, 8, .inl (upd (S 32) i x))) = wC ad cI (st S 32 i x) := rfl
theorem wC_st_33 {ad : Nat → Nat} {cI : ClassId} {S : Mem} {i : Nat} {x : Int32} : (wC ad cI S).set 33 (ad 33, .inl (cI, 8, .inl (upd (S 33) i x))) = wC ad cI (st S 33 i x) := rfl
theorem wC_st_34 {ad : Nat → Nat} {cI : ClassId} {S : Mem} {i : Nat} {x : Int32} : (wC ad cI S).set 34 (ad 34, .inl (cI, 8, .inl (upd (S 34) i x))) = wC ad cI (st S 34 i x) := rfl
theorem inT_X5 : ∀ w ∈ u_ws RX5 TX5 12, w ∈ TW := q_in [202, 204, 206, 208, 210, 212, 214, 216, 218, 220, 222, 224] (by decide +kernel) (by decide +kernel)
theorem inT_X0 : ∀ w ∈ u_ws RX0 TX0 5, w ∈ TW := q_in [115, 117, 119, 121, 123] (by decide +kernel) (by decide +kernel)
theorem inT_X1 : ∀ w ∈ u_ws RX1 TX1 3, w ∈ TW := q_in [152, 154, 156] (by decide +kernel) (by decide +kernel)
theorem inT_X2 : ∀ w ∈ u_ws RX2 TX2 6, w ∈ TW := q_in [177, 179, 181, 183, 185, 187] (by decide +kernel) (by decide +kernel)
theorem inT_X3 : ∀ w ∈ u_ws RX3 TX3 7, w ∈ TW := q_in [83, 85, 87, 89, 91, 93, 95] (by decide +kernel) (by decide +kernel)
theorem inT_X4 : ∀ w ∈ u_ws RX4 TX4 2, w ∈ TW := q_in [136, 138] (by decide +kernel) (by decide +kernel)
section W09
variable {p : Program} {l : Launch} {e : Env} {R : Room} {s : State} {m : MethodId} {args : Array Value} {below : List Frame} {meth : Method} {c : Code} {H : Heap} {locs : List Loc} {cells slots : Nat} {Q : State → Prop}
variable {pc : Nat} {ls : Array Slot} {rest st0 : List Value} {A : Nat → Prop} {H0 : Heap} {D : va_G} {ws' : va_W}
theorem q_w0 {v : Value} (hr : va_Run p l e R s m args below meth c H locs cells slots 0 0 (F0 m pc ls st0) rest (fun st oc t => oc = .returned (some v) ∧ va_P D vwCl ws' t.heap ∧ va_F A st t) A) (hS : va_S A H0 H locs)
    (kk : ∀ (H : Heap) (locs : List Loc), va_P D vwCl ws' H → va_S A H0 H locs → W p l e R s m args below meth c H locs cells slots Q (F0 m (pc + 3) ls (v :: rest))) : W p l e R s m args below meth c H locs cells slots Q (F0 m pc ls st0) := q_wr hr hS kk
theorem q_w0v (hr : va_Run p l e R s m args below meth c H locs cells slots 0 0 (F0 m pc ls st0) rest (fun st oc t => oc = .returned none ∧ va_P D vwCl ws' t.heap ∧ va_F A st t) A) (hS : va_S A H0 H locs)
    (kk : ∀ (H : Heap) (locs : List Loc), va_P D vwCl ws' H → va_S A H0 H locs → W p l e R s m args below meth c H locs cells slots Q (F0 m (pc + 3) ls rest)) : W p l e R s m args below meth c H locs cells slots Q (F0 m pc ls st0) := q_wrv hr hS kk
end W09
