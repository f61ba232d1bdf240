/-! sets of bits in an int -/
def B (x : Int32) (i : Nat) : Bool := x.toBitVec.getLsbD i
theorem B_ext {x y : Int32} (h : ∀ i, i < 32 → B x i = B y i) : x = y := Int32.toBitVec_inj.mp (BitVec.eq_of_getLsbD_eq (fun i hi => h i hi))
theorem B_or (x y : Int32) (i : Nat) : B (x ||| y) i = (B x i || B y i) := by unfold B; rw [Int32.toBitVec_or, BitVec.getLsbD_or]
theorem B_and (x y : Int32) (i : Nat) : B (x &&& y) i = (B x i && B y i) := by unfold B; rw [Int32.toBitVec_and, BitVec.getLsbD_and]
theorem B_xor (x y : Int32) (i : Nat) : B (x ^^^ y) i = (B x i ^^ B y i) := by unfold B; rw [Int32.toBitVec_xor, BitVec.getLsbD_xor]
theorem B_big {x : Int32} {i : Nat} (h : 32 ≤ i) : B x i = false := BitVec.getLsbD_of_ge _ _ h
theorem B_0 (i : Nat) : B 0 i = false := BitVec.getLsbD_zero
theorem B_m1 : ∀ i, i < 32 → B (-1) i = true := by decide +kernel
theorem B_not {x : Int32} {i : Nat} (hi : i < 32) : B (x ^^^ (-1)) i = !(B x i) := by rw [B_xor, B_m1 i hi]; cases B x i <;> rfl
theorem B_sl : ∀ n, n < 32 → ((nI n &&& 31).toBitVec.smod 32).toNat = n := by decide +kernel
theorem B_1 : ∀ i, i < 32 → B 1 i = decide (i = 0) := by decide +kernel
theorem B_shr {x : Int32} {n : Nat} (hn : n < 32) : B (x >>> (nI n &&& 31)) 0 = B x n := by
  unfold B
  rw [Int32.toBitVec_shiftRight]
  show (x.toBitVec.sshiftRight ((nI n &&& 31).toBitVec.smod 32).toNat).getLsbD 0 = _
  rw [B_sl n hn, BitVec.getLsbD_sshiftRight]
  simp [hn]
theorem B_low (x : Int32) : x &&& 1 = if B x 0 = true then 1 else 0 := by
  apply B_ext
  intro i hi
  rw [B_and, B_1 i hi]
  by_cases h : i = 0
  · subst h
    cases B x 0
    · rfl
    · rfl
  · rw [decide_eq_false h, Bool.and_false]
    cases B x 0
    · exact (B_0 i).symm
    · rw [if_pos rfl, B_1 i hi, decide_eq_false h]
theorem hs_B {x : Int32} {i : Nat} (hi : i < 32) : hs x (nI i) = B x i := by
  unfold hs
  rw [B_low, B_shr hi]
  cases B x i <;> decide
theorem b1_B {x : Int32} {i : Nat} (hi : i < 32) : decide ((x >>> (nI i &&& 31)) &&& 1 = 1) = B x i := by
  rw [B_low, B_shr hi]
  cases B x i <;> decide
theorem v1_B {x : Int32} {i : Nat} (hi : i < 32) : (x >>> (nI i &&& 31)) &&& 1 = if B x i = true then 1 else 0 := by rw [B_low, B_shr hi]
theorem B_bt : ∀ j, j < 32 → ∀ i, i < 32 → B (bt (nI j)) i = decide (i = j) := by decide +kernel
