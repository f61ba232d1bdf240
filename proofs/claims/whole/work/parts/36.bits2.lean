section
/-! more on bits: sets, differences, the number of bits -/
theorem B_btA {j : Nat} (hj : j < 32) (i : Nat) : B (bt (nI j)) i = decide (i = j) := by
  by_cases h : i < 32
  · exact B_bt j hj i h
  · rw [B_big (by omega), decide_eq_false (by omega)]
theorem B_or1 {x : Int32} {j : Nat} (hj : j < 32) (i : Nat) : B (x ||| bt (nI j)) i = (B x i || decide (i = j)) := by rw [B_or, B_btA hj]
theorem B_or1t {x : Int32} {j i : Nat} (hj : j < 32) : B (x ||| bt (nI j)) i = true ↔ B x i = true ∨ i = j := by rw [B_or1 hj, Bool.or_eq_true, decide_eq_true_eq]
theorem B_diff (x y : Int32) (i : Nat) : B (x &&& (y ^^^ (-1))) i = (B x i && !(B y i)) := by
  rw [B_and]
  by_cases h : i < 32
  · rw [B_not h]
  · rw [B_big (x := x) (by omega)]; rfl
theorem B_zero {x : Int32} : x = 0 ↔ ∀ i, B x i = false := by
  constructor
  · intro e i; rw [e]; exact B_0 i
  · intro h; exact B_ext fun i _ => by rw [h i, B_0]
theorem B_and0 {x y : Int32} : x &&& y = 0 ↔ ∀ i, B x i = true → B y i = false := by
  rw [B_zero]
  constructor
  · intro h i hx
    have := h i
    rw [B_and, hx, Bool.true_and] at this
    exact this
  · intro h i
    rw [B_and]
    cases hx : B x i
    · rfl
    · rw [h i hx]; rfl
theorem B_and1 {x y : Int32} (h : ¬ x &&& y = 0) : ∃ i, B x i = true ∧ B y i = true := by
  apply Classical.byContradiction
  intro q
  refine h (B_and0.mpr fun i hx => ?_)
  cases hy : B y i with
  | false => rfl
  | true => exact absurd ⟨i, hx, hy⟩ q
theorem B_xt {x y : Int32} (h : ∀ i, B x i = true ↔ B y i = true) : x = y := B_ext fun i _ => Bool.eq_iff_iff.mpr (h i)
theorem hs_t {x : Int32} {i : Nat} (hi : i < 32) : (hs x (nI i) = true) = (B x i = true) := by rw [hs_B hi]
theorem v1_t {x : Int32} {i : Nat} (hi : i < 32) : ((x >>> (nI i &&& 31)) &&& 1 = 1) ↔ B x i = true := by rw [← b1_B hi, decide_eq_true_eq]
theorem v1_f {x : Int32} {i : Nat} (hi : i < 32) : ((x >>> (nI i &&& 31)) &&& 1 = 0) ↔ B x i = false := by
  rw [v1_B hi]
  cases B x i <;> decide
/-- the number of places below k at which f says yes -/
def cntB (f : Nat → Bool) : Nat → Nat
  | 0 => 0
  | k + 1 => cntB f k + (if f k = true then 1 else 0)
theorem cntB_congr {f g : Nat → Bool} : ∀ k, (∀ i, i < k → f i = g i) → cntB f k = cntB g k
  | 0, _ => rfl
  | k + 1, h => by
    unfold cntB
    rw [cntB_congr k (fun i hi => h i (by omega)), h k (by omega)]
theorem cntB_le (f : Nat → Bool) : ∀ k, cntB f k ≤ k
  | 0 => Nat.le_refl 0
  | k + 1 => by unfold cntB; have := cntB_le f k; split <;> omega
theorem cntB_top {f : Nat → Bool} {a : Nat} : ∀ k, a ≤ k → (∀ i, a ≤ i → i < k → f i = false) → cntB f k = cntB f a
  | 0, h, _ => by rw [Nat.le_zero.mp h]
  | k + 1, h, hf => by
    by_cases e : a = k + 1
    · rw [e]
    · rw [show cntB f (k + 1) = cntB f k + (if f k = true then 1 else 0) from rfl, cntB_top k (by omega) (fun i h1 h2 => hf i h1 (by omega)), hf k (by omega) (by omega), if_neg (by decide), Nat.add_zero]
theorem m_bits_cnt (x : Int32) : ∀ k, k ≤ 32 → m_bits x k = nI (cntB (B x) k)
  | 0, _ => by exact nI_0.symm
  | k + 1, h => by
    unfold m_bits cntB
    rw [m_bits_cnt x k (by omega), v1_B (by omega)]
    cases B x k
    · rw [if_neg (by decide), if_neg (by decide), Int32.add_zero, Nat.add_zero]
    · rw [if_pos rfl, if_pos rfl, nI_1]
def bcN (n : Nat) : Nat :=
  let x1 := n - ((n / 2) &&& 1431655765)
  let x2 := (x1 &&& 858993459) + ((x1 / 4) &&& 858993459)
  let x3 := (x2 + (x2 / 16)) &&& 252645135
  let x4 := x3 + (x3 / 256)
  let x5 := x4 + (x4 / 65536)
  x5 &&& 63
theorem nI_and (a b : Nat) : nI a &&& nI b = nI (a &&& b) := by
  apply Int32.toBitVec_inj.mp
  rw [Int32.toBitVec_and]
  exact BitVec.ofNat_and.symm
theorem bc_2 {a : Nat} (h : a < 2 ^ 31) : (nI a &&& 858993459) + (ush (nI a) 2 &&& 858993459) = nI ((a &&& 858993459) + ((a / 4) &&& 858993459)) := by
  have e : ush (nI a) 2 = nI (a / 4) := pk_ushrN (by omega) 2 2 (by decide)
  have c : (858993459 : Int32) = nI 858993459 := rfl
  rw [e, c, nI_and, nI_and, nI_add]
theorem bc_3 {a : Nat} (h : a < 2 ^ 31) : (nI a + ush (nI a) 4) &&& 252645135 = nI ((a + a / 16) &&& 252645135) := by
  have e : ush (nI a) 4 = nI (a / 16) := pk_ushrN (by omega) 4 4 (by decide)
  have c : (252645135 : Int32) = nI 252645135 := rfl
  rw [e, c, nI_add, nI_and]
theorem bc_4 {a : Nat} (h : a < 2 ^ 31) : nI a + ush (nI a) 8 = nI (a + a / 256) := by
  have e : ush (nI a) 8 = nI (a / 256) := pk_ushrN (by omega) 8 8 (by decide)
  rw [e, nI_add]
theorem bc_5 {a : Nat} (h : a < 2 ^ 31) : nI a + ush (nI a) 16 = nI (a + a / 65536) := by
  have e : ush (nI a) 16 = nI (a / 65536) := pk_ushrN (by omega) 16 16 (by decide)
  rw [e, nI_add]
theorem bc_1 {a : Nat} (h : a < 2 ^ 31) : nI a - (ush (nI a) 1 &&& 1431655765) = nI (a - ((a / 2) &&& 1431655765)) := by
  have e : ush (nI a) 1 = nI (a / 2) := pk_ushrN (by omega) 1 1 (by decide)
  have c : (1431655765 : Int32) = nI 1431655765 := rfl
  have l : a / 2 &&& 1431655765 ≤ a := Nat.le_trans Nat.and_le_left (Nat.div_le_self a 2)
  rw [e, c, nI_and, pk_sub l]
theorem bc_nI {n : Nat} (h : n < 65536) : p_bc (nI n) = nI (bcN n) := by
  have l1 : n - ((n / 2) &&& 1431655765) < 65536 := by omega
  unfold p_bc bcN
  dsimp only
  rw [bc_1 (by omega)]
  generalize n - ((n / 2) &&& 1431655765) = a at l1 ⊢
  rw [bc_2 (by omega)]
  have l2 : (a &&& 858993459) + ((a / 4) &&& 858993459) < 131072 := by
    have h1 : (a &&& 858993459) ≤ a := Nat.and_le_left
    have h2 : ((a / 4) &&& 858993459) ≤ a / 4 := Nat.and_le_left
    omega
  generalize (a &&& 858993459) + ((a / 4) &&& 858993459) = b at l2 ⊢
  rw [bc_3 (by omega)]
  have l3 : (b + b / 16) &&& 252645135 < 262144 := by
    have h1 : ((b + b / 16) &&& 252645135) ≤ b + b / 16 := Nat.and_le_left
    omega
  generalize (b + b / 16) &&& 252645135 = d at l3 ⊢
  rw [bc_4 (by omega), bc_5 (by omega)]
  exact nI_and _ 63
def bsN (n : Nat) : Nat := ((((((((((((((((0 + n / 1 % 2) + n / 2 % 2) + n / 4 % 2) + n / 8 % 2) + n / 16 % 2) + n / 32 % 2) + n / 64 % 2) + n / 128 % 2) + n / 256 % 2) + n / 512 % 2) + n / 1024 % 2) + n / 2048 % 2) + n / 4096 % 2) + n / 8192 % 2) + n / 16384 % 2) + n / 32768 % 2)
theorem bc_c0 : ∀ a, a < 16 → ∀ b, b < 256 → bcN (0 + (256 * a + b)) = bsN (0 + (256 * a + b)) := by decide +kernel
theorem bc_c1 : ∀ a, a < 16 → ∀ b, b < 256 → bcN (4096 + (256 * a + b)) = bsN (4096 + (256 * a + b)) := by decide +kernel
theorem bc_c2 : ∀ a, a < 16 → ∀ b, b < 256 → bcN (8192 + (256 * a + b)) = bsN (8192 + (256 * a + b)) := by decide +kernel
theorem bc_c3 : ∀ a, a < 16 → ∀ b, b < 256 → bcN (12288 + (256 * a + b)) = bsN (12288 + (256 * a + b)) := by decide +kernel
theorem bc_c4 : ∀ a, a < 16 → ∀ b, b < 256 → bcN (16384 + (256 * a + b)) = bsN (16384 + (256 * a + b)) := by decide +kernel
theorem bc_c5 : ∀ a, a < 16 → ∀ b, b < 256 → bcN (20480 + (256 * a + b)) = bsN (20480 + (256 * a + b)) := by decide +kernel
theorem bc_c6 : ∀ a, a < 16 → ∀ b, b < 256 → bcN (24576 + (256 * a + b)) = bsN (24576 + (256 * a + b)) := by decide +kernel
theorem bc_c7 : ∀ a, a < 16 → ∀ b, b < 256 → bcN (28672 + (256 * a + b)) = bsN (28672 + (256 * a + b)) := by decide +kernel
theorem bc_c8 : ∀ a, a < 16 → ∀ b, b < 256 → bcN (32768 + (256 * a + b)) = bsN (32768 + (256 * a + b)) := by decide +kernel
theorem bc_c9 : ∀ a, a < 16 → ∀ b, b < 256 → bcN (36864 + (256 * a + b)) = bsN (36864 + (256 * a + b)) := by decide +kernel
theorem bc_c10 : ∀ a, a < 16 → ∀ b, b < 256 → bcN (40960 + (256 * a + b)) = bsN (40960 + (256 * a + b)) := by decide +kernel
theorem bc_c11 : ∀ a, a < 16 → ∀ b, b < 256 → bcN (45056 + (256 * a + b)) = bsN (45056 + (256 * a + b)) := by decide +kernel
theorem bc_c12 : ∀ a, a < 16 → ∀ b, b < 256 → bcN (49152 + (256 * a + b)) = bsN (49152 + (256 * a + b)) := by decide +kernel
theorem bc_c13 : ∀ a, a < 16 → ∀ b, b < 256 → bcN (53248 + (256 * a + b)) = bsN (53248 + (256 * a + b)) := by decide +kernel
theorem bc_c14 : ∀ a, a < 16 → ∀ b, b < 256 → bcN (57344 + (256 * a + b)) = bsN (57344 + (256 * a + b)) := by decide +kernel
theorem bc_c15 : ∀ a, a < 16 → ∀ b, b < 256 → bcN (61440 + (256 * a + b)) = bsN (61440 + (256 * a + b)) := by decide +kernel
theorem bc_tb (n k : Nat) : (if n.testBit k = true then 1 else 0) = n / 2 ^ k % 2 := by
  have e : n.testBit k = decide (n / 2 ^ k % 2 = 1) := Nat.testBit_eq_decide_div_mod_eq
  by_cases c : n / 2 ^ k % 2 = 1
  · rw [if_pos (by rw [e, decide_eq_true c]), c]
  · rw [if_neg (by rw [e, decide_eq_false c]; decide)]; omega
theorem bs_cnt (n : Nat) : bsN n = cntB (fun i => n.testBit i) 16 := by
  unfold bsN cntB cntB cntB cntB cntB cntB cntB cntB cntB cntB cntB cntB cntB cntB cntB cntB cntB
  simp only [bc_tb]
theorem bc_all {n : Nat} (h : n < 65536) : bcN n = cntB (fun i => n.testBit i) 16 := by
  rw [← bs_cnt]
  have key : ∀ c, (∀ a, a < 16 → ∀ b, b < 256 → bcN (4096 * c + (256 * a + b)) = bsN (4096 * c + (256 * a + b))) → n / 4096 = c → bcN n = bsN n := by
    intro c hc e
    have l := hc (n % 4096 / 256) (by omega) (n % 256) (by omega)
    have e2 : 4096 * c + (256 * (n % 4096 / 256) + n % 256) = n := by omega
    rw [e2] at l; exact l
  have hc : n / 4096 < 16 := by omega
  generalize hm : n / 4096 = m at hc
  match m, hc, hm with
  | 0, _, hm => exact key 0 bc_c0 hm
  | 1, _, hm => exact key 1 bc_c1 hm
  | 2, _, hm => exact key 2 bc_c2 hm
  | 3, _, hm => exact key 3 bc_c3 hm
  | 4, _, hm => exact key 4 bc_c4 hm
  | 5, _, hm => exact key 5 bc_c5 hm
  | 6, _, hm => exact key 6 bc_c6 hm
  | 7, _, hm => exact key 7 bc_c7 hm
  | 8, _, hm => exact key 8 bc_c8 hm
  | 9, _, hm => exact key 9 bc_c9 hm
  | 10, _, hm => exact key 10 bc_c10 hm
  | 11, _, hm => exact key 11 bc_c11 hm
  | 12, _, hm => exact key 12 bc_c12 hm
  | 13, _, hm => exact key 13 bc_c13 hm
  | 14, _, hm => exact key 14 bc_c14 hm
  | 15, _, hm => exact key 15 bc_c15 hm
  | m + 16, hc, _ => exact absurd hc (by omega)
theorem B_nI (n : Nat) {i : Nat} (hi : i < 32) : B (nI n) i = n.testBit i := by
  have e : (nI n).toBitVec = BitVec.ofNat 32 n := rfl
  unfold B
  rw [e, BitVec.getLsbD_ofNat, decide_eq_true hi, Bool.true_and]
theorem nI_self (x : Int32) : x = nI x.toBitVec.toNat := by
  apply Int32.toBitVec_inj.mp
  show x.toBitVec = BitVec.ofNat 32 x.toBitVec.toNat
  rw [BitVec.ofNat_toNat, BitVec.setWidth_eq]
theorem bc_cnt {x : Int32} (h : ∀ i, 16 ≤ i → B x i = false) : p_bc x = nI (cntB (B x) 16) := by
  have hn : x.toBitVec.toNat < 2 ^ 16 := Nat.lt_pow_two_of_testBit _ fun i hi => by
    have := h i hi
    unfold B at this
    rw [← BitVec.testBit_toNat] at this
    exact this
  have e := nI_self x
  generalize x.toBitVec.toNat = n at hn e
  subst e
  rw [bc_nI (by omega), bc_all (by omega)]
  exact congrArg nI (cntB_congr 16 fun i hi => (B_nI n (by omega)).symm)
end
