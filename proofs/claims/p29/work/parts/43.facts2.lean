/-! p29: refused calls -/
section F30
variable {S : Mem} {m0 m1 : Nat}
theorem f_pass {x : Int32} (h : okr x 1 500 = false) : (oPass S x).1 = some xA := by rw [oPass, h]; rfl
theorem f_add1 {a b c d : Int32} (h : okr a 1 50 = false) : (oAddR S a b c d).1 = some xA := by rw [oAddR, h]; rfl
theorem f_add2 {a b c d : Int32} (h1 : okr a 1 50 = true) (h : okr b 0 9999 = false) : (oAddR S a b c d).1 = some xA := by rw [oAddR, if_pos h1, h]; rfl
theorem f_add3 {a b c d : Int32} (h1 : okr a 1 50 = true) (h2 : okr b 0 9999 = true) (h : okr c 0 100 = false) : (oAddR S a b c d).1 = some xA := by rw [oAddR, if_pos h1, if_pos h2, h]; rfl
theorem f_add4 {a b c d : Int32} (h1 : okr a 1 50 = true) (h2 : okr b 0 9999 = true) (h3 : okr c 0 100 = true) (h : okr d 1 40 = false) : (oAddR S a b c d).1 = some xA := by rw [oAddR, if_pos h1, if_pos h2, if_pos h3, h]; rfl
theorem f_need_a {x y : Int32} (h : okn x (cR S) = false) : (oNeed S x y).1 = some xI := by rw [oNeed, h]; rfl
theorem f_need_b {x y : Int32} (h1 : okn x (cR S) = true) (h : okn y (cR S) = false) : (oNeed S x y).1 = some xI := by rw [oNeed, if_pos h1, h]; rfl
theorem f_need_c {x y : Int32} (h1 : okn x (cR S) = true) (h2 : okn y (cR S) = true) (h : ¬ iN y < iN x) : (oNeed S x y).1 = some xA := by rw [oNeed, if_pos h1, if_pos h2, hNeed, if_neg h]
theorem f_ans_a {x y w : Int32} (h : okn x (cT S) = false) : (oAns S x y w).1 = some xI := by rw [oAns, h]; rfl
theorem f_ans_b {x y w : Int32} (h1 : okn x (cT S) = true) (h2 : okn y (cR S) = true) (h : okr w 0 9999 = false) : (oAns S x y w).1 = some xA := by rw [oAns, if_pos h1, if_pos h2, h]; rfl
theorem f_hint_a {x y : Int32} (h : okn x (cT S) = false) : (oHint S x y).1 = some xI := by rw [oHint, e2a h]
theorem f_clear_a {x y : Int32} (h : okn x (cT S) = false) : (oClear S x y).1 = some xI := by rw [oClear, e2a h]
theorem f_clear_s (hJ : JS S m0 m1) {t k : Nat} (ht : t < m1) (hk : k < m0) : (oClear S (nI t) (nI k)).1 = some xS := by
  rw [oClear, e2 (okT hJ ht) (okR hJ hk)]
  show (if hs (S 20 _) (nI _) = true then _ else (some xS, (0 : Int32), S)).1 = some xS
  rw [hJ.2.2.2.2.2.1, hs_0]; rfl
theorem f_pard_a {x y : Int32} (h : okn x (cT S) = false) : (oPardon S x y).1 = some xI := by rw [oPardon, eTa h]
theorem f_pard_b {x y : Int32} (h1 : okn x (cT S) = true) (h : okn y (cT S) = false) : (oPardon S x y).1 = some xI := by rw [oPardon, eTb h1 h]
theorem f_pard_c {x : Int32} (h1 : okn x (cT S) = true) : (oPardon S x x).1 = some xA := by
  rw [oPardon, eT h1 h1]
  show (if iN x = iN x then (some xA, (0 : Int32), S) else _).1 = some xA
  rw [if_pos rfl]
theorem f_bound {x : Int32} (h : okr x 1 20 = false) : (oBound S x).1 = some xA := by rw [oBound, h]; rfl
theorem f_setp1 {x y : Int32} (h : okr x 1 8 = false) : (oSetP S x y).1 = some xA := by rw [oSetP, h]; rfl
theorem f_setp2 {x y : Int32} (h1 : okr x 1 8 = true) (h : okr y 0 1000 = false) : (oSetP S x y).1 = some xA := by rw [oSetP, if_pos h1, h]; rfl
theorem f_free {x : Int32} (h : okn x (cR S) = false) : (oFree S x).1 = some xI := by rw [oFree, h]; rfl
theorem f_hang {x : Int32} (h : okn x (cR S) = false) : (oHang S x).1 = some xI := by rw [oHang, h]; rfl
theorem f_like {x y : Int32} (h1 : okn x (cT S) = true) (h : okn y (cT S) = false) : (oLike S x y).1 = some xI := by rw [oLike, eTb h1 h]
theorem f_link {x y : Int32} (h : okn x (cT S) = false) : (oLinked S x y).1 = some xI := by rw [oLinked, eTa h]
theorem sub1 {i : Nat} (h : ¬ i = 0) : nI i - 1 = nI (i - 1) := by
  obtain ⟨j, rfl⟩ : ∃ j, i = j + 1 := ⟨i - 1, by omega⟩
  exact nI_pred j
variable {l : Launch} {D : va_G} {cI cZ cL : ClassId} {ad aa : Nat → Nat} {fa : Mem}
theorem of0 (hfl : l.flags = flags0) (hD : va_D (aC ad cI) (wC ad cI mem0)) (hA : ∀ q, aW (wA aa cI mem0) q → ¬ aC ad cI q) (hJ : JS S m0 m1) {t k : Nat} (ht : t < m1) (hk : k < m0) :
    GM l D cI cZ cL ad aa fa S yL_of [Cond.codeWith yL_of cL_of 5 (some .int) [(0, 205, 206, 50), (0, 205, 212, 54), (0, 205, 218, 96)]] 8 1 [.ref (ad 0), .int 0, .int (nI t), .int (nI k)] m0 m1 pI := by
  by_cases h : (oPrice S (nI t) (nI k)).1 = none
  · exact h_of_0 hfl hD hA hJ (nI t) (nI k) h
  · refine h_of_0N hfl hD hA hJ (nI t) (nI k) ?_
    revert h
    rw [oPrice, e2 (okT hJ ht) (okR hJ hk)]
    (try dsimp only)
    split
    · intro _; rfl
    · split
      · intro h; exact absurd rfl h
      · intro _; rfl
theorem of12 (hfl : l.flags = flags0) (hD : va_D (aC ad cI) (wC ad cI mem0)) (hA : ∀ q, aW (wA aa cI mem0) q → ¬ aC ad cI q) (hJ : JS S m0 m1) {t : Nat} {x2 : Int32} (ht : t < m1) :
    GM l D cI cZ cL ad aa fa S yL_of [Cond.codeWith yL_of cL_of 5 (some .int) [(0, 205, 206, 50), (0, 205, 212, 54), (0, 205, 218, 96)]] 8 1 [.ref (ad 0), .int 12, .int (nI t), .int x2] m0 m1 pI := by
  refine h_of_12S hfl hD hA hJ (nI t) x2 ?_
  rw [oPrize, e1 (okT hJ ht)]
  (try dsimp only)
  rw [if_pos hJ.2.2.1]
theorem of_bad (hfl : l.flags = flags0) (hD : va_D (aC ad cI) (wC ad cI mem0)) (hA : ∀ q, aW (wA aa cI mem0) q → ¬ aC ad cI q) (hJ : JS S m0 m1) {w : Nat} (hw : 9 ≤ w ∧ w < 13) (x1 x2 : Int32) (h : okn x1 (cT S) = false) :
    GM l D cI cZ cL ad aa fa S yL_of [Cond.codeWith yL_of cL_of 5 (some .int) [(0, 205, 206, 50), (0, 205, 212, 54), (0, 205, 218, 96)]] 8 1 [.ref (ad 0), .int (nI w), .int x1, .int x2] m0 m1 (pC (-1201)) := by
  rcases (show w = 9 ∨ w = 10 ∨ w = 11 ∨ w = 12 by omega) with rfl | rfl | rfl | rfl
  · exact h_of_9I hfl hD hA hJ x1 x2 (by rw [oScore, e1a h])
  · exact h_of_10I hfl hD hA hJ x1 x2 (by rw [oAnew, e1a h])
  · exact h_of_11I hfl hD hA hJ x1 x2 (by rw [oPlace, e1a h])
  · exact h_of_12I hfl hD hA hJ x1 x2 (by rw [oPrize, e1a h])
theorem of_bad2 (hfl : l.flags = flags0) (hD : va_D (aC ad cI) (wC ad cI mem0)) (hA : ∀ q, aW (wA aa cI mem0) q → ¬ aC ad cI q) (hJ : JS S m0 m1) {w : Nat} (hw : w < 8 ∧ ¬ (2 < w ∧ w < 6)) (x1 x2 : Int32) (h1 : okn x1 (cT S) = true) (h : okn x2 (cR S) = false) :
    GM l D cI cZ cL ad aa fa S yL_of [Cond.codeWith yL_of cL_of 5 (some .int) [(0, 205, 206, 50), (0, 205, 212, 54), (0, 205, 218, 96)]] 8 1 [.ref (ad 0), .int (nI w), .int x1, .int x2] m0 m1 (pC (-1201)) := by
  rcases (show w = 0 ∨ w = 1 ∨ w = 2 ∨ w = 6 ∨ w = 7 by omega) with rfl | rfl | rfl | rfl | rfl
  · exact h_of_0I hfl hD hA hJ x1 x2 (by rw [oPrice, e2b h1 h])
  · exact h_of_1I hfl hD hA hJ x1 x2 (by rw [oOpened, e2b h1 h])
  · exact h_of_2I hfl hD hA hJ x1 x2 (by rw [oSolved, e2b h1 h])
  · exact h_of_6I hfl hD hA hJ x1 x2 (by rw [oCheat, e2b h1 h])
  · exact h_of_7I hfl hD hA hJ x1 x2 (by rw [oVoid, e2b h1 h])
end F30
