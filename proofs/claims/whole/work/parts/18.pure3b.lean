theorem mT_congr {M M' : Mem} (h : M' 0 = M 0) : mT M' = mT M := by unfold mT; rw [h]
theorem mm2_no {M : Mem} {x y : Int32} {f : Nat → Nat → MO} (c : decide (m_wrong M x y = 0) = false) : mm2 M x y (mT M) (mR M) f = (0, m_wrong M x y, M) := by
  have h : ¬ (okn x (mT M) = true ∧ okn y (mR M) = true) := fun q => by
    rw [m_wrong, if_pos q] at c; exact absurd c (by decide)
  rw [m_wrong, if_neg h, mm2]
  by_cases q : okn x (mT M) = true
  · rw [if_pos q, if_neg (fun z => h ⟨q, z⟩)]
  · rw [if_neg q]
