/-! p29: decode rows of the law -/
theorem v_690 : Cond.methodLink "PuzzleRegistryLaw" 141 yL_isRefused ∈ TW := q_mem 690 (by decide +kernel) rfl
theorem v_665 : Cond.methodLink "PuzzleRegistryLaw" 157 yL_areOpened ∈ TW := q_mem 665 (by decide +kernel) rfl
theorem v_668 : Cond.methodLink "PuzzleRegistryLaw" 161 yL_areLinks ∈ TW := q_mem 668 (by decide +kernel) rfl
theorem v_677 : Cond.methodLink "PuzzleRegistryLaw" 165 yL_areVoid ∈ TW := q_mem 677 (by decide +kernel) rfl
theorem v_680 : Cond.methodLink "PuzzleRegistryLaw" 169 yL_areScores ∈ TW := q_mem 680 (by decide +kernel) rfl
