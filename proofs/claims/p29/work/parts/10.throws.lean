/-! throws: the words that each throw needs are in the tables -/
abbrev tw_names : List String := ["java/lang/RuntimeException", "java/lang/Exception"]
theorem tw_names_ok : ∀ n ∈ tw_names, Bundle.fit n = true := by decide +kernel
theorem q_flags {l : Launch} (h : l.flags = flags0) : l.stackTraces = false := by
  unfold Launch.stackTraces; rw [h]; decide +kernel
theorem tw_X5_65_69_g : ∀ w ∈ Cond.classLink "PuzzleRegistry" 65 "java/lang/IllegalStateException" :: Cond.initialized "java/lang/IllegalStateException" :: vx_atS "PuzzleRegistry" 69 "java/lang/IllegalStateException" tw_names, vx_ot w = true := by decide +kernel
theorem tw_X5_65_69 : ∀ w ∈ vx_atS "PuzzleRegistry" 69 "java/lang/IllegalStateException" tw_names, w ∈ TW := by decide +kernel
theorem tw_X5_89_93_g : ∀ w ∈ Cond.classLink "PuzzleRegistry" 89 "java/lang/IllegalArgumentException" :: Cond.initialized "java/lang/IllegalArgumentException" :: vx_atS "PuzzleRegistry" 93 "java/lang/IllegalArgumentException" tw_names, vx_ot w = true := by decide +kernel
theorem tw_X5_89_93 : ∀ w ∈ vx_atS "PuzzleRegistry" 93 "java/lang/IllegalArgumentException" tw_names, w ∈ TW := by decide +kernel
theorem tw_X5_248_252_g : ∀ w ∈ Cond.classLink "PuzzleRegistry" 248 "java/lang/IndexOutOfBoundsException" :: Cond.initialized "java/lang/IndexOutOfBoundsException" :: vx_atS "PuzzleRegistry" 252 "java/lang/IndexOutOfBoundsException" tw_names, vx_ot w = true := by decide +kernel
theorem tw_X5_248_252 : ∀ w ∈ vx_atS "PuzzleRegistry" 252 "java/lang/IndexOutOfBoundsException" tw_names, w ∈ TW := by decide +kernel
