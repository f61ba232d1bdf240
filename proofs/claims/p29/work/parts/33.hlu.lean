/-! words: castable -/
theorem w_333 : Cond.castable "java/lang/IllegalArgumentException" "java/lang/IllegalArgumentException" ∈ TW := q_mem 347 (by decide +kernel) rfl
theorem w_402 : Cond.castable "java/lang/IllegalStateException" "java/lang/IllegalStateException" ∈ TW := q_mem 363 (by decide +kernel) rfl
theorem w_442 : Cond.castable "java/lang/IndexOutOfBoundsException" "java/lang/IndexOutOfBoundsException" ∈ TW := q_mem 241 (by decide +kernel) rfl
theorem w_572 : Cond.castable "java/util/NoSuchElementException" "java/util/NoSuchElementException" ∈ TW := q_mem 526 (by decide +kernel) rfl
