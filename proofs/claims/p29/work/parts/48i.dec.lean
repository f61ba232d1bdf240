/-! p29: decode rows -/
theorem dL_law_1331 : decode code 1331 = .ok (.goto 4, 3) := by decide +kernel
theorem dL_law_1334 : decode code 1334 = .ok (.iconst 0, 1) := by decide +kernel
theorem dL_law_1335 : decode code 1335 = .ok (.ireturn, 1) := by decide +kernel
