theorem dL_acts_1695 : decode cL_acts 1695 = .ok (.ireturn, 1) := by decide +kernel
