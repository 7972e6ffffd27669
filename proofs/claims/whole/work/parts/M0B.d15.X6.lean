theorem dX6_handlerOf_82 : decode cX6_handlerOf 82 = .ok (.ireturn, 1) := by decide +kernel
theorem dX6_handlerOf_83 : decode cX6_handlerOf 83 = .ok (.iinc 4 1, 3) := by decide +kernel
theorem dX6_handlerOf_86 : decode cX6_handlerOf 86 = .ok (.goto (-65), 3) := by decide +kernel
theorem dX6_handlerOf_89 : decode cX6_handlerOf 89 = .ok (.iconst (-1), 1) := by decide +kernel
theorem dX6_handlerOf_90 : decode cX6_handlerOf 90 = .ok (.ireturn, 1) := by decide +kernel
