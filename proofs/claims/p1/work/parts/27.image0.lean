/-! the runs of one call: image -/
theorem ev_rn55 : ev_chk ev_s1 37 (.leaf ()) [(0, 4294967295), (0, 2147483647), (0, 4294967295), (0, 4294967295), (0, 4294967295), (0, 4294967295)] = true := by decide +kernel
theorem ev_rn58 : ev_chk ev_s1 37 (.leaf ()) [(0, 4294967295), (2147483648, 2147483648), (0, 4294967295), (0, 4294967295), (0, 4294967295), (0, 4294967295)] = true := by decide +kernel
