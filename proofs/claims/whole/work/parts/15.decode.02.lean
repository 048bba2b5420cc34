theorem px_k3 : px_rg 49 14 = true := by decide +kernel
theorem px_k4 : px_rg 63 11 = true := by decide +kernel
theorem px_k5 : px_rg 74 20 = true := by decide +kernel
