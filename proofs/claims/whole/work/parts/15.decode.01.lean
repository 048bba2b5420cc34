theorem px_k0 : px_rg 0 16 = true := by decide +kernel
theorem px_k1 : px_rg 16 15 = true := by decide +kernel
theorem px_k2 : px_rg 31 18 = true := by decide +kernel
