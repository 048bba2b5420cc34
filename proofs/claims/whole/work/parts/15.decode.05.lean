theorem px_k12 : px_rg 145 15 = true := by decide +kernel
theorem px_k13 : px_rg 160 13 = true := by decide +kernel
