theorem px_k6 : px_rg 94 10 = true := by decide +kernel
theorem px_k7 : px_rg 104 6 = true := by decide +kernel
theorem px_k8 : px_rg 110 6 = true := by decide +kernel
