theorem px_k9 : px_rg 116 13 = true := by decide +kernel
theorem px_k10 : px_rg 129 10 = true := by decide +kernel
theorem px_k11 : px_rg 139 6 = true := by decide +kernel
