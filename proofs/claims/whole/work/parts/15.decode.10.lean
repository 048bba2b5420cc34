theorem px_q10 : px_rp 173 1000 100 = true := by decide +kernel
theorem px_q11 : px_rp 173 1100 97 = true := by decide +kernel
