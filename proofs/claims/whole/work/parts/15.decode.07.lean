theorem px_q4 : px_rp 173 400 100 = true := by decide +kernel
theorem px_q5 : px_rp 173 500 100 = true := by decide +kernel
