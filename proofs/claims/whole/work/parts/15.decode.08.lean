theorem px_q6 : px_rp 173 600 100 = true := by decide +kernel
theorem px_q7 : px_rp 173 700 100 = true := by decide +kernel
