theorem px_q8 : px_rp 173 800 100 = true := by decide +kernel
theorem px_q9 : px_rp 173 900 100 = true := by decide +kernel
