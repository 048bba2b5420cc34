theorem px_q0 : px_rp 173 0 100 = true := by decide +kernel
theorem px_q1 : px_rp 173 100 100 = true := by decide +kernel
theorem px_q2 : px_rp 173 200 100 = true := by decide +kernel
theorem px_q3 : px_rp 173 300 100 = true := by decide +kernel
