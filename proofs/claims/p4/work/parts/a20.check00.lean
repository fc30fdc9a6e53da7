theorem zi_k0 : zi_ckM zi_Ms zi_m0 = true := by decide +kernel
theorem zi_k1 : zi_ckM zi_Ms zi_m1 = true := by decide +kernel
theorem zi_k2 : zi_ckM zi_Ms zi_m2 = true := by decide +kernel
theorem zi_k3 : zi_ckM zi_Ms zi_m3 = true := by decide +kernel
theorem zi_k4 : zi_ckM zi_Ms zi_m4 = true := by decide +kernel
theorem zi_k5 : zi_ckM zi_Ms zi_m5 = true := by decide +kernel
theorem zi_k6 : zi_ckM zi_Ms zi_m6 = true := by decide +kernel
theorem zi_k7 : zi_ckM zi_Ms zi_m7 = true := by decide +kernel
