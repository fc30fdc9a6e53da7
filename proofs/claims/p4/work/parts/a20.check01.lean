theorem zi_k8 : zi_ckM zi_Ms zi_m8 = true := by decide +kernel
theorem zi_k9 : zi_ckM zi_Ms zi_m9 = true := by decide +kernel
theorem zi_k10 : zi_ckM zi_Ms zi_m10 = true := by decide +kernel
theorem zi_k11 : zi_ckM zi_Ms zi_m11 = true := by decide +kernel
theorem zi_k12 : zi_ckM zi_Ms zi_m12 = true := by decide +kernel
theorem zi_k13 : zi_ckM zi_Ms zi_m13 = true := by decide +kernel
theorem zi_k14 : zi_ckM zi_Ms zi_m14 = true := by decide +kernel
theorem zi_k15 : zi_ckM zi_Ms zi_m15 = true := by decide +kernel
