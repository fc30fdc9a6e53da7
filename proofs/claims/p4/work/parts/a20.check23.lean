theorem zi_k305 : zi_ckM zi_Ms zi_m305 = true := by decide +kernel
theorem zi_k306 : zi_ckM zi_Ms zi_m306 = true := by decide +kernel
theorem zi_k307 : zi_ckM zi_Ms zi_m307 = true := by decide +kernel
theorem zi_k308 : zi_ckM zi_Ms zi_m308 = true := by decide +kernel
theorem zi_k309 : zi_ckM zi_Ms zi_m309 = true := by decide +kernel
theorem zi_k310 : zi_ckM zi_Ms zi_m310 = true := by decide +kernel
theorem zi_k311 : zi_ckM zi_Ms zi_m311 = true := by decide +kernel
theorem zi_k312 : zi_ckM zi_Ms zi_m312 = true := by decide +kernel
