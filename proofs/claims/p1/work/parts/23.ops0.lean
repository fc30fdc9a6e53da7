theorem zi_o1_0 : zi_fin [zi_any, zi_any, zi_any, zi_any, zi_any, zi_any, zi_any] 14 (335, zi_al0, [], zi_A0, 100, 177797) = true := by decide +kernel
theorem zi_o2_1 : zi_fin [zi_any, zi_any, zi_any, zi_any, zi_any, zi_any, zi_any] 14 (348, zi_al0, [], zi_A0, 100, 177797) = true := by decide +kernel
theorem zi_o3_2 : zi_fin [zi_any, zi_any, zi_any, zi_any, zi_any, zi_any, zi_any] 14 (361, zi_al0, [], zi_A0, 100, 177797) = true := by decide +kernel
theorem zi_o4_3 : zi_fin [zi_any, .inr ((-2147483648), (-1)), zi_any, zi_any, zi_any, zi_any, zi_any] 24 (374, zi_al0, [], zi_A0, 100, 177797) = true := by decide +kernel
theorem zi_o4_4 : zi_fin [zi_any, .inr (0, 2147483647), zi_any, zi_any, zi_any, zi_any, zi_any] 24 (374, zi_al0, [], zi_A0, 100, 177797) = true := by decide +kernel
theorem zi_o5_5 : zi_fin [zi_any, .inr ((-2147483648), (-1)), zi_any, zi_any, zi_any, zi_any, zi_any] 34 (399, zi_al0, [], zi_A0, 100, 177797) = true := by decide +kernel
theorem zi_o5_6 : zi_fin [zi_any, .inr (0, 2147483647), zi_any, zi_any, zi_any, zi_any, zi_any] 34 (399, zi_al0, [], zi_A0, 100, 177797) = true := by decide +kernel
theorem zi_o6_7 : zi_fin [zi_any, .inr ((-2147483648), (-1)), zi_any, zi_any, zi_any, zi_any, zi_any] 24 (436, zi_al0, [], zi_A0, 100, 177797) = true := by decide +kernel
theorem zi_o6_8 : zi_fin [zi_any, .inl (.int 0), zi_any, zi_any, zi_any, zi_any, zi_any] 24 (436, zi_al0, [], zi_A0, 100, 177797) = true := by decide +kernel
theorem zi_o6_9 : zi_fin [zi_any, .inl (.int 1), zi_any, zi_any, zi_any, zi_any, zi_any] 24 (436, zi_al0, [], zi_A0, 100, 177797) = true := by decide +kernel
theorem zi_o6_10 : zi_fin [zi_any, .inl (.int 2), zi_any, zi_any, zi_any, zi_any, zi_any] 24 (436, zi_al0, [], zi_A0, 100, 177797) = true := by decide +kernel
theorem zi_o6_11 : zi_fin [zi_any, .inr (3, 2147483647), zi_any, zi_any, zi_any, zi_any, zi_any] 24 (436, zi_al0, [], zi_A0, 100, 177797) = true := by decide +kernel
theorem zi_o7_12 : zi_fin [zi_any, .inr ((-2147483648), (-1)), zi_any, zi_any, zi_any, zi_any, zi_any] 34 (461, zi_al0, [], zi_A0, 100, 177797) = true := by decide +kernel
theorem zi_o7_13 : zi_fin [zi_any, .inr (0, 2147483647), zi_any, zi_any, zi_any, zi_any, zi_any] 34 (461, zi_al0, [], zi_A0, 100, 177797) = true := by decide +kernel
theorem zi_o8_14 : zi_fin [zi_any, .inr ((-2147483648), (-1)), zi_any, zi_any, zi_any, zi_any, zi_any] 24 (498, zi_al0, [], zi_A0, 100, 177797) = true := by decide +kernel
theorem zi_o8_15 : zi_fin [zi_any, .inr (0, 2147483647), zi_any, zi_any, zi_any, zi_any, zi_any] 24 (498, zi_al0, [], zi_A0, 100, 177797) = true := by decide +kernel
theorem zi_o9_16 : zi_fin [zi_any, .inr ((-2147483648), (-1)), zi_any, zi_any, zi_any, zi_any, zi_any] 34 (523, zi_al0, [], zi_A0, 100, 177797) = true := by decide +kernel
theorem zi_o9_17 : zi_fin [zi_any, .inr (0, 2147483647), zi_any, zi_any, zi_any, zi_any, zi_any] 34 (523, zi_al0, [], zi_A0, 100, 177797) = true := by decide +kernel
theorem zi_o10_18 : zi_fin [zi_any, .inr ((-2147483648), (-1)), zi_any, zi_any, zi_any, zi_any, zi_any] 34 (560, zi_al0, [], zi_A0, 100, 177797) = true := by decide +kernel
theorem zi_o10_19 : zi_fin [zi_any, .inr (0, 2147483647), zi_any, zi_any, zi_any, zi_any, zi_any] 34 (560, zi_al0, [], zi_A0, 100, 177797) = true := by decide +kernel
theorem zi_o11_20 : zi_fin [zi_any, .inr ((-2147483648), (-1)), zi_any, zi_any, zi_any, zi_any, zi_any] 34 (597, zi_al0, [], zi_A0, 100, 177797) = true := by decide +kernel
theorem zi_o11_21 : zi_fin [zi_any, .inr (0, 2147483647), zi_any, zi_any, zi_any, zi_any, zi_any] 34 (597, zi_al0, [], zi_A0, 100, 177797) = true := by decide +kernel
theorem zi_o12_22 : zi_fin [zi_any, zi_any, zi_any, zi_any, zi_any, zi_any, zi_any] 14 (634, zi_al0, [], zi_A0, 100, 177797) = true := by decide +kernel
theorem zi_o13_23 : zi_fin [zi_any, .inr ((-2147483648), (-1)), zi_any, zi_any, zi_any, zi_any, zi_any] 44 (647, zi_al0, [], zi_A0, 100, 177797) = true := by decide +kernel
theorem zi_o13_24 : zi_fin [zi_any, .inr (0, 2147483647), zi_any, zi_any, zi_any, zi_any, zi_any] 44 (647, zi_al0, [], zi_A0, 100, 177797) = true := by decide +kernel
