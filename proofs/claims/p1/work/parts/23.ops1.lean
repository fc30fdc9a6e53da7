theorem zi_o14_25 : zi_fin [zi_any, .inr ((-2147483648), (-1)), zi_any, zi_any, zi_any, zi_any, zi_any] 44 (696, zi_al0, [], zi_A0, 100, 177797) = true := by decide +kernel
theorem zi_o14_26 : zi_fin [zi_any, .inr (0, 2147483647), zi_any, zi_any, zi_any, zi_any, zi_any] 44 (696, zi_al0, [], zi_A0, 100, 177797) = true := by decide +kernel
theorem zi_o15_27 : zi_fin [zi_any, zi_any, zi_any, zi_any, zi_any, zi_any, zi_any] 24 (745, zi_al0, [], zi_A0, 100, 177797) = true := by decide +kernel
theorem zi_o16_28 : zi_fin [zi_any, zi_any, zi_any, zi_any, zi_any, zi_any, zi_any] 14 (770, zi_al0, [], zi_A0, 100, 177797) = true := by decide +kernel
theorem zi_o17_29 : zi_fin [zi_any, zi_any, zi_any, zi_any, zi_any, zi_any, zi_any] 14 (783, zi_al0, [], zi_A0, 100, 177797) = true := by decide +kernel
theorem zi_o18_30 : zi_fin [zi_any, .inr ((-2147483648), (-1)), zi_any, zi_any, zi_any, zi_any, zi_any] 54 (796, zi_al0, [], zi_A0, 100, 177797) = true := by decide +kernel
theorem zi_o18_31 : zi_fin [zi_any, .inr (0, 2147483647), zi_any, zi_any, zi_any, zi_any, zi_any] 54 (796, zi_al0, [], zi_A0, 100, 177797) = true := by decide +kernel
theorem zi_o19_32 : zi_fin [zi_any, .inr ((-2147483648), (-1)), zi_any, zi_any, zi_any, zi_any, zi_any] 30 (857, zi_al0, [], zi_A0, 100, 177797) = true := by decide +kernel
theorem zi_o19_33 : zi_fin [zi_any, .inl (.int 0), zi_any, zi_any, zi_any, zi_any, zi_any] 28 (857, zi_al0, [], zi_A0, 100, 177797) = true := by decide +kernel
theorem zi_o19_34 : zi_fin [zi_any, .inr (1, 2147483647), zi_any, zi_any, zi_any, zi_any, zi_any] 30 (857, zi_al0, [], zi_A0, 100, 177797) = true := by decide +kernel
theorem zi_o20_35 : zi_fin [zi_any, .inr ((-2147483648), (-1)), zi_any, zi_any, zi_any, zi_any, zi_any] 44 (898, zi_al0, [], zi_A0, 100, 177797) = true := by decide +kernel
theorem zi_o20_36 : zi_fin [zi_any, .inr (0, 2147483647), zi_any, zi_any, zi_any, zi_any, zi_any] 44 (898, zi_al0, [], zi_A0, 100, 177797) = true := by decide +kernel
theorem zi_o21_37 : zi_fin [zi_any, .inr ((-2147483648), (-1)), zi_any, zi_any, zi_any, zi_any, zi_any] 44 (947, zi_al0, [], zi_A0, 100, 177797) = true := by decide +kernel
theorem zi_o21_38 : zi_fin [zi_any, .inr (0, 2147483647), zi_any, zi_any, zi_any, zi_any, zi_any] 44 (947, zi_al0, [], zi_A0, 100, 177797) = true := by decide +kernel
theorem zi_o23_39 : zi_fin [zi_any, .inr ((-2147483648), (-1)), zi_any, zi_any, zi_any, zi_any, zi_any] 34 (1076, zi_al0, [], zi_A0, 100, 177797) = true := by decide +kernel
theorem zi_o23_40 : zi_fin [zi_any, .inr (0, 2147483647), zi_any, zi_any, zi_any, zi_any, zi_any] 34 (1076, zi_al0, [], zi_A0, 100, 177797) = true := by decide +kernel
theorem zi_o24_41 : zi_fin [zi_any, .inr ((-2147483648), (-1)), zi_any, zi_any, zi_any, zi_any, zi_any] 34 (1113, zi_al0, [], zi_A0, 100, 177797) = true := by decide +kernel
theorem zi_o24_42 : zi_fin [zi_any, .inr (0, 2147483647), zi_any, zi_any, zi_any, zi_any, zi_any] 34 (1113, zi_al0, [], zi_A0, 100, 177797) = true := by decide +kernel
theorem zi_o25_43 : zi_fin [zi_any, .inr ((-2147483648), (-1)), zi_any, zi_any, zi_any, zi_any, zi_any] 24 (1150, zi_al0, [], zi_A0, 100, 177797) = true := by decide +kernel
theorem zi_o25_44 : zi_fin [zi_any, .inl (.int 0), zi_any, zi_any, zi_any, zi_any, zi_any] 24 (1150, zi_al0, [], zi_A0, 100, 177797) = true := by decide +kernel
theorem zi_o25_45 : zi_fin [zi_any, .inl (.int 1), zi_any, zi_any, zi_any, zi_any, zi_any] 24 (1150, zi_al0, [], zi_A0, 100, 177797) = true := by decide +kernel
theorem zi_o25_46 : zi_fin [zi_any, .inr (2, 2147483647), zi_any, zi_any, zi_any, zi_any, zi_any] 24 (1150, zi_al0, [], zi_A0, 100, 177797) = true := by decide +kernel
theorem zi_o26_47 : zi_fin [zi_any, .inr ((-2147483648), (-1)), zi_any, zi_any, zi_any, zi_any, zi_any] 44 (1175, zi_al0, [], zi_A0, 100, 177797) = true := by decide +kernel
theorem zi_o26_48 : zi_fin [zi_any, .inr (0, 2147483647), zi_any, zi_any, zi_any, zi_any, zi_any] 44 (1175, zi_al0, [], zi_A0, 100, 177797) = true := by decide +kernel
theorem zi_o27_49 : zi_fin [zi_any, zi_any, zi_any, zi_any, zi_any, zi_any, zi_any] 14 (1224, zi_al0, [], zi_A0, 100, 177797) = true := by decide +kernel
