theorem zi_o31_75 : zi_fin [zi_any, .inl (.int 2), .inr (1, 2147483647), zi_any, zi_any, zi_any, zi_any] 40 (1348, zi_al0, [], zi_A0, 100, 177797) = true := by decide +kernel
theorem zi_o31_76 : zi_fin [zi_any, .inl (.int 3), .inr ((-2147483648), (-1)), zi_any, zi_any, zi_any, zi_any] 40 (1348, zi_al0, [], zi_A0, 100, 177797) = true := by decide +kernel
theorem zi_o31_77 : zi_fin [zi_any, .inl (.int 3), .inl (.int 0), zi_any, zi_any, zi_any, zi_any] 38 (1348, zi_al0, [], zi_A0, 100, 177797) = true := by decide +kernel
theorem zi_o31_78 : zi_fin [zi_any, .inl (.int 3), .inr (1, 2147483647), zi_any, zi_any, zi_any, zi_any] 40 (1348, zi_al0, [], zi_A0, 100, 177797) = true := by decide +kernel
theorem zi_o31_79 : zi_fin [zi_any, .inr (4, 2147483647), .inr ((-2147483648), (-1)), zi_any, zi_any, zi_any, zi_any] 40 (1348, zi_al0, [], zi_A0, 100, 177797) = true := by decide +kernel
theorem zi_o31_80 : zi_fin [zi_any, .inr (4, 2147483647), .inl (.int 0), zi_any, zi_any, zi_any, zi_any] 38 (1348, zi_al0, [], zi_A0, 100, 177797) = true := by decide +kernel
theorem zi_o31_81 : zi_fin [zi_any, .inr (4, 2147483647), .inr (1, 2147483647), zi_any, zi_any, zi_any, zi_any] 40 (1348, zi_al0, [], zi_A0, 100, 177797) = true := by decide +kernel
theorem zi_o32_82 : zi_fin [zi_any, .inr ((-2147483648), (-1)), zi_any, zi_any, zi_any, zi_any, zi_any] 24 (1401, zi_al0, [], zi_A0, 100, 177797) = true := by decide +kernel
theorem zi_o32_83 : zi_fin [zi_any, .inl (.int 0), zi_any, zi_any, zi_any, zi_any, zi_any] 24 (1401, zi_al0, [], zi_A0, 100, 177797) = true := by decide +kernel
theorem zi_o32_84 : zi_fin [zi_any, .inl (.int 1), zi_any, zi_any, zi_any, zi_any, zi_any] 24 (1401, zi_al0, [], zi_A0, 100, 177797) = true := by decide +kernel
theorem zi_o32_85 : zi_fin [zi_any, .inl (.int 2), zi_any, zi_any, zi_any, zi_any, zi_any] 24 (1401, zi_al0, [], zi_A0, 100, 177797) = true := by decide +kernel
theorem zi_o32_86 : zi_fin [zi_any, .inl (.int 3), zi_any, zi_any, zi_any, zi_any, zi_any] 24 (1401, zi_al0, [], zi_A0, 100, 177797) = true := by decide +kernel
theorem zi_o32_87 : zi_fin [zi_any, .inl (.int 4), zi_any, zi_any, zi_any, zi_any, zi_any] 24 (1401, zi_al0, [], zi_A0, 100, 177797) = true := by decide +kernel
theorem zi_o32_88 : zi_fin [zi_any, .inl (.int 5), zi_any, zi_any, zi_any, zi_any, zi_any] 24 (1401, zi_al0, [], zi_A0, 100, 177797) = true := by decide +kernel
theorem zi_o32_89 : zi_fin [zi_any, .inl (.int 6), zi_any, zi_any, zi_any, zi_any, zi_any] 24 (1401, zi_al0, [], zi_A0, 100, 177797) = true := by decide +kernel
theorem zi_o32_90 : zi_fin [zi_any, .inl (.int 7), zi_any, zi_any, zi_any, zi_any, zi_any] 24 (1401, zi_al0, [], zi_A0, 100, 177797) = true := by decide +kernel
theorem zi_o32_91 : zi_fin [zi_any, .inl (.int 8), zi_any, zi_any, zi_any, zi_any, zi_any] 24 (1401, zi_al0, [], zi_A0, 100, 177797) = true := by decide +kernel
theorem zi_o32_92 : zi_fin [zi_any, .inl (.int 9), zi_any, zi_any, zi_any, zi_any, zi_any] 24 (1401, zi_al0, [], zi_A0, 100, 177797) = true := by decide +kernel
theorem zi_o32_93 : zi_fin [zi_any, .inl (.int 10), zi_any, zi_any, zi_any, zi_any, zi_any] 24 (1401, zi_al0, [], zi_A0, 100, 177797) = true := by decide +kernel
theorem zi_o32_94 : zi_fin [zi_any, .inl (.int 11), zi_any, zi_any, zi_any, zi_any, zi_any] 24 (1401, zi_al0, [], zi_A0, 100, 177797) = true := by decide +kernel
theorem zi_o32_95 : zi_fin [zi_any, .inr (12, 2147483647), zi_any, zi_any, zi_any, zi_any, zi_any] 24 (1401, zi_al0, [], zi_A0, 100, 177797) = true := by decide +kernel
theorem zi_o99_96 : zi_fin [zi_any, zi_any, zi_any, zi_any, zi_any, zi_any, zi_any] 9 (1426, zi_al0, [], zi_A0, 100, 177797) = true := by decide +kernel
