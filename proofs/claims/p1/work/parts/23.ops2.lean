theorem zi_o28_50 : zi_fin [zi_any, zi_any, zi_any, zi_any, zi_any, zi_any, zi_any] 14 (1237, zi_al0, [], zi_A0, 100, 177797) = true := by decide +kernel
theorem zi_o29_51 : zi_fin [zi_any, .inr ((-2147483648), (-1)), .inr ((-2147483648), (-1)), zi_any, zi_any, zi_any, zi_any] 44 (1250, zi_al0, [], zi_A0, 100, 177797) = true := by decide +kernel
theorem zi_o29_52 : zi_fin [zi_any, .inr ((-2147483648), (-1)), .inr (0, 2147483647), zi_any, zi_any, zi_any, zi_any] 44 (1250, zi_al0, [], zi_A0, 100, 177797) = true := by decide +kernel
theorem zi_o29_53 : zi_fin [zi_any, .inr (0, 9999), .inr ((-2147483648), (-1)), zi_any, zi_any, zi_any, zi_any] 44 (1250, zi_al0, [], zi_A0, 100, 177797) = true := by decide +kernel
theorem zi_o29_54 : zi_fin [zi_any, .inr (0, 9999), .inr (0, 2147483647), zi_any, zi_any, zi_any, zi_any] 44 (1250, zi_al0, [], zi_A0, 100, 177797) = true := by decide +kernel
theorem zi_o29_55 : zi_fin [zi_any, .inr (10000, 2147483647), .inr ((-2147483648), (-1)), zi_any, zi_any, zi_any, zi_any] 44 (1250, zi_al0, [], zi_A0, 100, 177797) = true := by decide +kernel
theorem zi_o29_56 : zi_fin [zi_any, .inr (10000, 2147483647), .inr (0, 2147483647), zi_any, zi_any, zi_any, zi_any] 44 (1250, zi_al0, [], zi_A0, 100, 177797) = true := by decide +kernel
theorem zi_o30_57 : zi_fin [zi_any, .inr ((-2147483648), (-1)), zi_any, zi_any, zi_any, zi_any, zi_any] 44 (1299, zi_al0, [], zi_A0, 100, 177797) = true := by decide +kernel
theorem zi_o30_58 : zi_fin [zi_any, .inr (10000, 2147483647), zi_any, zi_any, zi_any, zi_any, zi_any] 44 (1299, zi_al0, [], zi_A0, 100, 177797) = true := by decide +kernel
theorem zi_o30_59 : zi_fin [zi_any, .inr (0, 9999), .inr ((-2147483648), 0), zi_any, zi_any, zi_any, zi_any] 44 (1299, zi_al0, [], zi_A0, 100, 177797) = true := by decide +kernel
theorem zi_o30_60 : zi_fin [zi_any, .inr (0, 9999), .inr (61, 2147483647), zi_any, zi_any, zi_any, zi_any] 44 (1299, zi_al0, [], zi_A0, 100, 177797) = true := by decide +kernel
theorem zi_o30_61 : zi_fin [zi_any, .inr (0, 9999), .inr (1, 60), .inr ((-2147483648), (-1)), zi_any, zi_any, zi_any] 44 (1299, zi_al0, [], zi_A0, 100, 177797) = true := by decide +kernel
theorem zi_o30_62 : zi_fin [zi_any, .inr (0, 9999), .inr (1, 60), .inr (0, 2), zi_any, zi_any, zi_any] 44 (1299, zi_al0, [], zi_A0, 100, 177797) = true := by decide +kernel
theorem zi_o30_63 : zi_fin [zi_any, .inr (0, 9999), .inr (1, 60), .inr (3, 2147483647), zi_any, zi_any, zi_any] 44 (1299, zi_al0, [], zi_A0, 100, 177797) = true := by decide +kernel
theorem zi_o31_64 : zi_fin [zi_any, .inr ((-2147483648), (-1)), .inr ((-2147483648), (-1)), zi_any, zi_any, zi_any, zi_any] 40 (1348, zi_al0, [], zi_A0, 100, 177797) = true := by decide +kernel
theorem zi_o31_65 : zi_fin [zi_any, .inr ((-2147483648), (-1)), .inl (.int 0), zi_any, zi_any, zi_any, zi_any] 38 (1348, zi_al0, [], zi_A0, 100, 177797) = true := by decide +kernel
theorem zi_o31_66 : zi_fin [zi_any, .inr ((-2147483648), (-1)), .inr (1, 2147483647), zi_any, zi_any, zi_any, zi_any] 40 (1348, zi_al0, [], zi_A0, 100, 177797) = true := by decide +kernel
theorem zi_o31_67 : zi_fin [zi_any, .inl (.int 0), .inr ((-2147483648), (-1)), zi_any, zi_any, zi_any, zi_any] 40 (1348, zi_al0, [], zi_A0, 100, 177797) = true := by decide +kernel
theorem zi_o31_68 : zi_fin [zi_any, .inl (.int 0), .inl (.int 0), zi_any, zi_any, zi_any, zi_any] 38 (1348, zi_al0, [], zi_A0, 100, 177797) = true := by decide +kernel
theorem zi_o31_69 : zi_fin [zi_any, .inl (.int 0), .inr (1, 2147483647), zi_any, zi_any, zi_any, zi_any] 40 (1348, zi_al0, [], zi_A0, 100, 177797) = true := by decide +kernel
theorem zi_o31_70 : zi_fin [zi_any, .inl (.int 1), .inr ((-2147483648), (-1)), zi_any, zi_any, zi_any, zi_any] 40 (1348, zi_al0, [], zi_A0, 100, 177797) = true := by decide +kernel
theorem zi_o31_71 : zi_fin [zi_any, .inl (.int 1), .inl (.int 0), zi_any, zi_any, zi_any, zi_any] 38 (1348, zi_al0, [], zi_A0, 100, 177797) = true := by decide +kernel
theorem zi_o31_72 : zi_fin [zi_any, .inl (.int 1), .inr (1, 2147483647), zi_any, zi_any, zi_any, zi_any] 40 (1348, zi_al0, [], zi_A0, 100, 177797) = true := by decide +kernel
theorem zi_o31_73 : zi_fin [zi_any, .inl (.int 2), .inr ((-2147483648), (-1)), zi_any, zi_any, zi_any, zi_any] 40 (1348, zi_al0, [], zi_A0, 100, 177797) = true := by decide +kernel
theorem zi_o31_74 : zi_fin [zi_any, .inl (.int 2), .inl (.int 0), zi_any, zi_any, zi_any, zi_any] 38 (1348, zi_al0, [], zi_A0, 100, 177797) = true := by decide +kernel
