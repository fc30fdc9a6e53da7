theorem zi_run0 : zi_run zi_call [] zi_mlaw 13 (0, [(0, .inl (.ref 8))], [], [], 0, 0) = some zi_f0 := zi_feq_ok (by decide +kernel)
