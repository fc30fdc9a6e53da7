theorem zi_Ms_ok (mi : Nat) (N : zi_M) (h : zi_Ms[mi]? = some N) : zi_okM N ∧ zi_okT zi_Ms N := sorry
theorem zi_law_ok : zi_okT zi_Ms zi_mlaw := sorry
theorem zi_mlf_ok : zi_okT zi_Ms zi_mlf := zi_okT_of (by decide +kernel)
theorem zi_mf_ok : zi_okM zi_mf ∧ zi_okT zi_Ms zi_mf := zi_ckM_ok (by decide +kernel)
