/-! The law's own table, in slices. -/
theorem zi_ls0 : (zi_tlaw.take 10).all (fun ch => ch.2.all (fun q => zi_ok zi_Ms zi_mlaw q.1 q.2)) = true := by decide +kernel
def zi_tl1 : zi_T := zi_tlaw.drop 10
