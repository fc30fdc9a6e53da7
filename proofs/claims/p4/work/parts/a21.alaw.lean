/-! The law's own table, in slices. -/
theorem zi_ls0 : (zi_tlaw.take 20).all (fun ch => ch.2.all (fun q => zi_ok zi_Ms zi_mlaw q.1 q.2)) = true := by decide +kernel
def zi_tl1 : zi_T := zi_tlaw.drop 20
theorem zi_ls1 : (zi_tl1.take 20).all (fun ch => ch.2.all (fun q => zi_ok zi_Ms zi_mlaw q.1 q.2)) = true := by decide +kernel
def zi_tl2 : zi_T := zi_tl1.drop 20
theorem zi_ls2 : (zi_tl2.take 20).all (fun ch => ch.2.all (fun q => zi_ok zi_Ms zi_mlaw q.1 q.2)) = true := by decide +kernel
def zi_tl3 : zi_T := zi_tl2.drop 20
theorem zi_ls3 : (zi_tl3.take 20).all (fun ch => ch.2.all (fun q => zi_ok zi_Ms zi_mlaw q.1 q.2)) = true := by decide +kernel
