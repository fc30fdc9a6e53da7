theorem zi_ls1 : (zi_tl1.take 10).all (fun ch => ch.2.all (fun q => zi_ok zi_Ms zi_mlaw q.1 q.2)) = true := by decide +kernel
def zi_tl2 : zi_T := zi_tl1.drop 10
