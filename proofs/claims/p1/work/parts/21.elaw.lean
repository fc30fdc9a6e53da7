theorem zi_ls4 : (zi_tl4.take 10).all (fun ch => ch.2.all (fun q => zi_ok zi_Ms zi_mlaw q.1 q.2)) = true := by decide +kernel
def zi_tl5 : zi_T := zi_tl4.drop 10
