theorem zi_ls2 : (zi_tl2.take 10).all (fun ch => ch.2.all (fun q => zi_ok zi_Ms zi_mlaw q.1 q.2)) = true := by decide +kernel
def zi_tl3 : zi_T := zi_tl2.drop 10
