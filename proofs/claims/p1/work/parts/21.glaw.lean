theorem zi_ls6 : (zi_tl6.take 10).all (fun ch => ch.2.all (fun q => zi_ok zi_Ms zi_mlaw q.1 q.2)) = true := by decide +kernel
def zi_tl7 : zi_T := zi_tl6.drop 10
