theorem ir_okp_364_18 : ((ir_t364.drop 108).take 6).all (fun l => l.all fun q => ir_okE 364 q.1 q.2) = true := by decide +kernel
theorem ir_okp_364_19 : ((ir_t364.drop 114).take 6).all (fun l => l.all fun q => ir_okE 364 q.1 q.2) = true := by decide +kernel
theorem ir_okp_364_20 : ((ir_t364.drop 120).take 6).all (fun l => l.all fun q => ir_okE 364 q.1 q.2) = true := by decide +kernel
theorem ir_okp_364_21 : ((ir_t364.drop 126).take 6).all (fun l => l.all fun q => ir_okE 364 q.1 q.2) = true := by decide +kernel
theorem ir_okp_364_22 : ((ir_t364.drop 132).take 6).all (fun l => l.all fun q => ir_okE 364 q.1 q.2) = true := by decide +kernel
theorem ir_okp_364_23 : ((ir_t364.drop 138).take 6).all (fun l => l.all fun q => ir_okE 364 q.1 q.2) = true := by decide +kernel
