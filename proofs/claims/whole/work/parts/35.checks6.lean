theorem ir_okp_364_12 : ((ir_t364.drop 72).take 6).all (fun l => l.all fun q => ir_okE 364 q.1 q.2) = true := by decide +kernel
theorem ir_okp_364_13 : ((ir_t364.drop 78).take 6).all (fun l => l.all fun q => ir_okE 364 q.1 q.2) = true := by decide +kernel
theorem ir_okp_364_14 : ((ir_t364.drop 84).take 6).all (fun l => l.all fun q => ir_okE 364 q.1 q.2) = true := by decide +kernel
theorem ir_okp_364_15 : ((ir_t364.drop 90).take 6).all (fun l => l.all fun q => ir_okE 364 q.1 q.2) = true := by decide +kernel
theorem ir_okp_364_16 : ((ir_t364.drop 96).take 6).all (fun l => l.all fun q => ir_okE 364 q.1 q.2) = true := by decide +kernel
theorem ir_okp_364_17 : ((ir_t364.drop 102).take 6).all (fun l => l.all fun q => ir_okE 364 q.1 q.2) = true := by decide +kernel
