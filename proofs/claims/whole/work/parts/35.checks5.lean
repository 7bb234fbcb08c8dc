theorem ir_okp_364_6 : ((ir_t364.drop 36).take 6).all (fun l => l.all fun q => ir_okE 364 q.1 q.2) = true := by decide +kernel
theorem ir_okp_364_7 : ((ir_t364.drop 42).take 6).all (fun l => l.all fun q => ir_okE 364 q.1 q.2) = true := by decide +kernel
theorem ir_okp_364_8 : ((ir_t364.drop 48).take 6).all (fun l => l.all fun q => ir_okE 364 q.1 q.2) = true := by decide +kernel
theorem ir_okp_364_9 : ((ir_t364.drop 54).take 6).all (fun l => l.all fun q => ir_okE 364 q.1 q.2) = true := by decide +kernel
theorem ir_okp_364_10 : ((ir_t364.drop 60).take 6).all (fun l => l.all fun q => ir_okE 364 q.1 q.2) = true := by decide +kernel
theorem ir_okp_364_11 : ((ir_t364.drop 66).take 6).all (fun l => l.all fun q => ir_okE 364 q.1 q.2) = true := by decide +kernel
