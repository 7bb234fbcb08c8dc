theorem ir_okp_364_0 : ((ir_t364.drop 0).take 6).all (fun l => l.all fun q => ir_okE 364 q.1 q.2) = true := by decide +kernel
theorem ir_okp_364_1 : ((ir_t364.drop 6).take 6).all (fun l => l.all fun q => ir_okE 364 q.1 q.2) = true := by decide +kernel
theorem ir_okp_364_2 : ((ir_t364.drop 12).take 6).all (fun l => l.all fun q => ir_okE 364 q.1 q.2) = true := by decide +kernel
theorem ir_okp_364_3 : ((ir_t364.drop 18).take 6).all (fun l => l.all fun q => ir_okE 364 q.1 q.2) = true := by decide +kernel
theorem ir_okp_364_4 : ((ir_t364.drop 24).take 6).all (fun l => l.all fun q => ir_okE 364 q.1 q.2) = true := by decide +kernel
theorem ir_okp_364_5 : ((ir_t364.drop 30).take 6).all (fun l => l.all fun q => ir_okE 364 q.1 q.2) = true := by decide +kernel
