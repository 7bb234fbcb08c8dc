theorem ir_okp_364_24 : ((ir_t364.drop 144).take 6).all (fun l => l.all fun q => ir_okE 364 q.1 q.2) = true := by decide +kernel
theorem ir_okp_364_25 : ((ir_t364.drop 150).take 6).all (fun l => l.all fun q => ir_okE 364 q.1 q.2) = true := by decide +kernel
theorem ir_okp_364_26 : ((ir_t364.drop 156).take 6).all (fun l => l.all fun q => ir_okE 364 q.1 q.2) = true := by decide +kernel
theorem ir_okp_364_27 : ((ir_t364.drop 162).take 6).all (fun l => l.all fun q => ir_okE 364 q.1 q.2) = true := by decide +kernel
theorem ir_okp_364_28 : ((ir_t364.drop 168).take 6).all (fun l => l.all fun q => ir_okE 364 q.1 q.2) = true := by decide +kernel
theorem ir_okp_364_29 : ((ir_t364.drop 174).take 6).all (fun l => l.all fun q => ir_okE 364 q.1 q.2) = true := by decide +kernel
