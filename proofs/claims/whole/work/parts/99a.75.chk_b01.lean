set_option maxRecDepth 1000000 in
theorem kkb_161 : okB 11 true prog_14_method_1_code 161 pb_X12_init_b161 = true := by decide +kernel
set_option maxRecDepth 1000000 in
theorem kkb_215 : okB 11 true prog_14_method_1_code 215 pb_X12_init_b215 = true := by decide +kernel
