set_option maxRecDepth 1000000 in
theorem kkb_285 : okB 11 true prog_14_method_1_code 285 pb_X12_init_b285 = true := by decide +kernel
set_option maxRecDepth 1000000 in
theorem kkb_366 : okB 11 true prog_14_method_1_code 366 pb_X12_init_b366 = true := by decide +kernel
