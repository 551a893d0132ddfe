set_option maxRecDepth 1000000 in
theorem kkb_1811 : okB 11 true prog_14_method_1_code 1811 pb_X12_init_b1811 = true := by decide +kernel
set_option maxRecDepth 1000000 in
theorem kkb_1903 : okB 11 true prog_14_method_1_code 1903 pb_X12_init_b1903 = true := by decide +kernel
