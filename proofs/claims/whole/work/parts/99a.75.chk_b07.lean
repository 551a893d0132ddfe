set_option maxRecDepth 1000000 in
theorem kkb_939 : okB 11 true prog_14_method_1_code 939 pb_X12_init_b939 = true := by decide +kernel
set_option maxRecDepth 1000000 in
theorem kkb_1811 : okB 11 true prog_14_method_1_code 1811 pb_X12_init_b1811 = true := by decide +kernel
