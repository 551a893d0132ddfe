set_option maxRecDepth 1000000 in
theorem kkb_939 : okB 11 true prog_14_method_1_code 939 pb_X12_init_b939 = true := by decide +kernel
set_option maxRecDepth 1000000 in
theorem kkb_1018 : okB 11 true prog_14_method_1_code 1018 pb_X12_init_b1018 = true := by decide +kernel
