set_option maxRecDepth 1000000 in
theorem kkb_543 : okB 11 true prog_14_method_1_code 543 pb_X12_init_b543 = true := by decide +kernel
set_option maxRecDepth 1000000 in
theorem kkb_602 : okB 11 true prog_14_method_1_code 602 pb_X12_init_b602 = true := by decide +kernel
