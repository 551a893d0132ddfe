set_option maxRecDepth 1000000 in
theorem kkb_666 : okB 11 true prog_14_method_1_code 666 pb_X12_init_b666 = true := by decide +kernel
set_option maxRecDepth 1000000 in
theorem kkb_742 : okB 11 true prog_14_method_1_code 742 pb_X12_init_b742 = true := by decide +kernel
