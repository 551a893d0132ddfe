def cb_1018_6 : List EI := [e0 (.sipush 144) 3, e0 (.iconst 0) 1, e0 .iastore 1, e0 .dup 1, e0 (.sipush 145) 3, e0 (.iconst 0) 1, e0 .iastore 1, (.putfield 154, 3, 11, 63, 30, 237, 146, 1)]
set_option maxRecDepth 1000000 in
theorem kkx_1018_6 : okB 11 true prog_14_method_1_code 1797 cb_1018_6 = true := by decide +kernel
