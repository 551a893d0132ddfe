set_option maxRecDepth 1000000 in
theorem kkl_983 : okB 16 false code 983 [e0 (.aload_n 1) 1, (.invokevirtual 138, 3, 137, 1, 10, 0, 0, 0), e0 (.aload_n 2) 1, (.invokevirtual 141, 3, 293, 1, 11, 0, 0, 0), e1 (.if_icmp .eq 64) 3 1055, e0 (.iconst 0) 1, e0 .ireturn 1] = true := by decide +kernel
set_option maxRecDepth 1000000 in
theorem kkl_996 : okB 16 false code 996 [e0 (.aload_n 1) 1, e0 (.aload_n 0) 1, e0 (.iload_n 3) 1, e0 (.iconst 1) 1, e0 .iadd 1, e0 .iaload 1, (.invokevirtual 142, 3, 138, 2, 10, 0, 0, 0), e0 (.aload_n 2) 1, e0 (.aload_n 0) 1, e0 (.iload_n 3) 1, e0 (.iconst 1) 1, e0 .iadd 1, e0 .iaload 1, (.invokevirtual 145, 3, 294, 2, 11, 0, 0, 0), e1 (.if_icmp .eq 41) 3 1055, e0 (.iconst 0) 1, e0 .ireturn 1] = true := by decide +kernel
set_option maxRecDepth 1000000 in
theorem kkl_1019 : okB 16 false code 1019 [e0 (.aload_n 1) 1, (.invokevirtual 146, 3, 139, 1, 10, 0, 0, 0), e0 (.aload_n 2) 1, (.invokevirtual 149, 3, 299, 1, 11, 0, 0, 0), e1 (.if_icmp .eq 28) 3 1055, e0 (.iconst 0) 1, e0 .ireturn 1] = true := by decide +kernel
set_option maxRecDepth 1000000 in
theorem kkl_1032 : okB 16 false code 1032 [e0 (.aload_n 1) 1, e0 (.aload_n 0) 1, e0 (.iload_n 3) 1, e0 (.iconst 1) 1, e0 .iadd 1, e0 .iaload 1, (.invokevirtual 150, 3, 140, 2, 10, 0, 0, 0), e0 (.aload_n 2) 1, e0 (.aload_n 0) 1, e0 (.iload_n 3) 1, e0 (.iconst 1) 1, e0 .iadd 1, e0 .iaload 1, (.invokevirtual 153, 3, 300, 2, 11, 0, 0, 0), e1 (.if_icmp .eq 5) 3 1055, e0 (.iconst 0) 1, e0 .ireturn 1] = true := by decide +kernel
set_option maxRecDepth 1000000 in
theorem kkl_1055 : okB 16 false code 1055 [e0 (.iinc 3 6) 3, e1 (.goto (-1040)) 3 18] = true := by decide +kernel
set_option maxRecDepth 1000000 in
theorem kkl_1061 : okB 16 false code 1061 [e0 (.iconst 1) 1, e0 .ireturn 1] = true := by decide +kernel
