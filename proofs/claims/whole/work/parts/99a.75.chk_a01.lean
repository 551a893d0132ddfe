set_option maxRecDepth 1000000 in
theorem kk_60 : okBs 4 false prog_6_method_8_code pb_X4_person = true := by decide +kernel
set_option maxRecDepth 1000000 in
theorem kk_61 : okBs 4 false prog_6_method_9_code pb_X4_partyOf = true := by decide +kernel
set_option maxRecDepth 1000000 in
theorem kk_62 : okBs 4 false prog_6_method_10_code pb_X4_hatred = true := by decide +kernel
set_option maxRecDepth 1000000 in
theorem kk_63 : okBs 4 false prog_6_method_11_code pb_X4_pointTold = true := by decide +kernel
set_option maxRecDepth 1000000 in
theorem kk_64 : okBs 4 false prog_6_method_12_code pb_X4_sound = true := by decide +kernel
set_option maxRecDepth 1000000 in
theorem kk_65 : okBs 4 false prog_6_method_13_code pb_X4_muteTold = true := by decide +kernel
set_option maxRecDepth 1000000 in
theorem kk_66 : okBs 4 false prog_6_method_14_code pb_X4_worth = true := by decide +kernel
set_option maxRecDepth 1000000 in
theorem kk_67 : okBs 5 true prog_7_method_1_code pb_X5_init = true := by decide +kernel
set_option maxRecDepth 1000000 in
theorem kk_68 : okBs 5 false prog_7_method_2_code pb_X5_write = true := by decide +kernel
set_option maxRecDepth 1000000 in
theorem kk_69 : okBs 5 false prog_7_method_3_code pb_X5_lengthOf = true := by decide +kernel
set_option maxRecDepth 1000000 in
theorem kk_70 : okBs 5 false prog_7_method_4_code pb_X5_checkOf = true := by decide +kernel
set_option maxRecDepth 1000000 in
theorem kk_71 : okBs 5 false prog_7_method_5_code pb_X5_reads = true := by decide +kernel
set_option maxRecDepth 1000000 in
theorem kk_72 : okBs 5 false prog_7_method_6_code pb_X5_readsMutes = true := by decide +kernel
set_option maxRecDepth 1000000 in
theorem kk_73 : okBs 5 false prog_7_method_7_code pb_X5_seats = true := by decide +kernel
set_option maxRecDepth 1000000 in
theorem kk_74 : okBs 6 true prog_8_method_1_code pb_X6_init = true := by decide +kernel
set_option maxRecDepth 1000000 in
theorem kk_75 : okBs 6 false prog_8_method_2_code pb_X6_forget = true := by decide +kernel
set_option maxRecDepth 1000000 in
theorem kk_76 : okBs 6 false prog_8_method_3_code pb_X6_keep = true := by decide +kernel
set_option maxRecDepth 1000000 in
theorem kk_77 : okBs 6 false prog_8_method_4_code pb_X6_back = true := by decide +kernel
set_option maxRecDepth 1000000 in
theorem kk_78 : okBs 7 true prog_9_method_1_code pb_X7_init = true := by decide +kernel
set_option maxRecDepth 1000000 in
theorem kk_79 : okBs 7 false prog_9_method_2_code pb_X7_read = true := by decide +kernel
set_option maxRecDepth 1000000 in
theorem kk_80 : okBs 7 false prog_9_method_3_code pb_X7_isOfTest = true := by decide +kernel
set_option maxRecDepth 1000000 in
theorem kk_81 : okBs 7 false prog_9_method_4_code pb_X7_answer = true := by decide +kernel
set_option maxRecDepth 1000000 in
theorem kk_82 : okBs 7 false prog_9_method_5_code pb_X7_join = true := by decide +kernel
set_option maxRecDepth 1000000 in
theorem kk_83 : okBs 8 true prog_10_method_1_code pb_X8_init = true := by decide +kernel
set_option maxRecDepth 1000000 in
theorem kk_84 : okBs 8 false prog_10_method_2_code pb_X8_begin = true := by decide +kernel
set_option maxRecDepth 1000000 in
theorem kk_85 : okBs 8 false prog_10_method_3_code pb_X8_fail = true := by decide +kernel
set_option maxRecDepth 1000000 in
theorem kk_86 : okBs 8 false prog_10_method_4_code pb_X8_step = true := by decide +kernel
set_option maxRecDepth 1000000 in
theorem kk_87 : okBs 8 false prog_10_method_5_code pb_X8_readLetters = true := by decide +kernel
set_option maxRecDepth 1000000 in
theorem kk_88 : okBs 8 false prog_10_method_6_code pb_X8_readDigits = true := by decide +kernel
set_option maxRecDepth 1000000 in
theorem kk_89 : okBs 8 false prog_10_method_7_code pb_X8_isSign = true := by decide +kernel
set_option maxRecDepth 1000000 in
theorem kk_90 : okBs 8 false prog_10_method_8_code pb_X8_takeSign = true := by decide +kernel
set_option maxRecDepth 1000000 in
theorem kk_91 : okBs 8 false prog_10_method_9_code pb_X8_takeWord = true := by decide +kernel
set_option maxRecDepth 1000000 in
theorem kk_92 : okBs 8 false prog_10_method_10_code pb_X8_takeNumber = true := by decide +kernel
set_option maxRecDepth 1000000 in
theorem kk_93 : okBs 8 false prog_10_method_11_code pb_X8_takeName = true := by decide +kernel
set_option maxRecDepth 1000000 in
theorem kk_94 : okBs 9 true prog_11_method_1_code pb_X9_init = true := by decide +kernel
set_option maxRecDepth 1000000 in
theorem kk_95 : okBs 9 false prog_11_method_2_code pb_X9_clear = true := by decide +kernel
set_option maxRecDepth 1000000 in
theorem kk_96 : okBs 9 false prog_11_method_3_code pb_X9_begin = true := by decide +kernel
set_option maxRecDepth 1000000 in
theorem kk_97 : okBs 9 false prog_11_method_4_code pb_X9_copy = true := by decide +kernel
set_option maxRecDepth 1000000 in
theorem kk_98 : okBs 9 false prog_11_method_5_code pb_X9_isThere = true := by decide +kernel
set_option maxRecDepth 1000000 in
theorem kk_99 : okBs 9 false prog_11_method_6_code pb_X9_whoSits = true := by decide +kernel
set_option maxRecDepth 1000000 in
theorem kk_100 : okBs 9 false prog_11_method_7_code pb_X9_put = true := by decide +kernel
set_option maxRecDepth 1000000 in
theorem kk_101 : okBs 9 false prog_11_method_8_code pb_X9_leave = true := by decide +kernel
set_option maxRecDepth 1000000 in
theorem kk_102 : okBs 9 false prog_11_method_9_code pb_X9_exchange = true := by decide +kernel
set_option maxRecDepth 1000000 in
theorem kk_103 : okBs 9 false prog_11_method_10_code pb_X9_firstFree = true := by decide +kernel
set_option maxRecDepth 1000000 in
theorem kk_104 : okBs 9 false prog_11_method_11_code pb_X9_hiredOf = true := by decide +kernel
set_option maxRecDepth 1000000 in
theorem kk_105 : okBs 9 false prog_11_method_12_code pb_X9_keepCough = true := by decide +kernel
set_option maxRecDepth 1000000 in
theorem kk_106 : okBs 9 false prog_11_method_13_code pb_X9_toldCoughs = true := by decide +kernel
set_option maxRecDepth 1000000 in
theorem kk_107 : okBs 9 false prog_11_method_14_code pb_X9_toldOf = true := by decide +kernel
set_option maxRecDepth 1000000 in
theorem kk_108 : okBs 10 true prog_1_method_1_code pb_X11_init = true := by decide +kernel
set_option maxRecDepth 1000000 in
theorem kk_109 : okBs 10 false prog_1_method_2_code pb_X11_feed = true := by decide +kernel
set_option maxRecDepth 1000000 in
theorem kk_110 : okBs 10 false prog_1_method_3_code pb_X11_end = true := by decide +kernel
set_option maxRecDepth 1000000 in
theorem kk_111 : okBs 10 false prog_1_method_4_code pb_X11_hall = true := by decide +kernel
set_option maxRecDepth 1000000 in
theorem kk_112 : okBs 10 false prog_1_method_5_code pb_X11_fault = true := by decide +kernel
set_option maxRecDepth 1000000 in
theorem kk_113 : okBs 10 false prog_1_method_6_code pb_X11_has = true := by decide +kernel
set_option maxRecDepth 1000000 in
theorem kk_114 : okBs 10 false prog_1_method_7_code pb_X11_scale = true := by decide +kernel
set_option maxRecDepth 1000000 in
theorem kk_115 : okBs 10 false prog_1_method_8_code pb_X11_letter = true := by decide +kernel
set_option maxRecDepth 1000000 in
theorem kk_116 : okBs 10 false prog_1_method_9_code pb_X11_sits = true := by decide +kernel
set_option maxRecDepth 1000000 in
theorem kk_117 : okBs 10 false prog_1_method_10_code pb_X11_seat = true := by decide +kernel
set_option maxRecDepth 1000000 in
theorem kk_118 : okBs 10 false prog_1_method_11_code pb_X11_mute = true := by decide +kernel
set_option maxRecDepth 1000000 in
theorem kk_119 : okBs 10 false prog_1_method_12_code pb_X11_noise = true := by decide +kernel
