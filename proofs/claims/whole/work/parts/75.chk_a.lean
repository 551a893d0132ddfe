set_option maxRecDepth 1000000 in
theorem kk_0 : okBs 0 true prog_2_method_1_code pb_X0_init = true := by decide +kernel
set_option maxRecDepth 1000000 in
theorem kk_1 : okBs 0 false prog_2_method_2_code pb_X0_look = true := by decide +kernel
set_option maxRecDepth 1000000 in
theorem kk_2 : okBs 0 false prog_2_method_3_code pb_X0_suppose = true := by decide +kernel
set_option maxRecDepth 1000000 in
theorem kk_3 : okBs 0 false prog_2_method_4_code pb_X0_tally = true := by decide +kernel
set_option maxRecDepth 1000000 in
theorem kk_4 : okBs 0 false prog_2_method_5_code pb_X0_regard = true := by decide +kernel
set_option maxRecDepth 1000000 in
theorem kk_5 : okBs 0 false prog_2_method_6_code pb_X0_weightNow = true := by decide +kernel
set_option maxRecDepth 1000000 in
theorem kk_6 : okBs 0 false prog_2_method_7_code pb_X0_coughNow = true := by decide +kernel
set_option maxRecDepth 1000000 in
theorem kk_7 : okBs 0 false prog_2_method_8_code pb_X0_swing = true := by decide +kernel
set_option maxRecDepth 1000000 in
theorem kk_8 : okBs 0 false prog_2_method_9_code pb_X0_meanSwing = true := by decide +kernel
set_option maxRecDepth 1000000 in
theorem kk_9 : okBs 0 false prog_2_method_10_code pb_X0_sideOf = true := by decide +kernel
set_option maxRecDepth 1000000 in
theorem kk_10 : okBs 0 false prog_2_method_11_code pb_X0_meanOf = true := by decide +kernel
set_option maxRecDepth 1000000 in
theorem kk_11 : okBs 0 false prog_2_method_12_code pb_X0_run = true := by decide +kernel
set_option maxRecDepth 1000000 in
theorem kk_12 : okBs 0 false prog_2_method_13_code pb_X0_push = true := by decide +kernel
set_option maxRecDepth 1000000 in
theorem kk_13 : okBs 0 false prog_2_method_14_code pb_X0_pop = true := by decide +kernel
set_option maxRecDepth 1000000 in
theorem kk_14 : okBs 0 false prog_2_method_15_code pb_X0_isBeside = true := by decide +kernel
set_option maxRecDepth 1000000 in
theorem kk_15 : okBs 0 false prog_2_method_16_code pb_X0_reckon = true := by decide +kernel
set_option maxRecDepth 1000000 in
theorem kk_16 : okBs 1 true prog_3_method_1_code pb_X1_init = true := by decide +kernel
set_option maxRecDepth 1000000 in
theorem kk_17 : okBs 1 false prog_3_method_2_code pb_X1_itching = true := by decide +kernel
set_option maxRecDepth 1000000 in
theorem kk_18 : okBs 1 false prog_3_method_3_code pb_X1_oddsOf = true := by decide +kernel
set_option maxRecDepth 1000000 in
theorem kk_19 : okBs 1 false prog_3_method_4_code pb_X1_chancesOf = true := by decide +kernel
set_option maxRecDepth 1000000 in
theorem kk_20 : okBs 1 false prog_3_method_5_code pb_X1_hired = true := by decide +kernel
set_option maxRecDepth 1000000 in
theorem kk_21 : okBs 1 false prog_3_method_6_code pb_X1_isCheaper = true := by decide +kernel
set_option maxRecDepth 1000000 in
theorem kk_22 : okBs 1 false prog_3_method_7_code pb_X1_seatAside = true := by decide +kernel
set_option maxRecDepth 1000000 in
theorem kk_23 : okBs 1 false prog_3_method_8_code pb_X1_changed = true := by decide +kernel
set_option maxRecDepth 1000000 in
theorem kk_24 : okBs 1 false prog_3_method_9_code pb_X1_swingFor = true := by decide +kernel
set_option maxRecDepth 1000000 in
theorem kk_25 : okBs 1 false prog_3_method_10_code pb_X1_pointOfTurn = true := by decide +kernel
set_option maxRecDepth 1000000 in
theorem kk_26 : okBs 1 false prog_3_method_11_code pb_X1_meanByTurns = true := by decide +kernel
set_option maxRecDepth 1000000 in
theorem kk_27 : okBs 1 false prog_3_method_12_code pb_X1_setsBy = true := by decide +kernel
set_option maxRecDepth 1000000 in
theorem kk_28 : okBs 1 false prog_3_method_13_code pb_X1_pointsBy = true := by decide +kernel
set_option maxRecDepth 1000000 in
theorem kk_29 : okBs 1 false prog_3_method_14_code pb_X1_loudestOf = true := by decide +kernel
set_option maxRecDepth 1000000 in
theorem kk_30 : okBs 2 true prog_4_method_1_code pb_X2_init = true := by decide +kernel
set_option maxRecDepth 1000000 in
theorem kk_31 : okBs 2 false prog_4_method_2_code pb_X2_readTest = true := by decide +kernel
set_option maxRecDepth 1000000 in
theorem kk_32 : okBs 2 false prog_4_method_3_code pb_X2_readSum = true := by decide +kernel
set_option maxRecDepth 1000000 in
theorem kk_33 : okBs 2 false prog_4_method_4_code pb_X2_begin = true := by decide +kernel
set_option maxRecDepth 1000000 in
theorem kk_34 : okBs 2 false prog_4_method_5_code pb_X2_copyOfSteps = true := by decide +kernel
set_option maxRecDepth 1000000 in
theorem kk_35 : okBs 2 false prog_4_method_6_code pb_X2_emit = true := by decide +kernel
set_option maxRecDepth 1000000 in
theorem kk_36 : okBs 2 false prog_4_method_7_code pb_X2_goIn = true := by decide +kernel
set_option maxRecDepth 1000000 in
theorem kk_37 : okBs 2 false prog_4_method_8_code pb_X2_chain = true := by decide +kernel
set_option maxRecDepth 1000000 in
theorem kk_38 : okBs 2 false prog_4_method_9_code pb_X2_joiner = true := by decide +kernel
set_option maxRecDepth 1000000 in
theorem kk_39 : okBs 2 false prog_4_method_10_code pb_X2_fact = true := by decide +kernel
set_option maxRecDepth 1000000 in
theorem kk_40 : okBs 2 false prog_4_method_11_code pb_X2_part = true := by decide +kernel
set_option maxRecDepth 1000000 in
theorem kk_41 : okBs 2 false prog_4_method_12_code pb_X2_pair = true := by decide +kernel
set_option maxRecDepth 1000000 in
theorem kk_42 : okBs 3 true prog_5_method_1_code pb_X3_init = true := by decide +kernel
set_option maxRecDepth 1000000 in
theorem kk_43 : okBs 3 false prog_5_method_2_code pb_X3_isTold = true := by decide +kernel
set_option maxRecDepth 1000000 in
theorem kk_44 : okBs 3 false prog_5_method_3_code pb_X3_isSeat = true := by decide +kernel
set_option maxRecDepth 1000000 in
theorem kk_45 : okBs 3 false prog_5_method_4_code pb_X3_isMute = true := by decide +kernel
set_option maxRecDepth 1000000 in
theorem kk_46 : okBs 3 false prog_5_method_5_code pb_X3_isPoint = true := by decide +kernel
set_option maxRecDepth 1000000 in
theorem kk_47 : okBs 3 false prog_5_method_6_code pb_X3_find = true := by decide +kernel
set_option maxRecDepth 1000000 in
theorem kk_48 : okBs 3 false prog_5_method_7_code pb_X3_letterOf = true := by decide +kernel
set_option maxRecDepth 1000000 in
theorem kk_49 : okBs 3 false prog_5_method_8_code pb_X3_noiseAt = true := by decide +kernel
set_option maxRecDepth 1000000 in
theorem kk_50 : okBs 3 false prog_5_method_9_code pb_X3_isNoisy = true := by decide +kernel
set_option maxRecDepth 1000000 in
theorem kk_51 : okBs 3 false prog_5_method_10_code pb_X3_areFoes = true := by decide +kernel
set_option maxRecDepth 1000000 in
theorem kk_52 : okBs 3 false prog_5_method_11_code pb_X3_costOf = true := by decide +kernel
set_option maxRecDepth 1000000 in
theorem kk_53 : okBs 4 true prog_6_method_1_code pb_X4_init = true := by decide +kernel
set_option maxRecDepth 1000000 in
theorem kk_54 : okBs 4 false prog_6_method_2_code pb_X4_read = true := by decide +kernel
set_option maxRecDepth 1000000 in
theorem kk_55 : okBs 4 false prog_6_method_3_code pb_X4_opening = true := by decide +kernel
set_option maxRecDepth 1000000 in
theorem kk_56 : okBs 4 false prog_6_method_4_code pb_X4_statement = true := by decide +kernel
set_option maxRecDepth 1000000 in
theorem kk_57 : okBs 4 false prog_6_method_5_code pb_X4_begins = true := by decide +kernel
set_option maxRecDepth 1000000 in
theorem kk_58 : okBs 4 false prog_6_method_6_code pb_X4_tells = true := by decide +kernel
set_option maxRecDepth 1000000 in
theorem kk_59 : okBs 4 false prog_6_method_7_code pb_X4_gives = true := by decide +kernel
set_option maxRecDepth 1000000 in
theorem kk_60 : okBs 4 false prog_6_method_8_code pb_X4_person = true := by decide +kernel
set_option maxRecDepth 1000000 in
theorem kk_61 : okBs 4 false prog_6_method_9_code pb_X4_partyOf = true := by decide +kernel
set_option maxRecDepth 1000000 in
theorem kk_62 : okBs 4 false prog_6_method_10_code pb_X4_hatred = true := by decide +kernel
set_option maxRecDepth 1000000 in
theorem kk_63 : okBs 4 false prog_6_method_11_code pb_X4_pointTold = true := by decide +kernel
set_option maxRecDepth 1000000 in
theorem kk_64 : okBs 4 false prog_6_method_12_code pb_X4_sound = true := by decide +kernel
set_option maxRecDepth 1000000 in
theorem kk_65 : okBs 4 false prog_6_method_13_code pb_X4_muteTold = true := by decide +kernel
set_option maxRecDepth 1000000 in
theorem kk_66 : okBs 4 false prog_6_method_14_code pb_X4_worth = true := by decide +kernel
set_option maxRecDepth 1000000 in
theorem kk_67 : okBs 5 true prog_7_method_1_code pb_X5_init = true := by decide +kernel
set_option maxRecDepth 1000000 in
theorem kk_68 : okBs 5 false prog_7_method_2_code pb_X5_write = true := by decide +kernel
set_option maxRecDepth 1000000 in
theorem kk_69 : okBs 5 false prog_7_method_3_code pb_X5_lengthOf = true := by decide +kernel
set_option maxRecDepth 1000000 in
theorem kk_70 : okBs 5 false prog_7_method_4_code pb_X5_checkOf = true := by decide +kernel
set_option maxRecDepth 1000000 in
theorem kk_71 : okBs 5 false prog_7_method_5_code pb_X5_reads = true := by decide +kernel
set_option maxRecDepth 1000000 in
theorem kk_72 : okBs 5 false prog_7_method_6_code pb_X5_readsMutes = true := by decide +kernel
set_option maxRecDepth 1000000 in
theorem kk_73 : okBs 5 false prog_7_method_7_code pb_X5_seats = true := by decide +kernel
set_option maxRecDepth 1000000 in
theorem kk_74 : okBs 6 true prog_8_method_1_code pb_X6_init = true := by decide +kernel
set_option maxRecDepth 1000000 in
theorem kk_75 : okBs 6 false prog_8_method_2_code pb_X6_forget = true := by decide +kernel
set_option maxRecDepth 1000000 in
theorem kk_76 : okBs 6 false prog_8_method_3_code pb_X6_keep = true := by decide +kernel
set_option maxRecDepth 1000000 in
theorem kk_77 : okBs 6 false prog_8_method_4_code pb_X6_back = true := by decide +kernel
set_option maxRecDepth 1000000 in
theorem kk_78 : okBs 7 true prog_9_method_1_code pb_X7_init = true := by decide +kernel
set_option maxRecDepth 1000000 in
theorem kk_79 : okBs 7 false prog_9_method_2_code pb_X7_read = true := by decide +kernel
set_option maxRecDepth 1000000 in
theorem kk_80 : okBs 7 false prog_9_method_3_code pb_X7_isOfTest = true := by decide +kernel
set_option maxRecDepth 1000000 in
theorem kk_81 : okBs 7 false prog_9_method_4_code pb_X7_answer = true := by decide +kernel
set_option maxRecDepth 1000000 in
theorem kk_82 : okBs 7 false prog_9_method_5_code pb_X7_join = true := by decide +kernel
set_option maxRecDepth 1000000 in
theorem kk_83 : okBs 8 true prog_10_method_1_code pb_X8_init = true := by decide +kernel
set_option maxRecDepth 1000000 in
theorem kk_84 : okBs 8 false prog_10_method_2_code pb_X8_begin = true := by decide +kernel
set_option maxRecDepth 1000000 in
theorem kk_85 : okBs 8 false prog_10_method_3_code pb_X8_fail = true := by decide +kernel
set_option maxRecDepth 1000000 in
theorem kk_86 : okBs 8 false prog_10_method_4_code pb_X8_step = true := by decide +kernel
set_option maxRecDepth 1000000 in
theorem kk_87 : okBs 8 false prog_10_method_5_code pb_X8_readLetters = true := by decide +kernel
set_option maxRecDepth 1000000 in
theorem kk_88 : okBs 8 false prog_10_method_6_code pb_X8_readDigits = true := by decide +kernel
set_option maxRecDepth 1000000 in
theorem kk_89 : okBs 8 false prog_10_method_7_code pb_X8_isSign = true := by decide +kernel
set_option maxRecDepth 1000000 in
theorem kk_90 : okBs 8 false prog_10_method_8_code pb_X8_takeSign = true := by decide +kernel
set_option maxRecDepth 1000000 in
theorem kk_91 : okBs 8 false prog_10_method_9_code pb_X8_takeWord = true := by decide +kernel
set_option maxRecDepth 1000000 in
theorem kk_92 : okBs 8 false prog_10_method_10_code pb_X8_takeNumber = true := by decide +kernel
set_option maxRecDepth 1000000 in
theorem kk_93 : okBs 8 false prog_10_method_11_code pb_X8_takeName = true := by decide +kernel
set_option maxRecDepth 1000000 in
theorem kk_94 : okBs 9 true prog_11_method_1_code pb_X9_init = true := by decide +kernel
set_option maxRecDepth 1000000 in
theorem kk_95 : okBs 9 false prog_11_method_2_code pb_X9_clear = true := by decide +kernel
set_option maxRecDepth 1000000 in
theorem kk_96 : okBs 9 false prog_11_method_3_code pb_X9_begin = true := by decide +kernel
set_option maxRecDepth 1000000 in
theorem kk_97 : okBs 9 false prog_11_method_4_code pb_X9_copy = true := by decide +kernel
set_option maxRecDepth 1000000 in
theorem kk_98 : okBs 9 false prog_11_method_5_code pb_X9_isThere = true := by decide +kernel
set_option maxRecDepth 1000000 in
theorem kk_99 : okBs 9 false prog_11_method_6_code pb_X9_whoSits = true := by decide +kernel
set_option maxRecDepth 1000000 in
theorem kk_100 : okBs 9 false prog_11_method_7_code pb_X9_put = true := by decide +kernel
set_option maxRecDepth 1000000 in
theorem kk_101 : okBs 9 false prog_11_method_8_code pb_X9_leave = true := by decide +kernel
set_option maxRecDepth 1000000 in
theorem kk_102 : okBs 9 false prog_11_method_9_code pb_X9_exchange = true := by decide +kernel
set_option maxRecDepth 1000000 in
theorem kk_103 : okBs 9 false prog_11_method_10_code pb_X9_firstFree = true := by decide +kernel
set_option maxRecDepth 1000000 in
theorem kk_104 : okBs 9 false prog_11_method_11_code pb_X9_hiredOf = true := by decide +kernel
set_option maxRecDepth 1000000 in
theorem kk_105 : okBs 9 false prog_11_method_12_code pb_X9_keepCough = true := by decide +kernel
set_option maxRecDepth 1000000 in
theorem kk_106 : okBs 9 false prog_11_method_13_code pb_X9_toldCoughs = true := by decide +kernel
set_option maxRecDepth 1000000 in
theorem kk_107 : okBs 9 false prog_11_method_14_code pb_X9_toldOf = true := by decide +kernel
set_option maxRecDepth 1000000 in
theorem kk_108 : okBs 10 true prog_1_method_1_code pb_X11_init = true := by decide +kernel
set_option maxRecDepth 1000000 in
theorem kk_109 : okBs 10 false prog_1_method_2_code pb_X11_feed = true := by decide +kernel
set_option maxRecDepth 1000000 in
theorem kk_110 : okBs 10 false prog_1_method_3_code pb_X11_end = true := by decide +kernel
set_option maxRecDepth 1000000 in
theorem kk_111 : okBs 10 false prog_1_method_4_code pb_X11_hall = true := by decide +kernel
set_option maxRecDepth 1000000 in
theorem kk_112 : okBs 10 false prog_1_method_5_code pb_X11_fault = true := by decide +kernel
set_option maxRecDepth 1000000 in
theorem kk_113 : okBs 10 false prog_1_method_6_code pb_X11_has = true := by decide +kernel
set_option maxRecDepth 1000000 in
theorem kk_114 : okBs 10 false prog_1_method_7_code pb_X11_scale = true := by decide +kernel
set_option maxRecDepth 1000000 in
theorem kk_115 : okBs 10 false prog_1_method_8_code pb_X11_letter = true := by decide +kernel
set_option maxRecDepth 1000000 in
theorem kk_116 : okBs 10 false prog_1_method_9_code pb_X11_sits = true := by decide +kernel
set_option maxRecDepth 1000000 in
theorem kk_117 : okBs 10 false prog_1_method_10_code pb_X11_seat = true := by decide +kernel
set_option maxRecDepth 1000000 in
theorem kk_118 : okBs 10 false prog_1_method_11_code pb_X11_mute = true := by decide +kernel
set_option maxRecDepth 1000000 in
theorem kk_119 : okBs 10 false prog_1_method_12_code pb_X11_noise = true := by decide +kernel
set_option maxRecDepth 1000000 in
theorem kk_120 : okBs 10 false prog_1_method_13_code pb_X11_kept = true := by decide +kernel
set_option maxRecDepth 1000000 in
theorem kk_121 : okBs 10 false prog_1_method_14_code pb_X11_mean = true := by decide +kernel
set_option maxRecDepth 1000000 in
theorem kk_122 : okBs 10 false prog_1_method_15_code pb_X11_odds = true := by decide +kernel
set_option maxRecDepth 1000000 in
theorem kk_123 : okBs 10 false prog_1_method_16_code pb_X11_hire = true := by decide +kernel
set_option maxRecDepth 1000000 in
theorem kk_124 : okBs 10 false prog_1_method_17_code pb_X11_change = true := by decide +kernel
set_option maxRecDepth 1000000 in
theorem kk_125 : okBs 10 false prog_1_method_18_code pb_X11_points = true := by decide +kernel
set_option maxRecDepth 1000000 in
theorem kk_126 : okBs 10 false prog_1_method_19_code pb_X11_fell = true := by decide +kernel
set_option maxRecDepth 1000000 in
theorem kk_127 : okBs 10 false prog_1_method_20_code pb_X11_asked = true := by decide +kernel
set_option maxRecDepth 1000000 in
theorem kk_128 : okBs 10 false prog_1_method_21_code pb_X11_loudest = true := by decide +kernel
set_option maxRecDepth 1000000 in
theorem kk_129 : okBs 10 false prog_1_method_22_code pb_X11_minutes = true := by decide +kernel
set_option maxRecDepth 1000000 in
theorem kk_130 : okBs 10 false prog_1_method_23_code pb_X11_point = true := by decide +kernel
set_option maxRecDepth 1000000 in
theorem kk_131 : okBs 10 false prog_1_method_24_code pb_X11_move = true := by decide +kernel
set_option maxRecDepth 1000000 in
theorem kk_132 : okBs 10 false prog_1_method_25_code pb_X11_take = true := by decide +kernel
set_option maxRecDepth 1000000 in
theorem kk_133 : okBs 10 false prog_1_method_26_code pb_X11_dismiss = true := by decide +kernel
set_option maxRecDepth 1000000 in
theorem kk_134 : okBs 10 false prog_1_method_27_code pb_X11_undo = true := by decide +kernel
set_option maxRecDepth 1000000 in
theorem kk_135 : okBs 10 false prog_1_method_28_code pb_X11_seed = true := by decide +kernel
set_option maxRecDepth 1000000 in
theorem kk_136 : okBs 10 false prog_1_method_29_code pb_X11_ask = true := by decide +kernel
set_option maxRecDepth 1000000 in
theorem kk_137 : okBs 10 false prog_1_method_30_code pb_X11_image = true := by decide +kernel
set_option maxRecDepth 1000000 in
theorem kk_138 : okBs 10 false prog_1_method_31_code pb_X11_octet = true := by decide +kernel
set_option maxRecDepth 1000000 in
theorem kk_139 : okBs 10 false prog_1_method_32_code pb_X11_on = true := by decide +kernel
set_option maxRecDepth 1000000 in
theorem kk_140 : okBs 10 false prog_1_method_33_code pb_X11_status = true := by decide +kernel
set_option maxRecDepth 1000000 in
theorem kk_141 : okBs 10 false prog_1_method_34_code pb_X11_refuse = true := by decide +kernel
set_option maxRecDepth 1000000 in
theorem kk_142 : okBs 10 false prog_1_method_35_code pb_X11_isSide = true := by decide +kernel
set_option maxRecDepth 1000000 in
theorem kk_143 : okBs 10 false prog_1_method_36_code pb_X11_putBytes = true := by decide +kernel
set_option maxRecDepth 1000000 in
theorem kk_144 : okBs 10 false prog_1_method_37_code pb_X11_takeTape = true := by decide +kernel
set_option maxRecDepth 1000000 in
theorem kk_145 : okBs 10 false prog_1_method_38_code pb_X11_drawOf = true := by decide +kernel
set_option maxRecDepth 1000000 in
theorem kk_146 : okBs 10 false prog_1_method_39_code pb_X11_passMinute = true := by decide +kernel
set_option maxRecDepth 1000000 in
theorem kk_147 : okBs 10 false prog_1_method_40_code pb_X11_cut = true := by decide +kernel
