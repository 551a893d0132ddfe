set_option maxRecDepth 1000000 in
theorem kk_0 : okBs 0 true prog_2_method_1_code pb_X0_init = true := by decide +kernel
set_option maxRecDepth 1000000 in
theorem kk_1 : okBs 0 false prog_2_method_2_code pb_X0_look = true := by decide +kernel
set_option maxRecDepth 1000000 in
theorem kk_2 : okBs 0 false prog_2_method_3_code pb_X0_suppose = true := by decide +kernel
set_option maxRecDepth 1000000 in
theorem kk_3 : okBs 0 false prog_2_method_4_code pb_X0_tally = true := by decide +kernel
set_option maxRecDepth 1000000 in
theorem kk_4 : okBs 0 false prog_2_method_5_code pb_X0_regard = true := by decide +kernel
set_option maxRecDepth 1000000 in
theorem kk_5 : okBs 0 false prog_2_method_6_code pb_X0_weightNow = true := by decide +kernel
set_option maxRecDepth 1000000 in
theorem kk_6 : okBs 0 false prog_2_method_7_code pb_X0_coughNow = true := by decide +kernel
set_option maxRecDepth 1000000 in
theorem kk_7 : okBs 0 false prog_2_method_8_code pb_X0_swing = true := by decide +kernel
set_option maxRecDepth 1000000 in
theorem kk_8 : okBs 0 false prog_2_method_9_code pb_X0_meanSwing = true := by decide +kernel
set_option maxRecDepth 1000000 in
theorem kk_9 : okBs 0 false prog_2_method_10_code pb_X0_sideOf = true := by decide +kernel
set_option maxRecDepth 1000000 in
theorem kk_10 : okBs 0 false prog_2_method_11_code pb_X0_meanOf = true := by decide +kernel
set_option maxRecDepth 1000000 in
theorem kk_11 : okBs 0 false prog_2_method_12_code pb_X0_run = true := by decide +kernel
set_option maxRecDepth 1000000 in
theorem kk_12 : okBs 0 false prog_2_method_13_code pb_X0_push = true := by decide +kernel
set_option maxRecDepth 1000000 in
theorem kk_13 : okBs 0 false prog_2_method_14_code pb_X0_pop = true := by decide +kernel
set_option maxRecDepth 1000000 in
theorem kk_14 : okBs 0 false prog_2_method_15_code pb_X0_isBeside = true := by decide +kernel
set_option maxRecDepth 1000000 in
theorem kk_15 : okBs 0 false prog_2_method_16_code pb_X0_reckon = true := by decide +kernel
set_option maxRecDepth 1000000 in
theorem kk_16 : okBs 1 true prog_3_method_1_code pb_X1_init = true := by decide +kernel
set_option maxRecDepth 1000000 in
theorem kk_17 : okBs 1 false prog_3_method_2_code pb_X1_itching = true := by decide +kernel
set_option maxRecDepth 1000000 in
theorem kk_18 : okBs 1 false prog_3_method_3_code pb_X1_oddsOf = true := by decide +kernel
set_option maxRecDepth 1000000 in
theorem kk_19 : okBs 1 false prog_3_method_4_code pb_X1_chancesOf = true := by decide +kernel
set_option maxRecDepth 1000000 in
theorem kk_20 : okBs 1 false prog_3_method_5_code pb_X1_hired = true := by decide +kernel
set_option maxRecDepth 1000000 in
theorem kk_21 : okBs 1 false prog_3_method_6_code pb_X1_isCheaper = true := by decide +kernel
set_option maxRecDepth 1000000 in
theorem kk_22 : okBs 1 false prog_3_method_7_code pb_X1_seatAside = true := by decide +kernel
set_option maxRecDepth 1000000 in
theorem kk_23 : okBs 1 false prog_3_method_8_code pb_X1_changed = true := by decide +kernel
set_option maxRecDepth 1000000 in
theorem kk_24 : okBs 1 false prog_3_method_9_code pb_X1_swingFor = true := by decide +kernel
set_option maxRecDepth 1000000 in
theorem kk_25 : okBs 1 false prog_3_method_10_code pb_X1_pointOfTurn = true := by decide +kernel
set_option maxRecDepth 1000000 in
theorem kk_26 : okBs 1 false prog_3_method_11_code pb_X1_meanByTurns = true := by decide +kernel
set_option maxRecDepth 1000000 in
theorem kk_27 : okBs 1 false prog_3_method_12_code pb_X1_setsBy = true := by decide +kernel
set_option maxRecDepth 1000000 in
theorem kk_28 : okBs 1 false prog_3_method_13_code pb_X1_pointsBy = true := by decide +kernel
set_option maxRecDepth 1000000 in
theorem kk_29 : okBs 1 false prog_3_method_14_code pb_X1_loudestOf = true := by decide +kernel
set_option maxRecDepth 1000000 in
theorem kk_30 : okBs 2 true prog_4_method_1_code pb_X2_init = true := by decide +kernel
set_option maxRecDepth 1000000 in
theorem kk_31 : okBs 15 false prog_20_method_123_code pb_J7_copyOf_59c91 = true := by decide +kernel
set_option maxRecDepth 1000000 in
theorem kk_33 : okBs 2 false prog_4_method_2_code pb_X2_begin = true := by decide +kernel
set_option maxRecDepth 1000000 in
theorem kk_34 : okBs 2 false prog_4_method_3_code pb_X2_copyOfSteps = true := by decide +kernel
set_option maxRecDepth 1000000 in
theorem kk_35 : okBs 2 false prog_4_method_4_code pb_X2_emit = true := by decide +kernel
set_option maxRecDepth 1000000 in
theorem kk_36 : okBs 2 false prog_4_method_5_code pb_X2_goIn = true := by decide +kernel
set_option maxRecDepth 1000000 in
theorem kk_37 : okBs 2 false prog_4_method_6_code pb_X2_chain = true := by decide +kernel
set_option maxRecDepth 1000000 in
theorem kk_38 : okBs 2 false prog_4_method_7_code pb_X2_joiner = true := by decide +kernel
set_option maxRecDepth 1000000 in
theorem kk_39 : okBs 2 false prog_4_method_8_code pb_X2_fact = true := by decide +kernel
set_option maxRecDepth 1000000 in
theorem kk_40 : okBs 2 false prog_4_method_9_code pb_X2_part = true := by decide +kernel
set_option maxRecDepth 1000000 in
theorem kk_41 : okBs 2 false prog_4_method_10_code pb_X2_pair = true := by decide +kernel
set_option maxRecDepth 1000000 in
theorem kk_42 : okBs 3 true prog_5_method_1_code pb_X3_init = true := by decide +kernel
set_option maxRecDepth 1000000 in
theorem kk_43 : okBs 3 false prog_5_method_2_code pb_X3_isTold = true := by decide +kernel
set_option maxRecDepth 1000000 in
theorem kk_44 : okBs 3 false prog_5_method_3_code pb_X3_isSeat = true := by decide +kernel
set_option maxRecDepth 1000000 in
theorem kk_45 : okBs 3 false prog_5_method_4_code pb_X3_isMute = true := by decide +kernel
set_option maxRecDepth 1000000 in
theorem kk_46 : okBs 3 false prog_5_method_5_code pb_X3_isPoint = true := by decide +kernel
set_option maxRecDepth 1000000 in
theorem kk_47 : okBs 3 false prog_5_method_6_code pb_X3_find = true := by decide +kernel
set_option maxRecDepth 1000000 in
theorem kk_48 : okBs 3 false prog_5_method_7_code pb_X3_letterOf = true := by decide +kernel
set_option maxRecDepth 1000000 in
theorem kk_49 : okBs 3 false prog_5_method_8_code pb_X3_noiseAt = true := by decide +kernel
set_option maxRecDepth 1000000 in
theorem kk_50 : okBs 3 false prog_5_method_9_code pb_X3_isNoisy = true := by decide +kernel
set_option maxRecDepth 1000000 in
theorem kk_51 : okBs 3 false prog_5_method_10_code pb_X3_areFoes = true := by decide +kernel
set_option maxRecDepth 1000000 in
theorem kk_52 : okBs 3 false prog_5_method_11_code pb_X3_costOf = true := by decide +kernel
set_option maxRecDepth 1000000 in
theorem kk_53 : okBs 4 true prog_6_method_1_code pb_X4_init = true := by decide +kernel
set_option maxRecDepth 1000000 in
theorem kk_54 : okBs 4 false prog_6_method_2_code pb_X4_read = true := by decide +kernel
set_option maxRecDepth 1000000 in
theorem kk_55 : okBs 4 false prog_6_method_3_code pb_X4_opening = true := by decide +kernel
set_option maxRecDepth 1000000 in
theorem kk_56 : okBs 4 false prog_6_method_4_code pb_X4_statement = true := by decide +kernel
set_option maxRecDepth 1000000 in
theorem kk_57 : okBs 4 false prog_6_method_5_code pb_X4_begins = true := by decide +kernel
set_option maxRecDepth 1000000 in
theorem kk_58 : okBs 4 false prog_6_method_6_code pb_X4_tells = true := by decide +kernel
set_option maxRecDepth 1000000 in
theorem kk_59 : okBs 4 false prog_6_method_7_code pb_X4_gives = true := by decide +kernel
