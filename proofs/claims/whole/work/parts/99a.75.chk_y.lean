theorem kk_32 : okBs 16 false code pb_L_law = true := by
  unfold okBs pb_L_law
  simp only [List.all_cons, List.all_nil, Bool.and_true, kkl_0, kkl_18, kkl_176, kkl_239, kkl_262, kkl_275, kkl_298, kkl_321, kkl_334, kkl_377, kkl_410, kkl_433, kkl_466, kkl_499, kkl_532, kkl_556, kkl_579, kkl_632, kkl_665, kkl_699, kkl_732, kkl_765, kkl_788, kkl_811, kkl_834, kkl_867, kkl_910, kkl_933, kkl_946, kkl_969, kkl_983, kkl_996, kkl_1019, kkl_1032, kkl_1055, kkl_1061]
theorem kk_148 : okBs 11 true prog_14_method_1_code pb_X12_init = true := by
  unfold okBs pb_X12_init
  simp only [List.all_cons, List.all_nil, Bool.and_true, kkb_0, kkb_91, kkb_161, kkb_215, kkb_285, kkb_366, kkb_425, kkb_479, kkb_543, kkb_602, kkb_666, kkb_742, kkb_813, kkb_879, kkb_939, kkw_1018, kkb_1811, kkb_1903, kkb_1962, kkb_2021, kkb_2075, kkb_2136, kkb_2212, kkb_2277, kkb_2341, kkb_2400, kkb_2476, kkb_2546]
