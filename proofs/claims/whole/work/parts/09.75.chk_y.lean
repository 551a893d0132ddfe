theorem kk_148 : okBs 11 true prog_14_method_1_code pb_X12_init = true := by
  unfold okBs pb_X12_init
  simp only [List.all_cons, List.all_nil, Bool.and_true, kkb_0, kkb_91, kkb_161, kkb_215, kkb_285, kkb_366, kkb_425, kkb_479, kkb_543, kkb_602, kkb_666, kkb_742, kkb_813, kkb_879, kkb_939, kkb_1018, kkb_1811, kkb_1903, kkb_1962, kkb_2021, kkb_2075, kkb_2136, kkb_2212, kkb_2277, kkb_2341, kkb_2400, kkb_2476, kkb_2546]
