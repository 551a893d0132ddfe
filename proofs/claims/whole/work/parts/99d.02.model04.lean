/-! the reference, made -/
theorem gs_0 (S SN : SX) (n : Nat) (A : AH) : go false 3 S SN pb_X12_init (n + 1) 0 [vR 21 190 0] [] A = blk false 3 S SN (go false 3 S SN pb_X12_init n) pb_X12_init_b0 0 [vR 21 190 0] [] A := rfl
theorem gs_91 (S SN : SX) (n : Nat) (A : AH) : go false 3 S SN pb_X12_init (n + 1) 91 [vR 21 190 0] [] A = blk false 3 S SN (go false 3 S SN pb_X12_init n) pb_X12_init_b91 91 [vR 21 190 0] [] A := rfl
theorem gs_161 (S SN : SX) (n : Nat) (A : AH) : go false 3 S SN pb_X12_init (n + 1) 161 [vR 21 190 0] [] A = blk false 3 S SN (go false 3 S SN pb_X12_init n) pb_X12_init_b161 161 [vR 21 190 0] [] A := rfl
theorem gs_215 (S SN : SX) (n : Nat) (A : AH) : go false 3 S SN pb_X12_init (n + 1) 215 [vR 21 190 0] [] A = blk false 3 S SN (go false 3 S SN pb_X12_init n) pb_X12_init_b215 215 [vR 21 190 0] [] A := rfl
theorem gs_285 (S SN : SX) (n : Nat) (A : AH) : go false 3 S SN pb_X12_init (n + 1) 285 [vR 21 190 0] [] A = blk false 3 S SN (go false 3 S SN pb_X12_init n) pb_X12_init_b285 285 [vR 21 190 0] [] A := rfl
theorem gs_366 (S SN : SX) (n : Nat) (A : AH) : go false 3 S SN pb_X12_init (n + 1) 366 [vR 21 190 0] [] A = blk false 3 S SN (go false 3 S SN pb_X12_init n) pb_X12_init_b366 366 [vR 21 190 0] [] A := rfl
theorem gs_425 (S SN : SX) (n : Nat) (A : AH) : go false 3 S SN pb_X12_init (n + 1) 425 [vR 21 190 0] [] A = blk false 3 S SN (go false 3 S SN pb_X12_init n) pb_X12_init_b425 425 [vR 21 190 0] [] A := rfl
theorem gs_479 (S SN : SX) (n : Nat) (A : AH) : go false 3 S SN pb_X12_init (n + 1) 479 [vR 21 190 0] [] A = blk false 3 S SN (go false 3 S SN pb_X12_init n) pb_X12_init_b479 479 [vR 21 190 0] [] A := rfl
theorem gs_543 (S SN : SX) (n : Nat) (A : AH) : go false 3 S SN pb_X12_init (n + 1) 543 [vR 21 190 0] [] A = blk false 3 S SN (go false 3 S SN pb_X12_init n) pb_X12_init_b543 543 [vR 21 190 0] [] A := rfl
theorem gs_602 (S SN : SX) (n : Nat) (A : AH) : go false 3 S SN pb_X12_init (n + 1) 602 [vR 21 190 0] [] A = blk false 3 S SN (go false 3 S SN pb_X12_init n) pb_X12_init_b602 602 [vR 21 190 0] [] A := rfl
theorem gs_666 (S SN : SX) (n : Nat) (A : AH) : go false 3 S SN pb_X12_init (n + 1) 666 [vR 21 190 0] [] A = blk false 3 S SN (go false 3 S SN pb_X12_init n) pb_X12_init_b666 666 [vR 21 190 0] [] A := rfl
theorem gs_742 (S SN : SX) (n : Nat) (A : AH) : go false 3 S SN pb_X12_init (n + 1) 742 [vR 21 190 0] [] A = blk false 3 S SN (go false 3 S SN pb_X12_init n) pb_X12_init_b742 742 [vR 21 190 0] [] A := rfl
theorem gs_813 (S SN : SX) (n : Nat) (A : AH) : go false 3 S SN pb_X12_init (n + 1) 813 [vR 21 190 0] [] A = blk false 3 S SN (go false 3 S SN pb_X12_init n) pb_X12_init_b813 813 [vR 21 190 0] [] A := rfl
theorem gs_879 (S SN : SX) (n : Nat) (A : AH) : go false 3 S SN pb_X12_init (n + 1) 879 [vR 21 190 0] [] A = blk false 3 S SN (go false 3 S SN pb_X12_init n) pb_X12_init_b879 879 [vR 21 190 0] [] A := rfl
theorem gs_939 (S SN : SX) (n : Nat) (A : AH) : go false 3 S SN pb_X12_init (n + 1) 939 [vR 21 190 0] [] A = blk false 3 S SN (go false 3 S SN pb_X12_init n) pb_X12_init_b939 939 [vR 21 190 0] [] A := rfl
theorem gs_1018 (S SN : SX) (n : Nat) (A : AH) : go false 3 S SN pb_X12_init (n + 1) 1018 [vR 21 190 0] [] A = blk false 3 S SN (go false 3 S SN pb_X12_init n) pb_X12_init_b1018 1018 [vR 21 190 0] [] A := rfl
theorem gs_1811 (S SN : SX) (n : Nat) (A : AH) : go false 3 S SN pb_X12_init (n + 1) 1811 [vR 21 190 0] [] A = blk false 3 S SN (go false 3 S SN pb_X12_init n) pb_X12_init_b1811 1811 [vR 21 190 0] [] A := rfl
theorem gs_1903 (S SN : SX) (n : Nat) (A : AH) : go false 3 S SN pb_X12_init (n + 1) 1903 [vR 21 190 0] [] A = blk false 3 S SN (go false 3 S SN pb_X12_init n) pb_X12_init_b1903 1903 [vR 21 190 0] [] A := rfl
theorem gs_1962 (S SN : SX) (n : Nat) (A : AH) : go false 3 S SN pb_X12_init (n + 1) 1962 [vR 21 190 0] [] A = blk false 3 S SN (go false 3 S SN pb_X12_init n) pb_X12_init_b1962 1962 [vR 21 190 0] [] A := rfl
theorem gs_2021 (S SN : SX) (n : Nat) (A : AH) : go false 3 S SN pb_X12_init (n + 1) 2021 [vR 21 190 0] [] A = blk false 3 S SN (go false 3 S SN pb_X12_init n) pb_X12_init_b2021 2021 [vR 21 190 0] [] A := rfl
theorem gs_2075 (S SN : SX) (n : Nat) (A : AH) : go false 3 S SN pb_X12_init (n + 1) 2075 [vR 21 190 0] [] A = blk false 3 S SN (go false 3 S SN pb_X12_init n) pb_X12_init_b2075 2075 [vR 21 190 0] [] A := rfl
theorem gs_2136 (S SN : SX) (n : Nat) (A : AH) : go false 3 S SN pb_X12_init (n + 1) 2136 [vR 21 190 0] [] A = blk false 3 S SN (go false 3 S SN pb_X12_init n) pb_X12_init_b2136 2136 [vR 21 190 0] [] A := rfl
theorem gs_2212 (S SN : SX) (n : Nat) (A : AH) : go false 3 S SN pb_X12_init (n + 1) 2212 [vR 21 190 0] [] A = blk false 3 S SN (go false 3 S SN pb_X12_init n) pb_X12_init_b2212 2212 [vR 21 190 0] [] A := rfl
theorem gs_2277 (S SN : SX) (n : Nat) (A : AH) : go false 3 S SN pb_X12_init (n + 1) 2277 [vR 21 190 0] [] A = blk false 3 S SN (go false 3 S SN pb_X12_init n) pb_X12_init_b2277 2277 [vR 21 190 0] [] A := rfl
theorem gs_2341 (S SN : SX) (n : Nat) (A : AH) : go false 3 S SN pb_X12_init (n + 1) 2341 [vR 21 190 0] [] A = blk false 3 S SN (go false 3 S SN pb_X12_init n) pb_X12_init_b2341 2341 [vR 21 190 0] [] A := rfl
theorem gs_2400 (S SN : SX) (n : Nat) (A : AH) : go false 3 S SN pb_X12_init (n + 1) 2400 [vR 21 190 0] [] A = blk false 3 S SN (go false 3 S SN pb_X12_init n) pb_X12_init_b2400 2400 [vR 21 190 0] [] A := rfl
theorem gs_2476 (S SN : SX) (n : Nat) (A : AH) : go false 3 S SN pb_X12_init (n + 1) 2476 [vR 21 190 0] [] A = blk false 3 S SN (go false 3 S SN pb_X12_init n) pb_X12_init_b2476 2476 [vR 21 190 0] [] A := rfl
theorem gs_2546 (S SN : SX) (n : Nat) (A : AH) : go false 3 S SN pb_X12_init (n + 1) 2546 [vR 21 190 0] [] A = blk false 3 S SN (go false 3 S SN pb_X12_init n) pb_X12_init_b2546 2546 [vR 21 190 0] [] A := rfl
def oM : List (Nat × Nat × Nat × Int) := oM_0 ++ (oM_91 ++ (oM_161 ++ (oM_215 ++ (oM_285 ++ (oM_366 ++ (oM_425 ++ (oM_479 ++ (oM_543 ++ (oM_602 ++ (oM_666 ++ (oM_742 ++ (oM_813 ++ (oM_879 ++ (oM_939 ++ (oM_1018 ++ (oM_1811 ++ (oM_1903 ++ (oM_1962 ++ (oM_2021 ++ (oM_2075 ++ (oM_2136 ++ (oM_2212 ++ (oM_2277 ++ (oM_2341 ++ (oM_2400 ++ (oM_2476 ++ (oM_2546)))))))))))))))))))))))))))
set_option maxRecDepth 100000 in
set_option maxRecDepth 100000 in
theorem s_initM (d : Nat) (A : AH) (hs : sz A = 191) : run (d + 1) 148 [vR 21 190 0] A = some (none, hap A oM) := by
  have e0 : run (d + 1) 148 [vR 21 190 0] A = go false 3 (run d) (run d) pb_X12_init (999972 + 28) 0 [vR 21 190 0] [] A := rfl
  rw [e0]
  unfold oM
  rw [hap_app, hap_app, hap_app, hap_app, hap_app, hap_app, hap_app, hap_app, hap_app, hap_app, hap_app, hap_app, hap_app, hap_app, hap_app, hap_app, hap_app, hap_app, hap_app, hap_app, hap_app, hap_app, hap_app, hap_app, hap_app, hap_app, hap_app]
  rw [gs_0 _ _ _ _, mb_0 _ _ _ _ hs]
  rw [gs_91 _ _ _ _, mb_91 _ _ _ _ (by simp only [sz_hap, hs]; rfl)]
  rw [gs_161 _ _ _ _, mb_161 _ _ _ _ (by simp only [sz_hap, hs]; rfl)]
  rw [gs_215 _ _ _ _, mb_215 _ _ _ _ (by simp only [sz_hap, hs]; rfl)]
  rw [gs_285 _ _ _ _, mb_285 _ _ _ _ (by simp only [sz_hap, hs]; rfl)]
  rw [gs_366 _ _ _ _, mb_366 _ _ _ _ (by simp only [sz_hap, hs]; rfl)]
  rw [gs_425 _ _ _ _, mb_425 _ _ _ _ (by simp only [sz_hap, hs]; rfl)]
  rw [gs_479 _ _ _ _, mb_479 _ _ _ _ (by simp only [sz_hap, hs]; rfl)]
  rw [gs_543 _ _ _ _, mb_543 _ _ _ _ (by simp only [sz_hap, hs]; rfl)]
  rw [gs_602 _ _ _ _, mb_602 _ _ _ _ (by simp only [sz_hap, hs]; rfl)]
  rw [gs_666 _ _ _ _, mb_666 _ _ _ _ (by simp only [sz_hap, hs]; rfl)]
  rw [gs_742 _ _ _ _, mb_742 _ _ _ _ (by simp only [sz_hap, hs]; rfl)]
  rw [gs_813 _ _ _ _, mb_813 _ _ _ _ (by simp only [sz_hap, hs]; rfl)]
  rw [gs_879 _ _ _ _, mb_879 _ _ _ _ (by simp only [sz_hap, hs]; rfl)]
  rw [gs_939 _ _ _ _, mb_939 _ _ _ _ (by simp only [sz_hap, hs]; rfl)]
  rw [gs_1018 _ _ _ _, mb_1018 _ _ _ _ (by simp only [sz_hap, hs]; rfl)]
  rw [gs_1811 _ _ _ _, mb_1811 _ _ _ _ (by simp only [sz_hap, hs]; rfl)]
  rw [gs_1903 _ _ _ _, mb_1903 _ _ _ _ (by simp only [sz_hap, hs]; rfl)]
  rw [gs_1962 _ _ _ _, mb_1962 _ _ _ _ (by simp only [sz_hap, hs]; rfl)]
  rw [gs_2021 _ _ _ _, mb_2021 _ _ _ _ (by simp only [sz_hap, hs]; rfl)]
  rw [gs_2075 _ _ _ _, mb_2075 _ _ _ _ (by simp only [sz_hap, hs]; rfl)]
  rw [gs_2136 _ _ _ _, mb_2136 _ _ _ _ (by simp only [sz_hap, hs]; rfl)]
  rw [gs_2212 _ _ _ _, mb_2212 _ _ _ _ (by simp only [sz_hap, hs]; rfl)]
  rw [gs_2277 _ _ _ _, mb_2277 _ _ _ _ (by simp only [sz_hap, hs]; rfl)]
  rw [gs_2341 _ _ _ _, mb_2341 _ _ _ _ (by simp only [sz_hap, hs]; rfl)]
  rw [gs_2400 _ _ _ _, mb_2400 _ _ _ _ (by simp only [sz_hap, hs]; rfl)]
  rw [gs_2476 _ _ _ _, mb_2476 _ _ _ _ (by simp only [sz_hap, hs]; rfl)]
  rw [gs_2546 _ _ _ _, mb_2546 _ _ _ _ (by simp only [sz_hap, hs]; rfl)]

