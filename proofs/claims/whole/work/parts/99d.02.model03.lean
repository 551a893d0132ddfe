/-! the reference, made -/
def clM_2546 : List EI := [e0 (.aload_n 0) 1, e0 (.sipush 1700) 3, e0 (.newarray .int) 2, (.putfield 251, 3, 11, 99, 30, 267, 1700, 1)]
theorem ckM_2546 (S SN : SX) (jp : Nat → NX) (rest : List EI) (A : AH) (hs : sz A = 267) : blk false 3 S SN jp (clM_2546 ++ rest) 2546 [vR 21 190 0] [] A = blk false 3 S SN jp rest 2555 [vR 21 190 0] [] (hap A [(0, 20, 1700, 0), (2, 190, 99, 267)]) := by
  have e : blk false 3 S SN jp (clM_2546 ++ rest) 2546 [vR 21 190 0] [] A = blk false 3 S SN jp rest 2555 [vR 21 190 0] [] (wr (nw A 20 1700) 190 99 (sz A)) := by
    obtain ⟨g, r, sh⟩ := A
    cases sh with
    | nil => exact absurd (show (0 : Nat) = 267 from hs) (by decide)
    | cons x t => rfl
  rw [hs] at e
  exact e
def clM_2555 : List EI := [e0 (.aload_n 0) 1, e0 (.sipush 1700) 3, e0 (.newarray .int) 2, (.putfield 254, 3, 11, 101, 30, 268, 1700, 1)]
theorem ckM_2555 (S SN : SX) (jp : Nat → NX) (rest : List EI) (A : AH) (hs : sz A = 268) : blk false 3 S SN jp (clM_2555 ++ rest) 2555 [vR 21 190 0] [] A = blk false 3 S SN jp rest 2564 [vR 21 190 0] [] (hap A [(0, 20, 1700, 0), (2, 190, 101, 268)]) := by
  have e : blk false 3 S SN jp (clM_2555 ++ rest) 2555 [vR 21 190 0] [] A = blk false 3 S SN jp rest 2564 [vR 21 190 0] [] (wr (nw A 20 1700) 190 101 (sz A)) := by
    obtain ⟨g, r, sh⟩ := A
    cases sh with
    | nil => exact absurd (show (0 : Nat) = 268 from hs) (by decide)
    | cons x t => rfl
  rw [hs] at e
  exact e
def clM_2564 : List EI := [e0 (.aload_n 0) 1, e0 (.sipush 1700) 3, e0 (.newarray .long) 2, (.putfield 257, 3, 11, 105, 31, 269, 1700, 1)]
theorem ckM_2564 (S SN : SX) (jp : Nat → NX) (rest : List EI) (A : AH) (hs : sz A = 269) : blk false 3 S SN jp (clM_2564 ++ rest) 2564 [vR 21 190 0] [] A = blk false 3 S SN jp rest 2573 [vR 21 190 0] [] (hap A [(0, 21, 1700, 0), (2, 190, 105, 269)]) := by
  have e : blk false 3 S SN jp (clM_2564 ++ rest) 2564 [vR 21 190 0] [] A = blk false 3 S SN jp rest 2573 [vR 21 190 0] [] (wr (nw A 21 1700) 190 105 (sz A)) := by
    obtain ⟨g, r, sh⟩ := A
    cases sh with
    | nil => exact absurd (show (0 : Nat) = 269 from hs) (by decide)
    | cons x t => rfl
  rw [hs] at e
  exact e
def clM_2573 : List EI := [e0 (.aload_n 0) 1, e0 (.bipush 27) 2, e0 (.newarray .int) 2, (.putfield 260, 3, 11, 109, 30, 270, 27, 1)]
theorem ckM_2573 (S SN : SX) (jp : Nat → NX) (rest : List EI) (A : AH) (hs : sz A = 270) : blk false 3 S SN jp (clM_2573 ++ rest) 2573 [vR 21 190 0] [] A = blk false 3 S SN jp rest 2581 [vR 21 190 0] [] (hap A [(0, 20, 27, 0), (2, 190, 109, 270)]) := by
  have e : blk false 3 S SN jp (clM_2573 ++ rest) 2573 [vR 21 190 0] [] A = blk false 3 S SN jp rest 2581 [vR 21 190 0] [] (wr (nw A 20 27) 190 109 (sz A)) := by
    obtain ⟨g, r, sh⟩ := A
    cases sh with
    | nil => exact absurd (show (0 : Nat) = 270 from hs) (by decide)
    | cons x t => rfl
  rw [hs] at e
  exact e
def oM_2546 : List (Nat × Nat × Nat × Int) := [(0, 20, 1700, 0), (2, 190, 99, 267), (0, 20, 1700, 0), (2, 190, 101, 268), (0, 21, 1700, 0), (2, 190, 105, 269), (0, 20, 27, 0), (2, 190, 109, 270)]
set_option maxRecDepth 100000 in
theorem mb_2546 (S SN : SX) (jp : Nat → NX) (A : AH) (hs : sz A = 267) : blk false 3 S SN jp pb_X12_init_b2546 2546 [vR 21 190 0] [] A = some (none, hap A oM_2546) := by
  have e : pb_X12_init_b2546 = clM_2546 ++ (clM_2555 ++ (clM_2564 ++ (clM_2573 ++ [e0 .return_ 1]))) := rfl
  rw [e]
  rw [ckM_2546 S SN jp _ _ hs]
  rw [ckM_2555 S SN jp _ _ (by simp only [sz_hap, hs]; rfl)]
  rw [ckM_2564 S SN jp _ _ (by simp only [sz_hap, hs]; rfl)]
  rw [ckM_2573 S SN jp _ _ (by simp only [sz_hap, hs]; rfl)]
  rfl
