/-! halls -/
def cl_H1_0 : List EI := [e0 (.aload_n 0) 1, (.invokespecial 3, 3, 0, 1, 0, 9, 3, 0)]
theorem ck_H1_0 (S SN : SX) (jp : Nat → NX) (rest : List EI) (A : AH) (hs : sz A = 49) : blk false 3 S SN jp (cl_H1_0 ++ rest) 0 [vR 13 48 0] [] A = blk false 3 S SN jp rest 4 [vR 13 48 0] [] (hap A []) := rfl
def cl_H1_4 : List EI := [e0 (.aload_n 0) 1, e0 (.iconst 0) 1, e1 (.putfield 9) 3 3]
theorem ck_H1_4 (S SN : SX) (jp : Nat → NX) (rest : List EI) (A : AH) (hs : sz A = 49) : blk false 3 S SN jp (cl_H1_4 ++ rest) 4 [vR 13 48 0] [] A = blk false 3 S SN jp rest 9 [vR 13 48 0] [] (hap A [(1, 48, 0, 0)]) := rfl
def cl_H1_9 : List EI := [e0 (.aload_n 0) 1, e0 (.iconst 0) 1, (.putfield 15, 3, 3, 1, 0, 0, 0, 0)]
theorem ck_H1_9 (S SN : SX) (jp : Nat → NX) (rest : List EI) (A : AH) (hs : sz A = 49) : blk false 3 S SN jp (cl_H1_9 ++ rest) 9 [vR 13 48 0] [] A = blk false 3 S SN jp rest 14 [vR 13 48 0] [] (hap A [(1, 48, 1, 0)]) := rfl
def cl_H1_14 : List EI := [e0 (.aload_n 0) 1, e0 (.iconst 0) 1, (.putfield 18, 3, 3, 2, 0, 0, 0, 0)]
theorem ck_H1_14 (S SN : SX) (jp : Nat → NX) (rest : List EI) (A : AH) (hs : sz A = 49) : blk false 3 S SN jp (cl_H1_14 ++ rest) 14 [vR 13 48 0] [] A = blk false 3 S SN jp rest 19 [vR 13 48 0] [] (hap A [(1, 48, 2, 0)]) := rfl
def cl_H1_19 : List EI := [e0 (.aload_n 0) 1, e0 (.iconst 0) 1, (.putfield 21, 3, 3, 3, 0, 0, 0, 0)]
theorem ck_H1_19 (S SN : SX) (jp : Nat → NX) (rest : List EI) (A : AH) (hs : sz A = 49) : blk false 3 S SN jp (cl_H1_19 ++ rest) 19 [vR 13 48 0] [] A = blk false 3 S SN jp rest 24 [vR 13 48 0] [] (hap A [(1, 48, 3, 0)]) := rfl
def cl_H1_24 : List EI := [e0 (.aload_n 0) 1, e0 (.iconst 0) 1, (.putfield 24, 3, 3, 4, 0, 0, 0, 0)]
theorem ck_H1_24 (S SN : SX) (jp : Nat → NX) (rest : List EI) (A : AH) (hs : sz A = 49) : blk false 3 S SN jp (cl_H1_24 ++ rest) 24 [vR 13 48 0] [] A = blk false 3 S SN jp rest 29 [vR 13 48 0] [] (hap A [(1, 48, 4, 0)]) := rfl
def cl_H1_29 : List EI := [e0 (.aload_n 0) 1, e0 (.iconst 0) 1, (.putfield 27, 3, 3, 5, 0, 0, 0, 0)]
theorem ck_H1_29 (S SN : SX) (jp : Nat → NX) (rest : List EI) (A : AH) (hs : sz A = 49) : blk false 3 S SN jp (cl_H1_29 ++ rest) 29 [vR 13 48 0] [] A = blk false 3 S SN jp rest 34 [vR 13 48 0] [] (hap A [(1, 48, 5, 0)]) := rfl
def cl_H1_34 : List EI := [e0 (.aload_n 0) 1, e0 (.iconst 0) 1, (.putfield 30, 3, 3, 6, 0, 0, 0, 0)]
theorem ck_H1_34 (S SN : SX) (jp : Nat → NX) (rest : List EI) (A : AH) (hs : sz A = 49) : blk false 3 S SN jp (cl_H1_34 ++ rest) 34 [vR 13 48 0] [] A = blk false 3 S SN jp rest 39 [vR 13 48 0] [] (hap A [(1, 48, 6, 0)]) := rfl
def cl_H1_39 : List EI := [e0 (.aload_n 0) 1, e0 (.bipush 20) 2, e0 (.newarray .int) 2, (.putfield 33, 3, 3, 7, 30, 1, 20, 0)]
theorem ck_H1_39 (S SN : SX) (jp : Nat → NX) (rest : List EI) (A : AH) (hs : sz A = 49) : blk false 3 S SN jp (cl_H1_39 ++ rest) 39 [vR 13 48 0] [] A = blk false 3 S SN jp rest 47 [vR 13 48 0] [] (hap A [(0, 20, 20, 0), (2, 48, 7, 49)]) := by
  have e : blk false 3 S SN jp (cl_H1_39 ++ rest) 39 [vR 13 48 0] [] A = blk false 3 S SN jp rest 47 [vR 13 48 0] [] (wr (nw A 20 20) 48 7 (sz A)) := rfl
  rw [hs] at e
  exact e
def cl_H1_47 : List EI := [e0 (.aload_n 0) 1, e0 (.bipush 16) 2, e0 (.newarray .int) 2, (.putfield 37, 3, 3, 8, 30, 2, 16, 0)]
theorem ck_H1_47 (S SN : SX) (jp : Nat → NX) (rest : List EI) (A : AH) (hs : sz A = 50) : blk false 3 S SN jp (cl_H1_47 ++ rest) 47 [vR 13 48 0] [] A = blk false 3 S SN jp rest 55 [vR 13 48 0] [] (hap A [(0, 20, 16, 0), (2, 48, 8, 50)]) := by
  have e : blk false 3 S SN jp (cl_H1_47 ++ rest) 47 [vR 13 48 0] [] A = blk false 3 S SN jp rest 55 [vR 13 48 0] [] (wr (nw A 20 16) 48 8 (sz A)) := rfl
  rw [hs] at e
  exact e
def cl_H1_55 : List EI := [e0 (.aload_n 0) 1, e0 (.bipush 16) 2, e0 (.newarray .int) 2, (.putfield 40, 3, 3, 9, 30, 3, 16, 0)]
theorem ck_H1_55 (S SN : SX) (jp : Nat → NX) (rest : List EI) (A : AH) (hs : sz A = 51) : blk false 3 S SN jp (cl_H1_55 ++ rest) 55 [vR 13 48 0] [] A = blk false 3 S SN jp rest 63 [vR 13 48 0] [] (hap A [(0, 20, 16, 0), (2, 48, 9, 51)]) := by
  have e : blk false 3 S SN jp (cl_H1_55 ++ rest) 55 [vR 13 48 0] [] A = blk false 3 S SN jp rest 63 [vR 13 48 0] [] (wr (nw A 20 16) 48 9 (sz A)) := rfl
  rw [hs] at e
  exact e
def cl_H1_63 : List EI := [e0 (.aload_n 0) 1, e0 (.bipush 8) 2, e0 (.newarray .int) 2, (.putfield 43, 3, 3, 10, 30, 4, 8, 0)]
theorem ck_H1_63 (S SN : SX) (jp : Nat → NX) (rest : List EI) (A : AH) (hs : sz A = 52) : blk false 3 S SN jp (cl_H1_63 ++ rest) 63 [vR 13 48 0] [] A = blk false 3 S SN jp rest 71 [vR 13 48 0] [] (hap A [(0, 20, 8, 0), (2, 48, 10, 52)]) := by
  have e : blk false 3 S SN jp (cl_H1_63 ++ rest) 63 [vR 13 48 0] [] A = blk false 3 S SN jp rest 71 [vR 13 48 0] [] (wr (nw A 20 8) 48 10 (sz A)) := rfl
  rw [hs] at e
  exact e
def cl_H1_71 : List EI := [e0 (.aload_n 0) 1, e0 (.bipush 8) 2, e0 (.newarray .int) 2, (.putfield 46, 3, 3, 11, 30, 5, 8, 0)]
theorem ck_H1_71 (S SN : SX) (jp : Nat → NX) (rest : List EI) (A : AH) (hs : sz A = 53) : blk false 3 S SN jp (cl_H1_71 ++ rest) 71 [vR 13 48 0] [] A = blk false 3 S SN jp rest 79 [vR 13 48 0] [] (hap A [(0, 20, 8, 0), (2, 48, 11, 53)]) := by
  have e : blk false 3 S SN jp (cl_H1_71 ++ rest) 71 [vR 13 48 0] [] A = blk false 3 S SN jp rest 79 [vR 13 48 0] [] (wr (nw A 20 8) 48 11 (sz A)) := rfl
  rw [hs] at e
  exact e
def cl_H1_79 : List EI := [e0 (.aload_n 0) 1, e0 (.bipush 6) 2, e0 (.newarray .int) 2, (.putfield 49, 3, 3, 12, 30, 6, 6, 0)]
theorem ck_H1_79 (S SN : SX) (jp : Nat → NX) (rest : List EI) (A : AH) (hs : sz A = 54) : blk false 3 S SN jp (cl_H1_79 ++ rest) 79 [vR 13 48 0] [] A = blk false 3 S SN jp rest 87 [vR 13 48 0] [] (hap A [(0, 20, 6, 0), (2, 48, 12, 54)]) := by
  have e : blk false 3 S SN jp (cl_H1_79 ++ rest) 79 [vR 13 48 0] [] A = blk false 3 S SN jp rest 87 [vR 13 48 0] [] (wr (nw A 20 6) 48 12 (sz A)) := rfl
  rw [hs] at e
  exact e
def cl_H1_87 : List EI := [e0 (.aload_n 0) 1, e0 (.bipush 8) 2, e0 (.newarray .int) 2, (.putfield 52, 3, 3, 13, 30, 7, 8, 0)]
theorem ck_H1_87 (S SN : SX) (jp : Nat → NX) (rest : List EI) (A : AH) (hs : sz A = 55) : blk false 3 S SN jp (cl_H1_87 ++ rest) 87 [vR 13 48 0] [] A = blk false 3 S SN jp rest 95 [vR 13 48 0] [] (hap A [(0, 20, 8, 0), (2, 48, 13, 55)]) := by
  have e : blk false 3 S SN jp (cl_H1_87 ++ rest) 87 [vR 13 48 0] [] A = blk false 3 S SN jp rest 95 [vR 13 48 0] [] (wr (nw A 20 8) 48 13 (sz A)) := rfl
  rw [hs] at e
  exact e
def cl_H1_95 : List EI := [e0 (.aload_n 0) 1, e0 (.bipush 18) 2, e0 (.newarray .int) 2, (.putfield 55, 3, 3, 14, 30, 8, 18, 0)]
theorem ck_H1_95 (S SN : SX) (jp : Nat → NX) (rest : List EI) (A : AH) (hs : sz A = 56) : blk false 3 S SN jp (cl_H1_95 ++ rest) 95 [vR 13 48 0] [] A = blk false 3 S SN jp rest 103 [vR 13 48 0] [] (hap A [(0, 20, 18, 0), (2, 48, 14, 56)]) := by
  have e : blk false 3 S SN jp (cl_H1_95 ++ rest) 95 [vR 13 48 0] [] A = blk false 3 S SN jp rest 103 [vR 13 48 0] [] (wr (nw A 20 18) 48 14 (sz A)) := rfl
  rw [hs] at e
  exact e
def cl_H1_103 : List EI := [e0 (.aload_n 0) 1, e0 (.bipush 16) 2, e0 (.newarray .int) 2, (.putfield 58, 3, 3, 15, 30, 9, 16, 0)]
theorem ck_H1_103 (S SN : SX) (jp : Nat → NX) (rest : List EI) (A : AH) (hs : sz A = 57) : blk false 3 S SN jp (cl_H1_103 ++ rest) 103 [vR 13 48 0] [] A = blk false 3 S SN jp rest 111 [vR 13 48 0] [] (hap A [(0, 20, 16, 0), (2, 48, 15, 57)]) := by
  have e : blk false 3 S SN jp (cl_H1_103 ++ rest) 103 [vR 13 48 0] [] A = blk false 3 S SN jp rest 111 [vR 13 48 0] [] (wr (nw A 20 16) 48 15 (sz A)) := rfl
  rw [hs] at e
  exact e
def cl_H1_111 : List EI := [e0 (.aload_n 0) 1, e1 (.aconst_null) 1 20, (.putfield 61, 3, 3, 16, 30, 0, 0, 0)]
theorem ck_H1_111 (S SN : SX) (jp : Nat → NX) (rest : List EI) (A : AH) (hs : sz A = 58) : blk false 3 S SN jp (cl_H1_111 ++ rest) 111 [vR 13 48 0] [] A = blk false 3 S SN jp rest 116 [vR 13 48 0] [] (hap A [(2, 48, 16, 0)]) := rfl
def cl_H1_116 : List EI := [e0 (.aload_n 0) 1, e1 (.aconst_null) 1 20, (.putfield 64, 3, 3, 17, 30, 0, 0, 0)]
theorem ck_H1_116 (S SN : SX) (jp : Nat → NX) (rest : List EI) (A : AH) (hs : sz A = 58) : blk false 3 S SN jp (cl_H1_116 ++ rest) 116 [vR 13 48 0] [] A = blk false 3 S SN jp rest 121 [vR 13 48 0] [] (hap A [(2, 48, 17, 0)]) := rfl
def cl_H1_121 : List EI := [e0 (.aload_n 0) 1, e0 (.iconst 0) 1, (.putfield 67, 3, 3, 18, 2, 0, 0, 0)]
theorem ck_H1_121 (S SN : SX) (jp : Nat → NX) (rest : List EI) (A : AH) (hs : sz A = 58) : blk false 3 S SN jp (cl_H1_121 ++ rest) 121 [vR 13 48 0] [] A = blk false 3 S SN jp rest 126 [vR 13 48 0] [] (hap A [(1, 48, 18, 0)]) := rfl
def o_H1 : List (Nat × Nat × Nat × Int) := [(1, 48, 0, 0), (1, 48, 1, 0), (1, 48, 2, 0), (1, 48, 3, 0), (1, 48, 4, 0), (1, 48, 5, 0), (1, 48, 6, 0), (0, 20, 20, 0), (2, 48, 7, 49), (0, 20, 16, 0), (2, 48, 8, 50), (0, 20, 16, 0), (2, 48, 9, 51), (0, 20, 8, 0), (2, 48, 10, 52), (0, 20, 8, 0), (2, 48, 11, 53), (0, 20, 6, 0), (2, 48, 12, 54), (0, 20, 8, 0), (2, 48, 13, 55), (0, 20, 18, 0), (2, 48, 14, 56), (0, 20, 16, 0), (2, 48, 15, 57), (2, 48, 16, 0), (2, 48, 17, 0), (1, 48, 18, 0)]
set_option maxRecDepth 100000 in
theorem gs_H1 (S SN : SX) (n : Nat) (A : AH) : go false 3 S SN pb_X3_init (n + 1) 0 [vR 13 48 0] [] A = blk false 3 S SN (go false 3 S SN pb_X3_init n) (cl_H1_0 ++ (cl_H1_4 ++ (cl_H1_9 ++ (cl_H1_14 ++ (cl_H1_19 ++ (cl_H1_24 ++ (cl_H1_29 ++ (cl_H1_34 ++ (cl_H1_39 ++ (cl_H1_47 ++ (cl_H1_55 ++ (cl_H1_63 ++ (cl_H1_71 ++ (cl_H1_79 ++ (cl_H1_87 ++ (cl_H1_95 ++ (cl_H1_103 ++ (cl_H1_111 ++ (cl_H1_116 ++ (cl_H1_121 ++ [e0 .return_ 1])))))))))))))))))))) 0 [vR 13 48 0] [] A := rfl
set_option maxRecDepth 100000 in
theorem s_init_H1 (d : Nat) (A : AH) (hs : sz A = 49) : run (d + 1) 42 [vR 13 48 0] A = some (none, hap A o_H1) := by
  have e : run (d + 1) 42 [vR 13 48 0] A = go false 3 (run d) (run d) pb_X3_init (999999 + 1) 0 [vR 13 48 0] [] A := rfl
  rw [e, gs_H1]
  rw [ck_H1_0 _ _ _ _ _ hs]
  rw [ck_H1_4 _ _ _ _ _ (by simp only [sz_hap, hs]; rfl)]
  rw [ck_H1_9 _ _ _ _ _ (by simp only [sz_hap, hs]; rfl)]
  rw [ck_H1_14 _ _ _ _ _ (by simp only [sz_hap, hs]; rfl)]
  rw [ck_H1_19 _ _ _ _ _ (by simp only [sz_hap, hs]; rfl)]
  rw [ck_H1_24 _ _ _ _ _ (by simp only [sz_hap, hs]; rfl)]
  rw [ck_H1_29 _ _ _ _ _ (by simp only [sz_hap, hs]; rfl)]
  rw [ck_H1_34 _ _ _ _ _ (by simp only [sz_hap, hs]; rfl)]
  rw [ck_H1_39 _ _ _ _ _ (by simp only [sz_hap, hs]; rfl)]
  rw [ck_H1_47 _ _ _ _ _ (by simp only [sz_hap, hs]; rfl)]
  rw [ck_H1_55 _ _ _ _ _ (by simp only [sz_hap, hs]; rfl)]
  rw [ck_H1_63 _ _ _ _ _ (by simp only [sz_hap, hs]; rfl)]
  rw [ck_H1_71 _ _ _ _ _ (by simp only [sz_hap, hs]; rfl)]
  rw [ck_H1_79 _ _ _ _ _ (by simp only [sz_hap, hs]; rfl)]
  rw [ck_H1_87 _ _ _ _ _ (by simp only [sz_hap, hs]; rfl)]
  rw [ck_H1_95 _ _ _ _ _ (by simp only [sz_hap, hs]; rfl)]
  rw [ck_H1_103 _ _ _ _ _ (by simp only [sz_hap, hs]; rfl)]
  rw [ck_H1_111 _ _ _ _ _ (by simp only [sz_hap, hs]; rfl)]
  rw [ck_H1_116 _ _ _ _ _ (by simp only [sz_hap, hs]; rfl)]
  rw [ck_H1_121 _ _ _ _ _ (by simp only [sz_hap, hs]; rfl)]
  rfl
def cl_H2_0 : List EI := [e0 (.aload_n 0) 1, (.invokespecial 3, 3, 0, 1, 0, 9, 3, 0)]
theorem ck_H2_0 (S SN : SX) (jp : Nat → NX) (rest : List EI) (A : AH) (hs : sz A = 59) : blk false 3 S SN jp (cl_H2_0 ++ rest) 0 [vR 13 58 0] [] A = blk false 3 S SN jp rest 4 [vR 13 58 0] [] (hap A []) := rfl
def cl_H2_4 : List EI := [e0 (.aload_n 0) 1, e0 (.iconst 0) 1, e1 (.putfield 9) 3 3]
theorem ck_H2_4 (S SN : SX) (jp : Nat → NX) (rest : List EI) (A : AH) (hs : sz A = 59) : blk false 3 S SN jp (cl_H2_4 ++ rest) 4 [vR 13 58 0] [] A = blk false 3 S SN jp rest 9 [vR 13 58 0] [] (hap A [(1, 58, 0, 0)]) := rfl
def cl_H2_9 : List EI := [e0 (.aload_n 0) 1, e0 (.iconst 0) 1, (.putfield 15, 3, 3, 1, 0, 0, 0, 0)]
theorem ck_H2_9 (S SN : SX) (jp : Nat → NX) (rest : List EI) (A : AH) (hs : sz A = 59) : blk false 3 S SN jp (cl_H2_9 ++ rest) 9 [vR 13 58 0] [] A = blk false 3 S SN jp rest 14 [vR 13 58 0] [] (hap A [(1, 58, 1, 0)]) := rfl
def cl_H2_14 : List EI := [e0 (.aload_n 0) 1, e0 (.iconst 0) 1, (.putfield 18, 3, 3, 2, 0, 0, 0, 0)]
theorem ck_H2_14 (S SN : SX) (jp : Nat → NX) (rest : List EI) (A : AH) (hs : sz A = 59) : blk false 3 S SN jp (cl_H2_14 ++ rest) 14 [vR 13 58 0] [] A = blk false 3 S SN jp rest 19 [vR 13 58 0] [] (hap A [(1, 58, 2, 0)]) := rfl
def cl_H2_19 : List EI := [e0 (.aload_n 0) 1, e0 (.iconst 0) 1, (.putfield 21, 3, 3, 3, 0, 0, 0, 0)]
theorem ck_H2_19 (S SN : SX) (jp : Nat → NX) (rest : List EI) (A : AH) (hs : sz A = 59) : blk false 3 S SN jp (cl_H2_19 ++ rest) 19 [vR 13 58 0] [] A = blk false 3 S SN jp rest 24 [vR 13 58 0] [] (hap A [(1, 58, 3, 0)]) := rfl
def cl_H2_24 : List EI := [e0 (.aload_n 0) 1, e0 (.iconst 0) 1, (.putfield 24, 3, 3, 4, 0, 0, 0, 0)]
theorem ck_H2_24 (S SN : SX) (jp : Nat → NX) (rest : List EI) (A : AH) (hs : sz A = 59) : blk false 3 S SN jp (cl_H2_24 ++ rest) 24 [vR 13 58 0] [] A = blk false 3 S SN jp rest 29 [vR 13 58 0] [] (hap A [(1, 58, 4, 0)]) := rfl
def cl_H2_29 : List EI := [e0 (.aload_n 0) 1, e0 (.iconst 0) 1, (.putfield 27, 3, 3, 5, 0, 0, 0, 0)]
theorem ck_H2_29 (S SN : SX) (jp : Nat → NX) (rest : List EI) (A : AH) (hs : sz A = 59) : blk false 3 S SN jp (cl_H2_29 ++ rest) 29 [vR 13 58 0] [] A = blk false 3 S SN jp rest 34 [vR 13 58 0] [] (hap A [(1, 58, 5, 0)]) := rfl
def cl_H2_34 : List EI := [e0 (.aload_n 0) 1, e0 (.iconst 0) 1, (.putfield 30, 3, 3, 6, 0, 0, 0, 0)]
theorem ck_H2_34 (S SN : SX) (jp : Nat → NX) (rest : List EI) (A : AH) (hs : sz A = 59) : blk false 3 S SN jp (cl_H2_34 ++ rest) 34 [vR 13 58 0] [] A = blk false 3 S SN jp rest 39 [vR 13 58 0] [] (hap A [(1, 58, 6, 0)]) := rfl
def cl_H2_39 : List EI := [e0 (.aload_n 0) 1, e0 (.bipush 20) 2, e0 (.newarray .int) 2, (.putfield 33, 3, 3, 7, 30, 1, 20, 0)]
theorem ck_H2_39 (S SN : SX) (jp : Nat → NX) (rest : List EI) (A : AH) (hs : sz A = 59) : blk false 3 S SN jp (cl_H2_39 ++ rest) 39 [vR 13 58 0] [] A = blk false 3 S SN jp rest 47 [vR 13 58 0] [] (hap A [(0, 20, 20, 0), (2, 58, 7, 59)]) := by
  have e : blk false 3 S SN jp (cl_H2_39 ++ rest) 39 [vR 13 58 0] [] A = blk false 3 S SN jp rest 47 [vR 13 58 0] [] (wr (nw A 20 20) 58 7 (sz A)) := rfl
  rw [hs] at e
  exact e
def cl_H2_47 : List EI := [e0 (.aload_n 0) 1, e0 (.bipush 16) 2, e0 (.newarray .int) 2, (.putfield 37, 3, 3, 8, 30, 2, 16, 0)]
theorem ck_H2_47 (S SN : SX) (jp : Nat → NX) (rest : List EI) (A : AH) (hs : sz A = 60) : blk false 3 S SN jp (cl_H2_47 ++ rest) 47 [vR 13 58 0] [] A = blk false 3 S SN jp rest 55 [vR 13 58 0] [] (hap A [(0, 20, 16, 0), (2, 58, 8, 60)]) := by
  have e : blk false 3 S SN jp (cl_H2_47 ++ rest) 47 [vR 13 58 0] [] A = blk false 3 S SN jp rest 55 [vR 13 58 0] [] (wr (nw A 20 16) 58 8 (sz A)) := rfl
  rw [hs] at e
  exact e
def cl_H2_55 : List EI := [e0 (.aload_n 0) 1, e0 (.bipush 16) 2, e0 (.newarray .int) 2, (.putfield 40, 3, 3, 9, 30, 3, 16, 0)]
theorem ck_H2_55 (S SN : SX) (jp : Nat → NX) (rest : List EI) (A : AH) (hs : sz A = 61) : blk false 3 S SN jp (cl_H2_55 ++ rest) 55 [vR 13 58 0] [] A = blk false 3 S SN jp rest 63 [vR 13 58 0] [] (hap A [(0, 20, 16, 0), (2, 58, 9, 61)]) := by
  have e : blk false 3 S SN jp (cl_H2_55 ++ rest) 55 [vR 13 58 0] [] A = blk false 3 S SN jp rest 63 [vR 13 58 0] [] (wr (nw A 20 16) 58 9 (sz A)) := rfl
  rw [hs] at e
  exact e
def cl_H2_63 : List EI := [e0 (.aload_n 0) 1, e0 (.bipush 8) 2, e0 (.newarray .int) 2, (.putfield 43, 3, 3, 10, 30, 4, 8, 0)]
theorem ck_H2_63 (S SN : SX) (jp : Nat → NX) (rest : List EI) (A : AH) (hs : sz A = 62) : blk false 3 S SN jp (cl_H2_63 ++ rest) 63 [vR 13 58 0] [] A = blk false 3 S SN jp rest 71 [vR 13 58 0] [] (hap A [(0, 20, 8, 0), (2, 58, 10, 62)]) := by
  have e : blk false 3 S SN jp (cl_H2_63 ++ rest) 63 [vR 13 58 0] [] A = blk false 3 S SN jp rest 71 [vR 13 58 0] [] (wr (nw A 20 8) 58 10 (sz A)) := rfl
  rw [hs] at e
  exact e
def cl_H2_71 : List EI := [e0 (.aload_n 0) 1, e0 (.bipush 8) 2, e0 (.newarray .int) 2, (.putfield 46, 3, 3, 11, 30, 5, 8, 0)]
theorem ck_H2_71 (S SN : SX) (jp : Nat → NX) (rest : List EI) (A : AH) (hs : sz A = 63) : blk false 3 S SN jp (cl_H2_71 ++ rest) 71 [vR 13 58 0] [] A = blk false 3 S SN jp rest 79 [vR 13 58 0] [] (hap A [(0, 20, 8, 0), (2, 58, 11, 63)]) := by
  have e : blk false 3 S SN jp (cl_H2_71 ++ rest) 71 [vR 13 58 0] [] A = blk false 3 S SN jp rest 79 [vR 13 58 0] [] (wr (nw A 20 8) 58 11 (sz A)) := rfl
  rw [hs] at e
  exact e
def cl_H2_79 : List EI := [e0 (.aload_n 0) 1, e0 (.bipush 6) 2, e0 (.newarray .int) 2, (.putfield 49, 3, 3, 12, 30, 6, 6, 0)]
theorem ck_H2_79 (S SN : SX) (jp : Nat → NX) (rest : List EI) (A : AH) (hs : sz A = 64) : blk false 3 S SN jp (cl_H2_79 ++ rest) 79 [vR 13 58 0] [] A = blk false 3 S SN jp rest 87 [vR 13 58 0] [] (hap A [(0, 20, 6, 0), (2, 58, 12, 64)]) := by
  have e : blk false 3 S SN jp (cl_H2_79 ++ rest) 79 [vR 13 58 0] [] A = blk false 3 S SN jp rest 87 [vR 13 58 0] [] (wr (nw A 20 6) 58 12 (sz A)) := rfl
  rw [hs] at e
  exact e
def cl_H2_87 : List EI := [e0 (.aload_n 0) 1, e0 (.bipush 8) 2, e0 (.newarray .int) 2, (.putfield 52, 3, 3, 13, 30, 7, 8, 0)]
theorem ck_H2_87 (S SN : SX) (jp : Nat → NX) (rest : List EI) (A : AH) (hs : sz A = 65) : blk false 3 S SN jp (cl_H2_87 ++ rest) 87 [vR 13 58 0] [] A = blk false 3 S SN jp rest 95 [vR 13 58 0] [] (hap A [(0, 20, 8, 0), (2, 58, 13, 65)]) := by
  have e : blk false 3 S SN jp (cl_H2_87 ++ rest) 87 [vR 13 58 0] [] A = blk false 3 S SN jp rest 95 [vR 13 58 0] [] (wr (nw A 20 8) 58 13 (sz A)) := rfl
  rw [hs] at e
  exact e
def cl_H2_95 : List EI := [e0 (.aload_n 0) 1, e0 (.bipush 18) 2, e0 (.newarray .int) 2, (.putfield 55, 3, 3, 14, 30, 8, 18, 0)]
theorem ck_H2_95 (S SN : SX) (jp : Nat → NX) (rest : List EI) (A : AH) (hs : sz A = 66) : blk false 3 S SN jp (cl_H2_95 ++ rest) 95 [vR 13 58 0] [] A = blk false 3 S SN jp rest 103 [vR 13 58 0] [] (hap A [(0, 20, 18, 0), (2, 58, 14, 66)]) := by
  have e : blk false 3 S SN jp (cl_H2_95 ++ rest) 95 [vR 13 58 0] [] A = blk false 3 S SN jp rest 103 [vR 13 58 0] [] (wr (nw A 20 18) 58 14 (sz A)) := rfl
  rw [hs] at e
  exact e
def cl_H2_103 : List EI := [e0 (.aload_n 0) 1, e0 (.bipush 16) 2, e0 (.newarray .int) 2, (.putfield 58, 3, 3, 15, 30, 9, 16, 0)]
theorem ck_H2_103 (S SN : SX) (jp : Nat → NX) (rest : List EI) (A : AH) (hs : sz A = 67) : blk false 3 S SN jp (cl_H2_103 ++ rest) 103 [vR 13 58 0] [] A = blk false 3 S SN jp rest 111 [vR 13 58 0] [] (hap A [(0, 20, 16, 0), (2, 58, 15, 67)]) := by
  have e : blk false 3 S SN jp (cl_H2_103 ++ rest) 103 [vR 13 58 0] [] A = blk false 3 S SN jp rest 111 [vR 13 58 0] [] (wr (nw A 20 16) 58 15 (sz A)) := rfl
  rw [hs] at e
  exact e
def cl_H2_111 : List EI := [e0 (.aload_n 0) 1, e1 (.aconst_null) 1 20, (.putfield 61, 3, 3, 16, 30, 0, 0, 0)]
theorem ck_H2_111 (S SN : SX) (jp : Nat → NX) (rest : List EI) (A : AH) (hs : sz A = 68) : blk false 3 S SN jp (cl_H2_111 ++ rest) 111 [vR 13 58 0] [] A = blk false 3 S SN jp rest 116 [vR 13 58 0] [] (hap A [(2, 58, 16, 0)]) := rfl
def cl_H2_116 : List EI := [e0 (.aload_n 0) 1, e1 (.aconst_null) 1 20, (.putfield 64, 3, 3, 17, 30, 0, 0, 0)]
theorem ck_H2_116 (S SN : SX) (jp : Nat → NX) (rest : List EI) (A : AH) (hs : sz A = 68) : blk false 3 S SN jp (cl_H2_116 ++ rest) 116 [vR 13 58 0] [] A = blk false 3 S SN jp rest 121 [vR 13 58 0] [] (hap A [(2, 58, 17, 0)]) := rfl
def cl_H2_121 : List EI := [e0 (.aload_n 0) 1, e0 (.iconst 0) 1, (.putfield 67, 3, 3, 18, 2, 0, 0, 0)]
theorem ck_H2_121 (S SN : SX) (jp : Nat → NX) (rest : List EI) (A : AH) (hs : sz A = 68) : blk false 3 S SN jp (cl_H2_121 ++ rest) 121 [vR 13 58 0] [] A = blk false 3 S SN jp rest 126 [vR 13 58 0] [] (hap A [(1, 58, 18, 0)]) := rfl
def o_H2 : List (Nat × Nat × Nat × Int) := [(1, 58, 0, 0), (1, 58, 1, 0), (1, 58, 2, 0), (1, 58, 3, 0), (1, 58, 4, 0), (1, 58, 5, 0), (1, 58, 6, 0), (0, 20, 20, 0), (2, 58, 7, 59), (0, 20, 16, 0), (2, 58, 8, 60), (0, 20, 16, 0), (2, 58, 9, 61), (0, 20, 8, 0), (2, 58, 10, 62), (0, 20, 8, 0), (2, 58, 11, 63), (0, 20, 6, 0), (2, 58, 12, 64), (0, 20, 8, 0), (2, 58, 13, 65), (0, 20, 18, 0), (2, 58, 14, 66), (0, 20, 16, 0), (2, 58, 15, 67), (2, 58, 16, 0), (2, 58, 17, 0), (1, 58, 18, 0)]
set_option maxRecDepth 100000 in
theorem gs_H2 (S SN : SX) (n : Nat) (A : AH) : go false 3 S SN pb_X3_init (n + 1) 0 [vR 13 58 0] [] A = blk false 3 S SN (go false 3 S SN pb_X3_init n) (cl_H2_0 ++ (cl_H2_4 ++ (cl_H2_9 ++ (cl_H2_14 ++ (cl_H2_19 ++ (cl_H2_24 ++ (cl_H2_29 ++ (cl_H2_34 ++ (cl_H2_39 ++ (cl_H2_47 ++ (cl_H2_55 ++ (cl_H2_63 ++ (cl_H2_71 ++ (cl_H2_79 ++ (cl_H2_87 ++ (cl_H2_95 ++ (cl_H2_103 ++ (cl_H2_111 ++ (cl_H2_116 ++ (cl_H2_121 ++ [e0 .return_ 1])))))))))))))))))))) 0 [vR 13 58 0] [] A := rfl
set_option maxRecDepth 100000 in
theorem s_init_H2 (d : Nat) (A : AH) (hs : sz A = 59) : run (d + 1) 42 [vR 13 58 0] A = some (none, hap A o_H2) := by
  have e : run (d + 1) 42 [vR 13 58 0] A = go false 3 (run d) (run d) pb_X3_init (999999 + 1) 0 [vR 13 58 0] [] A := rfl
  rw [e, gs_H2]
  rw [ck_H2_0 _ _ _ _ _ hs]
  rw [ck_H2_4 _ _ _ _ _ (by simp only [sz_hap, hs]; rfl)]
  rw [ck_H2_9 _ _ _ _ _ (by simp only [sz_hap, hs]; rfl)]
  rw [ck_H2_14 _ _ _ _ _ (by simp only [sz_hap, hs]; rfl)]
  rw [ck_H2_19 _ _ _ _ _ (by simp only [sz_hap, hs]; rfl)]
  rw [ck_H2_24 _ _ _ _ _ (by simp only [sz_hap, hs]; rfl)]
  rw [ck_H2_29 _ _ _ _ _ (by simp only [sz_hap, hs]; rfl)]
  rw [ck_H2_34 _ _ _ _ _ (by simp only [sz_hap, hs]; rfl)]
  rw [ck_H2_39 _ _ _ _ _ (by simp only [sz_hap, hs]; rfl)]
  rw [ck_H2_47 _ _ _ _ _ (by simp only [sz_hap, hs]; rfl)]
  rw [ck_H2_55 _ _ _ _ _ (by simp only [sz_hap, hs]; rfl)]
  rw [ck_H2_63 _ _ _ _ _ (by simp only [sz_hap, hs]; rfl)]
  rw [ck_H2_71 _ _ _ _ _ (by simp only [sz_hap, hs]; rfl)]
  rw [ck_H2_79 _ _ _ _ _ (by simp only [sz_hap, hs]; rfl)]
  rw [ck_H2_87 _ _ _ _ _ (by simp only [sz_hap, hs]; rfl)]
  rw [ck_H2_95 _ _ _ _ _ (by simp only [sz_hap, hs]; rfl)]
  rw [ck_H2_103 _ _ _ _ _ (by simp only [sz_hap, hs]; rfl)]
  rw [ck_H2_111 _ _ _ _ _ (by simp only [sz_hap, hs]; rfl)]
  rw [ck_H2_116 _ _ _ _ _ (by simp only [sz_hap, hs]; rfl)]
  rw [ck_H2_121 _ _ _ _ _ (by simp only [sz_hap, hs]; rfl)]
  rfl
