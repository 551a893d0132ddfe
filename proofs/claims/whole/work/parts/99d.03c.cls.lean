/-! bench and so on -/
def cl_Be_0 : List EI := [e0 (.aload_n 0) 1, (.invokespecial 3, 3, 0, 1, 0, 9, 3, 0)]
theorem ck_Be_0 (S SN : SX) (jp : Nat → NX) (rest : List EI) (A : AH) (hs : sz A = 181) : blk false 3 S SN jp (cl_Be_0 ++ rest) 0 [vR 10 180 0, vR 13 58 0, vR 19 68 0] [] A = blk false 3 S SN jp rest 4 [vR 10 180 0, vR 13 58 0, vR 19 68 0] [] (hap A []) := rfl
def cl_Be_4 : List EI := [e0 (.aload_n 0) 1, e0 (.iconst 1) 1, (.putfield 9, 3, 0, 2, 2, 0, 0, 0)]
theorem ck_Be_4 (S SN : SX) (jp : Nat → NX) (rest : List EI) (A : AH) (hs : sz A = 181) : blk false 3 S SN jp (cl_Be_4 ++ rest) 4 [vR 10 180 0, vR 13 58 0, vR 19 68 0] [] A = blk false 3 S SN jp rest 9 [vR 10 180 0, vR 13 58 0, vR 19 68 0] [] (hap A [(1, 180, 2, 1)]) := rfl
def cl_Be_9 : List EI := [e0 (.aload_n 0) 1, e0 (.iconst 0) 1, (.putfield 15, 3, 0, 3, 2, 0, 0, 0)]
theorem ck_Be_9 (S SN : SX) (jp : Nat → NX) (rest : List EI) (A : AH) (hs : sz A = 181) : blk false 3 S SN jp (cl_Be_9 ++ rest) 9 [vR 10 180 0, vR 13 58 0, vR 19 68 0] [] A = blk false 3 S SN jp rest 14 [vR 10 180 0, vR 13 58 0, vR 19 68 0] [] (hap A [(1, 180, 3, 0)]) := rfl
def cl_Be_14 : List EI := [e0 (.aload_n 0) 1, e0 (.iconst (-1)) 1, (.putfield 18, 3, 0, 4, 0, 0, 0, 0)]
theorem ck_Be_14 (S SN : SX) (jp : Nat → NX) (rest : List EI) (A : AH) (hs : sz A = 181) : blk false 3 S SN jp (cl_Be_14 ++ rest) 14 [vR 10 180 0, vR 13 58 0, vR 19 68 0] [] A = blk false 3 S SN jp rest 19 [vR 10 180 0, vR 13 58 0, vR 19 68 0] [] (hap A [(1, 180, 4, (-1))]) := rfl
def cl_Be_19 : List EI := [e0 (.aload_n 0) 1, e0 (.iconst (-1)) 1, (.putfield 22, 3, 0, 5, 0, 0, 0, 0)]
theorem ck_Be_19 (S SN : SX) (jp : Nat → NX) (rest : List EI) (A : AH) (hs : sz A = 181) : blk false 3 S SN jp (cl_Be_19 ++ rest) 19 [vR 10 180 0, vR 13 58 0, vR 19 68 0] [] A = blk false 3 S SN jp rest 24 [vR 10 180 0, vR 13 58 0, vR 19 68 0] [] (hap A [(1, 180, 5, (-1))]) := rfl
def cl_Be_24 : List EI := [e0 (.aload_n 0) 1, e0 (.iconst 0) 1, (.putfield 25, 3, 0, 6, 0, 0, 0, 0)]
theorem ck_Be_24 (S SN : SX) (jp : Nat → NX) (rest : List EI) (A : AH) (hs : sz A = 181) : blk false 3 S SN jp (cl_Be_24 ++ rest) 24 [vR 10 180 0, vR 13 58 0, vR 19 68 0] [] A = blk false 3 S SN jp rest 29 [vR 10 180 0, vR 13 58 0, vR 19 68 0] [] (hap A [(1, 180, 6, 0)]) := rfl
def cl_Be_29 : List EI := [e0 (.aload_n 0) 1, e0 (.bipush 10) 2, e0 (.newarray .int) 2, (.putfield 28, 3, 0, 7, 30, 181, 10, 1)]
theorem ck_Be_29 (S SN : SX) (jp : Nat → NX) (rest : List EI) (A : AH) (hs : sz A = 181) : blk false 3 S SN jp (cl_Be_29 ++ rest) 29 [vR 10 180 0, vR 13 58 0, vR 19 68 0] [] A = blk false 3 S SN jp rest 37 [vR 10 180 0, vR 13 58 0, vR 19 68 0] [] (hap A [(0, 20, 10, 0), (2, 180, 7, 181)]) := by
  have e : blk false 3 S SN jp (cl_Be_29 ++ rest) 29 [vR 10 180 0, vR 13 58 0, vR 19 68 0] [] A = blk false 3 S SN jp rest 37 [vR 10 180 0, vR 13 58 0, vR 19 68 0] [] (wr (nw A 20 10) 180 7 (sz A)) := rfl
  rw [hs] at e
  exact e
def cl_Be_37 : List EI := [e0 (.aload_n 0) 1, e0 (.bipush 16) 2, e0 (.newarray .int) 2, (.putfield 32, 3, 0, 8, 30, 182, 16, 1)]
theorem ck_Be_37 (S SN : SX) (jp : Nat → NX) (rest : List EI) (A : AH) (hs : sz A = 182) : blk false 3 S SN jp (cl_Be_37 ++ rest) 37 [vR 10 180 0, vR 13 58 0, vR 19 68 0] [] A = blk false 3 S SN jp rest 45 [vR 10 180 0, vR 13 58 0, vR 19 68 0] [] (hap A [(0, 20, 16, 0), (2, 180, 8, 182)]) := by
  have e : blk false 3 S SN jp (cl_Be_37 ++ rest) 37 [vR 10 180 0, vR 13 58 0, vR 19 68 0] [] A = blk false 3 S SN jp rest 45 [vR 10 180 0, vR 13 58 0, vR 19 68 0] [] (wr (nw A 20 16) 180 8 (sz A)) := rfl
  rw [hs] at e
  exact e
def cl_Be_45 : List EI := [e0 (.aload_n 0) 1, e0 (.bipush 16) 2, e0 (.newarray .int) 2, (.putfield 35, 3, 0, 9, 30, 183, 16, 1)]
theorem ck_Be_45 (S SN : SX) (jp : Nat → NX) (rest : List EI) (A : AH) (hs : sz A = 183) : blk false 3 S SN jp (cl_Be_45 ++ rest) 45 [vR 10 180 0, vR 13 58 0, vR 19 68 0] [] A = blk false 3 S SN jp rest 53 [vR 10 180 0, vR 13 58 0, vR 19 68 0] [] (hap A [(0, 20, 16, 0), (2, 180, 9, 183)]) := by
  have e : blk false 3 S SN jp (cl_Be_45 ++ rest) 45 [vR 10 180 0, vR 13 58 0, vR 19 68 0] [] A = blk false 3 S SN jp rest 53 [vR 10 180 0, vR 13 58 0, vR 19 68 0] [] (wr (nw A 20 16) 180 9 (sz A)) := rfl
  rw [hs] at e
  exact e
def cl_Be_53 : List EI := [e0 (.aload_n 0) 1, e0 (.bipush 64) 2, e0 (.newarray .int) 2, (.putfield 38, 3, 0, 10, 30, 184, 64, 1)]
theorem ck_Be_53 (S SN : SX) (jp : Nat → NX) (rest : List EI) (A : AH) (hs : sz A = 184) : blk false 3 S SN jp (cl_Be_53 ++ rest) 53 [vR 10 180 0, vR 13 58 0, vR 19 68 0] [] A = blk false 3 S SN jp rest 61 [vR 10 180 0, vR 13 58 0, vR 19 68 0] [] (hap A [(0, 20, 64, 0), (2, 180, 10, 184)]) := by
  have e : blk false 3 S SN jp (cl_Be_53 ++ rest) 53 [vR 10 180 0, vR 13 58 0, vR 19 68 0] [] A = blk false 3 S SN jp rest 61 [vR 10 180 0, vR 13 58 0, vR 19 68 0] [] (wr (nw A 20 64) 180 10 (sz A)) := rfl
  rw [hs] at e
  exact e
def cl_Be_61 : List EI := [e0 (.aload_n 0) 1, e0 (.iconst 0) 1, (.putfield 41, 3, 0, 11, 0, 0, 0, 0)]
theorem ck_Be_61 (S SN : SX) (jp : Nat → NX) (rest : List EI) (A : AH) (hs : sz A = 185) : blk false 3 S SN jp (cl_Be_61 ++ rest) 61 [vR 10 180 0, vR 13 58 0, vR 19 68 0] [] A = blk false 3 S SN jp rest 66 [vR 10 180 0, vR 13 58 0, vR 19 68 0] [] (hap A [(1, 180, 11, 0)]) := rfl
def cl_Be_66 : List EI := [e0 (.aload_n 0) 1, e0 (.aload_n 1) 1, (.putfield 44, 3, 0, 0, 13, 0, 0, 0)]
theorem ck_Be_66 (S SN : SX) (jp : Nat → NX) (rest : List EI) (A : AH) (hs : sz A = 185) : blk false 3 S SN jp (cl_Be_66 ++ rest) 66 [vR 10 180 0, vR 13 58 0, vR 19 68 0] [] A = blk false 3 S SN jp rest 71 [vR 10 180 0, vR 13 58 0, vR 19 68 0] [] (hap A [(2, 180, 0, 58)]) := rfl
def cl_Be_71 : List EI := [e0 (.aload_n 0) 1, e0 (.aload_n 2) 1, (.putfield 48, 3, 0, 1, 19, 0, 0, 0)]
theorem ck_Be_71 (S SN : SX) (jp : Nat → NX) (rest : List EI) (A : AH) (hs : sz A = 185) : blk false 3 S SN jp (cl_Be_71 ++ rest) 71 [vR 10 180 0, vR 13 58 0, vR 19 68 0] [] A = blk false 3 S SN jp rest 76 [vR 10 180 0, vR 13 58 0, vR 19 68 0] [] (hap A [(2, 180, 1, 68)]) := rfl
def o_Be : List (Nat × Nat × Nat × Int) := [(1, 180, 2, 1), (1, 180, 3, 0), (1, 180, 4, (-1)), (1, 180, 5, (-1)), (1, 180, 6, 0), (0, 20, 10, 0), (2, 180, 7, 181), (0, 20, 16, 0), (2, 180, 8, 182), (0, 20, 16, 0), (2, 180, 9, 183), (0, 20, 64, 0), (2, 180, 10, 184), (1, 180, 11, 0), (2, 180, 0, 58), (2, 180, 1, 68)]
set_option maxRecDepth 100000 in
theorem gs_Be (S SN : SX) (n : Nat) (A : AH) : go false 3 S SN pb_X0_init (n + 1) 0 [vR 10 180 0, vR 13 58 0, vR 19 68 0] [] A = blk false 3 S SN (go false 3 S SN pb_X0_init n) (cl_Be_0 ++ (cl_Be_4 ++ (cl_Be_9 ++ (cl_Be_14 ++ (cl_Be_19 ++ (cl_Be_24 ++ (cl_Be_29 ++ (cl_Be_37 ++ (cl_Be_45 ++ (cl_Be_53 ++ (cl_Be_61 ++ (cl_Be_66 ++ (cl_Be_71 ++ [e0 .return_ 1]))))))))))))) 0 [vR 10 180 0, vR 13 58 0, vR 19 68 0] [] A := rfl
set_option maxRecDepth 100000 in
theorem s_init_Be (d : Nat) (A : AH) (hs : sz A = 181) : run (d + 1) 0 [vR 10 180 0, vR 13 58 0, vR 19 68 0] A = some (none, hap A o_Be) := by
  have e : run (d + 1) 0 [vR 10 180 0, vR 13 58 0, vR 19 68 0] A = go false 3 (run d) (run d) pb_X0_init (999999 + 1) 0 [vR 10 180 0, vR 13 58 0, vR 19 68 0] [] A := rfl
  rw [e, gs_Be]
  rw [ck_Be_0 _ _ _ _ _ hs]
  rw [ck_Be_4 _ _ _ _ _ (by simp only [sz_hap, hs]; rfl)]
  rw [ck_Be_9 _ _ _ _ _ (by simp only [sz_hap, hs]; rfl)]
  rw [ck_Be_14 _ _ _ _ _ (by simp only [sz_hap, hs]; rfl)]
  rw [ck_Be_19 _ _ _ _ _ (by simp only [sz_hap, hs]; rfl)]
  rw [ck_Be_24 _ _ _ _ _ (by simp only [sz_hap, hs]; rfl)]
  rw [ck_Be_29 _ _ _ _ _ (by simp only [sz_hap, hs]; rfl)]
  rw [ck_Be_37 _ _ _ _ _ (by simp only [sz_hap, hs]; rfl)]
  rw [ck_Be_45 _ _ _ _ _ (by simp only [sz_hap, hs]; rfl)]
  rw [ck_Be_53 _ _ _ _ _ (by simp only [sz_hap, hs]; rfl)]
  rw [ck_Be_61 _ _ _ _ _ (by simp only [sz_hap, hs]; rfl)]
  rw [ck_Be_66 _ _ _ _ _ (by simp only [sz_hap, hs]; rfl)]
  rw [ck_Be_71 _ _ _ _ _ (by simp only [sz_hap, hs]; rfl)]
  rfl
def cl_Co_0 : List EI := [e0 (.aload_n 0) 1, (.invokespecial 3, 3, 0, 1, 0, 9, 3, 0)]
theorem ck_Co_0 (S SN : SX) (jp : Nat → NX) (rest : List EI) (A : AH) (hs : sz A = 186) : blk false 3 S SN jp (cl_Co_0 ++ rest) 0 [vR 11 185 0, vR 10 180 0, vR 19 73 0] [] A = blk false 3 S SN jp rest 4 [vR 11 185 0, vR 10 180 0, vR 19 73 0] [] (hap A []) := rfl
def cl_Co_4 : List EI := [e0 (.aload_n 0) 1, e0 (.aload_n 1) 1, (.putfield 9, 3, 1, 0, 10, 180, 0, 1)]
theorem ck_Co_4 (S SN : SX) (jp : Nat → NX) (rest : List EI) (A : AH) (hs : sz A = 186) : blk false 3 S SN jp (cl_Co_4 ++ rest) 4 [vR 11 185 0, vR 10 180 0, vR 19 73 0] [] A = blk false 3 S SN jp rest 9 [vR 11 185 0, vR 10 180 0, vR 19 73 0] [] (hap A [(2, 185, 0, 180)]) := rfl
def cl_Co_9 : List EI := [e0 (.aload_n 0) 1, e0 (.aload_n 2) 1, (.putfield 15, 3, 1, 1, 19, 73, 0, 1)]
theorem ck_Co_9 (S SN : SX) (jp : Nat → NX) (rest : List EI) (A : AH) (hs : sz A = 186) : blk false 3 S SN jp (cl_Co_9 ++ rest) 9 [vR 11 185 0, vR 10 180 0, vR 19 73 0] [] A = blk false 3 S SN jp rest 14 [vR 11 185 0, vR 10 180 0, vR 19 73 0] [] (hap A [(2, 185, 1, 73)]) := rfl
def o_Co : List (Nat × Nat × Nat × Int) := [(2, 185, 0, 180), (2, 185, 1, 73)]
set_option maxRecDepth 100000 in
theorem gs_Co (S SN : SX) (n : Nat) (A : AH) : go false 3 S SN pb_X1_init (n + 1) 0 [vR 11 185 0, vR 10 180 0, vR 19 73 0] [] A = blk false 3 S SN (go false 3 S SN pb_X1_init n) (cl_Co_0 ++ (cl_Co_4 ++ (cl_Co_9 ++ [e0 .return_ 1]))) 0 [vR 11 185 0, vR 10 180 0, vR 19 73 0] [] A := rfl
set_option maxRecDepth 100000 in
theorem s_init_Co (d : Nat) (A : AH) (hs : sz A = 186) : run (d + 1) 16 [vR 11 185 0, vR 10 180 0, vR 19 73 0] A = some (none, hap A o_Co) := by
  have e : run (d + 1) 16 [vR 11 185 0, vR 10 180 0, vR 19 73 0] A = go false 3 (run d) (run d) pb_X1_init (999999 + 1) 0 [vR 11 185 0, vR 10 180 0, vR 19 73 0] [] A := rfl
  rw [e, gs_Co]
  rw [ck_Co_0 _ _ _ _ _ hs]
  rw [ck_Co_4 _ _ _ _ _ (by simp only [sz_hap, hs]; rfl)]
  rw [ck_Co_9 _ _ _ _ _ (by simp only [sz_hap, hs]; rfl)]
  rfl
def cl_Qu_0 : List EI := [e0 (.aload_n 0) 1, (.invokespecial 3, 3, 0, 1, 0, 9, 3, 0)]
theorem ck_Qu_0 (S SN : SX) (jp : Nat → NX) (rest : List EI) (A : AH) (hs : sz A = 187) : blk false 3 S SN jp (cl_Qu_0 ++ rest) 0 [vR 17 186 0, vR 18 42 0, vR 12 44 0, vR 10 180 0] [] A = blk false 3 S SN jp rest 4 [vR 17 186 0, vR 18 42 0, vR 12 44 0, vR 10 180 0] [] (hap A []) := rfl
def cl_Qu_4 : List EI := [e0 (.aload_n 0) 1, (.getstatic 9, 3, 12, 34, 0, 0, 0, 0), (.putfield 15, 3, 7, 3, 22, 0, 0, 0)]
theorem ck_Qu_4 (S SN : SX) (jp : Nat → NX) (rest : List EI) (A : AH) (hs : sz A = 187) : blk false 3 S SN jp (cl_Qu_4 ++ rest) 4 [vR 17 186 0, vR 18 42 0, vR 12 44 0, vR 10 180 0] [] A = blk false 3 S SN jp rest 11 [vR 17 186 0, vR 18 42 0, vR 12 44 0, vR 10 180 0] [] (hap A [(2, 186, 3, 34)]) := rfl
def cl_Qu_11 : List EI := [e0 (.aload_n 0) 1, e0 (.aload_n 1) 1, (.putfield 20, 3, 7, 0, 18, 42, 0, 1)]
theorem ck_Qu_11 (S SN : SX) (jp : Nat → NX) (rest : List EI) (A : AH) (hs : sz A = 187) : blk false 3 S SN jp (cl_Qu_11 ++ rest) 11 [vR 17 186 0, vR 18 42 0, vR 12 44 0, vR 10 180 0] [] A = blk false 3 S SN jp rest 16 [vR 17 186 0, vR 18 42 0, vR 12 44 0, vR 10 180 0] [] (hap A [(2, 186, 0, 42)]) := rfl
def cl_Qu_16 : List EI := [e0 (.aload_n 0) 1, e0 (.aload_n 2) 1, (.putfield 24, 3, 7, 1, 12, 44, 0, 1)]
theorem ck_Qu_16 (S SN : SX) (jp : Nat → NX) (rest : List EI) (A : AH) (hs : sz A = 187) : blk false 3 S SN jp (cl_Qu_16 ++ rest) 16 [vR 17 186 0, vR 18 42 0, vR 12 44 0, vR 10 180 0] [] A = blk false 3 S SN jp rest 21 [vR 17 186 0, vR 18 42 0, vR 12 44 0, vR 10 180 0] [] (hap A [(2, 186, 1, 44)]) := rfl
def cl_Qu_21 : List EI := [e0 (.aload_n 0) 1, e0 (.aload_n 3) 1, (.putfield 28, 3, 7, 2, 10, 180, 0, 1)]
theorem ck_Qu_21 (S SN : SX) (jp : Nat → NX) (rest : List EI) (A : AH) (hs : sz A = 187) : blk false 3 S SN jp (cl_Qu_21 ++ rest) 21 [vR 17 186 0, vR 18 42 0, vR 12 44 0, vR 10 180 0] [] A = blk false 3 S SN jp rest 26 [vR 17 186 0, vR 18 42 0, vR 12 44 0, vR 10 180 0] [] (hap A [(2, 186, 2, 180)]) := rfl
def o_Qu : List (Nat × Nat × Nat × Int) := [(2, 186, 3, 34), (2, 186, 0, 42), (2, 186, 1, 44), (2, 186, 2, 180)]
set_option maxRecDepth 100000 in
theorem gs_Qu (S SN : SX) (n : Nat) (A : AH) : go false 3 S SN pb_X7_init (n + 1) 0 [vR 17 186 0, vR 18 42 0, vR 12 44 0, vR 10 180 0] [] A = blk false 3 S SN (go false 3 S SN pb_X7_init n) (cl_Qu_0 ++ (cl_Qu_4 ++ (cl_Qu_11 ++ (cl_Qu_16 ++ (cl_Qu_21 ++ [e0 .return_ 1]))))) 0 [vR 17 186 0, vR 18 42 0, vR 12 44 0, vR 10 180 0] [] A := rfl
set_option maxRecDepth 100000 in
theorem s_init_Qu (d : Nat) (A : AH) (hs : sz A = 187) : run (d + 1) 78 [vR 17 186 0, vR 18 42 0, vR 12 44 0, vR 10 180 0] A = some (none, hap A o_Qu) := by
  have e : run (d + 1) 78 [vR 17 186 0, vR 18 42 0, vR 12 44 0, vR 10 180 0] A = go false 3 (run d) (run d) pb_X7_init (999999 + 1) 0 [vR 17 186 0, vR 18 42 0, vR 12 44 0, vR 10 180 0] [] A := rfl
  rw [e, gs_Qu]
  rw [ck_Qu_0 _ _ _ _ _ hs]
  rw [ck_Qu_4 _ _ _ _ _ (by simp only [sz_hap, hs]; rfl)]
  rw [ck_Qu_11 _ _ _ _ _ (by simp only [sz_hap, hs]; rfl)]
  rw [ck_Qu_16 _ _ _ _ _ (by simp only [sz_hap, hs]; rfl)]
  rw [ck_Qu_21 _ _ _ _ _ (by simp only [sz_hap, hs]; rfl)]
  rfl
def cl_Im_0 : List EI := [e0 (.aload_n 0) 1, (.invokespecial 3, 3, 0, 1, 0, 9, 3, 0)]
theorem ck_Im_0 (S SN : SX) (jp : Nat → NX) (rest : List EI) (A : AH) (hs : sz A = 188) : blk false 3 S SN jp (cl_Im_0 ++ rest) 0 [vR 15 187 0] [] A = blk false 3 S SN jp rest 4 [vR 15 187 0] [] (hap A []) := rfl
def cl_Im_4 : List EI := [e0 (.aload_n 0) 1, e0 (.bipush 27) 2, e0 (.newarray .int) 2, (.putfield 11, 3, 5, 0, 30, 188, 27, 1)]
theorem ck_Im_4 (S SN : SX) (jp : Nat → NX) (rest : List EI) (A : AH) (hs : sz A = 188) : blk false 3 S SN jp (cl_Im_4 ++ rest) 4 [vR 15 187 0] [] A = blk false 3 S SN jp rest 12 [vR 15 187 0] [] (hap A [(0, 20, 27, 0), (2, 187, 0, 188)]) := by
  have e : blk false 3 S SN jp (cl_Im_4 ++ rest) 4 [vR 15 187 0] [] A = blk false 3 S SN jp rest 12 [vR 15 187 0] [] (wr (nw A 20 27) 187 0 (sz A)) := rfl
  rw [hs] at e
  exact e
def cl_Im_12 : List EI := [e0 (.aload_n 0) 1, e0 (.iconst 0) 1, (.putfield 15, 3, 5, 1, 0, 0, 0, 0)]
theorem ck_Im_12 (S SN : SX) (jp : Nat → NX) (rest : List EI) (A : AH) (hs : sz A = 189) : blk false 3 S SN jp (cl_Im_12 ++ rest) 12 [vR 15 187 0] [] A = blk false 3 S SN jp rest 17 [vR 15 187 0] [] (hap A [(1, 187, 1, 0)]) := rfl
def o_Im : List (Nat × Nat × Nat × Int) := [(0, 20, 27, 0), (2, 187, 0, 188), (1, 187, 1, 0)]
set_option maxRecDepth 100000 in
theorem gs_Im (S SN : SX) (n : Nat) (A : AH) : go false 3 S SN pb_X5_init (n + 1) 0 [vR 15 187 0] [] A = blk false 3 S SN (go false 3 S SN pb_X5_init n) (cl_Im_0 ++ (cl_Im_4 ++ (cl_Im_12 ++ [e0 .return_ 1]))) 0 [vR 15 187 0] [] A := rfl
set_option maxRecDepth 100000 in
theorem s_init_Im (d : Nat) (A : AH) (hs : sz A = 188) : run (d + 1) 67 [vR 15 187 0] A = some (none, hap A o_Im) := by
  have e : run (d + 1) 67 [vR 15 187 0] A = go false 3 (run d) (run d) pb_X5_init (999999 + 1) 0 [vR 15 187 0] [] A := rfl
  rw [e, gs_Im]
  rw [ck_Im_0 _ _ _ _ _ hs]
  rw [ck_Im_4 _ _ _ _ _ (by simp only [sz_hap, hs]; rfl)]
  rw [ck_Im_12 _ _ _ _ _ (by simp only [sz_hap, hs]; rfl)]
  rfl
