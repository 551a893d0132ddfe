/-! the class, made -/
def cl_Rd_0 : List EI := [e0 (.aload_n 0) 1, (.invokespecial 3, 3, 0, 1, 0, 9, 3, 0)]
theorem ck_Rd_0 (S SN : SX) (jp : Nat → NX) (rest : List EI) (A : AH) (hs : sz A = 43) : blk false 3 S SN jp (cl_Rd_0 ++ rest) 0 [vR 18 42 0] [] A = blk false 3 S SN jp rest 4 [vR 18 42 0] [] (hap A []) := rfl
def cl_Rd_4 : List EI := [e0 (.aload_n 0) 1, e0 (.iconst 0) 1, e0 (.newarray .int) 2, (.putfield 9, 3, 8, 0, 30, 0, 0, 0)]
theorem ck_Rd_4 (S SN : SX) (jp : Nat → NX) (rest : List EI) (A : AH) (hs : sz A = 43) : blk false 3 S SN jp (cl_Rd_4 ++ rest) 4 [vR 18 42 0] [] A = blk false 3 S SN jp rest 11 [vR 18 42 0] [] (hap A [(0, 20, 0, 0), (2, 42, 0, 43)]) := by
  have e : blk false 3 S SN jp (cl_Rd_4 ++ rest) 4 [vR 18 42 0] [] A = blk false 3 S SN jp rest 11 [vR 18 42 0] [] (wr (nw A 20 0) 42 0 (sz A)) := rfl
  rw [hs] at e
  exact e
def cl_Rd_11 : List EI := [e0 (.aload_n 0) 1, e0 (.iconst 0) 1, (.putfield 15, 3, 8, 1, 0, 0, 0, 0)]
theorem ck_Rd_11 (S SN : SX) (jp : Nat → NX) (rest : List EI) (A : AH) (hs : sz A = 44) : blk false 3 S SN jp (cl_Rd_11 ++ rest) 11 [vR 18 42 0] [] A = blk false 3 S SN jp rest 16 [vR 18 42 0] [] (hap A [(1, 42, 1, 0)]) := rfl
def cl_Rd_16 : List EI := [e0 (.aload_n 0) 1, e0 (.iconst 0) 1, (.putfield 19, 3, 8, 2, 0, 0, 0, 0)]
theorem ck_Rd_16 (S SN : SX) (jp : Nat → NX) (rest : List EI) (A : AH) (hs : sz A = 44) : blk false 3 S SN jp (cl_Rd_16 ++ rest) 16 [vR 18 42 0] [] A = blk false 3 S SN jp rest 21 [vR 18 42 0] [] (hap A [(1, 42, 2, 0)]) := rfl
def cl_Rd_21 : List EI := [e0 (.aload_n 0) 1, e0 (.iconst 0) 1, (.putfield 22, 3, 8, 3, 0, 0, 0, 0)]
theorem ck_Rd_21 (S SN : SX) (jp : Nat → NX) (rest : List EI) (A : AH) (hs : sz A = 44) : blk false 3 S SN jp (cl_Rd_21 ++ rest) 21 [vR 18 42 0] [] A = blk false 3 S SN jp rest 26 [vR 18 42 0] [] (hap A [(1, 42, 3, 0)]) := rfl
def cl_Rd_26 : List EI := [e0 (.aload_n 0) 1, e0 (.iconst 0) 1, (.putfield 25, 3, 8, 4, 0, 0, 0, 0)]
theorem ck_Rd_26 (S SN : SX) (jp : Nat → NX) (rest : List EI) (A : AH) (hs : sz A = 44) : blk false 3 S SN jp (cl_Rd_26 ++ rest) 26 [vR 18 42 0] [] A = blk false 3 S SN jp rest 31 [vR 18 42 0] [] (hap A [(1, 42, 4, 0)]) := rfl
def cl_Rd_31 : List EI := [e0 (.aload_n 0) 1, e0 (.iconst 0) 1, (.putfield 28, 3, 8, 5, 0, 0, 0, 0)]
theorem ck_Rd_31 (S SN : SX) (jp : Nat → NX) (rest : List EI) (A : AH) (hs : sz A = 44) : blk false 3 S SN jp (cl_Rd_31 ++ rest) 31 [vR 18 42 0] [] A = blk false 3 S SN jp rest 36 [vR 18 42 0] [] (hap A [(1, 42, 5, 0)]) := rfl
def cl_Rd_36 : List EI := [e0 (.aload_n 0) 1, e0 (.iconst 0) 1, (.putfield 31, 3, 8, 6, 0, 0, 0, 0)]
theorem ck_Rd_36 (S SN : SX) (jp : Nat → NX) (rest : List EI) (A : AH) (hs : sz A = 44) : blk false 3 S SN jp (cl_Rd_36 ++ rest) 36 [vR 18 42 0] [] A = blk false 3 S SN jp rest 41 [vR 18 42 0] [] (hap A [(1, 42, 6, 0)]) := rfl
def cl_Rd_41 : List EI := [e0 (.aload_n 0) 1, e1 (.aconst_null) 1 12, (.putfield 34, 3, 8, 7, 22, 0, 0, 0)]
theorem ck_Rd_41 (S SN : SX) (jp : Nat → NX) (rest : List EI) (A : AH) (hs : sz A = 44) : blk false 3 S SN jp (cl_Rd_41 ++ rest) 41 [vR 18 42 0] [] A = blk false 3 S SN jp rest 46 [vR 18 42 0] [] (hap A [(2, 42, 7, 0)]) := rfl
def cl_Rd_46 : List EI := [e0 (.aload_n 0) 1, e0 (.iconst 0) 1, (.putfield 38, 3, 8, 8, 0, 0, 0, 0)]
theorem ck_Rd_46 (S SN : SX) (jp : Nat → NX) (rest : List EI) (A : AH) (hs : sz A = 44) : blk false 3 S SN jp (cl_Rd_46 ++ rest) 46 [vR 18 42 0] [] A = blk false 3 S SN jp rest 51 [vR 18 42 0] [] (hap A [(1, 42, 8, 0)]) := rfl
def cl_Rd_51 : List EI := [e0 (.aload_n 0) 1, e0 (.iconst 0) 1, (.putfield 41, 3, 8, 9, 0, 0, 0, 0)]
theorem ck_Rd_51 (S SN : SX) (jp : Nat → NX) (rest : List EI) (A : AH) (hs : sz A = 44) : blk false 3 S SN jp (cl_Rd_51 ++ rest) 51 [vR 18 42 0] [] A = blk false 3 S SN jp rest 56 [vR 18 42 0] [] (hap A [(1, 42, 9, 0)]) := rfl
def cl_Rd_56 : List EI := [e0 (.aload_n 0) 1, e0 (.iconst 0) 1, (.putfield 44, 3, 8, 10, 0, 0, 0, 0)]
theorem ck_Rd_56 (S SN : SX) (jp : Nat → NX) (rest : List EI) (A : AH) (hs : sz A = 44) : blk false 3 S SN jp (cl_Rd_56 ++ rest) 56 [vR 18 42 0] [] A = blk false 3 S SN jp rest 61 [vR 18 42 0] [] (hap A [(1, 42, 10, 0)]) := rfl
def cl_Rd_61 : List EI := [e0 (.aload_n 0) 1, e0 (.iconst 0) 1, (.putfield 47, 3, 8, 11, 0, 0, 0, 0)]
theorem ck_Rd_61 (S SN : SX) (jp : Nat → NX) (rest : List EI) (A : AH) (hs : sz A = 44) : blk false 3 S SN jp (cl_Rd_61 ++ rest) 61 [vR 18 42 0] [] A = blk false 3 S SN jp rest 66 [vR 18 42 0] [] (hap A [(1, 42, 11, 0)]) := rfl
def cl_Rd_66 : List EI := [e0 (.aload_n 0) 1, e0 (.iconst (-1)) 1, (.putfield 50, 3, 8, 12, 0, 0, 0, 0)]
theorem ck_Rd_66 (S SN : SX) (jp : Nat → NX) (rest : List EI) (A : AH) (hs : sz A = 44) : blk false 3 S SN jp (cl_Rd_66 ++ rest) 66 [vR 18 42 0] [] A = blk false 3 S SN jp rest 71 [vR 18 42 0] [] (hap A [(1, 42, 12, (-1))]) := rfl
def o_Rd : List (Nat × Nat × Nat × Int) := [(0, 20, 0, 0), (2, 42, 0, 43), (1, 42, 1, 0), (1, 42, 2, 0), (1, 42, 3, 0), (1, 42, 4, 0), (1, 42, 5, 0), (1, 42, 6, 0), (2, 42, 7, 0), (1, 42, 8, 0), (1, 42, 9, 0), (1, 42, 10, 0), (1, 42, 11, 0), (1, 42, 12, (-1))]
set_option maxRecDepth 100000 in
theorem gs_Rd (S SN : SX) (n : Nat) (A : AH) : go false 3 S SN pb_X8_init (n + 1) 0 [vR 18 42 0] [] A = blk false 3 S SN (go false 3 S SN pb_X8_init n) (cl_Rd_0 ++ (cl_Rd_4 ++ (cl_Rd_11 ++ (cl_Rd_16 ++ (cl_Rd_21 ++ (cl_Rd_26 ++ (cl_Rd_31 ++ (cl_Rd_36 ++ (cl_Rd_41 ++ (cl_Rd_46 ++ (cl_Rd_51 ++ (cl_Rd_56 ++ (cl_Rd_61 ++ (cl_Rd_66 ++ [e0 .return_ 1])))))))))))))) 0 [vR 18 42 0] [] A := rfl
set_option maxRecDepth 100000 in
theorem s_init_Rd (d : Nat) (A : AH) (hs : sz A = 43) : run (d + 1) 83 [vR 18 42 0] A = some (none, hap A o_Rd) := by
  have e : run (d + 1) 83 [vR 18 42 0] A = go false 3 (run d) (run d) pb_X8_init (999999 + 1) 0 [vR 18 42 0] [] A := rfl
  rw [e, gs_Rd]
  rw [ck_Rd_0 _ _ _ _ _ hs]
  rw [ck_Rd_4 _ _ _ _ _ (by simp only [sz_hap, hs]; rfl)]
  rw [ck_Rd_11 _ _ _ _ _ (by simp only [sz_hap, hs]; rfl)]
  rw [ck_Rd_16 _ _ _ _ _ (by simp only [sz_hap, hs]; rfl)]
  rw [ck_Rd_21 _ _ _ _ _ (by simp only [sz_hap, hs]; rfl)]
  rw [ck_Rd_26 _ _ _ _ _ (by simp only [sz_hap, hs]; rfl)]
  rw [ck_Rd_31 _ _ _ _ _ (by simp only [sz_hap, hs]; rfl)]
  rw [ck_Rd_36 _ _ _ _ _ (by simp only [sz_hap, hs]; rfl)]
  rw [ck_Rd_41 _ _ _ _ _ (by simp only [sz_hap, hs]; rfl)]
  rw [ck_Rd_46 _ _ _ _ _ (by simp only [sz_hap, hs]; rfl)]
  rw [ck_Rd_51 _ _ _ _ _ (by simp only [sz_hap, hs]; rfl)]
  rw [ck_Rd_56 _ _ _ _ _ (by simp only [sz_hap, hs]; rfl)]
  rw [ck_Rd_61 _ _ _ _ _ (by simp only [sz_hap, hs]; rfl)]
  rw [ck_Rd_66 _ _ _ _ _ (by simp only [sz_hap, hs]; rfl)]
  rfl
def cl_Gr_0 : List EI := [e0 (.aload_n 0) 1, (.invokespecial 3, 3, 0, 1, 0, 9, 3, 0)]
theorem ck_Gr_0 (S SN : SX) (jp : Nat → NX) (rest : List EI) (A : AH) (hs : sz A = 45) : blk false 3 S SN jp (cl_Gr_0 ++ rest) 0 [vR 12 44 0, vR 18 42 0] [] A = blk false 3 S SN jp rest 4 [vR 12 44 0, vR 18 42 0] [] (hap A []) := rfl
def cl_Gr_4 : List EI := [e0 (.aload_n 0) 1, e0 (.iconst 0) 1, (.putfield 9, 3, 2, 1, 2, 0, 0, 0)]
theorem ck_Gr_4 (S SN : SX) (jp : Nat → NX) (rest : List EI) (A : AH) (hs : sz A = 45) : blk false 3 S SN jp (cl_Gr_4 ++ rest) 4 [vR 12 44 0, vR 18 42 0] [] A = blk false 3 S SN jp rest 9 [vR 12 44 0, vR 18 42 0] [] (hap A [(1, 44, 1, 0)]) := rfl
def cl_Gr_9 : List EI := [e0 (.aload_n 0) 1, e0 (.iconst 0) 1, (.putfield 15, 3, 2, 2, 2, 0, 0, 0)]
theorem ck_Gr_9 (S SN : SX) (jp : Nat → NX) (rest : List EI) (A : AH) (hs : sz A = 45) : blk false 3 S SN jp (cl_Gr_9 ++ rest) 9 [vR 12 44 0, vR 18 42 0] [] A = blk false 3 S SN jp rest 14 [vR 12 44 0, vR 18 42 0] [] (hap A [(1, 44, 2, 0)]) := rfl
def cl_Gr_14 : List EI := [e0 (.aload_n 0) 1, e0 (.sipush 1600) 3, e0 (.newarray .int) 2, (.putfield 18, 3, 2, 3, 30, 45, 1600, 1)]
theorem ck_Gr_14 (S SN : SX) (jp : Nat → NX) (rest : List EI) (A : AH) (hs : sz A = 45) : blk false 3 S SN jp (cl_Gr_14 ++ rest) 14 [vR 12 44 0, vR 18 42 0] [] A = blk false 3 S SN jp rest 23 [vR 12 44 0, vR 18 42 0] [] (hap A [(0, 20, 1600, 0), (2, 44, 3, 45)]) := by
  have e : blk false 3 S SN jp (cl_Gr_14 ++ rest) 14 [vR 12 44 0, vR 18 42 0] [] A = blk false 3 S SN jp rest 23 [vR 12 44 0, vR 18 42 0] [] (wr (nw A 20 1600) 44 3 (sz A)) := rfl
  rw [hs] at e
  exact e
def cl_Gr_23 : List EI := [e0 (.aload_n 0) 1, e0 (.iconst 0) 1, (.putfield 22, 3, 2, 4, 0, 0, 0, 0)]
theorem ck_Gr_23 (S SN : SX) (jp : Nat → NX) (rest : List EI) (A : AH) (hs : sz A = 46) : blk false 3 S SN jp (cl_Gr_23 ++ rest) 23 [vR 12 44 0, vR 18 42 0] [] A = blk false 3 S SN jp rest 28 [vR 12 44 0, vR 18 42 0] [] (hap A [(1, 44, 4, 0)]) := rfl
def cl_Gr_28 : List EI := [e0 (.aload_n 0) 1, e0 (.aload_n 1) 1, (.putfield 26, 3, 2, 0, 18, 42, 0, 1)]
theorem ck_Gr_28 (S SN : SX) (jp : Nat → NX) (rest : List EI) (A : AH) (hs : sz A = 46) : blk false 3 S SN jp (cl_Gr_28 ++ rest) 28 [vR 12 44 0, vR 18 42 0] [] A = blk false 3 S SN jp rest 33 [vR 12 44 0, vR 18 42 0] [] (hap A [(2, 44, 0, 42)]) := rfl
def o_Gr : List (Nat × Nat × Nat × Int) := [(1, 44, 1, 0), (1, 44, 2, 0), (0, 20, 1600, 0), (2, 44, 3, 45), (1, 44, 4, 0), (2, 44, 0, 42)]
set_option maxRecDepth 100000 in
theorem gs_Gr (S SN : SX) (n : Nat) (A : AH) : go false 3 S SN pb_X2_init (n + 1) 0 [vR 12 44 0, vR 18 42 0] [] A = blk false 3 S SN (go false 3 S SN pb_X2_init n) (cl_Gr_0 ++ (cl_Gr_4 ++ (cl_Gr_9 ++ (cl_Gr_14 ++ (cl_Gr_23 ++ (cl_Gr_28 ++ [e0 .return_ 1])))))) 0 [vR 12 44 0, vR 18 42 0] [] A := rfl
set_option maxRecDepth 100000 in
theorem s_init_Gr (d : Nat) (A : AH) (hs : sz A = 45) : run (d + 1) 30 [vR 12 44 0, vR 18 42 0] A = some (none, hap A o_Gr) := by
  have e : run (d + 1) 30 [vR 12 44 0, vR 18 42 0] A = go false 3 (run d) (run d) pb_X2_init (999999 + 1) 0 [vR 12 44 0, vR 18 42 0] [] A := rfl
  rw [e, gs_Gr]
  rw [ck_Gr_0 _ _ _ _ _ hs]
  rw [ck_Gr_4 _ _ _ _ _ (by simp only [sz_hap, hs]; rfl)]
  rw [ck_Gr_9 _ _ _ _ _ (by simp only [sz_hap, hs]; rfl)]
  rw [ck_Gr_14 _ _ _ _ _ (by simp only [sz_hap, hs]; rfl)]
  rw [ck_Gr_23 _ _ _ _ _ (by simp only [sz_hap, hs]; rfl)]
  rw [ck_Gr_28 _ _ _ _ _ (by simp only [sz_hap, hs]; rfl)]
  rfl
