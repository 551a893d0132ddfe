/-! the class, made -/
def cl_Rd_0 : List EI := [e0 (.aload_n 0) 1, (.invokespecial 3, 3, 0, 1, 0, 9, 3, 0)]
theorem ck_Rd_0 (S SN : SX) (jp : Nat → NX) (rest : List EI) (A : AH) (hs : sz A = 43) : blk false 3 S SN jp (cl_Rd_0 ++ rest) 0 [vR 18 42 0] [] A = blk false 3 S SN jp rest 4 [vR 18 42 0] [] (hap A []) := rfl
def cl_Rd_4 : List EI := [e0 (.aload_n 0) 1, e0 (.iconst 0) 1, e0 (.newarray .int) 2, (.putfield 9, 3, 8, 0, 30, 0, 0, 0)]
theorem ck_Rd_4 (S SN : SX) (jp : Nat → NX) (rest : List EI) (A : AH) (hs : sz A = 43) : blk false 3 S SN jp (cl_Rd_4 ++ rest) 4 [vR 18 42 0] [] A = blk false 3 S SN jp rest 11 [vR 18 42 0] [] (hap A [(0, 20, 0, 0), (2, 42, 0, 43)]) := by
  have e : blk false 3 S SN jp (cl_Rd_4 ++ rest) 4 [vR 18 42 0] [] A = blk false 3 S SN jp rest 11 [vR 18 42 0] [] (wr (nw A 20 0) 42 0 (sz A)) := rfl
  rw [hs] at e
  exact e
def cl_Rd_11 : List EI := [e0 (.aload_n 0) 1, e0 (.iconst 0) 1, (.putfield 15, 3, 8, 1, 0, 0, 0, 0)]
theorem ck_Rd_11 (S SN : SX) (jp : Nat → NX) (rest : List EI) (A : AH) (hs : sz A = 44) : blk false 3 S SN jp (cl_Rd_11 ++ rest) 11 [vR 18 42 0] [] A = blk false 3 S SN jp rest 16 [vR 18 42 0] [] (hap A [(1, 42, 1, 0)]) := rfl
def cl_Rd_16 : List EI := [e0 (.aload_n 0) 1, e0 (.iconst 0) 1, (.putfield 19, 3, 8, 2, 0, 0, 0, 0)]
theorem ck_Rd_16 (S SN : SX) (jp : Nat → NX) (rest : List EI) (A : AH) (hs : sz A = 44) : blk false 3 S SN jp (cl_Rd_16 ++ rest) 16 [vR 18 42 0] [] A = blk false 3 S SN jp rest 21 [vR 18 42 0] [] (hap A [(1, 42, 2, 0)]) := rfl
def cl_Rd_21 : List EI := [e0 (.aload_n 0) 1, e0 (.iconst 0) 1, (.putfield 22, 3, 8, 3, 0, 0, 0, 0)]
theorem ck_Rd_21 (S SN : SX) (jp : Nat → NX) (rest : List EI) (A : AH) (hs : sz A = 44) : blk false 3 S SN jp (cl_Rd_21 ++ rest) 21 [vR 18 42 0] [] A = blk false 3 S SN jp rest 26 [vR 18 42 0] [] (hap A [(1, 42, 3, 0)]) := rfl
def cl_Rd_26 : List EI := [e0 (.aload_n 0) 1, e0 (.iconst 0) 1, (.putfield 25, 3, 8, 4, 0, 0, 0, 0)]
theorem ck_Rd_26 (S SN : SX) (jp : Nat → NX) (rest : List EI) (A : AH) (hs : sz A = 44) : blk false 3 S SN jp (cl_Rd_26 ++ rest) 26 [vR 18 42 0] [] A = blk false 3 S SN jp rest 31 [vR 18 42 0] [] (hap A [(1, 42, 4, 0)]) := rfl
def cl_Rd_31 : List EI := [e0 (.aload_n 0) 1, e0 (.iconst 0) 1, (.putfield 28, 3, 8, 5, 0, 0, 0, 0)]
theorem ck_Rd_31 (S SN : SX) (jp : Nat → NX) (rest : List EI) (A : AH) (hs : sz A = 44) : blk false 3 S SN jp (cl_Rd_31 ++ rest) 31 [vR 18 42 0] [] A = blk false 3 S SN jp rest 36 [vR 18 42 0] [] (hap A [(1, 42, 5, 0)]) := rfl
def cl_Rd_36 : List EI := [e0 (.aload_n 0) 1, e0 (.iconst 0) 1, (.putfield 31, 3, 8, 6, 0, 0, 0, 0)]
theorem ck_Rd_36 (S SN : SX) (jp : Nat → NX) (rest : List EI) (A : AH) (hs : sz A = 44) : blk false 3 S SN jp (cl_Rd_36 ++ rest) 36 [vR 18 42 0] [] A = blk false 3 S SN jp rest 41 [vR 18 42 0] [] (hap A [(1, 42, 6, 0)]) := rfl
def cl_Rd_41 : List EI := [e0 (.aload_n 0) 1, e1 (.aconst_null) 1 12, (.putfield 34, 3, 8, 7, 22, 0, 0, 0)]
theorem ck_Rd_41 (S SN : SX) (jp : Nat → NX) (rest : List EI) (A : AH) (hs : sz A = 44) : blk false 3 S SN jp (cl_Rd_41 ++ rest) 41 [vR 18 42 0] [] A = blk false 3 S SN jp rest 46 [vR 18 42 0] [] (hap A [(2, 42, 7, 0)]) := rfl
def cl_Rd_46 : List EI := [e0 (.aload_n 0) 1, e0 (.iconst 0) 1, (.putfield 38, 3, 8, 8, 0, 0, 0, 0)]
theorem ck_Rd_46 (S SN : SX) (jp : Nat → NX) (rest : List EI) (A : AH) (hs : sz A = 44) : blk false 3 S SN jp (cl_Rd_46 ++ rest) 46 [vR 18 42 0] [] A = blk false 3 S SN jp rest 51 [vR 18 42 0] [] (hap A [(1, 42, 8, 0)]) := rfl
def cl_Rd_51 : List EI := [e0 (.aload_n 0) 1, e0 (.iconst 0) 1, (.putfield 41, 3, 8, 9, 0, 0, 0, 0)]
theorem ck_Rd_51 (S SN : SX) (jp : Nat → NX) (rest : List EI) (A : AH) (hs : sz A = 44) : blk false 3 S SN jp (cl_Rd_51 ++ rest) 51 [vR 18 42 0] [] A = blk false 3 S SN jp rest 56 [vR 18 42 0] [] (hap A [(1, 42, 9, 0)]) := rfl
def cl_Rd_56 : List EI := [e0 (.aload_n 0) 1, e0 (.iconst 0) 1, (.putfield 44, 3, 8, 10, 0, 0, 0, 0)]
theorem ck_Rd_56 (S SN : SX) (jp : Nat → NX) (rest : List EI) (A : AH) (hs : sz A = 44) : blk false 3 S SN jp (cl_Rd_56 ++ rest) 56 [vR 18 42 0] [] A = blk false 3 S SN jp rest 61 [vR 18 42 0] [] (hap A [(1, 42, 10, 0)]) := rfl
def cl_Rd_61 : List EI := [e0 (.aload_n 0) 1, e0 (.iconst 0) 1, (.putfield 47, 3, 8, 11, 0, 0, 0, 0)]
theorem ck_Rd_61 (S SN : SX) (jp : Nat → NX) (rest : List EI) (A : AH) (hs : sz A = 44) : blk false 3 S SN jp (cl_Rd_61 ++ rest) 61 [vR 18 42 0] [] A = blk false 3 S SN jp rest 66 [vR 18 42 0] [] (hap A [(1, 42, 11, 0)]) := rfl
def cl_Rd_66 : List EI := [e0 (.aload_n 0) 1, e0 (.iconst (-1)) 1, (.putfield 50, 3, 8, 12, 0, 0, 0, 0)]
theorem ck_Rd_66 (S SN : SX) (jp : Nat → NX) (rest : List EI) (A : AH) (hs : sz A = 44) : blk false 3 S SN jp (cl_Rd_66 ++ rest) 66 [vR 18 42 0] [] A = blk false 3 S SN jp rest 71 [vR 18 42 0] [] (hap A [(1, 42, 12, (-1))]) := rfl
def o_Rd : List (Nat × Nat × Nat × Int) := [(0, 20, 0, 0), (2, 42, 0, 43), (1, 42, 1, 0), (1, 42, 2, 0), (1, 42, 3, 0), (1, 42, 4, 0), (1, 42, 5, 0), (1, 42, 6, 0), (2, 42, 7, 0), (1, 42, 8, 0), (1, 42, 9, 0), (1, 42, 10, 0), (1, 42, 11, 0), (1, 42, 12, (-1))]
set_option maxRecDepth 100000 in
set_option maxRecDepth 100000 in
theorem s_init_Rd (d : Nat) (A : AH) (hs : sz A = 43) : run (d + 1) 83 [vR 18 42 0] A = some (none, hap A o_Rd) := by
  have e : run (d + 1) 83 [vR 18 42 0] A = blk false 3 (run d) (run d) (go false 3 (run d) (run d) pb_X8_init 999999) (cl_Rd_0 ++ (cl_Rd_4 ++ (cl_Rd_11 ++ (cl_Rd_16 ++ (cl_Rd_21 ++ (cl_Rd_26 ++ (cl_Rd_31 ++ (cl_Rd_36 ++ (cl_Rd_41 ++ (cl_Rd_46 ++ (cl_Rd_51 ++ (cl_Rd_56 ++ (cl_Rd_61 ++ (cl_Rd_66 ++ [e0 .return_ 1])))))))))))))) 0 [vR 18 42 0] [] A := rfl
  rw [e]
  rw [ck_Rd_0 _ _ _ _ _ hs]
  rw [ck_Rd_4 _ _ _ _ _ (by simp only [sz_hap, hs]; rfl)]
  rw [ck_Rd_11 _ _ _ _ _ (by simp only [sz_hap, hs]; rfl)]
  rw [ck_Rd_16 _ _ _ _ _ (by simp only [sz_hap, hs]; rfl)]
  rw [ck_Rd_21 _ _ _ _ _ (by simp only [sz_hap, hs]; rfl)]
  rw [ck_Rd_26 _ _ _ _ _ (by simp only [sz_hap, hs]; rfl)]
  rw [ck_Rd_31 _ _ _ _ _ (by simp only [sz_hap, hs]; rfl)]
  rw [ck_Rd_36 _ _ _ _ _ (by simp only [sz_hap, hs]; rfl)]
  rw [ck_Rd_41 _ _ _ _ _ (by simp only [sz_hap, hs]; rfl)]
  rw [ck_Rd_46 _ _ _ _ _ (by simp only [sz_hap, hs]; rfl)]
  rw [ck_Rd_51 _ _ _ _ _ (by simp only [sz_hap, hs]; rfl)]
  rw [ck_Rd_56 _ _ _ _ _ (by simp only [sz_hap, hs]; rfl)]
  rw [ck_Rd_61 _ _ _ _ _ (by simp only [sz_hap, hs]; rfl)]
  rw [ck_Rd_66 _ _ _ _ _ (by simp only [sz_hap, hs]; rfl)]
  rfl
def cl_Gr_0 : List EI := [e0 (.aload_n 0) 1, (.invokespecial 3, 3, 0, 1, 0, 9, 3, 0)]
theorem ck_Gr_0 (S SN : SX) (jp : Nat → NX) (rest : List EI) (A : AH) (hs : sz A = 45) : blk false 3 S SN jp (cl_Gr_0 ++ rest) 0 [vR 12 44 0, vR 18 42 0] [] A = blk false 3 S SN jp rest 4 [vR 12 44 0, vR 18 42 0] [] (hap A []) := rfl
def cl_Gr_4 : List EI := [e0 (.aload_n 0) 1, e0 (.iconst 0) 1, (.putfield 9, 3, 2, 1, 2, 0, 0, 0)]
theorem ck_Gr_4 (S SN : SX) (jp : Nat → NX) (rest : List EI) (A : AH) (hs : sz A = 45) : blk false 3 S SN jp (cl_Gr_4 ++ rest) 4 [vR 12 44 0, vR 18 42 0] [] A = blk false 3 S SN jp rest 9 [vR 12 44 0, vR 18 42 0] [] (hap A [(1, 44, 1, 0)]) := rfl
def cl_Gr_9 : List EI := [e0 (.aload_n 0) 1, e0 (.iconst 0) 1, (.putfield 15, 3, 2, 2, 2, 0, 0, 0)]
theorem ck_Gr_9 (S SN : SX) (jp : Nat → NX) (rest : List EI) (A : AH) (hs : sz A = 45) : blk false 3 S SN jp (cl_Gr_9 ++ rest) 9 [vR 12 44 0, vR 18 42 0] [] A = blk false 3 S SN jp rest 14 [vR 12 44 0, vR 18 42 0] [] (hap A [(1, 44, 2, 0)]) := rfl
def cl_Gr_14 : List EI := [e0 (.aload_n 0) 1, e0 (.sipush 1600) 3, e0 (.newarray .int) 2, (.putfield 18, 3, 2, 3, 30, 45, 1600, 1)]
theorem ck_Gr_14 (S SN : SX) (jp : Nat → NX) (rest : List EI) (A : AH) (hs : sz A = 45) : blk false 3 S SN jp (cl_Gr_14 ++ rest) 14 [vR 12 44 0, vR 18 42 0] [] A = blk false 3 S SN jp rest 23 [vR 12 44 0, vR 18 42 0] [] (hap A [(0, 20, 1600, 0), (2, 44, 3, 45)]) := by
  have e : blk false 3 S SN jp (cl_Gr_14 ++ rest) 14 [vR 12 44 0, vR 18 42 0] [] A = blk false 3 S SN jp rest 23 [vR 12 44 0, vR 18 42 0] [] (wr (nw A 20 1600) 44 3 (sz A)) := rfl
  rw [hs] at e
  exact e
def cl_Gr_23 : List EI := [e0 (.aload_n 0) 1, e0 (.iconst 0) 1, (.putfield 22, 3, 2, 4, 0, 0, 0, 0)]
theorem ck_Gr_23 (S SN : SX) (jp : Nat → NX) (rest : List EI) (A : AH) (hs : sz A = 46) : blk false 3 S SN jp (cl_Gr_23 ++ rest) 23 [vR 12 44 0, vR 18 42 0] [] A = blk false 3 S SN jp rest 28 [vR 12 44 0, vR 18 42 0] [] (hap A [(1, 44, 4, 0)]) := rfl
def cl_Gr_28 : List EI := [e0 (.aload_n 0) 1, e0 (.aload_n 1) 1, (.putfield 26, 3, 2, 0, 18, 42, 0, 1)]
theorem ck_Gr_28 (S SN : SX) (jp : Nat → NX) (rest : List EI) (A : AH) (hs : sz A = 46) : blk false 3 S SN jp (cl_Gr_28 ++ rest) 28 [vR 12 44 0, vR 18 42 0] [] A = blk false 3 S SN jp rest 33 [vR 12 44 0, vR 18 42 0] [] (hap A [(2, 44, 0, 42)]) := rfl
def o_Gr : List (Nat × Nat × Nat × Int) := [(1, 44, 1, 0), (1, 44, 2, 0), (0, 20, 1600, 0), (2, 44, 3, 45), (1, 44, 4, 0), (2, 44, 0, 42)]
set_option maxRecDepth 100000 in
set_option maxRecDepth 100000 in
theorem s_init_Gr (d : Nat) (A : AH) (hs : sz A = 45) : run (d + 1) 30 [vR 12 44 0, vR 18 42 0] A = some (none, hap A o_Gr) := by
  have e : run (d + 1) 30 [vR 12 44 0, vR 18 42 0] A = blk false 3 (run d) (run d) (go false 3 (run d) (run d) pb_X2_init 999999) (cl_Gr_0 ++ (cl_Gr_4 ++ (cl_Gr_9 ++ (cl_Gr_14 ++ (cl_Gr_23 ++ (cl_Gr_28 ++ [e0 .return_ 1])))))) 0 [vR 12 44 0, vR 18 42 0] [] A := rfl
  rw [e]
  rw [ck_Gr_0 _ _ _ _ _ hs]
  rw [ck_Gr_4 _ _ _ _ _ (by simp only [sz_hap, hs]; rfl)]
  rw [ck_Gr_9 _ _ _ _ _ (by simp only [sz_hap, hs]; rfl)]
  rw [ck_Gr_14 _ _ _ _ _ (by simp only [sz_hap, hs]; rfl)]
  rw [ck_Gr_23 _ _ _ _ _ (by simp only [sz_hap, hs]; rfl)]
  rw [ck_Gr_28 _ _ _ _ _ (by simp only [sz_hap, hs]; rfl)]
  rfl
def cl_H1_0 : List EI := [e0 (.aload_n 0) 1, (.invokespecial 3, 3, 0, 1, 0, 9, 3, 0)]
theorem ck_H1_0 (S SN : SX) (jp : Nat → NX) (rest : List EI) (A : AH) (hs : sz A = 49) : blk false 3 S SN jp (cl_H1_0 ++ rest) 0 [vR 13 48 0] [] A = blk false 3 S SN jp rest 4 [vR 13 48 0] [] (hap A []) := rfl
def cl_H1_4 : List EI := [e0 (.aload_n 0) 1, e0 (.iconst 0) 1, e1 (.putfield 9) 3 3]
theorem ck_H1_4 (S SN : SX) (jp : Nat → NX) (rest : List EI) (A : AH) (hs : sz A = 49) : blk false 3 S SN jp (cl_H1_4 ++ rest) 4 [vR 13 48 0] [] A = blk false 3 S SN jp rest 9 [vR 13 48 0] [] (hap A [(1, 48, 0, 0)]) := rfl
def cl_H1_9 : List EI := [e0 (.aload_n 0) 1, e0 (.iconst 0) 1, (.putfield 15, 3, 3, 1, 0, 0, 0, 0)]
theorem ck_H1_9 (S SN : SX) (jp : Nat → NX) (rest : List EI) (A : AH) (hs : sz A = 49) : blk false 3 S SN jp (cl_H1_9 ++ rest) 9 [vR 13 48 0] [] A = blk false 3 S SN jp rest 14 [vR 13 48 0] [] (hap A [(1, 48, 1, 0)]) := rfl
def cl_H1_14 : List EI := [e0 (.aload_n 0) 1, e0 (.iconst 0) 1, (.putfield 18, 3, 3, 2, 0, 0, 0, 0)]
theorem ck_H1_14 (S SN : SX) (jp : Nat → NX) (rest : List EI) (A : AH) (hs : sz A = 49) : blk false 3 S SN jp (cl_H1_14 ++ rest) 14 [vR 13 48 0] [] A = blk false 3 S SN jp rest 19 [vR 13 48 0] [] (hap A [(1, 48, 2, 0)]) := rfl
def cl_H1_19 : List EI := [e0 (.aload_n 0) 1, e0 (.iconst 0) 1, (.putfield 21, 3, 3, 3, 0, 0, 0, 0)]
theorem ck_H1_19 (S SN : SX) (jp : Nat → NX) (rest : List EI) (A : AH) (hs : sz A = 49) : blk false 3 S SN jp (cl_H1_19 ++ rest) 19 [vR 13 48 0] [] A = blk false 3 S SN jp rest 24 [vR 13 48 0] [] (hap A [(1, 48, 3, 0)]) := rfl
def cl_H1_24 : List EI := [e0 (.aload_n 0) 1, e0 (.iconst 0) 1, (.putfield 24, 3, 3, 4, 0, 0, 0, 0)]
theorem ck_H1_24 (S SN : SX) (jp : Nat → NX) (rest : List EI) (A : AH) (hs : sz A = 49) : blk false 3 S SN jp (cl_H1_24 ++ rest) 24 [vR 13 48 0] [] A = blk false 3 S SN jp rest 29 [vR 13 48 0] [] (hap A [(1, 48, 4, 0)]) := rfl
def cl_H1_29 : List EI := [e0 (.aload_n 0) 1, e0 (.iconst 0) 1, (.putfield 27, 3, 3, 5, 0, 0, 0, 0)]
theorem ck_H1_29 (S SN : SX) (jp : Nat → NX) (rest : List EI) (A : AH) (hs : sz A = 49) : blk false 3 S SN jp (cl_H1_29 ++ rest) 29 [vR 13 48 0] [] A = blk false 3 S SN jp rest 34 [vR 13 48 0] [] (hap A [(1, 48, 5, 0)]) := rfl
def cl_H1_34 : List EI := [e0 (.aload_n 0) 1, e0 (.iconst 0) 1, (.putfield 30, 3, 3, 6, 0, 0, 0, 0)]
theorem ck_H1_34 (S SN : SX) (jp : Nat → NX) (rest : List EI) (A : AH) (hs : sz A = 49) : blk false 3 S SN jp (cl_H1_34 ++ rest) 34 [vR 13 48 0] [] A = blk false 3 S SN jp rest 39 [vR 13 48 0] [] (hap A [(1, 48, 6, 0)]) := rfl
def cl_H1_39 : List EI := [e0 (.aload_n 0) 1, e0 (.bipush 20) 2, e0 (.newarray .int) 2, (.putfield 33, 3, 3, 7, 30, 1, 20, 0)]
theorem ck_H1_39 (S SN : SX) (jp : Nat → NX) (rest : List EI) (A : AH) (hs : sz A = 49) : blk false 3 S SN jp (cl_H1_39 ++ rest) 39 [vR 13 48 0] [] A = blk false 3 S SN jp rest 47 [vR 13 48 0] [] (hap A [(0, 20, 20, 0), (2, 48, 7, 49)]) := by
  have e : blk false 3 S SN jp (cl_H1_39 ++ rest) 39 [vR 13 48 0] [] A = blk false 3 S SN jp rest 47 [vR 13 48 0] [] (wr (nw A 20 20) 48 7 (sz A)) := rfl
  rw [hs] at e
  exact e
def cl_H1_47 : List EI := [e0 (.aload_n 0) 1, e0 (.bipush 16) 2, e0 (.newarray .int) 2, (.putfield 37, 3, 3, 8, 30, 2, 16, 0)]
theorem ck_H1_47 (S SN : SX) (jp : Nat → NX) (rest : List EI) (A : AH) (hs : sz A = 50) : blk false 3 S SN jp (cl_H1_47 ++ rest) 47 [vR 13 48 0] [] A = blk false 3 S SN jp rest 55 [vR 13 48 0] [] (hap A [(0, 20, 16, 0), (2, 48, 8, 50)]) := by
  have e : blk false 3 S SN jp (cl_H1_47 ++ rest) 47 [vR 13 48 0] [] A = blk false 3 S SN jp rest 55 [vR 13 48 0] [] (wr (nw A 20 16) 48 8 (sz A)) := rfl
  rw [hs] at e
  exact e
def cl_H1_55 : List EI := [e0 (.aload_n 0) 1, e0 (.bipush 16) 2, e0 (.newarray .int) 2, (.putfield 40, 3, 3, 9, 30, 3, 16, 0)]
theorem ck_H1_55 (S SN : SX) (jp : Nat → NX) (rest : List EI) (A : AH) (hs : sz A = 51) : blk false 3 S SN jp (cl_H1_55 ++ rest) 55 [vR 13 48 0] [] A = blk false 3 S SN jp rest 63 [vR 13 48 0] [] (hap A [(0, 20, 16, 0), (2, 48, 9, 51)]) := by
  have e : blk false 3 S SN jp (cl_H1_55 ++ rest) 55 [vR 13 48 0] [] A = blk false 3 S SN jp rest 63 [vR 13 48 0] [] (wr (nw A 20 16) 48 9 (sz A)) := rfl
  rw [hs] at e
  exact e
def cl_H1_63 : List EI := [e0 (.aload_n 0) 1, e0 (.bipush 8) 2, e0 (.newarray .int) 2, (.putfield 43, 3, 3, 10, 30, 4, 8, 0)]
theorem ck_H1_63 (S SN : SX) (jp : Nat → NX) (rest : List EI) (A : AH) (hs : sz A = 52) : blk false 3 S SN jp (cl_H1_63 ++ rest) 63 [vR 13 48 0] [] A = blk false 3 S SN jp rest 71 [vR 13 48 0] [] (hap A [(0, 20, 8, 0), (2, 48, 10, 52)]) := by
  have e : blk false 3 S SN jp (cl_H1_63 ++ rest) 63 [vR 13 48 0] [] A = blk false 3 S SN jp rest 71 [vR 13 48 0] [] (wr (nw A 20 8) 48 10 (sz A)) := rfl
  rw [hs] at e
  exact e
def cl_H1_71 : List EI := [e0 (.aload_n 0) 1, e0 (.bipush 8) 2, e0 (.newarray .int) 2, (.putfield 46, 3, 3, 11, 30, 5, 8, 0)]
theorem ck_H1_71 (S SN : SX) (jp : Nat → NX) (rest : List EI) (A : AH) (hs : sz A = 53) : blk false 3 S SN jp (cl_H1_71 ++ rest) 71 [vR 13 48 0] [] A = blk false 3 S SN jp rest 79 [vR 13 48 0] [] (hap A [(0, 20, 8, 0), (2, 48, 11, 53)]) := by
  have e : blk false 3 S SN jp (cl_H1_71 ++ rest) 71 [vR 13 48 0] [] A = blk false 3 S SN jp rest 79 [vR 13 48 0] [] (wr (nw A 20 8) 48 11 (sz A)) := rfl
  rw [hs] at e
  exact e
def cl_H1_79 : List EI := [e0 (.aload_n 0) 1, e0 (.bipush 6) 2, e0 (.newarray .int) 2, (.putfield 49, 3, 3, 12, 30, 6, 6, 0)]
theorem ck_H1_79 (S SN : SX) (jp : Nat → NX) (rest : List EI) (A : AH) (hs : sz A = 54) : blk false 3 S SN jp (cl_H1_79 ++ rest) 79 [vR 13 48 0] [] A = blk false 3 S SN jp rest 87 [vR 13 48 0] [] (hap A [(0, 20, 6, 0), (2, 48, 12, 54)]) := by
  have e : blk false 3 S SN jp (cl_H1_79 ++ rest) 79 [vR 13 48 0] [] A = blk false 3 S SN jp rest 87 [vR 13 48 0] [] (wr (nw A 20 6) 48 12 (sz A)) := rfl
  rw [hs] at e
  exact e
def cl_H1_87 : List EI := [e0 (.aload_n 0) 1, e0 (.bipush 8) 2, e0 (.newarray .int) 2, (.putfield 52, 3, 3, 13, 30, 7, 8, 0)]
theorem ck_H1_87 (S SN : SX) (jp : Nat → NX) (rest : List EI) (A : AH) (hs : sz A = 55) : blk false 3 S SN jp (cl_H1_87 ++ rest) 87 [vR 13 48 0] [] A = blk false 3 S SN jp rest 95 [vR 13 48 0] [] (hap A [(0, 20, 8, 0), (2, 48, 13, 55)]) := by
  have e : blk false 3 S SN jp (cl_H1_87 ++ rest) 87 [vR 13 48 0] [] A = blk false 3 S SN jp rest 95 [vR 13 48 0] [] (wr (nw A 20 8) 48 13 (sz A)) := rfl
  rw [hs] at e
  exact e
def cl_H1_95 : List EI := [e0 (.aload_n 0) 1, e0 (.bipush 18) 2, e0 (.newarray .int) 2, (.putfield 55, 3, 3, 14, 30, 8, 18, 0)]
theorem ck_H1_95 (S SN : SX) (jp : Nat → NX) (rest : List EI) (A : AH) (hs : sz A = 56) : blk false 3 S SN jp (cl_H1_95 ++ rest) 95 [vR 13 48 0] [] A = blk false 3 S SN jp rest 103 [vR 13 48 0] [] (hap A [(0, 20, 18, 0), (2, 48, 14, 56)]) := by
  have e : blk false 3 S SN jp (cl_H1_95 ++ rest) 95 [vR 13 48 0] [] A = blk false 3 S SN jp rest 103 [vR 13 48 0] [] (wr (nw A 20 18) 48 14 (sz A)) := rfl
  rw [hs] at e
  exact e
def cl_H1_103 : List EI := [e0 (.aload_n 0) 1, e0 (.bipush 16) 2, e0 (.newarray .int) 2, (.putfield 58, 3, 3, 15, 30, 9, 16, 0)]
theorem ck_H1_103 (S SN : SX) (jp : Nat → NX) (rest : List EI) (A : AH) (hs : sz A = 57) : blk false 3 S SN jp (cl_H1_103 ++ rest) 103 [vR 13 48 0] [] A = blk false 3 S SN jp rest 111 [vR 13 48 0] [] (hap A [(0, 20, 16, 0), (2, 48, 15, 57)]) := by
  have e : blk false 3 S SN jp (cl_H1_103 ++ rest) 103 [vR 13 48 0] [] A = blk false 3 S SN jp rest 111 [vR 13 48 0] [] (wr (nw A 20 16) 48 15 (sz A)) := rfl
  rw [hs] at e
  exact e
def cl_H1_111 : List EI := [e0 (.aload_n 0) 1, e1 (.aconst_null) 1 20, (.putfield 61, 3, 3, 16, 30, 0, 0, 0)]
theorem ck_H1_111 (S SN : SX) (jp : Nat → NX) (rest : List EI) (A : AH) (hs : sz A = 58) : blk false 3 S SN jp (cl_H1_111 ++ rest) 111 [vR 13 48 0] [] A = blk false 3 S SN jp rest 116 [vR 13 48 0] [] (hap A [(2, 48, 16, 0)]) := rfl
def cl_H1_116 : List EI := [e0 (.aload_n 0) 1, e1 (.aconst_null) 1 20, (.putfield 64, 3, 3, 17, 30, 0, 0, 0)]
theorem ck_H1_116 (S SN : SX) (jp : Nat → NX) (rest : List EI) (A : AH) (hs : sz A = 58) : blk false 3 S SN jp (cl_H1_116 ++ rest) 116 [vR 13 48 0] [] A = blk false 3 S SN jp rest 121 [vR 13 48 0] [] (hap A [(2, 48, 17, 0)]) := rfl
def cl_H1_121 : List EI := [e0 (.aload_n 0) 1, e0 (.iconst 0) 1, (.putfield 67, 3, 3, 18, 2, 0, 0, 0)]
theorem ck_H1_121 (S SN : SX) (jp : Nat → NX) (rest : List EI) (A : AH) (hs : sz A = 58) : blk false 3 S SN jp (cl_H1_121 ++ rest) 121 [vR 13 48 0] [] A = blk false 3 S SN jp rest 126 [vR 13 48 0] [] (hap A [(1, 48, 18, 0)]) := rfl
def o_H1 : List (Nat × Nat × Nat × Int) := [(1, 48, 0, 0), (1, 48, 1, 0), (1, 48, 2, 0), (1, 48, 3, 0), (1, 48, 4, 0), (1, 48, 5, 0), (1, 48, 6, 0), (0, 20, 20, 0), (2, 48, 7, 49), (0, 20, 16, 0), (2, 48, 8, 50), (0, 20, 16, 0), (2, 48, 9, 51), (0, 20, 8, 0), (2, 48, 10, 52), (0, 20, 8, 0), (2, 48, 11, 53), (0, 20, 6, 0), (2, 48, 12, 54), (0, 20, 8, 0), (2, 48, 13, 55), (0, 20, 18, 0), (2, 48, 14, 56), (0, 20, 16, 0), (2, 48, 15, 57), (2, 48, 16, 0), (2, 48, 17, 0), (1, 48, 18, 0)]
set_option maxRecDepth 100000 in
set_option maxRecDepth 100000 in
theorem s_init_H1 (d : Nat) (A : AH) (hs : sz A = 49) : run (d + 1) 42 [vR 13 48 0] A = some (none, hap A o_H1) := by
  have e : run (d + 1) 42 [vR 13 48 0] A = blk false 3 (run d) (run d) (go false 3 (run d) (run d) pb_X3_init 999999) (cl_H1_0 ++ (cl_H1_4 ++ (cl_H1_9 ++ (cl_H1_14 ++ (cl_H1_19 ++ (cl_H1_24 ++ (cl_H1_29 ++ (cl_H1_34 ++ (cl_H1_39 ++ (cl_H1_47 ++ (cl_H1_55 ++ (cl_H1_63 ++ (cl_H1_71 ++ (cl_H1_79 ++ (cl_H1_87 ++ (cl_H1_95 ++ (cl_H1_103 ++ (cl_H1_111 ++ (cl_H1_116 ++ (cl_H1_121 ++ [e0 .return_ 1])))))))))))))))))))) 0 [vR 13 48 0] [] A := rfl
  rw [e]
  rw [ck_H1_0 _ _ _ _ _ hs]
  rw [ck_H1_4 _ _ _ _ _ (by simp only [sz_hap, hs]; rfl)]
  rw [ck_H1_9 _ _ _ _ _ (by simp only [sz_hap, hs]; rfl)]
  rw [ck_H1_14 _ _ _ _ _ (by simp only [sz_hap, hs]; rfl)]
  rw [ck_H1_19 _ _ _ _ _ (by simp only [sz_hap, hs]; rfl)]
  rw [ck_H1_24 _ _ _ _ _ (by simp only [sz_hap, hs]; rfl)]
  rw [ck_H1_29 _ _ _ _ _ (by simp only [sz_hap, hs]; rfl)]
  rw [ck_H1_34 _ _ _ _ _ (by simp only [sz_hap, hs]; rfl)]
  rw [ck_H1_39 _ _ _ _ _ (by simp only [sz_hap, hs]; rfl)]
  rw [ck_H1_47 _ _ _ _ _ (by simp only [sz_hap, hs]; rfl)]
  rw [ck_H1_55 _ _ _ _ _ (by simp only [sz_hap, hs]; rfl)]
  rw [ck_H1_63 _ _ _ _ _ (by simp only [sz_hap, hs]; rfl)]
  rw [ck_H1_71 _ _ _ _ _ (by simp only [sz_hap, hs]; rfl)]
  rw [ck_H1_79 _ _ _ _ _ (by simp only [sz_hap, hs]; rfl)]
  rw [ck_H1_87 _ _ _ _ _ (by simp only [sz_hap, hs]; rfl)]
  rw [ck_H1_95 _ _ _ _ _ (by simp only [sz_hap, hs]; rfl)]
  rw [ck_H1_103 _ _ _ _ _ (by simp only [sz_hap, hs]; rfl)]
  rw [ck_H1_111 _ _ _ _ _ (by simp only [sz_hap, hs]; rfl)]
  rw [ck_H1_116 _ _ _ _ _ (by simp only [sz_hap, hs]; rfl)]
  rw [ck_H1_121 _ _ _ _ _ (by simp only [sz_hap, hs]; rfl)]
  rfl
def cl_H2_0 : List EI := [e0 (.aload_n 0) 1, (.invokespecial 3, 3, 0, 1, 0, 9, 3, 0)]
theorem ck_H2_0 (S SN : SX) (jp : Nat → NX) (rest : List EI) (A : AH) (hs : sz A = 59) : blk false 3 S SN jp (cl_H2_0 ++ rest) 0 [vR 13 58 0] [] A = blk false 3 S SN jp rest 4 [vR 13 58 0] [] (hap A []) := rfl
def cl_H2_4 : List EI := [e0 (.aload_n 0) 1, e0 (.iconst 0) 1, e1 (.putfield 9) 3 3]
theorem ck_H2_4 (S SN : SX) (jp : Nat → NX) (rest : List EI) (A : AH) (hs : sz A = 59) : blk false 3 S SN jp (cl_H2_4 ++ rest) 4 [vR 13 58 0] [] A = blk false 3 S SN jp rest 9 [vR 13 58 0] [] (hap A [(1, 58, 0, 0)]) := rfl
def cl_H2_9 : List EI := [e0 (.aload_n 0) 1, e0 (.iconst 0) 1, (.putfield 15, 3, 3, 1, 0, 0, 0, 0)]
theorem ck_H2_9 (S SN : SX) (jp : Nat → NX) (rest : List EI) (A : AH) (hs : sz A = 59) : blk false 3 S SN jp (cl_H2_9 ++ rest) 9 [vR 13 58 0] [] A = blk false 3 S SN jp rest 14 [vR 13 58 0] [] (hap A [(1, 58, 1, 0)]) := rfl
def cl_H2_14 : List EI := [e0 (.aload_n 0) 1, e0 (.iconst 0) 1, (.putfield 18, 3, 3, 2, 0, 0, 0, 0)]
theorem ck_H2_14 (S SN : SX) (jp : Nat → NX) (rest : List EI) (A : AH) (hs : sz A = 59) : blk false 3 S SN jp (cl_H2_14 ++ rest) 14 [vR 13 58 0] [] A = blk false 3 S SN jp rest 19 [vR 13 58 0] [] (hap A [(1, 58, 2, 0)]) := rfl
def cl_H2_19 : List EI := [e0 (.aload_n 0) 1, e0 (.iconst 0) 1, (.putfield 21, 3, 3, 3, 0, 0, 0, 0)]
theorem ck_H2_19 (S SN : SX) (jp : Nat → NX) (rest : List EI) (A : AH) (hs : sz A = 59) : blk false 3 S SN jp (cl_H2_19 ++ rest) 19 [vR 13 58 0] [] A = blk false 3 S SN jp rest 24 [vR 13 58 0] [] (hap A [(1, 58, 3, 0)]) := rfl
def cl_H2_24 : List EI := [e0 (.aload_n 0) 1, e0 (.iconst 0) 1, (.putfield 24, 3, 3, 4, 0, 0, 0, 0)]
theorem ck_H2_24 (S SN : SX) (jp : Nat → NX) (rest : List EI) (A : AH) (hs : sz A = 59) : blk false 3 S SN jp (cl_H2_24 ++ rest) 24 [vR 13 58 0] [] A = blk false 3 S SN jp rest 29 [vR 13 58 0] [] (hap A [(1, 58, 4, 0)]) := rfl
def cl_H2_29 : List EI := [e0 (.aload_n 0) 1, e0 (.iconst 0) 1, (.putfield 27, 3, 3, 5, 0, 0, 0, 0)]
theorem ck_H2_29 (S SN : SX) (jp : Nat → NX) (rest : List EI) (A : AH) (hs : sz A = 59) : blk false 3 S SN jp (cl_H2_29 ++ rest) 29 [vR 13 58 0] [] A = blk false 3 S SN jp rest 34 [vR 13 58 0] [] (hap A [(1, 58, 5, 0)]) := rfl
def cl_H2_34 : List EI := [e0 (.aload_n 0) 1, e0 (.iconst 0) 1, (.putfield 30, 3, 3, 6, 0, 0, 0, 0)]
theorem ck_H2_34 (S SN : SX) (jp : Nat → NX) (rest : List EI) (A : AH) (hs : sz A = 59) : blk false 3 S SN jp (cl_H2_34 ++ rest) 34 [vR 13 58 0] [] A = blk false 3 S SN jp rest 39 [vR 13 58 0] [] (hap A [(1, 58, 6, 0)]) := rfl
def cl_H2_39 : List EI := [e0 (.aload_n 0) 1, e0 (.bipush 20) 2, e0 (.newarray .int) 2, (.putfield 33, 3, 3, 7, 30, 1, 20, 0)]
theorem ck_H2_39 (S SN : SX) (jp : Nat → NX) (rest : List EI) (A : AH) (hs : sz A = 59) : blk false 3 S SN jp (cl_H2_39 ++ rest) 39 [vR 13 58 0] [] A = blk false 3 S SN jp rest 47 [vR 13 58 0] [] (hap A [(0, 20, 20, 0), (2, 58, 7, 59)]) := by
  have e : blk false 3 S SN jp (cl_H2_39 ++ rest) 39 [vR 13 58 0] [] A = blk false 3 S SN jp rest 47 [vR 13 58 0] [] (wr (nw A 20 20) 58 7 (sz A)) := rfl
  rw [hs] at e
  exact e
def cl_H2_47 : List EI := [e0 (.aload_n 0) 1, e0 (.bipush 16) 2, e0 (.newarray .int) 2, (.putfield 37, 3, 3, 8, 30, 2, 16, 0)]
theorem ck_H2_47 (S SN : SX) (jp : Nat → NX) (rest : List EI) (A : AH) (hs : sz A = 60) : blk false 3 S SN jp (cl_H2_47 ++ rest) 47 [vR 13 58 0] [] A = blk false 3 S SN jp rest 55 [vR 13 58 0] [] (hap A [(0, 20, 16, 0), (2, 58, 8, 60)]) := by
  have e : blk false 3 S SN jp (cl_H2_47 ++ rest) 47 [vR 13 58 0] [] A = blk false 3 S SN jp rest 55 [vR 13 58 0] [] (wr (nw A 20 16) 58 8 (sz A)) := rfl
  rw [hs] at e
  exact e
def cl_H2_55 : List EI := [e0 (.aload_n 0) 1, e0 (.bipush 16) 2, e0 (.newarray .int) 2, (.putfield 40, 3, 3, 9, 30, 3, 16, 0)]
theorem ck_H2_55 (S SN : SX) (jp : Nat → NX) (rest : List EI) (A : AH) (hs : sz A = 61) : blk false 3 S SN jp (cl_H2_55 ++ rest) 55 [vR 13 58 0] [] A = blk false 3 S SN jp rest 63 [vR 13 58 0] [] (hap A [(0, 20, 16, 0), (2, 58, 9, 61)]) := by
  have e : blk false 3 S SN jp (cl_H2_55 ++ rest) 55 [vR 13 58 0] [] A = blk false 3 S SN jp rest 63 [vR 13 58 0] [] (wr (nw A 20 16) 58 9 (sz A)) := rfl
  rw [hs] at e
  exact e
def cl_H2_63 : List EI := [e0 (.aload_n 0) 1, e0 (.bipush 8) 2, e0 (.newarray .int) 2, (.putfield 43, 3, 3, 10, 30, 4, 8, 0)]
theorem ck_H2_63 (S SN : SX) (jp : Nat → NX) (rest : List EI) (A : AH) (hs : sz A = 62) : blk false 3 S SN jp (cl_H2_63 ++ rest) 63 [vR 13 58 0] [] A = blk false 3 S SN jp rest 71 [vR 13 58 0] [] (hap A [(0, 20, 8, 0), (2, 58, 10, 62)]) := by
  have e : blk false 3 S SN jp (cl_H2_63 ++ rest) 63 [vR 13 58 0] [] A = blk false 3 S SN jp rest 71 [vR 13 58 0] [] (wr (nw A 20 8) 58 10 (sz A)) := rfl
  rw [hs] at e
  exact e
def cl_H2_71 : List EI := [e0 (.aload_n 0) 1, e0 (.bipush 8) 2, e0 (.newarray .int) 2, (.putfield 46, 3, 3, 11, 30, 5, 8, 0)]
theorem ck_H2_71 (S SN : SX) (jp : Nat → NX) (rest : List EI) (A : AH) (hs : sz A = 63) : blk false 3 S SN jp (cl_H2_71 ++ rest) 71 [vR 13 58 0] [] A = blk false 3 S SN jp rest 79 [vR 13 58 0] [] (hap A [(0, 20, 8, 0), (2, 58, 11, 63)]) := by
  have e : blk false 3 S SN jp (cl_H2_71 ++ rest) 71 [vR 13 58 0] [] A = blk false 3 S SN jp rest 79 [vR 13 58 0] [] (wr (nw A 20 8) 58 11 (sz A)) := rfl
  rw [hs] at e
  exact e
def cl_H2_79 : List EI := [e0 (.aload_n 0) 1, e0 (.bipush 6) 2, e0 (.newarray .int) 2, (.putfield 49, 3, 3, 12, 30, 6, 6, 0)]
theorem ck_H2_79 (S SN : SX) (jp : Nat → NX) (rest : List EI) (A : AH) (hs : sz A = 64) : blk false 3 S SN jp (cl_H2_79 ++ rest) 79 [vR 13 58 0] [] A = blk false 3 S SN jp rest 87 [vR 13 58 0] [] (hap A [(0, 20, 6, 0), (2, 58, 12, 64)]) := by
  have e : blk false 3 S SN jp (cl_H2_79 ++ rest) 79 [vR 13 58 0] [] A = blk false 3 S SN jp rest 87 [vR 13 58 0] [] (wr (nw A 20 6) 58 12 (sz A)) := rfl
  rw [hs] at e
  exact e
def cl_H2_87 : List EI := [e0 (.aload_n 0) 1, e0 (.bipush 8) 2, e0 (.newarray .int) 2, (.putfield 52, 3, 3, 13, 30, 7, 8, 0)]
theorem ck_H2_87 (S SN : SX) (jp : Nat → NX) (rest : List EI) (A : AH) (hs : sz A = 65) : blk false 3 S SN jp (cl_H2_87 ++ rest) 87 [vR 13 58 0] [] A = blk false 3 S SN jp rest 95 [vR 13 58 0] [] (hap A [(0, 20, 8, 0), (2, 58, 13, 65)]) := by
  have e : blk false 3 S SN jp (cl_H2_87 ++ rest) 87 [vR 13 58 0] [] A = blk false 3 S SN jp rest 95 [vR 13 58 0] [] (wr (nw A 20 8) 58 13 (sz A)) := rfl
  rw [hs] at e
  exact e
def cl_H2_95 : List EI := [e0 (.aload_n 0) 1, e0 (.bipush 18) 2, e0 (.newarray .int) 2, (.putfield 55, 3, 3, 14, 30, 8, 18, 0)]
theorem ck_H2_95 (S SN : SX) (jp : Nat → NX) (rest : List EI) (A : AH) (hs : sz A = 66) : blk false 3 S SN jp (cl_H2_95 ++ rest) 95 [vR 13 58 0] [] A = blk false 3 S SN jp rest 103 [vR 13 58 0] [] (hap A [(0, 20, 18, 0), (2, 58, 14, 66)]) := by
  have e : blk false 3 S SN jp (cl_H2_95 ++ rest) 95 [vR 13 58 0] [] A = blk false 3 S SN jp rest 103 [vR 13 58 0] [] (wr (nw A 20 18) 58 14 (sz A)) := rfl
  rw [hs] at e
  exact e
def cl_H2_103 : List EI := [e0 (.aload_n 0) 1, e0 (.bipush 16) 2, e0 (.newarray .int) 2, (.putfield 58, 3, 3, 15, 30, 9, 16, 0)]
theorem ck_H2_103 (S SN : SX) (jp : Nat → NX) (rest : List EI) (A : AH) (hs : sz A = 67) : blk false 3 S SN jp (cl_H2_103 ++ rest) 103 [vR 13 58 0] [] A = blk false 3 S SN jp rest 111 [vR 13 58 0] [] (hap A [(0, 20, 16, 0), (2, 58, 15, 67)]) := by
  have e : blk false 3 S SN jp (cl_H2_103 ++ rest) 103 [vR 13 58 0] [] A = blk false 3 S SN jp rest 111 [vR 13 58 0] [] (wr (nw A 20 16) 58 15 (sz A)) := rfl
  rw [hs] at e
  exact e
def cl_H2_111 : List EI := [e0 (.aload_n 0) 1, e1 (.aconst_null) 1 20, (.putfield 61, 3, 3, 16, 30, 0, 0, 0)]
theorem ck_H2_111 (S SN : SX) (jp : Nat → NX) (rest : List EI) (A : AH) (hs : sz A = 68) : blk false 3 S SN jp (cl_H2_111 ++ rest) 111 [vR 13 58 0] [] A = blk false 3 S SN jp rest 116 [vR 13 58 0] [] (hap A [(2, 58, 16, 0)]) := rfl
def cl_H2_116 : List EI := [e0 (.aload_n 0) 1, e1 (.aconst_null) 1 20, (.putfield 64, 3, 3, 17, 30, 0, 0, 0)]
theorem ck_H2_116 (S SN : SX) (jp : Nat → NX) (rest : List EI) (A : AH) (hs : sz A = 68) : blk false 3 S SN jp (cl_H2_116 ++ rest) 116 [vR 13 58 0] [] A = blk false 3 S SN jp rest 121 [vR 13 58 0] [] (hap A [(2, 58, 17, 0)]) := rfl
def cl_H2_121 : List EI := [e0 (.aload_n 0) 1, e0 (.iconst 0) 1, (.putfield 67, 3, 3, 18, 2, 0, 0, 0)]
theorem ck_H2_121 (S SN : SX) (jp : Nat → NX) (rest : List EI) (A : AH) (hs : sz A = 68) : blk false 3 S SN jp (cl_H2_121 ++ rest) 121 [vR 13 58 0] [] A = blk false 3 S SN jp rest 126 [vR 13 58 0] [] (hap A [(1, 58, 18, 0)]) := rfl
def o_H2 : List (Nat × Nat × Nat × Int) := [(1, 58, 0, 0), (1, 58, 1, 0), (1, 58, 2, 0), (1, 58, 3, 0), (1, 58, 4, 0), (1, 58, 5, 0), (1, 58, 6, 0), (0, 20, 20, 0), (2, 58, 7, 59), (0, 20, 16, 0), (2, 58, 8, 60), (0, 20, 16, 0), (2, 58, 9, 61), (0, 20, 8, 0), (2, 58, 10, 62), (0, 20, 8, 0), (2, 58, 11, 63), (0, 20, 6, 0), (2, 58, 12, 64), (0, 20, 8, 0), (2, 58, 13, 65), (0, 20, 18, 0), (2, 58, 14, 66), (0, 20, 16, 0), (2, 58, 15, 67), (2, 58, 16, 0), (2, 58, 17, 0), (1, 58, 18, 0)]
set_option maxRecDepth 100000 in
set_option maxRecDepth 100000 in
theorem s_init_H2 (d : Nat) (A : AH) (hs : sz A = 59) : run (d + 1) 42 [vR 13 58 0] A = some (none, hap A o_H2) := by
  have e : run (d + 1) 42 [vR 13 58 0] A = blk false 3 (run d) (run d) (go false 3 (run d) (run d) pb_X3_init 999999) (cl_H2_0 ++ (cl_H2_4 ++ (cl_H2_9 ++ (cl_H2_14 ++ (cl_H2_19 ++ (cl_H2_24 ++ (cl_H2_29 ++ (cl_H2_34 ++ (cl_H2_39 ++ (cl_H2_47 ++ (cl_H2_55 ++ (cl_H2_63 ++ (cl_H2_71 ++ (cl_H2_79 ++ (cl_H2_87 ++ (cl_H2_95 ++ (cl_H2_103 ++ (cl_H2_111 ++ (cl_H2_116 ++ (cl_H2_121 ++ [e0 .return_ 1])))))))))))))))))))) 0 [vR 13 58 0] [] A := rfl
  rw [e]
  rw [ck_H2_0 _ _ _ _ _ hs]
  rw [ck_H2_4 _ _ _ _ _ (by simp only [sz_hap, hs]; rfl)]
  rw [ck_H2_9 _ _ _ _ _ (by simp only [sz_hap, hs]; rfl)]
  rw [ck_H2_14 _ _ _ _ _ (by simp only [sz_hap, hs]; rfl)]
  rw [ck_H2_19 _ _ _ _ _ (by simp only [sz_hap, hs]; rfl)]
  rw [ck_H2_24 _ _ _ _ _ (by simp only [sz_hap, hs]; rfl)]
  rw [ck_H2_29 _ _ _ _ _ (by simp only [sz_hap, hs]; rfl)]
  rw [ck_H2_34 _ _ _ _ _ (by simp only [sz_hap, hs]; rfl)]
  rw [ck_H2_39 _ _ _ _ _ (by simp only [sz_hap, hs]; rfl)]
  rw [ck_H2_47 _ _ _ _ _ (by simp only [sz_hap, hs]; rfl)]
  rw [ck_H2_55 _ _ _ _ _ (by simp only [sz_hap, hs]; rfl)]
  rw [ck_H2_63 _ _ _ _ _ (by simp only [sz_hap, hs]; rfl)]
  rw [ck_H2_71 _ _ _ _ _ (by simp only [sz_hap, hs]; rfl)]
  rw [ck_H2_79 _ _ _ _ _ (by simp only [sz_hap, hs]; rfl)]
  rw [ck_H2_87 _ _ _ _ _ (by simp only [sz_hap, hs]; rfl)]
  rw [ck_H2_95 _ _ _ _ _ (by simp only [sz_hap, hs]; rfl)]
  rw [ck_H2_103 _ _ _ _ _ (by simp only [sz_hap, hs]; rfl)]
  rw [ck_H2_111 _ _ _ _ _ (by simp only [sz_hap, hs]; rfl)]
  rw [ck_H2_116 _ _ _ _ _ (by simp only [sz_hap, hs]; rfl)]
  rw [ck_H2_121 _ _ _ _ _ (by simp only [sz_hap, hs]; rfl)]
  rfl
def cl_Be_0 : List EI := [e0 (.aload_n 0) 1, (.invokespecial 3, 3, 0, 1, 0, 9, 3, 0)]
theorem ck_Be_0 (S SN : SX) (jp : Nat → NX) (rest : List EI) (A : AH) (hs : sz A = 181) : blk false 3 S SN jp (cl_Be_0 ++ rest) 0 [vR 10 180 0, vR 13 58 0, vR 19 68 0] [] A = blk false 3 S SN jp rest 4 [vR 10 180 0, vR 13 58 0, vR 19 68 0] [] (hap A []) := rfl
def cl_Be_4 : List EI := [e0 (.aload_n 0) 1, e0 (.iconst 1) 1, (.putfield 9, 3, 0, 2, 2, 0, 0, 0)]
theorem ck_Be_4 (S SN : SX) (jp : Nat → NX) (rest : List EI) (A : AH) (hs : sz A = 181) : blk false 3 S SN jp (cl_Be_4 ++ rest) 4 [vR 10 180 0, vR 13 58 0, vR 19 68 0] [] A = blk false 3 S SN jp rest 9 [vR 10 180 0, vR 13 58 0, vR 19 68 0] [] (hap A [(1, 180, 2, 1)]) := rfl
def cl_Be_9 : List EI := [e0 (.aload_n 0) 1, e0 (.iconst 0) 1, (.putfield 15, 3, 0, 3, 2, 0, 0, 0)]
theorem ck_Be_9 (S SN : SX) (jp : Nat → NX) (rest : List EI) (A : AH) (hs : sz A = 181) : blk false 3 S SN jp (cl_Be_9 ++ rest) 9 [vR 10 180 0, vR 13 58 0, vR 19 68 0] [] A = blk false 3 S SN jp rest 14 [vR 10 180 0, vR 13 58 0, vR 19 68 0] [] (hap A [(1, 180, 3, 0)]) := rfl
def cl_Be_14 : List EI := [e0 (.aload_n 0) 1, e0 (.iconst (-1)) 1, (.putfield 18, 3, 0, 4, 0, 0, 0, 0)]
theorem ck_Be_14 (S SN : SX) (jp : Nat → NX) (rest : List EI) (A : AH) (hs : sz A = 181) : blk false 3 S SN jp (cl_Be_14 ++ rest) 14 [vR 10 180 0, vR 13 58 0, vR 19 68 0] [] A = blk false 3 S SN jp rest 19 [vR 10 180 0, vR 13 58 0, vR 19 68 0] [] (hap A [(1, 180, 4, (-1))]) := rfl
def cl_Be_19 : List EI := [e0 (.aload_n 0) 1, e0 (.iconst (-1)) 1, (.putfield 22, 3, 0, 5, 0, 0, 0, 0)]
theorem ck_Be_19 (S SN : SX) (jp : Nat → NX) (rest : List EI) (A : AH) (hs : sz A = 181) : blk false 3 S SN jp (cl_Be_19 ++ rest) 19 [vR 10 180 0, vR 13 58 0, vR 19 68 0] [] A = blk false 3 S SN jp rest 24 [vR 10 180 0, vR 13 58 0, vR 19 68 0] [] (hap A [(1, 180, 5, (-1))]) := rfl
def cl_Be_24 : List EI := [e0 (.aload_n 0) 1, e0 (.iconst 0) 1, (.putfield 25, 3, 0, 6, 0, 0, 0, 0)]
theorem ck_Be_24 (S SN : SX) (jp : Nat → NX) (rest : List EI) (A : AH) (hs : sz A = 181) : blk false 3 S SN jp (cl_Be_24 ++ rest) 24 [vR 10 180 0, vR 13 58 0, vR 19 68 0] [] A = blk false 3 S SN jp rest 29 [vR 10 180 0, vR 13 58 0, vR 19 68 0] [] (hap A [(1, 180, 6, 0)]) := rfl
def cl_Be_29 : List EI := [e0 (.aload_n 0) 1, e0 (.bipush 10) 2, e0 (.newarray .int) 2, (.putfield 28, 3, 0, 7, 30, 181, 10, 1)]
theorem ck_Be_29 (S SN : SX) (jp : Nat → NX) (rest : List EI) (A : AH) (hs : sz A = 181) : blk false 3 S SN jp (cl_Be_29 ++ rest) 29 [vR 10 180 0, vR 13 58 0, vR 19 68 0] [] A = blk false 3 S SN jp rest 37 [vR 10 180 0, vR 13 58 0, vR 19 68 0] [] (hap A [(0, 20, 10, 0), (2, 180, 7, 181)]) := by
  have e : blk false 3 S SN jp (cl_Be_29 ++ rest) 29 [vR 10 180 0, vR 13 58 0, vR 19 68 0] [] A = blk false 3 S SN jp rest 37 [vR 10 180 0, vR 13 58 0, vR 19 68 0] [] (wr (nw A 20 10) 180 7 (sz A)) := rfl
  rw [hs] at e
  exact e
def cl_Be_37 : List EI := [e0 (.aload_n 0) 1, e0 (.bipush 16) 2, e0 (.newarray .int) 2, (.putfield 32, 3, 0, 8, 30, 182, 16, 1)]
theorem ck_Be_37 (S SN : SX) (jp : Nat → NX) (rest : List EI) (A : AH) (hs : sz A = 182) : blk false 3 S SN jp (cl_Be_37 ++ rest) 37 [vR 10 180 0, vR 13 58 0, vR 19 68 0] [] A = blk false 3 S SN jp rest 45 [vR 10 180 0, vR 13 58 0, vR 19 68 0] [] (hap A [(0, 20, 16, 0), (2, 180, 8, 182)]) := by
  have e : blk false 3 S SN jp (cl_Be_37 ++ rest) 37 [vR 10 180 0, vR 13 58 0, vR 19 68 0] [] A = blk false 3 S SN jp rest 45 [vR 10 180 0, vR 13 58 0, vR 19 68 0] [] (wr (nw A 20 16) 180 8 (sz A)) := rfl
  rw [hs] at e
  exact e
def cl_Be_45 : List EI := [e0 (.aload_n 0) 1, e0 (.bipush 16) 2, e0 (.newarray .int) 2, (.putfield 35, 3, 0, 9, 30, 183, 16, 1)]
theorem ck_Be_45 (S SN : SX) (jp : Nat → NX) (rest : List EI) (A : AH) (hs : sz A = 183) : blk false 3 S SN jp (cl_Be_45 ++ rest) 45 [vR 10 180 0, vR 13 58 0, vR 19 68 0] [] A = blk false 3 S SN jp rest 53 [vR 10 180 0, vR 13 58 0, vR 19 68 0] [] (hap A [(0, 20, 16, 0), (2, 180, 9, 183)]) := by
  have e : blk false 3 S SN jp (cl_Be_45 ++ rest) 45 [vR 10 180 0, vR 13 58 0, vR 19 68 0] [] A = blk false 3 S SN jp rest 53 [vR 10 180 0, vR 13 58 0, vR 19 68 0] [] (wr (nw A 20 16) 180 9 (sz A)) := rfl
  rw [hs] at e
  exact e
def cl_Be_53 : List EI := [e0 (.aload_n 0) 1, e0 (.bipush 64) 2, e0 (.newarray .int) 2, (.putfield 38, 3, 0, 10, 30, 184, 64, 1)]
theorem ck_Be_53 (S SN : SX) (jp : Nat → NX) (rest : List EI) (A : AH) (hs : sz A = 184) : blk false 3 S SN jp (cl_Be_53 ++ rest) 53 [vR 10 180 0, vR 13 58 0, vR 19 68 0] [] A = blk false 3 S SN jp rest 61 [vR 10 180 0, vR 13 58 0, vR 19 68 0] [] (hap A [(0, 20, 64, 0), (2, 180, 10, 184)]) := by
  have e : blk false 3 S SN jp (cl_Be_53 ++ rest) 53 [vR 10 180 0, vR 13 58 0, vR 19 68 0] [] A = blk false 3 S SN jp rest 61 [vR 10 180 0, vR 13 58 0, vR 19 68 0] [] (wr (nw A 20 64) 180 10 (sz A)) := rfl
  rw [hs] at e
  exact e
def cl_Be_61 : List EI := [e0 (.aload_n 0) 1, e0 (.iconst 0) 1, (.putfield 41, 3, 0, 11, 0, 0, 0, 0)]
theorem ck_Be_61 (S SN : SX) (jp : Nat → NX) (rest : List EI) (A : AH) (hs : sz A = 185) : blk false 3 S SN jp (cl_Be_61 ++ rest) 61 [vR 10 180 0, vR 13 58 0, vR 19 68 0] [] A = blk false 3 S SN jp rest 66 [vR 10 180 0, vR 13 58 0, vR 19 68 0] [] (hap A [(1, 180, 11, 0)]) := rfl
def cl_Be_66 : List EI := [e0 (.aload_n 0) 1, e0 (.aload_n 1) 1, (.putfield 44, 3, 0, 0, 13, 0, 0, 0)]
theorem ck_Be_66 (S SN : SX) (jp : Nat → NX) (rest : List EI) (A : AH) (hs : sz A = 185) : blk false 3 S SN jp (cl_Be_66 ++ rest) 66 [vR 10 180 0, vR 13 58 0, vR 19 68 0] [] A = blk false 3 S SN jp rest 71 [vR 10 180 0, vR 13 58 0, vR 19 68 0] [] (hap A [(2, 180, 0, 58)]) := rfl
def cl_Be_71 : List EI := [e0 (.aload_n 0) 1, e0 (.aload_n 2) 1, (.putfield 48, 3, 0, 1, 19, 0, 0, 0)]
theorem ck_Be_71 (S SN : SX) (jp : Nat → NX) (rest : List EI) (A : AH) (hs : sz A = 185) : blk false 3 S SN jp (cl_Be_71 ++ rest) 71 [vR 10 180 0, vR 13 58 0, vR 19 68 0] [] A = blk false 3 S SN jp rest 76 [vR 10 180 0, vR 13 58 0, vR 19 68 0] [] (hap A [(2, 180, 1, 68)]) := rfl
def o_Be : List (Nat × Nat × Nat × Int) := [(1, 180, 2, 1), (1, 180, 3, 0), (1, 180, 4, (-1)), (1, 180, 5, (-1)), (1, 180, 6, 0), (0, 20, 10, 0), (2, 180, 7, 181), (0, 20, 16, 0), (2, 180, 8, 182), (0, 20, 16, 0), (2, 180, 9, 183), (0, 20, 64, 0), (2, 180, 10, 184), (1, 180, 11, 0), (2, 180, 0, 58), (2, 180, 1, 68)]
set_option maxRecDepth 100000 in
set_option maxRecDepth 100000 in
theorem s_init_Be (d : Nat) (A : AH) (hs : sz A = 181) : run (d + 1) 0 [vR 10 180 0, vR 13 58 0, vR 19 68 0] A = some (none, hap A o_Be) := by
  have e : run (d + 1) 0 [vR 10 180 0, vR 13 58 0, vR 19 68 0] A = blk false 3 (run d) (run d) (go false 3 (run d) (run d) pb_X0_init 999999) (cl_Be_0 ++ (cl_Be_4 ++ (cl_Be_9 ++ (cl_Be_14 ++ (cl_Be_19 ++ (cl_Be_24 ++ (cl_Be_29 ++ (cl_Be_37 ++ (cl_Be_45 ++ (cl_Be_53 ++ (cl_Be_61 ++ (cl_Be_66 ++ (cl_Be_71 ++ [e0 .return_ 1]))))))))))))) 0 [vR 10 180 0, vR 13 58 0, vR 19 68 0] [] A := rfl
  rw [e]
  rw [ck_Be_0 _ _ _ _ _ hs]
  rw [ck_Be_4 _ _ _ _ _ (by simp only [sz_hap, hs]; rfl)]
  rw [ck_Be_9 _ _ _ _ _ (by simp only [sz_hap, hs]; rfl)]
  rw [ck_Be_14 _ _ _ _ _ (by simp only [sz_hap, hs]; rfl)]
  rw [ck_Be_19 _ _ _ _ _ (by simp only [sz_hap, hs]; rfl)]
  rw [ck_Be_24 _ _ _ _ _ (by simp only [sz_hap, hs]; rfl)]
  rw [ck_Be_29 _ _ _ _ _ (by simp only [sz_hap, hs]; rfl)]
  rw [ck_Be_37 _ _ _ _ _ (by simp only [sz_hap, hs]; rfl)]
  rw [ck_Be_45 _ _ _ _ _ (by simp only [sz_hap, hs]; rfl)]
  rw [ck_Be_53 _ _ _ _ _ (by simp only [sz_hap, hs]; rfl)]
  rw [ck_Be_61 _ _ _ _ _ (by simp only [sz_hap, hs]; rfl)]
  rw [ck_Be_66 _ _ _ _ _ (by simp only [sz_hap, hs]; rfl)]
  rw [ck_Be_71 _ _ _ _ _ (by simp only [sz_hap, hs]; rfl)]
  rfl
def cl_Co_0 : List EI := [e0 (.aload_n 0) 1, (.invokespecial 3, 3, 0, 1, 0, 9, 3, 0)]
theorem ck_Co_0 (S SN : SX) (jp : Nat → NX) (rest : List EI) (A : AH) (hs : sz A = 186) : blk false 3 S SN jp (cl_Co_0 ++ rest) 0 [vR 11 185 0, vR 10 180 0, vR 19 73 0] [] A = blk false 3 S SN jp rest 4 [vR 11 185 0, vR 10 180 0, vR 19 73 0] [] (hap A []) := rfl
def cl_Co_4 : List EI := [e0 (.aload_n 0) 1, e0 (.aload_n 1) 1, (.putfield 9, 3, 1, 0, 10, 180, 0, 1)]
theorem ck_Co_4 (S SN : SX) (jp : Nat → NX) (rest : List EI) (A : AH) (hs : sz A = 186) : blk false 3 S SN jp (cl_Co_4 ++ rest) 4 [vR 11 185 0, vR 10 180 0, vR 19 73 0] [] A = blk false 3 S SN jp rest 9 [vR 11 185 0, vR 10 180 0, vR 19 73 0] [] (hap A [(2, 185, 0, 180)]) := rfl
def cl_Co_9 : List EI := [e0 (.aload_n 0) 1, e0 (.aload_n 2) 1, (.putfield 15, 3, 1, 1, 19, 73, 0, 1)]
theorem ck_Co_9 (S SN : SX) (jp : Nat → NX) (rest : List EI) (A : AH) (hs : sz A = 186) : blk false 3 S SN jp (cl_Co_9 ++ rest) 9 [vR 11 185 0, vR 10 180 0, vR 19 73 0] [] A = blk false 3 S SN jp rest 14 [vR 11 185 0, vR 10 180 0, vR 19 73 0] [] (hap A [(2, 185, 1, 73)]) := rfl
def o_Co : List (Nat × Nat × Nat × Int) := [(2, 185, 0, 180), (2, 185, 1, 73)]
set_option maxRecDepth 100000 in
set_option maxRecDepth 100000 in
theorem s_init_Co (d : Nat) (A : AH) (hs : sz A = 186) : run (d + 1) 16 [vR 11 185 0, vR 10 180 0, vR 19 73 0] A = some (none, hap A o_Co) := by
  have e : run (d + 1) 16 [vR 11 185 0, vR 10 180 0, vR 19 73 0] A = blk false 3 (run d) (run d) (go false 3 (run d) (run d) pb_X1_init 999999) (cl_Co_0 ++ (cl_Co_4 ++ (cl_Co_9 ++ [e0 .return_ 1]))) 0 [vR 11 185 0, vR 10 180 0, vR 19 73 0] [] A := rfl
  rw [e]
  rw [ck_Co_0 _ _ _ _ _ hs]
  rw [ck_Co_4 _ _ _ _ _ (by simp only [sz_hap, hs]; rfl)]
  rw [ck_Co_9 _ _ _ _ _ (by simp only [sz_hap, hs]; rfl)]
  rfl
def cl_Qu_0 : List EI := [e0 (.aload_n 0) 1, (.invokespecial 3, 3, 0, 1, 0, 9, 3, 0)]
theorem ck_Qu_0 (S SN : SX) (jp : Nat → NX) (rest : List EI) (A : AH) (hs : sz A = 187) : blk false 3 S SN jp (cl_Qu_0 ++ rest) 0 [vR 17 186 0, vR 18 42 0, vR 12 44 0, vR 10 180 0] [] A = blk false 3 S SN jp rest 4 [vR 17 186 0, vR 18 42 0, vR 12 44 0, vR 10 180 0] [] (hap A []) := rfl
def cl_Qu_4 : List EI := [e0 (.aload_n 0) 1, (.getstatic 9, 3, 12, 34, 0, 0, 0, 0), (.putfield 15, 3, 7, 3, 22, 0, 0, 0)]
theorem ck_Qu_4 (S SN : SX) (jp : Nat → NX) (rest : List EI) (A : AH) (hs : sz A = 187) : blk false 3 S SN jp (cl_Qu_4 ++ rest) 4 [vR 17 186 0, vR 18 42 0, vR 12 44 0, vR 10 180 0] [] A = blk false 3 S SN jp rest 11 [vR 17 186 0, vR 18 42 0, vR 12 44 0, vR 10 180 0] [] (hap A [(2, 186, 3, 34)]) := rfl
def cl_Qu_11 : List EI := [e0 (.aload_n 0) 1, e0 (.aload_n 1) 1, (.putfield 20, 3, 7, 0, 18, 42, 0, 1)]
theorem ck_Qu_11 (S SN : SX) (jp : Nat → NX) (rest : List EI) (A : AH) (hs : sz A = 187) : blk false 3 S SN jp (cl_Qu_11 ++ rest) 11 [vR 17 186 0, vR 18 42 0, vR 12 44 0, vR 10 180 0] [] A = blk false 3 S SN jp rest 16 [vR 17 186 0, vR 18 42 0, vR 12 44 0, vR 10 180 0] [] (hap A [(2, 186, 0, 42)]) := rfl
def cl_Qu_16 : List EI := [e0 (.aload_n 0) 1, e0 (.aload_n 2) 1, (.putfield 24, 3, 7, 1, 12, 44, 0, 1)]
theorem ck_Qu_16 (S SN : SX) (jp : Nat → NX) (rest : List EI) (A : AH) (hs : sz A = 187) : blk false 3 S SN jp (cl_Qu_16 ++ rest) 16 [vR 17 186 0, vR 18 42 0, vR 12 44 0, vR 10 180 0] [] A = blk false 3 S SN jp rest 21 [vR 17 186 0, vR 18 42 0, vR 12 44 0, vR 10 180 0] [] (hap A [(2, 186, 1, 44)]) := rfl
def cl_Qu_21 : List EI := [e0 (.aload_n 0) 1, e0 (.aload_n 3) 1, (.putfield 28, 3, 7, 2, 10, 180, 0, 1)]
theorem ck_Qu_21 (S SN : SX) (jp : Nat → NX) (rest : List EI) (A : AH) (hs : sz A = 187) : blk false 3 S SN jp (cl_Qu_21 ++ rest) 21 [vR 17 186 0, vR 18 42 0, vR 12 44 0, vR 10 180 0] [] A = blk false 3 S SN jp rest 26 [vR 17 186 0, vR 18 42 0, vR 12 44 0, vR 10 180 0] [] (hap A [(2, 186, 2, 180)]) := rfl
def o_Qu : List (Nat × Nat × Nat × Int) := [(2, 186, 3, 34), (2, 186, 0, 42), (2, 186, 1, 44), (2, 186, 2, 180)]
set_option maxRecDepth 100000 in
set_option maxRecDepth 100000 in
theorem s_init_Qu (d : Nat) (A : AH) (hs : sz A = 187) : run (d + 1) 78 [vR 17 186 0, vR 18 42 0, vR 12 44 0, vR 10 180 0] A = some (none, hap A o_Qu) := by
  have e : run (d + 1) 78 [vR 17 186 0, vR 18 42 0, vR 12 44 0, vR 10 180 0] A = blk false 3 (run d) (run d) (go false 3 (run d) (run d) pb_X7_init 999999) (cl_Qu_0 ++ (cl_Qu_4 ++ (cl_Qu_11 ++ (cl_Qu_16 ++ (cl_Qu_21 ++ [e0 .return_ 1]))))) 0 [vR 17 186 0, vR 18 42 0, vR 12 44 0, vR 10 180 0] [] A := rfl
  rw [e]
  rw [ck_Qu_0 _ _ _ _ _ hs]
  rw [ck_Qu_4 _ _ _ _ _ (by simp only [sz_hap, hs]; rfl)]
  rw [ck_Qu_11 _ _ _ _ _ (by simp only [sz_hap, hs]; rfl)]
  rw [ck_Qu_16 _ _ _ _ _ (by simp only [sz_hap, hs]; rfl)]
  rw [ck_Qu_21 _ _ _ _ _ (by simp only [sz_hap, hs]; rfl)]
  rfl
def cl_Im_0 : List EI := [e0 (.aload_n 0) 1, (.invokespecial 3, 3, 0, 1, 0, 9, 3, 0)]
theorem ck_Im_0 (S SN : SX) (jp : Nat → NX) (rest : List EI) (A : AH) (hs : sz A = 188) : blk false 3 S SN jp (cl_Im_0 ++ rest) 0 [vR 15 187 0] [] A = blk false 3 S SN jp rest 4 [vR 15 187 0] [] (hap A []) := rfl
def cl_Im_4 : List EI := [e0 (.aload_n 0) 1, e0 (.bipush 27) 2, e0 (.newarray .int) 2, (.putfield 11, 3, 5, 0, 30, 188, 27, 1)]
theorem ck_Im_4 (S SN : SX) (jp : Nat → NX) (rest : List EI) (A : AH) (hs : sz A = 188) : blk false 3 S SN jp (cl_Im_4 ++ rest) 4 [vR 15 187 0] [] A = blk false 3 S SN jp rest 12 [vR 15 187 0] [] (hap A [(0, 20, 27, 0), (2, 187, 0, 188)]) := by
  have e : blk false 3 S SN jp (cl_Im_4 ++ rest) 4 [vR 15 187 0] [] A = blk false 3 S SN jp rest 12 [vR 15 187 0] [] (wr (nw A 20 27) 187 0 (sz A)) := rfl
  rw [hs] at e
  exact e
def cl_Im_12 : List EI := [e0 (.aload_n 0) 1, e0 (.iconst 0) 1, (.putfield 15, 3, 5, 1, 0, 0, 0, 0)]
theorem ck_Im_12 (S SN : SX) (jp : Nat → NX) (rest : List EI) (A : AH) (hs : sz A = 189) : blk false 3 S SN jp (cl_Im_12 ++ rest) 12 [vR 15 187 0] [] A = blk false 3 S SN jp rest 17 [vR 15 187 0] [] (hap A [(1, 187, 1, 0)]) := rfl
def o_Im : List (Nat × Nat × Nat × Int) := [(0, 20, 27, 0), (2, 187, 0, 188), (1, 187, 1, 0)]
set_option maxRecDepth 100000 in
set_option maxRecDepth 100000 in
theorem s_init_Im (d : Nat) (A : AH) (hs : sz A = 188) : run (d + 1) 67 [vR 15 187 0] A = some (none, hap A o_Im) := by
  have e : run (d + 1) 67 [vR 15 187 0] A = blk false 3 (run d) (run d) (go false 3 (run d) (run d) pb_X5_init 999999) (cl_Im_0 ++ (cl_Im_4 ++ (cl_Im_12 ++ [e0 .return_ 1]))) 0 [vR 15 187 0] [] A := rfl
  rw [e]
  rw [ck_Im_0 _ _ _ _ _ hs]
  rw [ck_Im_4 _ _ _ _ _ (by simp only [sz_hap, hs]; rfl)]
  rw [ck_Im_12 _ _ _ _ _ (by simp only [sz_hap, hs]; rfl)]
  rfl
def flO (p : Nat) (v : Int) : Nat → Nat → List (Nat × Nat × Nat × Int)
  | 0, _ => []
  | m + 1, i => (1, p, i, v) :: flO p v m (i + 1)
theorem nwc_fl (p : Nat) (v : Int) : ∀ (m i : Nat), nwc (flO p v m i) = 0
  | 0, _ => rfl
  | m + 1, i => nwc_fl p v m (i + 1)
theorem nwc_app : ∀ (x y : List (Nat × Nat × Nat × Int)), nwc (x ++ y) = nwc x + nwc y
  | [], y => by show nwc y = 0 + nwc y; omega
  | (0, _, _, _) :: x, y => by
    show nwc (x ++ y) + 1 = nwc x + 1 + nwc y
    rw [nwc_app x y]; omega
  | (t + 1, _, _, _) :: x, y => nwc_app x y
set_option maxRecDepth 100000 in
theorem pq_J7_fill_53178_0 (S SN : SX) (n : Nat) (a0 : Nat) (n0 : Nat) (x1 : Int) (A : AH) (ha0 : a0 ≠ 0) : go false 3 S SN pb_J7_fill_53178 (n + 1) 0 [vR 30 a0 n0, vI x1, vU, vU] [] A =
    go false 3 S SN pb_J7_fill_53178 (n + 0) 5 [vR 30 a0 n0, vI x1, vI 0, vI (n0 : Int)] [] A := by
  obtain ⟨a0, rfl⟩ := Nat.exists_eq_succ_of_ne_zero ha0
  rfl

set_option maxRecDepth 100000 in
theorem pq_J7_fill_53178_5 (S SN : SX) (n : Nat) (a0 : Nat) (n0 : Nat) (x1 : Int) (x2 : Int) (x3 : Int) (A : AH) (ha0 : a0 ≠ 0) : go false 3 S SN pb_J7_fill_53178 (n + 2) 5 [vR 30 a0 n0, vI x1, vI x2, vI x3] [] A =
    if x2 < x3 then
      if (0 : Int) ≤ x2 ∧ x2 < (n0 : Int) then
        go false 3 S SN pb_J7_fill_53178 (n + 1) 14 [vR 30 a0 n0, vI x1, vI x2, vI x3] [] (wi A a0 x2.toNat x1)
      else none
    else
    some (none, A) := by
  obtain ⟨a0, rfl⟩ := Nat.exists_eq_succ_of_ne_zero ha0
  rfl

set_option maxRecDepth 100000 in
theorem pq_J7_fill_53178_14 (S SN : SX) (n : Nat) (a0 : Nat) (n0 : Nat) (x1 : Int) (x2 : Int) (x3 : Int) (A : AH) (ha0 : a0 ≠ 0) : go false 3 S SN pb_J7_fill_53178 (n + 1) 14 [vR 30 a0 n0, vI x1, vI x2, vI x3] [] A =
    go false 3 S SN pb_J7_fill_53178 (n + 0) 5 [vR 30 a0 n0, vI x1, vI (w32 (x2 + 1)), vI x3] [] A := by
  obtain ⟨a0, rfl⟩ := Nat.exists_eq_succ_of_ne_zero ha0
  rfl

set_option maxRecDepth 100000 in
theorem l_fillP (d p N : Nat) (v : Int) (hp : p ≠ 0) (hN : N ≤ 1000) : ∀ (m i n : Nat) (A : AH), i + m = N → 4 * m + 10 ≤ n → go false 3 (run d) (run d) pb_J7_fill_53178 n 5 [vR 30 p N, vI v, vI (i : Int), vI (N : Int)] [] A = some (none, hap A (flO p v m i)) := by
  intro m
  induction m with
  | zero =>
    intro i n A h1 h2
    obtain ⟨n, rfl⟩ : ∃ e, n = e + 10 := ⟨n - 10, by omega⟩
    rw [pq_J7_fill_53178_5 _ _ _ _ _ _ _ _ _ hp, if_neg (by omega)]
    rfl
  | succ m ih =>
    intro i n A h1 h2
    obtain ⟨n, rfl⟩ : ∃ e, n = e + 10 := ⟨n - 10, by omega⟩
    rw [pq_J7_fill_53178_5 _ _ _ _ _ _ _ _ _ hp, if_pos (by omega), if_pos (by omega), Int.toNat_natCast, wid (by omega) (by omega), show (i : Int) + 1 = ((i + 1 : Nat) : Int) by omega]
    exact ih (i + 1) _ _ (by omega) (by omega)
set_option maxRecDepth 100000 in
theorem s_fillP (d p N : Nat) (v : Int) (A : AH) (hp : p ≠ 0) (hN : N ≤ 1000) : run (d + 1) 308 [vR 30 p N, vI v] A = some (none, hap A (flO p v N 0)) := by
  have e : run (d + 1) 308 [vR 30 p N, vI v] A = go false 3 (run d) (run d) pb_J7_fill_53178 (999999 + 1) 0 [vR 30 p N, vI v, vU, vU] [] A := rfl
  rw [e, pq_J7_fill_53178_0 _ _ _ _ _ _ _ hp]
  exact l_fillP d p N v hp hN N 0 _ A (by omega) (by omega)
def X9a (A : AH) (a : Nat) : AH := wi (naq (naq (naq (naq (wi (wi (wi A a 0 0) a 1 0) a 2 (-1)) 20 a 3 16) 20 a 4 16) 20 a 5 9) 20 a 6 40) a 7 0
set_option maxRecDepth 100000 in
theorem pq_X9_init (S SN : SX) (n a : Nat) (A : AH) (ha : a ≠ 0) : go false 3 S SN pb_X9_init (n + 1) 0 [vR 19 a 0] [] A = cV (S 308 [vR 30 (gr (X9a A a) a 3) (ln (X9a A a) (gr (X9a A a) a 3)), vI (-1)] (X9a A a)) fun A1 => cV (S 308 [vR 30 (gr A1 a 5) (ln A1 (gr A1 a 5)), vI (-1)] A1) fun A2 => some (none, A2) := by
  obtain ⟨a, rfl⟩ := Nat.exists_eq_succ_of_ne_zero ha
  rfl
def oS0 (a : Nat) : List (Nat × Nat × Nat × Int) := [(1, a, 0, 0), (1, a, 1, 0), (1, a, 2, -1), (0, 20, 16, 0), (2, a, 3, ((a + 1 : Nat) : Int)), (0, 20, 16, 0), (2, a, 4, ((a + 2 : Nat) : Int)), (0, 20, 9, 0), (2, a, 5, ((a + 3 : Nat) : Int)), (0, 20, 40, 0), (2, a, 6, ((a + 4 : Nat) : Int)), (1, a, 7, 0)]
def oS (a : Nat) : List (Nat × Nat × Nat × Int) := oS0 a ++ (flO (a + 1) (-1) 16 0 ++ flO (a + 3) (-1) 9 0)
theorem nwc_S (a : Nat) : nwc (oS a) = 4 := by
  unfold oS
  rw [nwc_app, nwc_app, nwc_fl, nwc_fl]; rfl
theorem naq_hap {A : AH} {s : Nat} (hs : sz A = s) (k a j n : Nat) : naq A k a j n = hap A [(0, k, n, 0), (2, a, j, (s : Int))] := by
  unfold naq; rw [hs]; rfl
theorem X9a_hap (A : AH) (a : Nat) (hs : sz A = a + 1) : X9a A a = hap A (oS0 a) := by
  unfold X9a
  rw [naq_hap (s := a + 1) (show sz (wi (wi (wi A a 0 0) a 1 0) a 2 (-1)) = a + 1 from hs), naq_hap (s := a + 2) (by rw [sz_hap]; show sz A + 1 = _; omega), naq_hap (s := a + 3) (by rw [sz_hap, sz_hap]; show sz A + 1 + 1 = _; omega), naq_hap (s := a + 4) (by rw [sz_hap, sz_hap, sz_hap]; show sz A + 1 + 1 + 1 = _; omega)]
  rfl
set_option maxRecDepth 100000 in
theorem s_init_S (d a : Nat) (A : AH) (ha : a ≠ 0) (hs : sz A = a + 1) : run (d + 2) 94 [vR 19 a 0] A = some (none, hap A (oS a)) := by
  have e : run (d + 2) 94 [vR 19 a 0] A = go false 3 (run (d + 1)) (run (d + 1)) pb_X9_init (999999 + 1) 0 [vR 19 a 0] [] A := rfl
  have g3 : gr (X9a A a) a 3 = a + 1 := by unfold X9a naq; simp -implicitDefEqProofs (disch := omega) only [gr_wi, gr_wr, gr_nw, sz_wi, sz_wr, sz_nw, hs, ↓reduceIte, Int.reduceEq, cI_v, cL_v, cV_v, cR_v, wid, wid64, if_pos, if_neg, Nat.add_zero, if_true, if_false, and_self, and_true, true_and, and_false, false_and, or_true, true_or, or_false, false_or]
  have g5 : gr (X9a A a) a 5 = a + 3 := by unfold X9a naq; simp -implicitDefEqProofs (disch := omega) only [gr_wi, gr_wr, gr_nw, sz_wi, sz_wr, sz_nw, hs, ↓reduceIte, Int.reduceEq, cI_v, cL_v, cV_v, cR_v, wid, wid64, if_pos, if_neg, Nat.add_zero, if_true, if_false, and_self, and_true, true_and, and_false, false_and, or_true, true_or, or_false, false_or]
  have l3 : ln (X9a A a) (a + 1) = 16 := by unfold X9a naq; simp -implicitDefEqProofs (disch := omega) only [ln_wi, ln_wr, ln_nw, sz_wi, sz_wr, sz_nw, hs, ↓reduceIte, Int.reduceEq, cI_v, cL_v, cV_v, cR_v, wid, wid64, if_pos, if_neg, Nat.add_zero, if_true, if_false, and_self, and_true, true_and, and_false, false_and, or_true, true_or, or_false, false_or]
  have l5 : ln (X9a A a) (a + 3) = 9 := by unfold X9a naq; simp -implicitDefEqProofs (disch := omega) only [ln_wi, ln_wr, ln_nw, sz_wi, sz_wr, sz_nw, hs, ↓reduceIte, Int.reduceEq, cI_v, cL_v, cV_v, cR_v, wid, wid64, if_pos, if_neg, Nat.add_zero, if_true, if_false, and_self, and_true, true_and, and_false, false_and, or_true, true_or, or_false, false_or]
  have fg : ∀ (p : Nat) (v : Int) (m i b j : Nat) (B : AH), gr (hap B (flO p v m i)) b j = gr B b j := by
    intro p v m
    induction m with
    | zero => intro i b j B; rfl
    | succ m ih => intro i b j B; exact ih (i + 1) b j (wi B p i v)
  have fs : ∀ (p : Nat) (v : Int) (m i b : Nat) (B : AH), ln (hap B (flO p v m i)) b = ln B b := by
    intro p v m
    induction m with
    | zero => intro i b B; rfl
    | succ m ih => intro i b B; exact ih (i + 1) b (wi B p i v)
  rw [e, pq_X9_init _ _ _ _ _ ha, g3, l3, s_fillP d _ _ _ _ (by omega) (by omega), cV_v, fg, fs, g5, l5, s_fillP d _ _ _ _ (by omega) (by omega), cV_v]
  unfold oS
  rw [hap_app, hap_app, X9a_hap A a hs]
/-! the row of what is past -/
def oP : Nat → Nat → List (Nat × Nat × Nat × Int)
  | 0, _ => []
  | m + 1, k => (0, 9, 8, 0) :: (oS (80 + 5 * k) ++ ((2, 79, k, ((80 + 5 * k : Nat) : Int)) :: oP m (k + 1)))
set_option maxRecDepth 100000 in
theorem pq_X6_init_0 (S SN : SX) (n : Nat) (A : AH) : go false 3 S SN pb_X6_init (n + 1) 0 [vR 16 78 0, vU] [] A = go false 3 S SN pb_X6_init n 25 [vR 16 78 0, vI 0] [] (wi (wi (naq A 23 78 0 20) 78 1 0) 78 2 0) := rfl
set_option maxRecDepth 100000 in
theorem pq_X6_init_25 (S SN : SX) (n : Nat) (k : Int) (A : AH) (hA : sz A ≠ 0) : go false 3 S SN pb_X6_init (n + 1) 25 [vR 16 78 0, vI k] [] A = if k < 20 then cV (S 94 [vR 19 (sz A) 0] (nw A 9 8)) (fun A1 => if gr A 78 0 = 0 ∨ sz A = 0 then none else if 0 ≤ k ∧ k < (ln A (gr A 78 0) : Int) then go false 3 S SN pb_X6_init n 25 [vR 16 78 0, vI (w32 (k + 1))] [] (wr A1 (gr A 78 0) k.toNat (sz A)) else none) else go false 3 S SN pb_X6_init n 50 [vR 16 78 0, vI k] [] A := by
  obtain ⟨g, r, sh⟩ := A
  cases sh with
  | nil => exact absurd rfl hA
  | cons x t => rfl
set_option maxRecDepth 100000 in
theorem pq_X6_init_50 (S SN : SX) (n : Nat) (k : Int) (A : AH) : go false 3 S SN pb_X6_init (n + 1) 50 [vR 16 78 0, vI k] [] A = some (none, A) := rfl
theorem gr_no : ∀ (o : List (Nat × Nat × Nat × Int)) (A : AH) (a j : Nat), o.all (fun q => q.1 == 0 || q.1 == 1 || q.2.1 != a) = true → a < sz A → gr (hap A o) a j = gr A a j
  | [], _, _, _, _, _ => rfl
  | (0, k, n, v) :: r, A, a, j, h, hs => by
    rw [List.all_cons, Bool.and_eq_true] at h
    show gr (hap (nw A k n) r) a j = _
    rw [gr_no r _ a j h.2 (by rw [sz_nw]; omega), gr_nw, if_neg (by omega)]
  | (1, b, i, v) :: r, A, a, j, h, hs => by
    rw [List.all_cons, Bool.and_eq_true] at h
    exact gr_no r (wi A b i v) a j h.2 hs
  | (t + 2, b, i, v) :: r, A, a, j, h, hs => by
    rw [List.all_cons, Bool.and_eq_true] at h
    show gr (hap (wr A b i v.toNat) r) a j = _
    have hb : b ≠ a := by
      have := h.1
      simp at this
      exact this
    rw [gr_no r _ a j h.2 hs, gr_wr, if_neg (fun y => hb y.1.symm)]
theorem ln_no : ∀ (o : List (Nat × Nat × Nat × Int)) (A : AH) (a : Nat), a < sz A → ln (hap A o) a = ln A a
  | [], _, _, _ => rfl
  | (0, k, n, v) :: r, A, a, hs => by
    show ln (hap (nw A k n) r) a = _
    rw [ln_no r _ a (by rw [sz_nw]; omega), ln_nw, if_neg (by omega)]
  | (1, b, i, v) :: r, A, a, hs => ln_no r (wi A b i v) a hs
  | (t + 2, b, i, v) :: r, A, a, hs => ln_no r (wr A b i v.toNat) a hs
theorem fl_al (p : Nat) (v : Int) (a : Nat) : ∀ (m i : Nat), (flO p v m i).all (fun q => q.1 == 0 || q.1 == 1 || q.2.1 != a) = true
  | 0, _ => rfl
  | m + 1, i => by
    show (((1 == 0) || (1 == 1) || (p != a)) && (flO p v m (i + 1)).all _) = true
    rw [fl_al p v a m (i + 1)]; rfl
theorem oS_al (b a : Nat) (h : b ≠ a) : (oS b).all (fun q => q.1 == 0 || q.1 == 1 || q.2.1 != a) = true := by
  unfold oS
  rw [List.all_append, List.all_append, fl_al, fl_al]
  unfold oS0
  simp [h]
set_option maxRecDepth 100000 in
theorem l_past (d : Nat) : ∀ (m k n : Nat) (A : AH), k + m = 20 → 4 * m + 10 ≤ n → sz A = 80 + 5 * k → gr A 78 0 = 79 → ln A 79 = 20 → go false 3 (run (d + 2)) (run (d + 2)) pb_X6_init n 25 [vR 16 78 0, vI (k : Int)] [] A = some (none, hap A (oP m k)) := by
  intro m
  induction m with
  | zero =>
    intro k n A h1 h2 hs hg hl
    obtain ⟨n, rfl⟩ : ∃ e, n = e + 10 := ⟨n - 10, by omega⟩
    rw [pq_X6_init_25 _ _ _ _ _ (by omega), if_neg (by omega), pq_X6_init_50]
    rfl
  | succ m ih =>
    intro k n A h1 h2 hs hg hl
    obtain ⟨n, rfl⟩ : ∃ e, n = e + 10 := ⟨n - 10, by omega⟩
    have hn : sz (nw A 9 8) = 80 + 5 * k + 1 := by rw [sz_nw, hs]
    have hz : sz (wr (hap (nw A 9 8) (oS (80 + 5 * k))) 79 k (80 + 5 * k)) = 80 + 5 * (k + 1) := by rw [sz_wr, sz_hap, hn, nwc_S]; omega
    have hg' : gr (wr (hap (nw A 9 8) (oS (80 + 5 * k))) 79 k (80 + 5 * k)) 78 0 = 79 := by
      rw [gr_wr, if_neg (by omega), gr_no _ _ _ _ (oS_al _ _ (by omega)) (by omega), gr_nw, if_neg (by omega), hg]
    have hl' : ln (wr (hap (nw A 9 8) (oS (80 + 5 * k))) 79 k (80 + 5 * k)) 79 = 20 := by
      rw [ln_wr, ln_no _ _ _ (by omega), ln_nw, if_neg (by omega), hl]
    have e := ih (k + 1) (n + 9) _ (by omega) (by omega) hz hg' hl'
    rw [pq_X6_init_25 _ _ _ _ _ (by omega), if_pos (by omega), hs, s_init_S d (80 + 5 * k) _ (by omega) hn, cV_v, hg, if_neg (by omega), hl, if_pos (by omega), Int.toNat_natCast, wid (by omega) (by omega), show (k : Int) + 1 = ((k + 1 : Nat) : Int) by omega, e]
    show some (none, hap (wr (hap (nw A 9 8) (oS (80 + 5 * k))) 79 k (80 + 5 * k)) (oP m (k + 1))) = some (none, hap (nw A 9 8) (oS (80 + 5 * k) ++ ((2, 79, k, ((80 + 5 * k : Nat) : Int)) :: oP m (k + 1))))
    rw [hap_app]
    rfl
def oPa : List (Nat × Nat × Nat × Int) := [(0, 23, 20, 0), (2, 78, 0, 79), (1, 78, 1, 0), (1, 78, 2, 0)] ++ oP 20 0
set_option maxRecDepth 100000 in
theorem s_init_Pa (d : Nat) (A : AH) (hs : sz A = 79) : run (d + 3) 74 [vR 16 78 0] A = some (none, hap A oPa) := by
  have e : run (d + 3) 74 [vR 16 78 0] A = go false 3 (run (d + 2)) (run (d + 2)) pb_X6_init (999999 + 1) 0 [vR 16 78 0, vU] [] A := rfl
  have e2 : wi (wi (naq A 23 78 0 20) 78 1 0) 78 2 0 = hap A [(0, 23, 20, 0), (2, 78, 0, 79), (1, 78, 1, 0), (1, 78, 2, 0)] := by
    rw [naq_hap hs]; rfl
  have hz : sz (wi (wi (naq A 23 78 0 20) 78 1 0) 78 2 0) = 80 := by rw [e2, sz_hap, hs]; rfl
  have hg : gr (wi (wi (naq A 23 78 0 20) 78 1 0) 78 2 0) 78 0 = 79 := by unfold naq; simp -implicitDefEqProofs (disch := omega) only [gr_wi, gr_wr, hs, ↓reduceIte, Int.reduceEq, cI_v, cL_v, cV_v, cR_v, wid, wid64, if_pos, if_neg, Nat.add_zero, if_true, if_false, and_self, and_true, true_and, and_false, false_and, or_true, true_or, or_false, false_or]
  have hl : ln (wi (wi (naq A 23 78 0 20) 78 1 0) 78 2 0) 79 = 20 := by unfold naq; simp -implicitDefEqProofs (disch := omega) only [ln_wi, ln_wr, ln_nw, hs, ↓reduceIte, Int.reduceEq, cI_v, cL_v, cV_v, cR_v, wid, wid64, if_pos, if_neg, Nat.add_zero, if_true, if_false, and_self, and_true, true_and, and_false, false_and, or_true, true_or, or_false, false_or]
  rw [e, pq_X6_init_0]
  have e3 := l_past d 20 0 999999 _ (by omega) (by omega) hz hg hl
  unfold oPa
  rw [hap_app, ← e2]
  exact e3

