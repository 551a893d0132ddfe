/-! the class, made: HallText, SilentCourt; the law's first stretch -/
theorem stg (X : AH) (k n a j s : Nat) (o : List (Nat × Nat × Nat × Int)) : wr (hap (nw X k n) o) a j s = hap X ((0, k, n, 0) :: (o ++ [(2, a, j, (s : Int))])) := by
  show _ = hap (nw X k n) (o ++ [(2, a, j, (s : Int))])
  rw [hap_app]
  rfl
def clT_a : List EI := [e0 (.aload_n 0) 1, (.invokespecial 3, 3, 0, 1, 0, 9, 3, 0), e0 (.aload_n 0) 1, e0 (.iconst 3) 1, e0 (.newarray .int) 2, (.putfield 9, 3, 4, 2, 30, 47, 3, 1)]
def clT_b : List EI := [e0 (.aload_n 0) 1, (.new 15, 7, 3, 19, 43, 17, 0, 0), (.putfield 18, 3, 4, 3, 13, 0, 0, 0)]
def clT_c : List EI := [e0 (.aload_n 0) 1, e0 (.aload_n 1) 1, (.putfield 22, 3, 4, 0, 18, 42, 0, 1), e0 (.aload_n 0) 1, e0 (.aload_n 2) 1, (.putfield 26, 3, 4, 1, 12, 44, 0, 1)]
theorem ckT_a (S SN : SX) (jp : Nat → NX) (rest : List EI) (A : AH) : blk false 3 S SN jp (clT_a ++ rest) 0 [vR 14 46 0, vR 18 42 0, vR 12 44 0] [] A = blk false 3 S SN jp rest 11 [vR 14 46 0, vR 18 42 0, vR 12 44 0] [] (wr (nw A 20 3) 46 2 (sz A)) := rfl
theorem ckT_b (S SN : SX) (jp : Nat → NX) (rest : List EI) (A : AH) : blk false 3 S SN jp (clT_b ++ rest) 11 [vR 14 46 0, vR 18 42 0, vR 12 44 0] [] A = cV (SN 42 [vR 13 (sz A) 0] (nw A 3 19)) fun A1 => blk false 3 S SN jp rest 22 [vR 14 46 0, vR 18 42 0, vR 12 44 0] [] (wr A1 46 3 (sz A)) := rfl
theorem ckT_c (S SN : SX) (jp : Nat → NX) (A : AH) : blk false 3 S SN jp (clT_c ++ [e0 .return_ 1]) 22 [vR 14 46 0, vR 18 42 0, vR 12 44 0] [] A = some (none, wr (wr A 46 0 42) 46 1 44) := rfl
set_option maxRecDepth 100000 in
theorem gsT (S SN : SX) (n : Nat) (A : AH) : go false 3 S SN pb_X4_init (n + 1) 0 [vR 14 46 0, vR 18 42 0, vR 12 44 0] [] A = blk false 3 S SN (go false 3 S SN pb_X4_init n) (clT_a ++ (clT_b ++ (clT_c ++ [e0 .return_ 1]))) 0 [vR 14 46 0, vR 18 42 0, vR 12 44 0] [] A := rfl
def oT : List (Nat × Nat × Nat × Int) := [(0, 20, 3, 0), (2, 46, 2, 47)] ++ (((0, 3, 19, 0) :: (o_H1 ++ [(2, 46, 3, 48)])) ++ [(2, 46, 0, 42), (2, 46, 1, 44)])
set_option maxRecDepth 100000 in
set_option maxRecDepth 100000 in
theorem s_init_T (d : Nat) (A : AH) (hs : sz A = 47) : run (d + 2) 53 [vR 14 46 0, vR 18 42 0, vR 12 44 0] A = some (none, hap A oT) := by
  have e : run (d + 2) 53 [vR 14 46 0, vR 18 42 0, vR 12 44 0] A = go false 3 (run (d + 1)) (run (d + 1)) pb_X4_init (999999 + 1) 0 [vR 14 46 0, vR 18 42 0, vR 12 44 0] [] A := rfl
  have z : sz (wr (nw A 20 3) 46 2 47) = 48 := by rw [sz_wr, sz_nw, hs]
  rw [e, gsT, ckT_a, hs, ckT_b, z, s_init_H1 d _ (by rw [sz_nw, z]), cV_v, ckT_c, stg]
  unfold oT
  rw [hap_app, hap_app]
  rfl
def clC_0 : List EI := [e0 (.aload_n 0) 1, (.invokespecial 1, 3, 0, 1, 0, 9, 3, 0)]
def clC_4 : List EI := [e0 (.aload_n 0) 1, e0 (.sipush 1600) 3, e0 (.newarray .int) 2, (.putfield 9, 3, 10, 0, 30, 41, 1600, 1)]
def clC_13 : List EI := [e0 (.aload_n 0) 1, e0 (.iconst 0) 1, (.putfield 13, 3, 10, 1, 0, 0, 0, 0)]
def clC_18 : List EI := [e0 (.aload_n 0) 1, (.new 17, 3, 8, 13, 0, 0, 0, 0), e0 .dup 1, (.invokespecial 19, 3, 83, 1, 8, 1, 3, 0), (.putfield 20, 3, 10, 2, 18, 42, 0, 1)]
def clC_29 : List EI := [e0 (.aload_n 0) 1, (.new 24, 3, 2, 5, 0, 0, 0, 0), e0 .dup 1, e0 (.aload_n 0) 1, (.getfield 20, 3, 10, 2, 18, 42, 0, 1), (.invokespecial 26, 3, 30, 2, 2, 0, 3, 0), (.putfield 29, 3, 10, 3, 12, 44, 0, 1)]
def clC_44 : List EI := [e0 (.aload_n 0) 1, (.new 33, 3, 4, 4, 0, 0, 0, 0), e0 .dup 1, e0 (.aload_n 0) 1, (.getfield 20, 3, 10, 2, 18, 42, 0, 1), e0 (.aload_n 0) 1, (.getfield 29, 3, 10, 3, 12, 44, 0, 1), (.invokespecial 35, 3, 53, 3, 4, 0, 3, 0), (.putfield 38, 3, 10, 4, 14, 46, 0, 1)]
def clC_63 : List EI := [e0 (.aload_n 0) 1, (.new 42, 7, 3, 19, 43, 44, 0, 0), (.putfield 45, 3, 10, 5, 13, 0, 0, 0)]
def clC_74 : List EI := [e0 (.aload_n 0) 1, (.new 49, 3, 9, 8, 0, 0, 0, 0), e0 .dup 1, (.invokespecial 51, 3, 94, 1, 9, 0, 3, 0), (.putfield 52, 3, 10, 6, 19, 68, 0, 1)]
def clC_85 : List EI := [e0 (.aload_n 0) 1, (.new 49, 3, 9, 8, 0, 0, 0, 0), e0 .dup 1, (.invokespecial 51, 3, 94, 1, 9, 0, 3, 0), (.putfield 56, 3, 10, 7, 19, 73, 0, 1)]
def clC_96 : List EI := [e0 (.aload_n 0) 1, (.new 59, 3, 6, 3, 0, 0, 0, 0), e0 .dup 1, (.invokespecial 61, 3, 74, 1, 6, 0, 3, 0), (.putfield 62, 3, 10, 8, 16, 78, 0, 1)]
def clC_107 : List EI := [e0 (.aload_n 0) 1, (.new 66, 3, 0, 12, 0, 0, 0, 0), e0 .dup 1, e0 (.aload_n 0) 1, (.getfield 45, 3, 10, 5, 13, 0, 0, 0), e0 (.aload_n 0) 1, (.getfield 52, 3, 10, 6, 19, 68, 0, 1), (.invokespecial 68, 3, 0, 3, 0, 0, 3, 0), (.putfield 71, 3, 10, 9, 10, 180, 0, 1)]
def clC_126 : List EI := [e0 (.aload_n 0) 1, (.new 75, 3, 1, 2, 0, 0, 0, 0), e0 .dup 1, e0 (.aload_n 0) 1, (.getfield 71, 3, 10, 9, 10, 180, 0, 1), e0 (.aload_n 0) 1, (.getfield 56, 3, 10, 7, 19, 73, 0, 1), (.invokespecial 77, 3, 16, 3, 1, 0, 3, 0), (.putfield 80, 3, 10, 10, 11, 185, 0, 1)]
def clC_145 : List EI := [e0 (.aload_n 0) 1, (.new 84, 3, 7, 4, 0, 0, 0, 0), e0 .dup 1, e0 (.aload_n 0) 1, (.getfield 20, 3, 10, 2, 18, 42, 0, 1), e0 (.aload_n 0) 1, (.getfield 29, 3, 10, 3, 12, 44, 0, 1), e0 (.aload_n 0) 1, (.getfield 71, 3, 10, 9, 10, 180, 0, 1), (.invokespecial 86, 3, 78, 4, 7, 0, 3, 0), (.putfield 89, 3, 10, 11, 17, 186, 0, 1)]
def clC_168 : List EI := [e0 (.aload_n 0) 1, (.new 93, 3, 5, 2, 0, 0, 0, 0), e0 .dup 1, (.invokespecial 95, 3, 67, 1, 5, 1, 3, 0), (.putfield 96, 3, 10, 12, 15, 187, 0, 1)]
def clC_179 : List EI := [e0 (.aload_n 0) 1, e0 (.bipush 6) 2, e0 (.newarray .int) 2, (.putfield 100, 3, 10, 13, 30, 189, 6, 1)]
def clC_187 : List EI := [e0 (.aload_n 0) 1, e0 (.iconst 1) 1, (.putfield 103, 3, 10, 14, 0, 0, 0, 0)]
theorem ckC_0 (S SN : SX) (jp : Nat → NX) (rest : List EI) (A : AH) : blk false 3 S SN jp (clC_0 ++ rest) 0 [vR 20 40 0] [] A = blk false 3 S SN jp rest 4 [vR 20 40 0] [] A := rfl
theorem ckC_4 (S SN : SX) (jp : Nat → NX) (rest : List EI) (A : AH) : blk false 3 S SN jp (clC_4 ++ rest) 4 [vR 20 40 0] [] A = blk false 3 S SN jp rest 13 [vR 20 40 0] [] (wr (nw A 20 1600) 40 0 (sz A)) := rfl
theorem ckC_13 (S SN : SX) (jp : Nat → NX) (rest : List EI) (A : AH) : blk false 3 S SN jp (clC_13 ++ rest) 13 [vR 20 40 0] [] A = blk false 3 S SN jp rest 18 [vR 20 40 0] [] (wi A 40 1 0) := rfl
theorem ckC_179 (S SN : SX) (jp : Nat → NX) (rest : List EI) (A : AH) : blk false 3 S SN jp (clC_179 ++ rest) 179 [vR 20 40 0] [] A = blk false 3 S SN jp rest 187 [vR 20 40 0] [] (wr (nw A 20 6) 40 13 (sz A)) := rfl
theorem ckC_187 (S SN : SX) (jp : Nat → NX) (rest : List EI) (A : AH) : blk false 3 S SN jp (clC_187 ++ rest) 187 [vR 20 40 0] [] A = blk false 3 S SN jp rest 192 [vR 20 40 0] [] (wi A 40 14 1) := rfl
theorem ckC_18 (S SN : SX) (jp : Nat → NX) (rest : List EI) (A : AH) (hA : sz A ≠ 0) : blk false 3 S SN jp (clC_18 ++ rest) 18 [vR 20 40 0] [] A = cV (S 83 [vR 18 (sz A) 0] (nw A 8 13)) fun A1 => blk false 3 S SN jp rest 29 [vR 20 40 0] [] (wr A1 40 2 (sz A)) := by
  obtain ⟨g, r, sh⟩ := A
  cases sh with
  | nil => exact absurd rfl hA
  | cons x t => rfl
theorem ckC_29 (S SN : SX) (jp : Nat → NX) (rest : List EI) (A : AH) (hA : sz A ≠ 0) : blk false 3 S SN jp (clC_29 ++ rest) 29 [vR 20 40 0] [] A = cV (S 30 [vR 12 (sz A) 0, vR 18 (gr (nw A 2 5) 40 2) 0] (nw A 2 5)) fun A1 => blk false 3 S SN jp rest 44 [vR 20 40 0] [] (wr A1 40 3 (sz A)) := by
  obtain ⟨g, r, sh⟩ := A
  cases sh with
  | nil => exact absurd rfl hA
  | cons x t => rfl
theorem ckC_44 (S SN : SX) (jp : Nat → NX) (rest : List EI) (A : AH) (hA : sz A ≠ 0) : blk false 3 S SN jp (clC_44 ++ rest) 44 [vR 20 40 0] [] A = cV (S 53 [vR 14 (sz A) 0, vR 18 (gr (nw A 4 4) 40 2) 0, vR 12 (gr (nw A 4 4) 40 3) 0] (nw A 4 4)) fun A1 => blk false 3 S SN jp rest 63 [vR 20 40 0] [] (wr A1 40 4 (sz A)) := by
  obtain ⟨g, r, sh⟩ := A
  cases sh with
  | nil => exact absurd rfl hA
  | cons x t => rfl
theorem ckC_63 (S SN : SX) (jp : Nat → NX) (rest : List EI) (A : AH) (hA : sz A ≠ 0) : blk false 3 S SN jp (clC_63 ++ rest) 63 [vR 20 40 0] [] A = cV (SN 42 [vR 13 (sz A) 0] (nw A 3 19)) fun A1 => blk false 3 S SN jp rest 74 [vR 20 40 0] [] (wr A1 40 5 (sz A)) := by
  obtain ⟨g, r, sh⟩ := A
  cases sh with
  | nil => exact absurd rfl hA
  | cons x t => rfl
theorem ckC_74 (S SN : SX) (jp : Nat → NX) (rest : List EI) (A : AH) (hA : sz A ≠ 0) : blk false 3 S SN jp (clC_74 ++ rest) 74 [vR 20 40 0] [] A = cV (S 94 [vR 19 (sz A) 0] (nw A 9 8)) fun A1 => blk false 3 S SN jp rest 85 [vR 20 40 0] [] (wr A1 40 6 (sz A)) := by
  obtain ⟨g, r, sh⟩ := A
  cases sh with
  | nil => exact absurd rfl hA
  | cons x t => rfl
theorem ckC_85 (S SN : SX) (jp : Nat → NX) (rest : List EI) (A : AH) (hA : sz A ≠ 0) : blk false 3 S SN jp (clC_85 ++ rest) 85 [vR 20 40 0] [] A = cV (S 94 [vR 19 (sz A) 0] (nw A 9 8)) fun A1 => blk false 3 S SN jp rest 96 [vR 20 40 0] [] (wr A1 40 7 (sz A)) := by
  obtain ⟨g, r, sh⟩ := A
  cases sh with
  | nil => exact absurd rfl hA
  | cons x t => rfl
theorem ckC_96 (S SN : SX) (jp : Nat → NX) (rest : List EI) (A : AH) (hA : sz A ≠ 0) : blk false 3 S SN jp (clC_96 ++ rest) 96 [vR 20 40 0] [] A = cV (S 74 [vR 16 (sz A) 0] (nw A 6 3)) fun A1 => blk false 3 S SN jp rest 107 [vR 20 40 0] [] (wr A1 40 8 (sz A)) := by
  obtain ⟨g, r, sh⟩ := A
  cases sh with
  | nil => exact absurd rfl hA
  | cons x t => rfl
theorem ckC_107 (S SN : SX) (jp : Nat → NX) (rest : List EI) (A : AH) (hA : sz A ≠ 0) : blk false 3 S SN jp (clC_107 ++ rest) 107 [vR 20 40 0] [] A = cV (S 0 [vR 10 (sz A) 0, vR 13 (gr (nw A 0 12) 40 5) 0, vR 19 (gr (nw A 0 12) 40 6) 0] (nw A 0 12)) fun A1 => blk false 3 S SN jp rest 126 [vR 20 40 0] [] (wr A1 40 9 (sz A)) := by
  obtain ⟨g, r, sh⟩ := A
  cases sh with
  | nil => exact absurd rfl hA
  | cons x t => rfl
theorem ckC_126 (S SN : SX) (jp : Nat → NX) (rest : List EI) (A : AH) (hA : sz A ≠ 0) : blk false 3 S SN jp (clC_126 ++ rest) 126 [vR 20 40 0] [] A = cV (S 16 [vR 11 (sz A) 0, vR 10 (gr (nw A 1 2) 40 9) 0, vR 19 (gr (nw A 1 2) 40 7) 0] (nw A 1 2)) fun A1 => blk false 3 S SN jp rest 145 [vR 20 40 0] [] (wr A1 40 10 (sz A)) := by
  obtain ⟨g, r, sh⟩ := A
  cases sh with
  | nil => exact absurd rfl hA
  | cons x t => rfl
theorem ckC_145 (S SN : SX) (jp : Nat → NX) (rest : List EI) (A : AH) (hA : sz A ≠ 0) : blk false 3 S SN jp (clC_145 ++ rest) 145 [vR 20 40 0] [] A = cV (S 78 [vR 17 (sz A) 0, vR 18 (gr (nw A 7 4) 40 2) 0, vR 12 (gr (nw A 7 4) 40 3) 0, vR 10 (gr (nw A 7 4) 40 9) 0] (nw A 7 4)) fun A1 => blk false 3 S SN jp rest 168 [vR 20 40 0] [] (wr A1 40 11 (sz A)) := by
  obtain ⟨g, r, sh⟩ := A
  cases sh with
  | nil => exact absurd rfl hA
  | cons x t => rfl
theorem ckC_168 (S SN : SX) (jp : Nat → NX) (rest : List EI) (A : AH) (hA : sz A ≠ 0) : blk false 3 S SN jp (clC_168 ++ rest) 168 [vR 20 40 0] [] A = cV (S 67 [vR 15 (sz A) 0] (nw A 5 2)) fun A1 => blk false 3 S SN jp rest 179 [vR 20 40 0] [] (wr A1 40 12 (sz A)) := by
  obtain ⟨g, r, sh⟩ := A
  cases sh with
  | nil => exact absurd rfl hA
  | cons x t => rfl
def oC0 : List (Nat × Nat × Nat × Int) := [(0, 20, 1600, 0), (2, 40, 0, 41), (1, 40, 1, 0)]
def oC1 : List (Nat × Nat × Nat × Int) := (0, 8, 13, 0) :: (o_Rd ++ [(2, 40, 2, ((42 : Nat) : Int))])
def oC2 : List (Nat × Nat × Nat × Int) := (0, 2, 5, 0) :: (o_Gr ++ [(2, 40, 3, ((44 : Nat) : Int))])
def oC3 : List (Nat × Nat × Nat × Int) := (0, 4, 4, 0) :: (oT ++ [(2, 40, 4, ((46 : Nat) : Int))])
def oC4 : List (Nat × Nat × Nat × Int) := (0, 3, 19, 0) :: (o_H2 ++ [(2, 40, 5, ((58 : Nat) : Int))])
def oC5 : List (Nat × Nat × Nat × Int) := (0, 9, 8, 0) :: ((oS 68) ++ [(2, 40, 6, ((68 : Nat) : Int))])
def oC6 : List (Nat × Nat × Nat × Int) := (0, 9, 8, 0) :: ((oS 73) ++ [(2, 40, 7, ((73 : Nat) : Int))])
def oC7 : List (Nat × Nat × Nat × Int) := (0, 6, 3, 0) :: (oPa ++ [(2, 40, 8, ((78 : Nat) : Int))])
def oC8 : List (Nat × Nat × Nat × Int) := (0, 0, 12, 0) :: (o_Be ++ [(2, 40, 9, ((180 : Nat) : Int))])
def oC9 : List (Nat × Nat × Nat × Int) := (0, 1, 2, 0) :: (o_Co ++ [(2, 40, 10, ((185 : Nat) : Int))])
def oC10 : List (Nat × Nat × Nat × Int) := (0, 7, 4, 0) :: (o_Qu ++ [(2, 40, 11, ((186 : Nat) : Int))])
def oC11 : List (Nat × Nat × Nat × Int) := (0, 5, 2, 0) :: (o_Im ++ [(2, 40, 12, ((187 : Nat) : Int))])
def oC12 : List (Nat × Nat × Nat × Int) := [(0, 20, 6, 0), (2, 40, 13, 189), (1, 40, 14, 1)]
def oC : List (Nat × Nat × Nat × Int) := oC0 ++ (oC1 ++ (oC2 ++ (oC3 ++ (oC4 ++ (oC5 ++ (oC6 ++ (oC7 ++ (oC8 ++ (oC9 ++ (oC10 ++ (oC11 ++ (oC12))))))))))))
set_option maxRecDepth 100000 in
theorem gsC (S SN : SX) (n : Nat) (A : AH) : go false 3 S SN pb_X11_init (n + 1) 0 [vR 20 40 0] [] A = blk false 3 S SN (go false 3 S SN pb_X11_init n) (clC_0 ++ (clC_4 ++ (clC_13 ++ (clC_18 ++ (clC_29 ++ (clC_44 ++ (clC_63 ++ (clC_74 ++ (clC_85 ++ (clC_96 ++ (clC_107 ++ (clC_126 ++ (clC_145 ++ (clC_168 ++ (clC_179 ++ (clC_187 ++ [e0 .return_ 1])))))))))))))))) 0 [vR 20 40 0] [] A := rfl
set_option maxRecDepth 100000 in
set_option maxRecDepth 100000 in
theorem s_init_C (d : Nat) (A : AH) (hs : sz A = 41) : run (d + 4) 108 [vR 20 40 0] A = some (none, hap A oC) := by
  have e : run (d + 4) 108 [vR 20 40 0] A = go false 3 (run (d + 3)) (run (d + 3)) pb_X11_init (999999 + 1) 0 [vR 20 40 0] [] A := rfl
  obtain ⟨X0, hX0⟩ : ∃ X, X = wi (wr (nw A 20 1600) 40 0 41) 40 1 0 := ⟨_, rfl⟩
  have q0 : X0 = hap A oC0 := hX0
  have z0 : sz X0 = 42 := by rw [hX0, sz_wi, sz_wr, sz_nw, hs]
  rw [e, gsC, ckC_0, ckC_4, hs, ckC_13, ← hX0]
  have y0 : sz (nw X0 8 13) = 43 := by rw [sz_nw, z0]
  obtain ⟨X1, hX1⟩ : ∃ X, X = wr (hap (nw X0 8 13) o_Rd) 40 2 42 := ⟨_, rfl⟩
  have q1 : X1 = hap X0 oC1 := by rw [hX1, stg]; rfl
  have z1 : sz X1 = 44 := by rw [hX1, sz_wr, sz_hap, y0]; decide +kernel
  have g1_2 : gr X1 40 2 = 42 := by rw [hX1, gr_wr, if_pos ⟨rfl, rfl⟩]
  rw [ckC_18 _ _ _ _ _ (by omega), z0, s_init_Rd (d + 2) _ (by rw [y0]), cV_v, ← hX1]
  have r1_2 : gr (nw X1 2 5) 40 2 = 42 := by rw [gr_nw, if_neg (by omega), g1_2]
  have y1 : sz (nw X1 2 5) = 45 := by rw [sz_nw, z1]
  obtain ⟨X2, hX2⟩ : ∃ X, X = wr (hap (nw X1 2 5) o_Gr) 40 3 44 := ⟨_, rfl⟩
  have q2 : X2 = hap X1 oC2 := by rw [hX2, stg]; rfl
  have z2 : sz X2 = 46 := by rw [hX2, sz_wr, sz_hap, y1]; decide +kernel
  have g2_2 : gr X2 40 2 = 42 := by rw [hX2, gr_wr, if_neg (by omega), gr_no _ _ _ _ (by decide +kernel) (by omega), gr_nw, if_neg (by omega), g1_2]
  have g2_3 : gr X2 40 3 = 44 := by rw [hX2, gr_wr, if_pos ⟨rfl, rfl⟩]
  rw [ckC_29 _ _ _ _ _ (by omega), z1, r1_2, s_init_Gr (d + 2) _ (by rw [y1]), cV_v, ← hX2]
  have r2_2 : gr (nw X2 4 4) 40 2 = 42 := by rw [gr_nw, if_neg (by omega), g2_2]
  have r2_3 : gr (nw X2 4 4) 40 3 = 44 := by rw [gr_nw, if_neg (by omega), g2_3]
  have y2 : sz (nw X2 4 4) = 47 := by rw [sz_nw, z2]
  obtain ⟨X3, hX3⟩ : ∃ X, X = wr (hap (nw X2 4 4) oT) 40 4 46 := ⟨_, rfl⟩
  have q3 : X3 = hap X2 oC3 := by rw [hX3, stg]; rfl
  have z3 : sz X3 = 58 := by rw [hX3, sz_wr, sz_hap, y2]; decide +kernel
  have g3_2 : gr X3 40 2 = 42 := by rw [hX3, gr_wr, if_neg (by omega), gr_no _ _ _ _ (by decide +kernel) (by omega), gr_nw, if_neg (by omega), g2_2]
  have g3_3 : gr X3 40 3 = 44 := by rw [hX3, gr_wr, if_neg (by omega), gr_no _ _ _ _ (by decide +kernel) (by omega), gr_nw, if_neg (by omega), g2_3]
  rw [ckC_44 _ _ _ _ _ (by omega), z2, r2_2, r2_3, s_init_T (d + 1) _ (by rw [y2]), cV_v, ← hX3]
  have y3 : sz (nw X3 3 19) = 59 := by rw [sz_nw, z3]
  obtain ⟨X4, hX4⟩ : ∃ X, X = wr (hap (nw X3 3 19) o_H2) 40 5 58 := ⟨_, rfl⟩
  have q4 : X4 = hap X3 oC4 := by rw [hX4, stg]; rfl
  have z4 : sz X4 = 68 := by rw [hX4, sz_wr, sz_hap, y3]; decide +kernel
  have g4_2 : gr X4 40 2 = 42 := by rw [hX4, gr_wr, if_neg (by omega), gr_no _ _ _ _ (by decide +kernel) (by omega), gr_nw, if_neg (by omega), g3_2]
  have g4_3 : gr X4 40 3 = 44 := by rw [hX4, gr_wr, if_neg (by omega), gr_no _ _ _ _ (by decide +kernel) (by omega), gr_nw, if_neg (by omega), g3_3]
  have g4_5 : gr X4 40 5 = 58 := by rw [hX4, gr_wr, if_pos ⟨rfl, rfl⟩]
  rw [ckC_63 _ _ _ _ _ (by omega), z3, s_init_H2 (d + 2) _ (by rw [y3]), cV_v, ← hX4]
  have y4 : sz (nw X4 9 8) = 69 := by rw [sz_nw, z4]
  obtain ⟨X5, hX5⟩ : ∃ X, X = wr (hap (nw X4 9 8) (oS 68)) 40 6 68 := ⟨_, rfl⟩
  have q5 : X5 = hap X4 oC5 := by rw [hX5, stg]; rfl
  have z5 : sz X5 = 73 := by rw [hX5, sz_wr, sz_hap, y4]; decide +kernel
  have g5_2 : gr X5 40 2 = 42 := by rw [hX5, gr_wr, if_neg (by omega), gr_no _ _ _ _ (by decide +kernel) (by omega), gr_nw, if_neg (by omega), g4_2]
  have g5_3 : gr X5 40 3 = 44 := by rw [hX5, gr_wr, if_neg (by omega), gr_no _ _ _ _ (by decide +kernel) (by omega), gr_nw, if_neg (by omega), g4_3]
  have g5_5 : gr X5 40 5 = 58 := by rw [hX5, gr_wr, if_neg (by omega), gr_no _ _ _ _ (by decide +kernel) (by omega), gr_nw, if_neg (by omega), g4_5]
  have g5_6 : gr X5 40 6 = 68 := by rw [hX5, gr_wr, if_pos ⟨rfl, rfl⟩]
  rw [ckC_74 _ _ _ _ _ (by omega), z4, s_init_S (d + 1) 68 _ (by omega) (by rw [y4]), cV_v, ← hX5]
  have y5 : sz (nw X5 9 8) = 74 := by rw [sz_nw, z5]
  obtain ⟨X6, hX6⟩ : ∃ X, X = wr (hap (nw X5 9 8) (oS 73)) 40 7 73 := ⟨_, rfl⟩
  have q6 : X6 = hap X5 oC6 := by rw [hX6, stg]; rfl
  have z6 : sz X6 = 78 := by rw [hX6, sz_wr, sz_hap, y5]; decide +kernel
  have g6_2 : gr X6 40 2 = 42 := by rw [hX6, gr_wr, if_neg (by omega), gr_no _ _ _ _ (by decide +kernel) (by omega), gr_nw, if_neg (by omega), g5_2]
  have g6_3 : gr X6 40 3 = 44 := by rw [hX6, gr_wr, if_neg (by omega), gr_no _ _ _ _ (by decide +kernel) (by omega), gr_nw, if_neg (by omega), g5_3]
  have g6_5 : gr X6 40 5 = 58 := by rw [hX6, gr_wr, if_neg (by omega), gr_no _ _ _ _ (by decide +kernel) (by omega), gr_nw, if_neg (by omega), g5_5]
  have g6_6 : gr X6 40 6 = 68 := by rw [hX6, gr_wr, if_neg (by omega), gr_no _ _ _ _ (by decide +kernel) (by omega), gr_nw, if_neg (by omega), g5_6]
  have g6_7 : gr X6 40 7 = 73 := by rw [hX6, gr_wr, if_pos ⟨rfl, rfl⟩]
  rw [ckC_85 _ _ _ _ _ (by omega), z5, s_init_S (d + 1) 73 _ (by omega) (by rw [y5]), cV_v, ← hX6]
  have y6 : sz (nw X6 6 3) = 79 := by rw [sz_nw, z6]
  obtain ⟨X7, hX7⟩ : ∃ X, X = wr (hap (nw X6 6 3) oPa) 40 8 78 := ⟨_, rfl⟩
  have q7 : X7 = hap X6 oC7 := by rw [hX7, stg]; rfl
  have z7 : sz X7 = 180 := by rw [hX7, sz_wr, sz_hap, y6]; decide +kernel
  have g7_2 : gr X7 40 2 = 42 := by rw [hX7, gr_wr, if_neg (by omega), gr_no _ _ _ _ (by decide +kernel) (by omega), gr_nw, if_neg (by omega), g6_2]
  have g7_3 : gr X7 40 3 = 44 := by rw [hX7, gr_wr, if_neg (by omega), gr_no _ _ _ _ (by decide +kernel) (by omega), gr_nw, if_neg (by omega), g6_3]
  have g7_5 : gr X7 40 5 = 58 := by rw [hX7, gr_wr, if_neg (by omega), gr_no _ _ _ _ (by decide +kernel) (by omega), gr_nw, if_neg (by omega), g6_5]
  have g7_6 : gr X7 40 6 = 68 := by rw [hX7, gr_wr, if_neg (by omega), gr_no _ _ _ _ (by decide +kernel) (by omega), gr_nw, if_neg (by omega), g6_6]
  have g7_7 : gr X7 40 7 = 73 := by rw [hX7, gr_wr, if_neg (by omega), gr_no _ _ _ _ (by decide +kernel) (by omega), gr_nw, if_neg (by omega), g6_7]
  rw [ckC_96 _ _ _ _ _ (by omega), z6, s_init_Pa d _ (by rw [y6]), cV_v, ← hX7]
  have r7_5 : gr (nw X7 0 12) 40 5 = 58 := by rw [gr_nw, if_neg (by omega), g7_5]
  have r7_6 : gr (nw X7 0 12) 40 6 = 68 := by rw [gr_nw, if_neg (by omega), g7_6]
  have y7 : sz (nw X7 0 12) = 181 := by rw [sz_nw, z7]
  obtain ⟨X8, hX8⟩ : ∃ X, X = wr (hap (nw X7 0 12) o_Be) 40 9 180 := ⟨_, rfl⟩
  have q8 : X8 = hap X7 oC8 := by rw [hX8, stg]; rfl
  have z8 : sz X8 = 185 := by rw [hX8, sz_wr, sz_hap, y7]; decide +kernel
  have g8_2 : gr X8 40 2 = 42 := by rw [hX8, gr_wr, if_neg (by omega), gr_no _ _ _ _ (by decide +kernel) (by omega), gr_nw, if_neg (by omega), g7_2]
  have g8_3 : gr X8 40 3 = 44 := by rw [hX8, gr_wr, if_neg (by omega), gr_no _ _ _ _ (by decide +kernel) (by omega), gr_nw, if_neg (by omega), g7_3]
  have g8_5 : gr X8 40 5 = 58 := by rw [hX8, gr_wr, if_neg (by omega), gr_no _ _ _ _ (by decide +kernel) (by omega), gr_nw, if_neg (by omega), g7_5]
  have g8_6 : gr X8 40 6 = 68 := by rw [hX8, gr_wr, if_neg (by omega), gr_no _ _ _ _ (by decide +kernel) (by omega), gr_nw, if_neg (by omega), g7_6]
  have g8_7 : gr X8 40 7 = 73 := by rw [hX8, gr_wr, if_neg (by omega), gr_no _ _ _ _ (by decide +kernel) (by omega), gr_nw, if_neg (by omega), g7_7]
  have g8_9 : gr X8 40 9 = 180 := by rw [hX8, gr_wr, if_pos ⟨rfl, rfl⟩]
  rw [ckC_107 _ _ _ _ _ (by omega), z7, r7_5, r7_6, s_init_Be (d + 2) _ (by rw [y7]), cV_v, ← hX8]
  have r8_9 : gr (nw X8 1 2) 40 9 = 180 := by rw [gr_nw, if_neg (by omega), g8_9]
  have r8_7 : gr (nw X8 1 2) 40 7 = 73 := by rw [gr_nw, if_neg (by omega), g8_7]
  have y8 : sz (nw X8 1 2) = 186 := by rw [sz_nw, z8]
  obtain ⟨X9, hX9⟩ : ∃ X, X = wr (hap (nw X8 1 2) o_Co) 40 10 185 := ⟨_, rfl⟩
  have q9 : X9 = hap X8 oC9 := by rw [hX9, stg]; rfl
  have z9 : sz X9 = 186 := by rw [hX9, sz_wr, sz_hap, y8]; decide +kernel
  have g9_2 : gr X9 40 2 = 42 := by rw [hX9, gr_wr, if_neg (by omega), gr_no _ _ _ _ (by decide +kernel) (by omega), gr_nw, if_neg (by omega), g8_2]
  have g9_3 : gr X9 40 3 = 44 := by rw [hX9, gr_wr, if_neg (by omega), gr_no _ _ _ _ (by decide +kernel) (by omega), gr_nw, if_neg (by omega), g8_3]
  have g9_5 : gr X9 40 5 = 58 := by rw [hX9, gr_wr, if_neg (by omega), gr_no _ _ _ _ (by decide +kernel) (by omega), gr_nw, if_neg (by omega), g8_5]
  have g9_6 : gr X9 40 6 = 68 := by rw [hX9, gr_wr, if_neg (by omega), gr_no _ _ _ _ (by decide +kernel) (by omega), gr_nw, if_neg (by omega), g8_6]
  have g9_7 : gr X9 40 7 = 73 := by rw [hX9, gr_wr, if_neg (by omega), gr_no _ _ _ _ (by decide +kernel) (by omega), gr_nw, if_neg (by omega), g8_7]
  have g9_9 : gr X9 40 9 = 180 := by rw [hX9, gr_wr, if_neg (by omega), gr_no _ _ _ _ (by decide +kernel) (by omega), gr_nw, if_neg (by omega), g8_9]
  rw [ckC_126 _ _ _ _ _ (by omega), z8, r8_9, r8_7, s_init_Co (d + 2) _ (by rw [y8]), cV_v, ← hX9]
  have r9_2 : gr (nw X9 7 4) 40 2 = 42 := by rw [gr_nw, if_neg (by omega), g9_2]
  have r9_3 : gr (nw X9 7 4) 40 3 = 44 := by rw [gr_nw, if_neg (by omega), g9_3]
  have r9_9 : gr (nw X9 7 4) 40 9 = 180 := by rw [gr_nw, if_neg (by omega), g9_9]
  have y9 : sz (nw X9 7 4) = 187 := by rw [sz_nw, z9]
  obtain ⟨X10, hX10⟩ : ∃ X, X = wr (hap (nw X9 7 4) o_Qu) 40 11 186 := ⟨_, rfl⟩
  have q10 : X10 = hap X9 oC10 := by rw [hX10, stg]; rfl
  have z10 : sz X10 = 187 := by rw [hX10, sz_wr, sz_hap, y9]; decide +kernel
  have g10_2 : gr X10 40 2 = 42 := by rw [hX10, gr_wr, if_neg (by omega), gr_no _ _ _ _ (by decide +kernel) (by omega), gr_nw, if_neg (by omega), g9_2]
  have g10_3 : gr X10 40 3 = 44 := by rw [hX10, gr_wr, if_neg (by omega), gr_no _ _ _ _ (by decide +kernel) (by omega), gr_nw, if_neg (by omega), g9_3]
  have g10_5 : gr X10 40 5 = 58 := by rw [hX10, gr_wr, if_neg (by omega), gr_no _ _ _ _ (by decide +kernel) (by omega), gr_nw, if_neg (by omega), g9_5]
  have g10_6 : gr X10 40 6 = 68 := by rw [hX10, gr_wr, if_neg (by omega), gr_no _ _ _ _ (by decide +kernel) (by omega), gr_nw, if_neg (by omega), g9_6]
  have g10_7 : gr X10 40 7 = 73 := by rw [hX10, gr_wr, if_neg (by omega), gr_no _ _ _ _ (by decide +kernel) (by omega), gr_nw, if_neg (by omega), g9_7]
  have g10_9 : gr X10 40 9 = 180 := by rw [hX10, gr_wr, if_neg (by omega), gr_no _ _ _ _ (by decide +kernel) (by omega), gr_nw, if_neg (by omega), g9_9]
  rw [ckC_145 _ _ _ _ _ (by omega), z9, r9_2, r9_3, r9_9, s_init_Qu (d + 2) _ (by rw [y9]), cV_v, ← hX10]
  have y10 : sz (nw X10 5 2) = 188 := by rw [sz_nw, z10]
  obtain ⟨X11, hX11⟩ : ∃ X, X = wr (hap (nw X10 5 2) o_Im) 40 12 187 := ⟨_, rfl⟩
  have q11 : X11 = hap X10 oC11 := by rw [hX11, stg]; rfl
  have z11 : sz X11 = 189 := by rw [hX11, sz_wr, sz_hap, y10]; decide +kernel
  have g11_2 : gr X11 40 2 = 42 := by rw [hX11, gr_wr, if_neg (by omega), gr_no _ _ _ _ (by decide +kernel) (by omega), gr_nw, if_neg (by omega), g10_2]
  have g11_3 : gr X11 40 3 = 44 := by rw [hX11, gr_wr, if_neg (by omega), gr_no _ _ _ _ (by decide +kernel) (by omega), gr_nw, if_neg (by omega), g10_3]
  have g11_5 : gr X11 40 5 = 58 := by rw [hX11, gr_wr, if_neg (by omega), gr_no _ _ _ _ (by decide +kernel) (by omega), gr_nw, if_neg (by omega), g10_5]
  have g11_6 : gr X11 40 6 = 68 := by rw [hX11, gr_wr, if_neg (by omega), gr_no _ _ _ _ (by decide +kernel) (by omega), gr_nw, if_neg (by omega), g10_6]
  have g11_7 : gr X11 40 7 = 73 := by rw [hX11, gr_wr, if_neg (by omega), gr_no _ _ _ _ (by decide +kernel) (by omega), gr_nw, if_neg (by omega), g10_7]
  have g11_9 : gr X11 40 9 = 180 := by rw [hX11, gr_wr, if_neg (by omega), gr_no _ _ _ _ (by decide +kernel) (by omega), gr_nw, if_neg (by omega), g10_9]
  rw [ckC_168 _ _ _ _ _ (by omega), z10, s_init_Im (d + 2) _ (by rw [y10]), cV_v, ← hX11]
  rw [ckC_179, z11, ckC_187]
  have qz : wi (wr (nw X11 20 6) 40 13 189) 40 14 1 = hap X11 oC12 := rfl
  unfold oC
  rw [hap_app, hap_app, hap_app, hap_app, hap_app, hap_app, hap_app, hap_app, hap_app, hap_app, hap_app, hap_app, ← q0, ← q1, ← q2, ← q3, ← q4, ← q5, ← q6, ← q7, ← q8, ← q9, ← q10, ← q11]
  rw [← qz]
  rfl

theorem b0_law (S SN : SX) (jp : Nat → NX) (L : Nat) (xs : Nat → Int32) : blk false 2 S SN jp (look (pbs 32) 0) 0 [vR 35 39 L, vU, vU, vU] [] (A0 L xs) = cV (S 108 [vR 20 40 0] (nw (A0 L xs) 10 15)) fun A1 => if sz A1 = 0 then none else cV (S 148 [vR 21 (sz A1) 0] (nw A1 11 111)) fun A2 => jp 18 [vR 35 39 L, vR 20 40 0, vR 21 (sz A1) 0, vI 0] [] A2 := rfl
def oAll : List (Nat × Nat × Nat × Int) := (0, 10, 15, 0) :: (oC ++ ((0, 11, 111, 0) :: oM))
set_option maxRecDepth 100000 in
theorem s_first (d : Nat) (jp : Nat → NX) (L : Nat) (xs : Nat → Int32) : blk false 2 (run (d + 4)) (run (d + 4)) jp (look (pbs 32) 0) 0 [vR 35 39 L, vU, vU, vU] [] (A0 L xs) = jp 18 [vR 35 39 L, vR 20 40 0, vR 21 190 0, vI 0] [] (hap (A0 L xs) oAll) := by
  have z0 : sz (nw (A0 L xs) 10 15) = 41 := by rw [sz_nw]; rfl
  have z1 : sz (hap (nw (A0 L xs) 10 15) oC) = 190 := by rw [sz_hap, z0]; decide +kernel
  rw [b0_law, s_init_C d _ z0, cV_v, if_neg (by omega), z1, s_initM (d + 3) _ (by rw [sz_nw, z1]), cV_v]
  unfold oAll
  rw [hap_cons, hap_app, hap_cons, hop_0, hop_0]

