/-! the reference, made -/
def clM_0 : List EI := [e0 (.aload_n 0) 1, (.invokespecial 1, 3, 0, 1, 0, 9, 3, 0)]
theorem ckM_0 (S SN : SX) (jp : Nat → NX) (rest : List EI) (A : AH) (hs : sz A = 191) : blk false 3 S SN jp (clM_0 ++ rest) 0 [vR 21 190 0] [] A = blk false 3 S SN jp rest 4 [vR 21 190 0] [] (hap A []) := rfl
def clM_4 : List EI := [e0 (.aload_n 0) 1, e0 (.sipush 1600) 3, e0 (.newarray .int) 2, (.putfield 7, 3, 11, 0, 30, 191, 1600, 1)]
theorem ckM_4 (S SN : SX) (jp : Nat → NX) (rest : List EI) (A : AH) (hs : sz A = 191) : blk false 3 S SN jp (clM_4 ++ rest) 4 [vR 21 190 0] [] A = blk false 3 S SN jp rest 13 [vR 21 190 0] [] (hap A [(0, 20, 1600, 0), (2, 190, 0, 191)]) := by
  have e : blk false 3 S SN jp (clM_4 ++ rest) 4 [vR 21 190 0] [] A = blk false 3 S SN jp rest 13 [vR 21 190 0] [] (wr (nw A 20 1600) 190 0 (sz A)) := by
    obtain ⟨g, r, sh⟩ := A
    cases sh with
    | nil => exact absurd (show (0 : Nat) = 191 from hs) (by decide)
    | cons x t => rfl
  rw [hs] at e
  exact e
def clM_13 : List EI := [e0 (.aload_n 0) 1, e0 (.iconst (-1)) 1, (.putfield 13, 3, 11, 8, 0, 0, 0, 0)]
theorem ckM_13 (S SN : SX) (jp : Nat → NX) (rest : List EI) (A : AH) (hs : sz A = 192) : blk false 3 S SN jp (clM_13 ++ rest) 13 [vR 21 190 0] [] A = blk false 3 S SN jp rest 18 [vR 21 190 0] [] (hap A [(1, 190, 8, (-1))]) := rfl
def clM_18 : List EI := [e0 (.aload_n 0) 1, e0 (.bipush 6) 2, e0 (.newarray .int) 2, (.putfield 17, 3, 11, 9, 30, 192, 6, 1)]
theorem ckM_18 (S SN : SX) (jp : Nat → NX) (rest : List EI) (A : AH) (hs : sz A = 192) : blk false 3 S SN jp (clM_18 ++ rest) 18 [vR 21 190 0] [] A = blk false 3 S SN jp rest 26 [vR 21 190 0] [] (hap A [(0, 20, 6, 0), (2, 190, 9, 192)]) := by
  have e : blk false 3 S SN jp (clM_18 ++ rest) 18 [vR 21 190 0] [] A = blk false 3 S SN jp rest 26 [vR 21 190 0] [] (wr (nw A 20 6) 190 9 (sz A)) := by
    obtain ⟨g, r, sh⟩ := A
    cases sh with
    | nil => exact absurd (show (0 : Nat) = 192 from hs) (by decide)
    | cons x t => rfl
  rw [hs] at e
  exact e
def clM_26 : List EI := [e0 (.aload_n 0) 1, e0 (.iconst 4) 1, e0 (.newarray .char) 2, e0 .dup 1, e0 (.iconst 0) 1, e0 (.bipush 104) 2, e0 .castore 1, e0 .dup 1, e0 (.iconst 1) 1, e0 (.bipush 97) 2, e0 .castore 1, e0 .dup 1, e0 (.iconst 2) 1, e0 (.bipush 108) 2, e0 .castore 1, e0 .dup 1, e0 (.iconst 3) 1, e0 (.bipush 108) 2, e0 .castore 1, (.putfield 20, 3, 11, 11, 32, 193, 4, 1)]
theorem ckM_26 (S SN : SX) (jp : Nat → NX) (rest : List EI) (A : AH) (hs : sz A = 193) : blk false 3 S SN jp (clM_26 ++ rest) 26 [vR 21 190 0] [] A = blk false 3 S SN jp rest 53 [vR 21 190 0] [] (hap A [(0, 22, 4, 0), (1, 193, 0, 104), (1, 193, 1, 97), (1, 193, 2, 108), (1, 193, 3, 108), (2, 190, 11, 193)]) := by
  have e : blk false 3 S SN jp (clM_26 ++ rest) 26 [vR 21 190 0] [] A = blk false 3 S SN jp rest 53 [vR 21 190 0] [] (wr (wi (wi (wi (wi (nw A 22 4) (sz A) 0 104) (sz A) 1 97) (sz A) 2 108) (sz A) 3 108) 190 11 (sz A)) := by
    obtain ⟨g, r, sh⟩ := A
    cases sh with
    | nil => exact absurd (show (0 : Nat) = 193 from hs) (by decide)
    | cons x t => rfl
  rw [hs] at e
  exact e
def clM_53 : List EI := [e0 (.aload_n 0) 1, e0 (.bipush 6) 2, e0 (.newarray .char) 2, e0 .dup 1, e0 (.iconst 0) 1, e0 (.bipush 112) 2, e0 .castore 1, e0 .dup 1, e0 (.iconst 1) 1, e0 (.bipush 101) 2, e0 .castore 1, e0 .dup 1, e0 (.iconst 2) 1, e0 (.bipush 114) 2, e0 .castore 1, e0 .dup 1, e0 (.iconst 3) 1, e0 (.bipush 115) 2, e0 .castore 1, e0 .dup 1, e0 (.iconst 4) 1, e0 (.bipush 111) 2, e0 .castore 1, e0 .dup 1, e0 (.iconst 5) 1, e0 (.bipush 110) 2, e0 .castore 1, (.putfield 24, 3, 11, 12, 32, 194, 6, 1)]
theorem ckM_53 (S SN : SX) (jp : Nat → NX) (rest : List EI) (A : AH) (hs : sz A = 194) : blk false 3 S SN jp (clM_53 ++ rest) 53 [vR 21 190 0] [] A = blk false 3 S SN jp rest 91 [vR 21 190 0] [] (hap A [(0, 22, 6, 0), (1, 194, 0, 112), (1, 194, 1, 101), (1, 194, 2, 114), (1, 194, 3, 115), (1, 194, 4, 111), (1, 194, 5, 110), (2, 190, 12, 194)]) := by
  have e : blk false 3 S SN jp (clM_53 ++ rest) 53 [vR 21 190 0] [] A = blk false 3 S SN jp rest 91 [vR 21 190 0] [] (wr (wi (wi (wi (wi (wi (wi (nw A 22 6) (sz A) 0 112) (sz A) 1 101) (sz A) 2 114) (sz A) 3 115) (sz A) 4 111) (sz A) 5 110) 190 12 (sz A)) := by
    obtain ⟨g, r, sh⟩ := A
    cases sh with
    | nil => exact absurd (show (0 : Nat) = 194 from hs) (by decide)
    | cons x t => rfl
  rw [hs] at e
  exact e
def oM_0 : List (Nat × Nat × Nat × Int) := [(0, 20, 1600, 0), (2, 190, 0, 191), (1, 190, 8, (-1)), (0, 20, 6, 0), (2, 190, 9, 192), (0, 22, 4, 0), (1, 193, 0, 104), (1, 193, 1, 97), (1, 193, 2, 108), (1, 193, 3, 108), (2, 190, 11, 193), (0, 22, 6, 0), (1, 194, 0, 112), (1, 194, 1, 101), (1, 194, 2, 114), (1, 194, 3, 115), (1, 194, 4, 111), (1, 194, 5, 110), (2, 190, 12, 194)]
set_option maxRecDepth 100000 in
theorem mb_0 (S SN : SX) (jp : Nat → NX) (A : AH) (hs : sz A = 191) : blk false 3 S SN jp pb_X12_init_b0 0 [vR 21 190 0] [] A = jp 91 [vR 21 190 0] [] (hap A oM_0) := by
  have e : pb_X12_init_b0 = clM_0 ++ (clM_4 ++ (clM_13 ++ (clM_18 ++ (clM_26 ++ (clM_53 ++ []))))) := rfl
  rw [e]
  rw [ckM_0 S SN jp _ _ hs]
  rw [ckM_4 S SN jp _ _ (by simp only [sz_hap, hs]; rfl)]
  rw [ckM_13 S SN jp _ _ (by simp only [sz_hap, hs]; rfl)]
  rw [ckM_18 S SN jp _ _ (by simp only [sz_hap, hs]; rfl)]
  rw [ckM_26 S SN jp _ _ (by simp only [sz_hap, hs]; rfl)]
  rw [ckM_53 S SN jp _ _ (by simp only [sz_hap, hs]; rfl)]
  rfl
def clM_91 : List EI := [e0 (.aload_n 0) 1, e0 (.iconst 5) 1, e0 (.newarray .char) 2, e0 .dup 1, e0 (.iconst 0) 1, e0 (.bipush 107) 2, e0 .castore 1, e0 .dup 1, e0 (.iconst 1) 1, e0 (.bipush 101) 2, e0 .castore 1, e0 .dup 1, e0 (.iconst 2) 1, e0 (.bipush 101) 2, e0 .castore 1, e0 .dup 1, e0 (.iconst 3) 1, e0 (.bipush 112) 2, e0 .castore 1, e0 .dup 1, e0 (.iconst 4) 1, e0 (.bipush 115) 2, e0 .castore 1, (.putfield 27, 3, 11, 13, 32, 195, 5, 1)]
theorem ckM_91 (S SN : SX) (jp : Nat → NX) (rest : List EI) (A : AH) (hs : sz A = 195) : blk false 3 S SN jp (clM_91 ++ rest) 91 [vR 21 190 0] [] A = blk false 3 S SN jp rest 123 [vR 21 190 0] [] (hap A [(0, 22, 5, 0), (1, 195, 0, 107), (1, 195, 1, 101), (1, 195, 2, 101), (1, 195, 3, 112), (1, 195, 4, 115), (2, 190, 13, 195)]) := by
  have e : blk false 3 S SN jp (clM_91 ++ rest) 91 [vR 21 190 0] [] A = blk false 3 S SN jp rest 123 [vR 21 190 0] [] (wr (wi (wi (wi (wi (wi (nw A 22 5) (sz A) 0 107) (sz A) 1 101) (sz A) 2 101) (sz A) 3 112) (sz A) 4 115) 190 13 (sz A)) := by
    obtain ⟨g, r, sh⟩ := A
    cases sh with
    | nil => exact absurd (show (0 : Nat) = 195 from hs) (by decide)
    | cons x t => rfl
  rw [hs] at e
  exact e
def clM_123 : List EI := [e0 (.aload_n 0) 1, e0 (.bipush 6) 2, e0 (.newarray .char) 2, e0 .dup 1, e0 (.iconst 0) 1, e0 (.bipush 105) 2, e0 .castore 1, e0 .dup 1, e0 (.iconst 1) 1, e0 (.bipush 116) 2, e0 .castore 1, e0 .dup 1, e0 (.iconst 2) 1, e0 (.bipush 99) 2, e0 .castore 1, e0 .dup 1, e0 (.iconst 3) 1, e0 (.bipush 104) 2, e0 .castore 1, e0 .dup 1, e0 (.iconst 4) 1, e0 (.bipush 101) 2, e0 .castore 1, e0 .dup 1, e0 (.iconst 5) 1, e0 (.bipush 115) 2, e0 .castore 1, (.putfield 30, 3, 11, 14, 32, 196, 6, 1)]
theorem ckM_123 (S SN : SX) (jp : Nat → NX) (rest : List EI) (A : AH) (hs : sz A = 196) : blk false 3 S SN jp (clM_123 ++ rest) 123 [vR 21 190 0] [] A = blk false 3 S SN jp rest 161 [vR 21 190 0] [] (hap A [(0, 22, 6, 0), (1, 196, 0, 105), (1, 196, 1, 116), (1, 196, 2, 99), (1, 196, 3, 104), (1, 196, 4, 101), (1, 196, 5, 115), (2, 190, 14, 196)]) := by
  have e : blk false 3 S SN jp (clM_123 ++ rest) 123 [vR 21 190 0] [] A = blk false 3 S SN jp rest 161 [vR 21 190 0] [] (wr (wi (wi (wi (wi (wi (wi (nw A 22 6) (sz A) 0 105) (sz A) 1 116) (sz A) 2 99) (sz A) 3 104) (sz A) 4 101) (sz A) 5 115) 190 14 (sz A)) := by
    obtain ⟨g, r, sh⟩ := A
    cases sh with
    | nil => exact absurd (show (0 : Nat) = 196 from hs) (by decide)
    | cons x t => rfl
  rw [hs] at e
  exact e
def oM_91 : List (Nat × Nat × Nat × Int) := [(0, 22, 5, 0), (1, 195, 0, 107), (1, 195, 1, 101), (1, 195, 2, 101), (1, 195, 3, 112), (1, 195, 4, 115), (2, 190, 13, 195), (0, 22, 6, 0), (1, 196, 0, 105), (1, 196, 1, 116), (1, 196, 2, 99), (1, 196, 3, 104), (1, 196, 4, 101), (1, 196, 5, 115), (2, 190, 14, 196)]
set_option maxRecDepth 100000 in
theorem mb_91 (S SN : SX) (jp : Nat → NX) (A : AH) (hs : sz A = 195) : blk false 3 S SN jp pb_X12_init_b91 91 [vR 21 190 0] [] A = jp 161 [vR 21 190 0] [] (hap A oM_91) := by
  have e : pb_X12_init_b91 = clM_91 ++ (clM_123 ++ []) := rfl
  rw [e]
  rw [ckM_91 S SN jp _ _ hs]
  rw [ckM_123 S SN jp _ _ (by simp only [sz_hap, hs]; rfl)]
  rfl
def clM_161 : List EI := [e0 (.aload_n 0) 1, e0 (.iconst 3) 1, e0 (.newarray .char) 2, e0 .dup 1, e0 (.iconst 0) 1, e0 (.bipush 102) 2, e0 .castore 1, e0 .dup 1, e0 (.iconst 1) 1, e0 (.bipush 111) 2, e0 .castore 1, e0 .dup 1, e0 (.iconst 2) 1, e0 (.bipush 114) 2, e0 .castore 1, (.putfield 33, 3, 11, 15, 32, 197, 3, 1)]
theorem ckM_161 (S SN : SX) (jp : Nat → NX) (rest : List EI) (A : AH) (hs : sz A = 197) : blk false 3 S SN jp (clM_161 ++ rest) 161 [vR 21 190 0] [] A = blk false 3 S SN jp rest 183 [vR 21 190 0] [] (hap A [(0, 22, 3, 0), (1, 197, 0, 102), (1, 197, 1, 111), (1, 197, 2, 114), (2, 190, 15, 197)]) := by
  have e : blk false 3 S SN jp (clM_161 ++ rest) 161 [vR 21 190 0] [] A = blk false 3 S SN jp rest 183 [vR 21 190 0] [] (wr (wi (wi (wi (nw A 22 3) (sz A) 0 102) (sz A) 1 111) (sz A) 2 114) 190 15 (sz A)) := by
    obtain ⟨g, r, sh⟩ := A
    cases sh with
    | nil => exact absurd (show (0 : Nat) = 197 from hs) (by decide)
    | cons x t => rfl
  rw [hs] at e
  exact e
def clM_183 : List EI := [e0 (.aload_n 0) 1, e0 (.iconst 5) 1, e0 (.newarray .char) 2, e0 .dup 1, e0 (.iconst 0) 1, e0 (.bipush 106) 2, e0 .castore 1, e0 .dup 1, e0 (.iconst 1) 1, e0 (.bipush 117) 2, e0 .castore 1, e0 .dup 1, e0 (.iconst 2) 1, e0 (.bipush 100) 2, e0 .castore 1, e0 .dup 1, e0 (.iconst 3) 1, e0 (.bipush 103) 2, e0 .castore 1, e0 .dup 1, e0 (.iconst 4) 1, e0 (.bipush 101) 2, e0 .castore 1, (.putfield 36, 3, 11, 16, 32, 198, 5, 1)]
theorem ckM_183 (S SN : SX) (jp : Nat → NX) (rest : List EI) (A : AH) (hs : sz A = 198) : blk false 3 S SN jp (clM_183 ++ rest) 183 [vR 21 190 0] [] A = blk false 3 S SN jp rest 215 [vR 21 190 0] [] (hap A [(0, 22, 5, 0), (1, 198, 0, 106), (1, 198, 1, 117), (1, 198, 2, 100), (1, 198, 3, 103), (1, 198, 4, 101), (2, 190, 16, 198)]) := by
  have e : blk false 3 S SN jp (clM_183 ++ rest) 183 [vR 21 190 0] [] A = blk false 3 S SN jp rest 215 [vR 21 190 0] [] (wr (wi (wi (wi (wi (wi (nw A 22 5) (sz A) 0 106) (sz A) 1 117) (sz A) 2 100) (sz A) 3 103) (sz A) 4 101) 190 16 (sz A)) := by
    obtain ⟨g, r, sh⟩ := A
    cases sh with
    | nil => exact absurd (show (0 : Nat) = 198 from hs) (by decide)
    | cons x t => rfl
  rw [hs] at e
  exact e
def oM_161 : List (Nat × Nat × Nat × Int) := [(0, 22, 3, 0), (1, 197, 0, 102), (1, 197, 1, 111), (1, 197, 2, 114), (2, 190, 15, 197), (0, 22, 5, 0), (1, 198, 0, 106), (1, 198, 1, 117), (1, 198, 2, 100), (1, 198, 3, 103), (1, 198, 4, 101), (2, 190, 16, 198)]
set_option maxRecDepth 100000 in
theorem mb_161 (S SN : SX) (jp : Nat → NX) (A : AH) (hs : sz A = 197) : blk false 3 S SN jp pb_X12_init_b161 161 [vR 21 190 0] [] A = jp 215 [vR 21 190 0] [] (hap A oM_161) := by
  have e : pb_X12_init_b161 = clM_161 ++ (clM_183 ++ []) := rfl
  rw [e]
  rw [ckM_161 S SN jp _ _ hs]
  rw [ckM_183 S SN jp _ _ (by simp only [sz_hap, hs]; rfl)]
  rfl
def clM_215 : List EI := [e0 (.aload_n 0) 1, e0 (.iconst 5) 1, e0 (.newarray .char) 2, e0 .dup 1, e0 (.iconst 0) 1, e0 (.bipush 114) 2, e0 .castore 1, e0 .dup 1, e0 (.iconst 1) 1, e0 (.bipush 111) 2, e0 .castore 1, e0 .dup 1, e0 (.iconst 2) 1, e0 (.bipush 103) 2, e0 .castore 1, e0 .dup 1, e0 (.iconst 3) 1, e0 (.bipush 117) 2, e0 .castore 1, e0 .dup 1, e0 (.iconst 4) 1, e0 (.bipush 101) 2, e0 .castore 1, (.putfield 39, 3, 11, 17, 32, 199, 5, 1)]
theorem ckM_215 (S SN : SX) (jp : Nat → NX) (rest : List EI) (A : AH) (hs : sz A = 199) : blk false 3 S SN jp (clM_215 ++ rest) 215 [vR 21 190 0] [] A = blk false 3 S SN jp rest 247 [vR 21 190 0] [] (hap A [(0, 22, 5, 0), (1, 199, 0, 114), (1, 199, 1, 111), (1, 199, 2, 103), (1, 199, 3, 117), (1, 199, 4, 101), (2, 190, 17, 199)]) := by
  have e : blk false 3 S SN jp (clM_215 ++ rest) 215 [vR 21 190 0] [] A = blk false 3 S SN jp rest 247 [vR 21 190 0] [] (wr (wi (wi (wi (wi (wi (nw A 22 5) (sz A) 0 114) (sz A) 1 111) (sz A) 2 103) (sz A) 3 117) (sz A) 4 101) 190 17 (sz A)) := by
    obtain ⟨g, r, sh⟩ := A
    cases sh with
    | nil => exact absurd (show (0 : Nat) = 199 from hs) (by decide)
    | cons x t => rfl
  rw [hs] at e
  exact e
def clM_247 : List EI := [e0 (.aload_n 0) 1, e0 (.bipush 6) 2, e0 (.newarray .char) 2, e0 .dup 1, e0 (.iconst 0) 1, e0 (.bipush 110) 2, e0 .castore 1, e0 .dup 1, e0 (.iconst 1) 1, e0 (.bipush 111) 2, e0 .castore 1, e0 .dup 1, e0 (.iconst 2) 1, e0 (.bipush 98) 2, e0 .castore 1, e0 .dup 1, e0 (.iconst 3) 1, e0 (.bipush 111) 2, e0 .castore 1, e0 .dup 1, e0 (.iconst 4) 1, e0 (.bipush 100) 2, e0 .castore 1, e0 .dup 1, e0 (.iconst 5) 1, e0 (.bipush 121) 2, e0 .castore 1, (.putfield 42, 3, 11, 18, 32, 200, 6, 1)]
theorem ckM_247 (S SN : SX) (jp : Nat → NX) (rest : List EI) (A : AH) (hs : sz A = 200) : blk false 3 S SN jp (clM_247 ++ rest) 247 [vR 21 190 0] [] A = blk false 3 S SN jp rest 285 [vR 21 190 0] [] (hap A [(0, 22, 6, 0), (1, 200, 0, 110), (1, 200, 1, 111), (1, 200, 2, 98), (1, 200, 3, 111), (1, 200, 4, 100), (1, 200, 5, 121), (2, 190, 18, 200)]) := by
  have e : blk false 3 S SN jp (clM_247 ++ rest) 247 [vR 21 190 0] [] A = blk false 3 S SN jp rest 285 [vR 21 190 0] [] (wr (wi (wi (wi (wi (wi (wi (nw A 22 6) (sz A) 0 110) (sz A) 1 111) (sz A) 2 98) (sz A) 3 111) (sz A) 4 100) (sz A) 5 121) 190 18 (sz A)) := by
    obtain ⟨g, r, sh⟩ := A
    cases sh with
    | nil => exact absurd (show (0 : Nat) = 200 from hs) (by decide)
    | cons x t => rfl
  rw [hs] at e
  exact e
def oM_215 : List (Nat × Nat × Nat × Int) := [(0, 22, 5, 0), (1, 199, 0, 114), (1, 199, 1, 111), (1, 199, 2, 103), (1, 199, 3, 117), (1, 199, 4, 101), (2, 190, 17, 199), (0, 22, 6, 0), (1, 200, 0, 110), (1, 200, 1, 111), (1, 200, 2, 98), (1, 200, 3, 111), (1, 200, 4, 100), (1, 200, 5, 121), (2, 190, 18, 200)]
set_option maxRecDepth 100000 in
theorem mb_215 (S SN : SX) (jp : Nat → NX) (A : AH) (hs : sz A = 199) : blk false 3 S SN jp pb_X12_init_b215 215 [vR 21 190 0] [] A = jp 285 [vR 21 190 0] [] (hap A oM_215) := by
  have e : pb_X12_init_b215 = clM_215 ++ (clM_247 ++ []) := rfl
  rw [e]
  rw [ckM_215 S SN jp _ _ hs]
  rw [ckM_247 S SN jp _ _ (by simp only [sz_hap, hs]; rfl)]
  rfl
def clM_285 : List EI := [e0 (.aload_n 0) 1, e0 (.iconst 2) 1, e0 (.newarray .char) 2, e0 .dup 1, e0 (.iconst 0) 1, e0 (.bipush 97) 2, e0 .castore 1, e0 .dup 1, e0 (.iconst 1) 1, e0 (.bipush 116) 2, e0 .castore 1, (.putfield 45, 3, 11, 19, 32, 201, 2, 1)]
theorem ckM_285 (S SN : SX) (jp : Nat → NX) (rest : List EI) (A : AH) (hs : sz A = 201) : blk false 3 S SN jp (clM_285 ++ rest) 285 [vR 21 190 0] [] A = blk false 3 S SN jp rest 302 [vR 21 190 0] [] (hap A [(0, 22, 2, 0), (1, 201, 0, 97), (1, 201, 1, 116), (2, 190, 19, 201)]) := by
  have e : blk false 3 S SN jp (clM_285 ++ rest) 285 [vR 21 190 0] [] A = blk false 3 S SN jp rest 302 [vR 21 190 0] [] (wr (wi (wi (nw A 22 2) (sz A) 0 97) (sz A) 1 116) 190 19 (sz A)) := by
    obtain ⟨g, r, sh⟩ := A
    cases sh with
    | nil => exact absurd (show (0 : Nat) = 201 from hs) (by decide)
    | cons x t => rfl
  rw [hs] at e
  exact e
def clM_302 : List EI := [e0 (.aload_n 0) 1, e0 (.iconst 5) 1, e0 (.newarray .char) 2, e0 .dup 1, e0 (.iconst 0) 1, e0 (.bipush 104) 2, e0 .castore 1, e0 .dup 1, e0 (.iconst 1) 1, e0 (.bipush 97) 2, e0 .castore 1, e0 .dup 1, e0 (.iconst 2) 1, e0 (.bipush 116) 2, e0 .castore 1, e0 .dup 1, e0 (.iconst 3) 1, e0 (.bipush 101) 2, e0 .castore 1, e0 .dup 1, e0 (.iconst 4) 1, e0 (.bipush 115) 2, e0 .castore 1, (.putfield 48, 3, 11, 20, 32, 202, 5, 1)]
theorem ckM_302 (S SN : SX) (jp : Nat → NX) (rest : List EI) (A : AH) (hs : sz A = 202) : blk false 3 S SN jp (clM_302 ++ rest) 302 [vR 21 190 0] [] A = blk false 3 S SN jp rest 334 [vR 21 190 0] [] (hap A [(0, 22, 5, 0), (1, 202, 0, 104), (1, 202, 1, 97), (1, 202, 2, 116), (1, 202, 3, 101), (1, 202, 4, 115), (2, 190, 20, 202)]) := by
  have e : blk false 3 S SN jp (clM_302 ++ rest) 302 [vR 21 190 0] [] A = blk false 3 S SN jp rest 334 [vR 21 190 0] [] (wr (wi (wi (wi (wi (wi (nw A 22 5) (sz A) 0 104) (sz A) 1 97) (sz A) 2 116) (sz A) 3 101) (sz A) 4 115) 190 20 (sz A)) := by
    obtain ⟨g, r, sh⟩ := A
    cases sh with
    | nil => exact absurd (show (0 : Nat) = 202 from hs) (by decide)
    | cons x t => rfl
  rw [hs] at e
  exact e
def clM_334 : List EI := [e0 (.aload_n 0) 1, e0 (.iconst 5) 1, e0 (.newarray .char) 2, e0 .dup 1, e0 (.iconst 0) 1, e0 (.bipush 112) 2, e0 .castore 1, e0 .dup 1, e0 (.iconst 1) 1, e0 (.bipush 111) 2, e0 .castore 1, e0 .dup 1, e0 (.iconst 2) 1, e0 (.bipush 105) 2, e0 .castore 1, e0 .dup 1, e0 (.iconst 3) 1, e0 (.bipush 110) 2, e0 .castore 1, e0 .dup 1, e0 (.iconst 4) 1, e0 (.bipush 116) 2, e0 .castore 1, (.putfield 51, 3, 11, 21, 32, 203, 5, 1)]
theorem ckM_334 (S SN : SX) (jp : Nat → NX) (rest : List EI) (A : AH) (hs : sz A = 203) : blk false 3 S SN jp (clM_334 ++ rest) 334 [vR 21 190 0] [] A = blk false 3 S SN jp rest 366 [vR 21 190 0] [] (hap A [(0, 22, 5, 0), (1, 203, 0, 112), (1, 203, 1, 111), (1, 203, 2, 105), (1, 203, 3, 110), (1, 203, 4, 116), (2, 190, 21, 203)]) := by
  have e : blk false 3 S SN jp (clM_334 ++ rest) 334 [vR 21 190 0] [] A = blk false 3 S SN jp rest 366 [vR 21 190 0] [] (wr (wi (wi (wi (wi (wi (nw A 22 5) (sz A) 0 112) (sz A) 1 111) (sz A) 2 105) (sz A) 3 110) (sz A) 4 116) 190 21 (sz A)) := by
    obtain ⟨g, r, sh⟩ := A
    cases sh with
    | nil => exact absurd (show (0 : Nat) = 203 from hs) (by decide)
    | cons x t => rfl
  rw [hs] at e
  exact e
def oM_285 : List (Nat × Nat × Nat × Int) := [(0, 22, 2, 0), (1, 201, 0, 97), (1, 201, 1, 116), (2, 190, 19, 201), (0, 22, 5, 0), (1, 202, 0, 104), (1, 202, 1, 97), (1, 202, 2, 116), (1, 202, 3, 101), (1, 202, 4, 115), (2, 190, 20, 202), (0, 22, 5, 0), (1, 203, 0, 112), (1, 203, 1, 111), (1, 203, 2, 105), (1, 203, 3, 110), (1, 203, 4, 116), (2, 190, 21, 203)]
set_option maxRecDepth 100000 in
theorem mb_285 (S SN : SX) (jp : Nat → NX) (A : AH) (hs : sz A = 201) : blk false 3 S SN jp pb_X12_init_b285 285 [vR 21 190 0] [] A = jp 366 [vR 21 190 0] [] (hap A oM_285) := by
  have e : pb_X12_init_b285 = clM_285 ++ (clM_302 ++ (clM_334 ++ [])) := rfl
  rw [e]
  rw [ckM_285 S SN jp _ _ hs]
  rw [ckM_302 S SN jp _ _ (by simp only [sz_hap, hs]; rfl)]
  rw [ckM_334 S SN jp _ _ (by simp only [sz_hap, hs]; rfl)]
  rfl
def clM_366 : List EI := [e0 (.aload_n 0) 1, e0 (.iconst 5) 1, e0 (.newarray .char) 2, e0 .dup 1, e0 (.iconst 0) 1, e0 (.bipush 110) 2, e0 .castore 1, e0 .dup 1, e0 (.iconst 1) 1, e0 (.bipush 111) 2, e0 .castore 1, e0 .dup 1, e0 (.iconst 2) 1, e0 (.bipush 105) 2, e0 .castore 1, e0 .dup 1, e0 (.iconst 3) 1, e0 (.bipush 115) 2, e0 .castore 1, e0 .dup 1, e0 (.iconst 4) 1, e0 (.bipush 101) 2, e0 .castore 1, (.putfield 54, 3, 11, 22, 32, 204, 5, 1)]
theorem ckM_366 (S SN : SX) (jp : Nat → NX) (rest : List EI) (A : AH) (hs : sz A = 204) : blk false 3 S SN jp (clM_366 ++ rest) 366 [vR 21 190 0] [] A = blk false 3 S SN jp rest 398 [vR 21 190 0] [] (hap A [(0, 22, 5, 0), (1, 204, 0, 110), (1, 204, 1, 111), (1, 204, 2, 105), (1, 204, 3, 115), (1, 204, 4, 101), (2, 190, 22, 204)]) := by
  have e : blk false 3 S SN jp (clM_366 ++ rest) 366 [vR 21 190 0] [] A = blk false 3 S SN jp rest 398 [vR 21 190 0] [] (wr (wi (wi (wi (wi (wi (nw A 22 5) (sz A) 0 110) (sz A) 1 111) (sz A) 2 105) (sz A) 3 115) (sz A) 4 101) 190 22 (sz A)) := by
    obtain ⟨g, r, sh⟩ := A
    cases sh with
    | nil => exact absurd (show (0 : Nat) = 204 from hs) (by decide)
    | cons x t => rfl
  rw [hs] at e
  exact e
def clM_398 : List EI := [e0 (.aload_n 0) 1, e0 (.iconst 4) 1, e0 (.newarray .char) 2, e0 .dup 1, e0 (.iconst 0) 1, e0 (.bipush 115) 2, e0 .castore 1, e0 .dup 1, e0 (.iconst 1) 1, e0 (.bipush 101) 2, e0 .castore 1, e0 .dup 1, e0 (.iconst 2) 1, e0 (.bipush 97) 2, e0 .castore 1, e0 .dup 1, e0 (.iconst 3) 1, e0 (.bipush 116) 2, e0 .castore 1, (.putfield 57, 3, 11, 23, 32, 205, 4, 1)]
theorem ckM_398 (S SN : SX) (jp : Nat → NX) (rest : List EI) (A : AH) (hs : sz A = 205) : blk false 3 S SN jp (clM_398 ++ rest) 398 [vR 21 190 0] [] A = blk false 3 S SN jp rest 425 [vR 21 190 0] [] (hap A [(0, 22, 4, 0), (1, 205, 0, 115), (1, 205, 1, 101), (1, 205, 2, 97), (1, 205, 3, 116), (2, 190, 23, 205)]) := by
  have e : blk false 3 S SN jp (clM_398 ++ rest) 398 [vR 21 190 0] [] A = blk false 3 S SN jp rest 425 [vR 21 190 0] [] (wr (wi (wi (wi (wi (nw A 22 4) (sz A) 0 115) (sz A) 1 101) (sz A) 2 97) (sz A) 3 116) 190 23 (sz A)) := by
    obtain ⟨g, r, sh⟩ := A
    cases sh with
    | nil => exact absurd (show (0 : Nat) = 205 from hs) (by decide)
    | cons x t => rfl
  rw [hs] at e
  exact e
def oM_366 : List (Nat × Nat × Nat × Int) := [(0, 22, 5, 0), (1, 204, 0, 110), (1, 204, 1, 111), (1, 204, 2, 105), (1, 204, 3, 115), (1, 204, 4, 101), (2, 190, 22, 204), (0, 22, 4, 0), (1, 205, 0, 115), (1, 205, 1, 101), (1, 205, 2, 97), (1, 205, 3, 116), (2, 190, 23, 205)]
set_option maxRecDepth 100000 in
theorem mb_366 (S SN : SX) (jp : Nat → NX) (A : AH) (hs : sz A = 204) : blk false 3 S SN jp pb_X12_init_b366 366 [vR 21 190 0] [] A = jp 425 [vR 21 190 0] [] (hap A oM_366) := by
  have e : pb_X12_init_b366 = clM_366 ++ (clM_398 ++ []) := rfl
  rw [e]
  rw [ckM_366 S SN jp _ _ hs]
  rw [ckM_398 S SN jp _ _ (by simp only [sz_hap, hs]; rfl)]
  rfl
def clM_425 : List EI := [e0 (.aload_n 0) 1, e0 (.iconst 4) 1, e0 (.newarray .char) 2, e0 .dup 1, e0 (.iconst 0) 1, e0 (.bipush 108) 2, e0 .castore 1, e0 .dup 1, e0 (.iconst 1) 1, e0 (.bipush 111) 2, e0 .castore 1, e0 .dup 1, e0 (.iconst 2) 1, e0 (.bipush 117) 2, e0 .castore 1, e0 .dup 1, e0 (.iconst 3) 1, e0 (.bipush 100) 2, e0 .castore 1, (.putfield 60, 3, 11, 24, 32, 206, 4, 1)]
theorem ckM_425 (S SN : SX) (jp : Nat → NX) (rest : List EI) (A : AH) (hs : sz A = 206) : blk false 3 S SN jp (clM_425 ++ rest) 425 [vR 21 190 0] [] A = blk false 3 S SN jp rest 452 [vR 21 190 0] [] (hap A [(0, 22, 4, 0), (1, 206, 0, 108), (1, 206, 1, 111), (1, 206, 2, 117), (1, 206, 3, 100), (2, 190, 24, 206)]) := by
  have e : blk false 3 S SN jp (clM_425 ++ rest) 425 [vR 21 190 0] [] A = blk false 3 S SN jp rest 452 [vR 21 190 0] [] (wr (wi (wi (wi (wi (nw A 22 4) (sz A) 0 108) (sz A) 1 111) (sz A) 2 117) (sz A) 3 100) 190 24 (sz A)) := by
    obtain ⟨g, r, sh⟩ := A
    cases sh with
    | nil => exact absurd (show (0 : Nat) = 206 from hs) (by decide)
    | cons x t => rfl
  rw [hs] at e
  exact e
def clM_452 : List EI := [e0 (.aload_n 0) 1, e0 (.iconst 4) 1, e0 (.newarray .char) 2, e0 .dup 1, e0 (.iconst 0) 1, e0 (.bipush 109) 2, e0 .castore 1, e0 .dup 1, e0 (.iconst 1) 1, e0 (.bipush 117) 2, e0 .castore 1, e0 .dup 1, e0 (.iconst 2) 1, e0 (.bipush 116) 2, e0 .castore 1, e0 .dup 1, e0 (.iconst 3) 1, e0 (.bipush 101) 2, e0 .castore 1, (.putfield 63, 3, 11, 25, 32, 207, 4, 1)]
theorem ckM_452 (S SN : SX) (jp : Nat → NX) (rest : List EI) (A : AH) (hs : sz A = 207) : blk false 3 S SN jp (clM_452 ++ rest) 452 [vR 21 190 0] [] A = blk false 3 S SN jp rest 479 [vR 21 190 0] [] (hap A [(0, 22, 4, 0), (1, 207, 0, 109), (1, 207, 1, 117), (1, 207, 2, 116), (1, 207, 3, 101), (2, 190, 25, 207)]) := by
  have e : blk false 3 S SN jp (clM_452 ++ rest) 452 [vR 21 190 0] [] A = blk false 3 S SN jp rest 479 [vR 21 190 0] [] (wr (wi (wi (wi (wi (nw A 22 4) (sz A) 0 109) (sz A) 1 117) (sz A) 2 116) (sz A) 3 101) 190 25 (sz A)) := by
    obtain ⟨g, r, sh⟩ := A
    cases sh with
    | nil => exact absurd (show (0 : Nat) = 207 from hs) (by decide)
    | cons x t => rfl
  rw [hs] at e
  exact e
def oM_425 : List (Nat × Nat × Nat × Int) := [(0, 22, 4, 0), (1, 206, 0, 108), (1, 206, 1, 111), (1, 206, 2, 117), (1, 206, 3, 100), (2, 190, 24, 206), (0, 22, 4, 0), (1, 207, 0, 109), (1, 207, 1, 117), (1, 207, 2, 116), (1, 207, 3, 101), (2, 190, 25, 207)]
set_option maxRecDepth 100000 in
theorem mb_425 (S SN : SX) (jp : Nat → NX) (A : AH) (hs : sz A = 206) : blk false 3 S SN jp pb_X12_init_b425 425 [vR 21 190 0] [] A = jp 479 [vR 21 190 0] [] (hap A oM_425) := by
  have e : pb_X12_init_b425 = clM_425 ++ (clM_452 ++ []) := rfl
  rw [e]
  rw [ckM_425 S SN jp _ _ hs]
  rw [ckM_452 S SN jp _ _ (by simp only [sz_hap, hs]; rfl)]
  rfl
def clM_479 : List EI := [e0 (.aload_n 0) 1, e0 (.iconst 5) 1, e0 (.newarray .char) 2, e0 .dup 1, e0 (.iconst 0) 1, e0 (.bipush 99) 2, e0 .castore 1, e0 .dup 1, e0 (.iconst 1) 1, e0 (.bipush 111) 2, e0 .castore 1, e0 .dup 1, e0 (.iconst 2) 1, e0 (.bipush 115) 2, e0 .castore 1, e0 .dup 1, e0 (.iconst 3) 1, e0 (.bipush 116) 2, e0 .castore 1, e0 .dup 1, e0 (.iconst 4) 1, e0 (.bipush 115) 2, e0 .castore 1, (.putfield 66, 3, 11, 26, 32, 208, 5, 1)]
theorem ckM_479 (S SN : SX) (jp : Nat → NX) (rest : List EI) (A : AH) (hs : sz A = 208) : blk false 3 S SN jp (clM_479 ++ rest) 479 [vR 21 190 0] [] A = blk false 3 S SN jp rest 511 [vR 21 190 0] [] (hap A [(0, 22, 5, 0), (1, 208, 0, 99), (1, 208, 1, 111), (1, 208, 2, 115), (1, 208, 3, 116), (1, 208, 4, 115), (2, 190, 26, 208)]) := by
  have e : blk false 3 S SN jp (clM_479 ++ rest) 479 [vR 21 190 0] [] A = blk false 3 S SN jp rest 511 [vR 21 190 0] [] (wr (wi (wi (wi (wi (wi (nw A 22 5) (sz A) 0 99) (sz A) 1 111) (sz A) 2 115) (sz A) 3 116) (sz A) 4 115) 190 26 (sz A)) := by
    obtain ⟨g, r, sh⟩ := A
    cases sh with
    | nil => exact absurd (show (0 : Nat) = 208 from hs) (by decide)
    | cons x t => rfl
  rw [hs] at e
  exact e
def clM_511 : List EI := [e0 (.aload_n 0) 1, e0 (.iconst 5) 1, e0 (.newarray .char) 2, e0 .dup 1, e0 (.iconst 0) 1, e0 (.bipush 119) 2, e0 .castore 1, e0 .dup 1, e0 (.iconst 1) 1, e0 (.bipush 101) 2, e0 .castore 1, e0 .dup 1, e0 (.iconst 2) 1, e0 (.bipush 105) 2, e0 .castore 1, e0 .dup 1, e0 (.iconst 3) 1, e0 (.bipush 103) 2, e0 .castore 1, e0 .dup 1, e0 (.iconst 4) 1, e0 (.bipush 104) 2, e0 .castore 1, (.putfield 69, 3, 11, 27, 32, 209, 5, 1)]
theorem ckM_511 (S SN : SX) (jp : Nat → NX) (rest : List EI) (A : AH) (hs : sz A = 209) : blk false 3 S SN jp (clM_511 ++ rest) 511 [vR 21 190 0] [] A = blk false 3 S SN jp rest 543 [vR 21 190 0] [] (hap A [(0, 22, 5, 0), (1, 209, 0, 119), (1, 209, 1, 101), (1, 209, 2, 105), (1, 209, 3, 103), (1, 209, 4, 104), (2, 190, 27, 209)]) := by
  have e : blk false 3 S SN jp (clM_511 ++ rest) 511 [vR 21 190 0] [] A = blk false 3 S SN jp rest 543 [vR 21 190 0] [] (wr (wi (wi (wi (wi (wi (nw A 22 5) (sz A) 0 119) (sz A) 1 101) (sz A) 2 105) (sz A) 3 103) (sz A) 4 104) 190 27 (sz A)) := by
    obtain ⟨g, r, sh⟩ := A
    cases sh with
    | nil => exact absurd (show (0 : Nat) = 209 from hs) (by decide)
    | cons x t => rfl
  rw [hs] at e
  exact e
def oM_479 : List (Nat × Nat × Nat × Int) := [(0, 22, 5, 0), (1, 208, 0, 99), (1, 208, 1, 111), (1, 208, 2, 115), (1, 208, 3, 116), (1, 208, 4, 115), (2, 190, 26, 208), (0, 22, 5, 0), (1, 209, 0, 119), (1, 209, 1, 101), (1, 209, 2, 105), (1, 209, 3, 103), (1, 209, 4, 104), (2, 190, 27, 209)]
set_option maxRecDepth 100000 in
theorem mb_479 (S SN : SX) (jp : Nat → NX) (A : AH) (hs : sz A = 208) : blk false 3 S SN jp pb_X12_init_b479 479 [vR 21 190 0] [] A = jp 543 [vR 21 190 0] [] (hap A oM_479) := by
  have e : pb_X12_init_b479 = clM_479 ++ (clM_511 ++ []) := rfl
  rw [e]
  rw [ckM_479 S SN jp _ _ hs]
  rw [ckM_511 S SN jp _ _ (by simp only [sz_hap, hs]; rfl)]
  rfl
def clM_543 : List EI := [e0 (.aload_n 0) 1, e0 (.iconst 5) 1, e0 (.newarray .char) 2, e0 .dup 1, e0 (.iconst 0) 1, e0 (.bipush 99) 2, e0 .castore 1, e0 .dup 1, e0 (.iconst 1) 1, e0 (.bipush 111) 2, e0 .castore 1, e0 .dup 1, e0 (.iconst 2) 1, e0 (.bipush 117) 2, e0 .castore 1, e0 .dup 1, e0 (.iconst 3) 1, e0 (.bipush 103) 2, e0 .castore 1, e0 .dup 1, e0 (.iconst 4) 1, e0 (.bipush 104) 2, e0 .castore 1, (.putfield 72, 3, 11, 28, 32, 210, 5, 1)]
theorem ckM_543 (S SN : SX) (jp : Nat → NX) (rest : List EI) (A : AH) (hs : sz A = 210) : blk false 3 S SN jp (clM_543 ++ rest) 543 [vR 21 190 0] [] A = blk false 3 S SN jp rest 575 [vR 21 190 0] [] (hap A [(0, 22, 5, 0), (1, 210, 0, 99), (1, 210, 1, 111), (1, 210, 2, 117), (1, 210, 3, 103), (1, 210, 4, 104), (2, 190, 28, 210)]) := by
  have e : blk false 3 S SN jp (clM_543 ++ rest) 543 [vR 21 190 0] [] A = blk false 3 S SN jp rest 575 [vR 21 190 0] [] (wr (wi (wi (wi (wi (wi (nw A 22 5) (sz A) 0 99) (sz A) 1 111) (sz A) 2 117) (sz A) 3 103) (sz A) 4 104) 190 28 (sz A)) := by
    obtain ⟨g, r, sh⟩ := A
    cases sh with
    | nil => exact absurd (show (0 : Nat) = 210 from hs) (by decide)
    | cons x t => rfl
  rw [hs] at e
  exact e
def clM_575 : List EI := [e0 (.aload_n 0) 1, e0 (.iconst 4) 1, e0 (.newarray .char) 2, e0 .dup 1, e0 (.iconst 0) 1, e0 (.bipush 110) 2, e0 .castore 1, e0 .dup 1, e0 (.iconst 1) 1, e0 (.bipush 101) 2, e0 .castore 1, e0 .dup 1, e0 (.iconst 2) 1, e0 (.bipush 97) 2, e0 .castore 1, e0 .dup 1, e0 (.iconst 3) 1, e0 (.bipush 114) 2, e0 .castore 1, (.putfield 75, 3, 11, 29, 32, 211, 4, 1)]
theorem ckM_575 (S SN : SX) (jp : Nat → NX) (rest : List EI) (A : AH) (hs : sz A = 211) : blk false 3 S SN jp (clM_575 ++ rest) 575 [vR 21 190 0] [] A = blk false 3 S SN jp rest 602 [vR 21 190 0] [] (hap A [(0, 22, 4, 0), (1, 211, 0, 110), (1, 211, 1, 101), (1, 211, 2, 97), (1, 211, 3, 114), (2, 190, 29, 211)]) := by
  have e : blk false 3 S SN jp (clM_575 ++ rest) 575 [vR 21 190 0] [] A = blk false 3 S SN jp rest 602 [vR 21 190 0] [] (wr (wi (wi (wi (wi (nw A 22 4) (sz A) 0 110) (sz A) 1 101) (sz A) 2 97) (sz A) 3 114) 190 29 (sz A)) := by
    obtain ⟨g, r, sh⟩ := A
    cases sh with
    | nil => exact absurd (show (0 : Nat) = 211 from hs) (by decide)
    | cons x t => rfl
  rw [hs] at e
  exact e
def oM_543 : List (Nat × Nat × Nat × Int) := [(0, 22, 5, 0), (1, 210, 0, 99), (1, 210, 1, 111), (1, 210, 2, 117), (1, 210, 3, 103), (1, 210, 4, 104), (2, 190, 28, 210), (0, 22, 4, 0), (1, 211, 0, 110), (1, 211, 1, 101), (1, 211, 2, 97), (1, 211, 3, 114), (2, 190, 29, 211)]
set_option maxRecDepth 100000 in
theorem mb_543 (S SN : SX) (jp : Nat → NX) (A : AH) (hs : sz A = 210) : blk false 3 S SN jp pb_X12_init_b543 543 [vR 21 190 0] [] A = jp 602 [vR 21 190 0] [] (hap A oM_543) := by
  have e : pb_X12_init_b543 = clM_543 ++ (clM_575 ++ []) := rfl
  rw [e]
  rw [ckM_543 S SN jp _ _ hs]
  rw [ckM_575 S SN jp _ _ (by simp only [sz_hap, hs]; rfl)]
  rfl
def clM_602 : List EI := [e0 (.aload_n 0) 1, e0 (.iconst 5) 1, e0 (.newarray .char) 2, e0 .dup 1, e0 (.iconst 0) 1, e0 (.bipush 104) 2, e0 .castore 1, e0 .dup 1, e0 (.iconst 1) 1, e0 (.bipush 97) 2, e0 .castore 1, e0 .dup 1, e0 (.iconst 2) 1, e0 (.bipush 116) 2, e0 .castore 1, e0 .dup 1, e0 (.iconst 3) 1, e0 (.bipush 101) 2, e0 .castore 1, e0 .dup 1, e0 (.iconst 4) 1, e0 (.bipush 100) 2, e0 .castore 1, (.putfield 78, 3, 11, 30, 32, 212, 5, 1)]
theorem ckM_602 (S SN : SX) (jp : Nat → NX) (rest : List EI) (A : AH) (hs : sz A = 212) : blk false 3 S SN jp (clM_602 ++ rest) 602 [vR 21 190 0] [] A = blk false 3 S SN jp rest 634 [vR 21 190 0] [] (hap A [(0, 22, 5, 0), (1, 212, 0, 104), (1, 212, 1, 97), (1, 212, 2, 116), (1, 212, 3, 101), (1, 212, 4, 100), (2, 190, 30, 212)]) := by
  have e : blk false 3 S SN jp (clM_602 ++ rest) 602 [vR 21 190 0] [] A = blk false 3 S SN jp rest 634 [vR 21 190 0] [] (wr (wi (wi (wi (wi (wi (nw A 22 5) (sz A) 0 104) (sz A) 1 97) (sz A) 2 116) (sz A) 3 101) (sz A) 4 100) 190 30 (sz A)) := by
    obtain ⟨g, r, sh⟩ := A
    cases sh with
    | nil => exact absurd (show (0 : Nat) = 212 from hs) (by decide)
    | cons x t => rfl
  rw [hs] at e
  exact e
def clM_634 : List EI := [e0 (.aload_n 0) 1, e0 (.iconst 5) 1, e0 (.newarray .char) 2, e0 .dup 1, e0 (.iconst 0) 1, e0 (.bipush 97) 2, e0 .castore 1, e0 .dup 1, e0 (.iconst 1) 1, e0 (.bipush 115) 2, e0 .castore 1, e0 .dup 1, e0 (.iconst 2) 1, e0 (.bipush 107) 2, e0 .castore 1, e0 .dup 1, e0 (.iconst 3) 1, e0 (.bipush 101) 2, e0 .castore 1, e0 .dup 1, e0 (.iconst 4) 1, e0 (.bipush 100) 2, e0 .castore 1, (.putfield 81, 3, 11, 31, 32, 213, 5, 1)]
theorem ckM_634 (S SN : SX) (jp : Nat → NX) (rest : List EI) (A : AH) (hs : sz A = 213) : blk false 3 S SN jp (clM_634 ++ rest) 634 [vR 21 190 0] [] A = blk false 3 S SN jp rest 666 [vR 21 190 0] [] (hap A [(0, 22, 5, 0), (1, 213, 0, 97), (1, 213, 1, 115), (1, 213, 2, 107), (1, 213, 3, 101), (1, 213, 4, 100), (2, 190, 31, 213)]) := by
  have e : blk false 3 S SN jp (clM_634 ++ rest) 634 [vR 21 190 0] [] A = blk false 3 S SN jp rest 666 [vR 21 190 0] [] (wr (wi (wi (wi (wi (wi (nw A 22 5) (sz A) 0 97) (sz A) 1 115) (sz A) 2 107) (sz A) 3 101) (sz A) 4 100) 190 31 (sz A)) := by
    obtain ⟨g, r, sh⟩ := A
    cases sh with
    | nil => exact absurd (show (0 : Nat) = 213 from hs) (by decide)
    | cons x t => rfl
  rw [hs] at e
  exact e
def oM_602 : List (Nat × Nat × Nat × Int) := [(0, 22, 5, 0), (1, 212, 0, 104), (1, 212, 1, 97), (1, 212, 2, 116), (1, 212, 3, 101), (1, 212, 4, 100), (2, 190, 30, 212), (0, 22, 5, 0), (1, 213, 0, 97), (1, 213, 1, 115), (1, 213, 2, 107), (1, 213, 3, 101), (1, 213, 4, 100), (2, 190, 31, 213)]
set_option maxRecDepth 100000 in
theorem mb_602 (S SN : SX) (jp : Nat → NX) (A : AH) (hs : sz A = 212) : blk false 3 S SN jp pb_X12_init_b602 602 [vR 21 190 0] [] A = jp 666 [vR 21 190 0] [] (hap A oM_602) := by
  have e : pb_X12_init_b602 = clM_602 ++ (clM_634 ++ []) := rfl
  rw [e]
  rw [ckM_602 S SN jp _ _ hs]
  rw [ckM_634 S SN jp _ _ (by simp only [sz_hap, hs]; rfl)]
  rfl
def clM_666 : List EI := [e0 (.aload_n 0) 1, e0 (.bipush 6) 2, e0 (.newarray .char) 2, e0 .dup 1, e0 (.iconst 0) 1, e0 (.bipush 109) 2, e0 .castore 1, e0 .dup 1, e0 (.iconst 1) 1, e0 (.bipush 105) 2, e0 .castore 1, e0 .dup 1, e0 (.iconst 2) 1, e0 (.bipush 110) 2, e0 .castore 1, e0 .dup 1, e0 (.iconst 3) 1, e0 (.bipush 117) 2, e0 .castore 1, e0 .dup 1, e0 (.iconst 4) 1, e0 (.bipush 116) 2, e0 .castore 1, e0 .dup 1, e0 (.iconst 5) 1, e0 (.bipush 101) 2, e0 .castore 1, (.putfield 84, 3, 11, 32, 32, 214, 6, 1)]
theorem ckM_666 (S SN : SX) (jp : Nat → NX) (rest : List EI) (A : AH) (hs : sz A = 214) : blk false 3 S SN jp (clM_666 ++ rest) 666 [vR 21 190 0] [] A = blk false 3 S SN jp rest 704 [vR 21 190 0] [] (hap A [(0, 22, 6, 0), (1, 214, 0, 109), (1, 214, 1, 105), (1, 214, 2, 110), (1, 214, 3, 117), (1, 214, 4, 116), (1, 214, 5, 101), (2, 190, 32, 214)]) := by
  have e : blk false 3 S SN jp (clM_666 ++ rest) 666 [vR 21 190 0] [] A = blk false 3 S SN jp rest 704 [vR 21 190 0] [] (wr (wi (wi (wi (wi (wi (wi (nw A 22 6) (sz A) 0 109) (sz A) 1 105) (sz A) 2 110) (sz A) 3 117) (sz A) 4 116) (sz A) 5 101) 190 32 (sz A)) := by
    obtain ⟨g, r, sh⟩ := A
    cases sh with
    | nil => exact absurd (show (0 : Nat) = 214 from hs) (by decide)
    | cons x t => rfl
  rw [hs] at e
  exact e
def clM_704 : List EI := [e0 (.aload_n 0) 1, e0 (.bipush 6) 2, e0 (.newarray .char) 2, e0 .dup 1, e0 (.iconst 0) 1, e0 (.bipush 110) 2, e0 .castore 1, e0 .dup 1, e0 (.iconst 1) 1, e0 (.bipush 117) 2, e0 .castore 1, e0 .dup 1, e0 (.iconst 2) 1, e0 (.bipush 109) 2, e0 .castore 1, e0 .dup 1, e0 (.iconst 3) 1, e0 (.bipush 98) 2, e0 .castore 1, e0 .dup 1, e0 (.iconst 4) 1, e0 (.bipush 101) 2, e0 .castore 1, e0 .dup 1, e0 (.iconst 5) 1, e0 (.bipush 114) 2, e0 .castore 1, (.putfield 87, 3, 11, 33, 32, 215, 6, 1)]
theorem ckM_704 (S SN : SX) (jp : Nat → NX) (rest : List EI) (A : AH) (hs : sz A = 215) : blk false 3 S SN jp (clM_704 ++ rest) 704 [vR 21 190 0] [] A = blk false 3 S SN jp rest 742 [vR 21 190 0] [] (hap A [(0, 22, 6, 0), (1, 215, 0, 110), (1, 215, 1, 117), (1, 215, 2, 109), (1, 215, 3, 98), (1, 215, 4, 101), (1, 215, 5, 114), (2, 190, 33, 215)]) := by
  have e : blk false 3 S SN jp (clM_704 ++ rest) 704 [vR 21 190 0] [] A = blk false 3 S SN jp rest 742 [vR 21 190 0] [] (wr (wi (wi (wi (wi (wi (wi (nw A 22 6) (sz A) 0 110) (sz A) 1 117) (sz A) 2 109) (sz A) 3 98) (sz A) 4 101) (sz A) 5 114) 190 33 (sz A)) := by
    obtain ⟨g, r, sh⟩ := A
    cases sh with
    | nil => exact absurd (show (0 : Nat) = 215 from hs) (by decide)
    | cons x t => rfl
  rw [hs] at e
  exact e
def oM_666 : List (Nat × Nat × Nat × Int) := [(0, 22, 6, 0), (1, 214, 0, 109), (1, 214, 1, 105), (1, 214, 2, 110), (1, 214, 3, 117), (1, 214, 4, 116), (1, 214, 5, 101), (2, 190, 32, 214), (0, 22, 6, 0), (1, 215, 0, 110), (1, 215, 1, 117), (1, 215, 2, 109), (1, 215, 3, 98), (1, 215, 4, 101), (1, 215, 5, 114), (2, 190, 33, 215)]
set_option maxRecDepth 100000 in
theorem mb_666 (S SN : SX) (jp : Nat → NX) (A : AH) (hs : sz A = 214) : blk false 3 S SN jp pb_X12_init_b666 666 [vR 21 190 0] [] A = jp 742 [vR 21 190 0] [] (hap A oM_666) := by
  have e : pb_X12_init_b666 = clM_666 ++ (clM_704 ++ []) := rfl
  rw [e]
  rw [ckM_666 S SN jp _ _ hs]
  rw [ckM_704 S SN jp _ _ (by simp only [sz_hap, hs]; rfl)]
  rfl
def clM_742 : List EI := [e0 (.aload_n 0) 1, e0 (.iconst 5) 1, e0 (.newarray .char) 2, e0 .dup 1, e0 (.iconst 0) 1, e0 (.bipush 112) 2, e0 .castore 1, e0 .dup 1, e0 (.iconst 1) 1, e0 (.bipush 97) 2, e0 .castore 1, e0 .dup 1, e0 (.iconst 2) 1, e0 (.bipush 114) 2, e0 .castore 1, e0 .dup 1, e0 (.iconst 3) 1, e0 (.bipush 116) 2, e0 .castore 1, e0 .dup 1, e0 (.iconst 4) 1, e0 (.bipush 121) 2, e0 .castore 1, (.putfield 90, 3, 11, 34, 32, 216, 5, 1)]
theorem ckM_742 (S SN : SX) (jp : Nat → NX) (rest : List EI) (A : AH) (hs : sz A = 216) : blk false 3 S SN jp (clM_742 ++ rest) 742 [vR 21 190 0] [] A = blk false 3 S SN jp rest 774 [vR 21 190 0] [] (hap A [(0, 22, 5, 0), (1, 216, 0, 112), (1, 216, 1, 97), (1, 216, 2, 114), (1, 216, 3, 116), (1, 216, 4, 121), (2, 190, 34, 216)]) := by
  have e : blk false 3 S SN jp (clM_742 ++ rest) 742 [vR 21 190 0] [] A = blk false 3 S SN jp rest 774 [vR 21 190 0] [] (wr (wi (wi (wi (wi (wi (nw A 22 5) (sz A) 0 112) (sz A) 1 97) (sz A) 2 114) (sz A) 3 116) (sz A) 4 121) 190 34 (sz A)) := by
    obtain ⟨g, r, sh⟩ := A
    cases sh with
    | nil => exact absurd (show (0 : Nat) = 216 from hs) (by decide)
    | cons x t => rfl
  rw [hs] at e
  exact e
def clM_774 : List EI := [e0 (.aload_n 0) 1, e0 (.iconst 2) 1, e0 (.newarray .char) 2, e0 .dup 1, e0 (.iconst 0) 1, e0 (.bipush 111) 2, e0 .castore 1, e0 .dup 1, e0 (.iconst 1) 1, e0 (.bipush 114) 2, e0 .castore 1, (.putfield 93, 3, 11, 35, 32, 217, 2, 1)]
theorem ckM_774 (S SN : SX) (jp : Nat → NX) (rest : List EI) (A : AH) (hs : sz A = 217) : blk false 3 S SN jp (clM_774 ++ rest) 774 [vR 21 190 0] [] A = blk false 3 S SN jp rest 791 [vR 21 190 0] [] (hap A [(0, 22, 2, 0), (1, 217, 0, 111), (1, 217, 1, 114), (2, 190, 35, 217)]) := by
  have e : blk false 3 S SN jp (clM_774 ++ rest) 774 [vR 21 190 0] [] A = blk false 3 S SN jp rest 791 [vR 21 190 0] [] (wr (wi (wi (nw A 22 2) (sz A) 0 111) (sz A) 1 114) 190 35 (sz A)) := by
    obtain ⟨g, r, sh⟩ := A
    cases sh with
    | nil => exact absurd (show (0 : Nat) = 217 from hs) (by decide)
    | cons x t => rfl
  rw [hs] at e
  exact e
def clM_791 : List EI := [e0 (.aload_n 0) 1, e0 (.iconst 3) 1, e0 (.newarray .char) 2, e0 .dup 1, e0 (.iconst 0) 1, e0 (.bipush 97) 2, e0 .castore 1, e0 .dup 1, e0 (.iconst 1) 1, e0 (.bipush 110) 2, e0 .castore 1, e0 .dup 1, e0 (.iconst 2) 1, e0 (.bipush 100) 2, e0 .castore 1, (.putfield 96, 3, 11, 36, 32, 218, 3, 1)]
theorem ckM_791 (S SN : SX) (jp : Nat → NX) (rest : List EI) (A : AH) (hs : sz A = 218) : blk false 3 S SN jp (clM_791 ++ rest) 791 [vR 21 190 0] [] A = blk false 3 S SN jp rest 813 [vR 21 190 0] [] (hap A [(0, 22, 3, 0), (1, 218, 0, 97), (1, 218, 1, 110), (1, 218, 2, 100), (2, 190, 36, 218)]) := by
  have e : blk false 3 S SN jp (clM_791 ++ rest) 791 [vR 21 190 0] [] A = blk false 3 S SN jp rest 813 [vR 21 190 0] [] (wr (wi (wi (wi (nw A 22 3) (sz A) 0 97) (sz A) 1 110) (sz A) 2 100) 190 36 (sz A)) := by
    obtain ⟨g, r, sh⟩ := A
    cases sh with
    | nil => exact absurd (show (0 : Nat) = 218 from hs) (by decide)
    | cons x t => rfl
  rw [hs] at e
  exact e
def oM_742 : List (Nat × Nat × Nat × Int) := [(0, 22, 5, 0), (1, 216, 0, 112), (1, 216, 1, 97), (1, 216, 2, 114), (1, 216, 3, 116), (1, 216, 4, 121), (2, 190, 34, 216), (0, 22, 2, 0), (1, 217, 0, 111), (1, 217, 1, 114), (2, 190, 35, 217), (0, 22, 3, 0), (1, 218, 0, 97), (1, 218, 1, 110), (1, 218, 2, 100), (2, 190, 36, 218)]
set_option maxRecDepth 100000 in
theorem mb_742 (S SN : SX) (jp : Nat → NX) (A : AH) (hs : sz A = 216) : blk false 3 S SN jp pb_X12_init_b742 742 [vR 21 190 0] [] A = jp 813 [vR 21 190 0] [] (hap A oM_742) := by
  have e : pb_X12_init_b742 = clM_742 ++ (clM_774 ++ (clM_791 ++ [])) := rfl
  rw [e]
  rw [ckM_742 S SN jp _ _ hs]
  rw [ckM_774 S SN jp _ _ (by simp only [sz_hap, hs]; rfl)]
  rw [ckM_791 S SN jp _ _ (by simp only [sz_hap, hs]; rfl)]
  rfl
