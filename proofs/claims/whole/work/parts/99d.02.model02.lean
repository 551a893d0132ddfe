/-! the reference, made -/
def clM_1811 : List EI := [e0 (.aload_n 0) 1, e0 (.sipush 146) 3, e0 (.newarray .int) 2, (.putfield 157, 3, 11, 64, 30, 238, 146, 1)]
theorem ckM_1811 (S SN : SX) (jp : Nat → NX) (rest : List EI) (A : AH) (hs : sz A = 238) : blk false 3 S SN jp (clM_1811 ++ rest) 1811 [vR 21 190 0] [] A = blk false 3 S SN jp rest 1820 [vR 21 190 0] [] (hap A [(0, 20, 146, 0), (2, 190, 64, 238)]) := by
  have e : blk false 3 S SN jp (clM_1811 ++ rest) 1811 [vR 21 190 0] [] A = blk false 3 S SN jp rest 1820 [vR 21 190 0] [] (wr (nw A 20 146) 190 64 (sz A)) := by
    obtain ⟨g, r, sh⟩ := A
    cases sh with
    | nil => exact absurd (show (0 : Nat) = 238 from hs) (by decide)
    | cons x t => rfl
  rw [hs] at e
  exact e
def clM_1820 : List EI := [e0 (.aload_n 0) 1, e0 (.iconst (-1)) 1, (.putfield 160, 3, 11, 65, 0, 0, 0, 0)]
theorem ckM_1820 (S SN : SX) (jp : Nat → NX) (rest : List EI) (A : AH) (hs : sz A = 239) : blk false 3 S SN jp (clM_1820 ++ rest) 1820 [vR 21 190 0] [] A = blk false 3 S SN jp rest 1825 [vR 21 190 0] [] (hap A [(1, 190, 65, (-1))]) := rfl
def clM_1825 : List EI := [e0 (.aload_n 0) 1, e0 (.bipush 8) 2, e0 (.newarray .int) 2, (.putfield 163, 3, 11, 66, 30, 239, 8, 1)]
theorem ckM_1825 (S SN : SX) (jp : Nat → NX) (rest : List EI) (A : AH) (hs : sz A = 239) : blk false 3 S SN jp (clM_1825 ++ rest) 1825 [vR 21 190 0] [] A = blk false 3 S SN jp rest 1833 [vR 21 190 0] [] (hap A [(0, 20, 8, 0), (2, 190, 66, 239)]) := by
  have e : blk false 3 S SN jp (clM_1825 ++ rest) 1825 [vR 21 190 0] [] A = blk false 3 S SN jp rest 1833 [vR 21 190 0] [] (wr (nw A 20 8) 190 66 (sz A)) := by
    obtain ⟨g, r, sh⟩ := A
    cases sh with
    | nil => exact absurd (show (0 : Nat) = 239 from hs) (by decide)
    | cons x t => rfl
  rw [hs] at e
  exact e
def clM_1833 : List EI := [e0 (.aload_n 0) 1, e0 (.bipush 8) 2, e0 (.newarray .int) 2, (.putfield 166, 3, 11, 67, 30, 240, 8, 1)]
theorem ckM_1833 (S SN : SX) (jp : Nat → NX) (rest : List EI) (A : AH) (hs : sz A = 240) : blk false 3 S SN jp (clM_1833 ++ rest) 1833 [vR 21 190 0] [] A = blk false 3 S SN jp rest 1841 [vR 21 190 0] [] (hap A [(0, 20, 8, 0), (2, 190, 67, 240)]) := by
  have e : blk false 3 S SN jp (clM_1833 ++ rest) 1833 [vR 21 190 0] [] A = blk false 3 S SN jp rest 1841 [vR 21 190 0] [] (wr (nw A 20 8) 190 67 (sz A)) := by
    obtain ⟨g, r, sh⟩ := A
    cases sh with
    | nil => exact absurd (show (0 : Nat) = 240 from hs) (by decide)
    | cons x t => rfl
  rw [hs] at e
  exact e
def clM_1841 : List EI := [e0 (.aload_n 0) 1, e0 (.bipush 8) 2, e0 (.newarray .int) 2, (.putfield 169, 3, 11, 68, 30, 241, 8, 1)]
theorem ckM_1841 (S SN : SX) (jp : Nat → NX) (rest : List EI) (A : AH) (hs : sz A = 241) : blk false 3 S SN jp (clM_1841 ++ rest) 1841 [vR 21 190 0] [] A = blk false 3 S SN jp rest 1849 [vR 21 190 0] [] (hap A [(0, 20, 8, 0), (2, 190, 68, 241)]) := by
  have e : blk false 3 S SN jp (clM_1841 ++ rest) 1841 [vR 21 190 0] [] A = blk false 3 S SN jp rest 1849 [vR 21 190 0] [] (wr (nw A 20 8) 190 68 (sz A)) := by
    obtain ⟨g, r, sh⟩ := A
    cases sh with
    | nil => exact absurd (show (0 : Nat) = 241 from hs) (by decide)
    | cons x t => rfl
  rw [hs] at e
  exact e
def clM_1849 : List EI := [e0 (.aload_n 0) 1, e0 (.bipush 12) 2, e0 (.newarray .long) 2, (.putfield 172, 3, 11, 71, 31, 242, 12, 1)]
theorem ckM_1849 (S SN : SX) (jp : Nat → NX) (rest : List EI) (A : AH) (hs : sz A = 242) : blk false 3 S SN jp (clM_1849 ++ rest) 1849 [vR 21 190 0] [] A = blk false 3 S SN jp rest 1857 [vR 21 190 0] [] (hap A [(0, 21, 12, 0), (2, 190, 71, 242)]) := by
  have e : blk false 3 S SN jp (clM_1849 ++ rest) 1849 [vR 21 190 0] [] A = blk false 3 S SN jp rest 1857 [vR 21 190 0] [] (wr (nw A 21 12) 190 71 (sz A)) := by
    obtain ⟨g, r, sh⟩ := A
    cases sh with
    | nil => exact absurd (show (0 : Nat) = 242 from hs) (by decide)
    | cons x t => rfl
  rw [hs] at e
  exact e
def clM_1857 : List EI := [e0 (.aload_n 0) 1, e0 (.sipush 2920) 3, e0 (.newarray .int) 2, (.putfield 175, 3, 11, 72, 30, 243, 2920, 1)]
theorem ckM_1857 (S SN : SX) (jp : Nat → NX) (rest : List EI) (A : AH) (hs : sz A = 243) : blk false 3 S SN jp (clM_1857 ++ rest) 1857 [vR 21 190 0] [] A = blk false 3 S SN jp rest 1866 [vR 21 190 0] [] (hap A [(0, 20, 2920, 0), (2, 190, 72, 243)]) := by
  have e : blk false 3 S SN jp (clM_1857 ++ rest) 1857 [vR 21 190 0] [] A = blk false 3 S SN jp rest 1866 [vR 21 190 0] [] (wr (nw A 20 2920) 190 72 (sz A)) := by
    obtain ⟨g, r, sh⟩ := A
    cases sh with
    | nil => exact absurd (show (0 : Nat) = 243 from hs) (by decide)
    | cons x t => rfl
  rw [hs] at e
  exact e
def clM_1866 : List EI := [e0 (.aload_n 0) 1, e0 (.lconst 1) 1, (.putfield 178, 3, 11, 75, 1, 0, 0, 0)]
theorem ckM_1866 (S SN : SX) (jp : Nat → NX) (rest : List EI) (A : AH) (hs : sz A = 244) : blk false 3 S SN jp (clM_1866 ++ rest) 1866 [vR 21 190 0] [] A = blk false 3 S SN jp rest 1871 [vR 21 190 0] [] (hap A [(1, 190, 75, 1)]) := rfl
def clM_1871 : List EI := [e0 (.aload_n 0) 1, e0 (.iconst 5) 1, e0 (.newarray .char) 2, e0 .dup 1, e0 (.iconst 0) 1, e0 (.bipush 102) 2, e0 .castore 1, e0 .dup 1, e0 (.iconst 1) 1, e0 (.bipush 105) 2, e0 .castore 1, e0 .dup 1, e0 (.iconst 2) 1, e0 (.bipush 114) 2, e0 .castore 1, e0 .dup 1, e0 (.iconst 3) 1, e0 (.bipush 115) 2, e0 .castore 1, e0 .dup 1, e0 (.iconst 4) 1, e0 (.bipush 116) 2, e0 .castore 1, (.putfield 182, 3, 11, 76, 32, 244, 5, 1)]
theorem ckM_1871 (S SN : SX) (jp : Nat → NX) (rest : List EI) (A : AH) (hs : sz A = 244) : blk false 3 S SN jp (clM_1871 ++ rest) 1871 [vR 21 190 0] [] A = blk false 3 S SN jp rest 1903 [vR 21 190 0] [] (hap A [(0, 22, 5, 0), (1, 244, 0, 102), (1, 244, 1, 105), (1, 244, 2, 114), (1, 244, 3, 115), (1, 244, 4, 116), (2, 190, 76, 244)]) := by
  have e : blk false 3 S SN jp (clM_1871 ++ rest) 1871 [vR 21 190 0] [] A = blk false 3 S SN jp rest 1903 [vR 21 190 0] [] (wr (wi (wi (wi (wi (wi (nw A 22 5) (sz A) 0 102) (sz A) 1 105) (sz A) 2 114) (sz A) 3 115) (sz A) 4 116) 190 76 (sz A)) := by
    obtain ⟨g, r, sh⟩ := A
    cases sh with
    | nil => exact absurd (show (0 : Nat) = 244 from hs) (by decide)
    | cons x t => rfl
  rw [hs] at e
  exact e
def oM_1811 : List (Nat × Nat × Nat × Int) := [(0, 20, 146, 0), (2, 190, 64, 238), (1, 190, 65, (-1)), (0, 20, 8, 0), (2, 190, 66, 239), (0, 20, 8, 0), (2, 190, 67, 240), (0, 20, 8, 0), (2, 190, 68, 241), (0, 21, 12, 0), (2, 190, 71, 242), (0, 20, 2920, 0), (2, 190, 72, 243), (1, 190, 75, 1), (0, 22, 5, 0), (1, 244, 0, 102), (1, 244, 1, 105), (1, 244, 2, 114), (1, 244, 3, 115), (1, 244, 4, 116), (2, 190, 76, 244)]
set_option maxRecDepth 100000 in
theorem mb_1811 (S SN : SX) (jp : Nat → NX) (A : AH) (hs : sz A = 238) : blk false 3 S SN jp pb_X12_init_b1811 1811 [vR 21 190 0] [] A = jp 1903 [vR 21 190 0] [] (hap A oM_1811) := by
  have e : pb_X12_init_b1811 = clM_1811 ++ (clM_1820 ++ (clM_1825 ++ (clM_1833 ++ (clM_1841 ++ (clM_1849 ++ (clM_1857 ++ (clM_1866 ++ (clM_1871 ++ [])))))))) := rfl
  rw [e]
  rw [ckM_1811 S SN jp _ _ hs]
  rw [ckM_1820 S SN jp _ _ (by simp only [sz_hap, hs]; rfl)]
  rw [ckM_1825 S SN jp _ _ (by simp only [sz_hap, hs]; rfl)]
  rw [ckM_1833 S SN jp _ _ (by simp only [sz_hap, hs]; rfl)]
  rw [ckM_1841 S SN jp _ _ (by simp only [sz_hap, hs]; rfl)]
  rw [ckM_1849 S SN jp _ _ (by simp only [sz_hap, hs]; rfl)]
  rw [ckM_1857 S SN jp _ _ (by simp only [sz_hap, hs]; rfl)]
  rw [ckM_1866 S SN jp _ _ (by simp only [sz_hap, hs]; rfl)]
  rw [ckM_1871 S SN jp _ _ (by simp only [sz_hap, hs]; rfl)]
  rfl
def clM_1903 : List EI := [e0 (.aload_n 0) 1, e0 (.iconst 4) 1, e0 (.newarray .char) 2, e0 .dup 1, e0 (.iconst 0) 1, e0 (.bipush 108) 2, e0 .castore 1, e0 .dup 1, e0 (.iconst 1) 1, e0 (.bipush 97) 2, e0 .castore 1, e0 .dup 1, e0 (.iconst 2) 1, e0 (.bipush 115) 2, e0 .castore 1, e0 .dup 1, e0 (.iconst 3) 1, e0 (.bipush 116) 2, e0 .castore 1, (.putfield 185, 3, 11, 77, 32, 245, 4, 1)]
theorem ckM_1903 (S SN : SX) (jp : Nat → NX) (rest : List EI) (A : AH) (hs : sz A = 245) : blk false 3 S SN jp (clM_1903 ++ rest) 1903 [vR 21 190 0] [] A = blk false 3 S SN jp rest 1930 [vR 21 190 0] [] (hap A [(0, 22, 4, 0), (1, 245, 0, 108), (1, 245, 1, 97), (1, 245, 2, 115), (1, 245, 3, 116), (2, 190, 77, 245)]) := by
  have e : blk false 3 S SN jp (clM_1903 ++ rest) 1903 [vR 21 190 0] [] A = blk false 3 S SN jp rest 1930 [vR 21 190 0] [] (wr (wi (wi (wi (wi (nw A 22 4) (sz A) 0 108) (sz A) 1 97) (sz A) 2 115) (sz A) 3 116) 190 77 (sz A)) := by
    obtain ⟨g, r, sh⟩ := A
    cases sh with
    | nil => exact absurd (show (0 : Nat) = 245 from hs) (by decide)
    | cons x t => rfl
  rw [hs] at e
  exact e
def clM_1930 : List EI := [e0 (.aload_n 0) 1, e0 (.iconst 5) 1, e0 (.newarray .char) 2, e0 .dup 1, e0 (.iconst 0) 1, e0 (.bipush 111) 2, e0 .castore 1, e0 .dup 1, e0 (.iconst 1) 1, e0 (.bipush 102) 2, e0 .castore 1, e0 .dup 1, e0 (.iconst 2) 1, e0 (.bipush 116) 2, e0 .castore 1, e0 .dup 1, e0 (.iconst 3) 1, e0 (.bipush 101) 2, e0 .castore 1, e0 .dup 1, e0 (.iconst 4) 1, e0 (.bipush 110) 2, e0 .castore 1, (.putfield 188, 3, 11, 78, 32, 246, 5, 1)]
theorem ckM_1930 (S SN : SX) (jp : Nat → NX) (rest : List EI) (A : AH) (hs : sz A = 246) : blk false 3 S SN jp (clM_1930 ++ rest) 1930 [vR 21 190 0] [] A = blk false 3 S SN jp rest 1962 [vR 21 190 0] [] (hap A [(0, 22, 5, 0), (1, 246, 0, 111), (1, 246, 1, 102), (1, 246, 2, 116), (1, 246, 3, 101), (1, 246, 4, 110), (2, 190, 78, 246)]) := by
  have e : blk false 3 S SN jp (clM_1930 ++ rest) 1930 [vR 21 190 0] [] A = blk false 3 S SN jp rest 1962 [vR 21 190 0] [] (wr (wi (wi (wi (wi (wi (nw A 22 5) (sz A) 0 111) (sz A) 1 102) (sz A) 2 116) (sz A) 3 101) (sz A) 4 110) 190 78 (sz A)) := by
    obtain ⟨g, r, sh⟩ := A
    cases sh with
    | nil => exact absurd (show (0 : Nat) = 246 from hs) (by decide)
    | cons x t => rfl
  rw [hs] at e
  exact e
def oM_1903 : List (Nat × Nat × Nat × Int) := [(0, 22, 4, 0), (1, 245, 0, 108), (1, 245, 1, 97), (1, 245, 2, 115), (1, 245, 3, 116), (2, 190, 77, 245), (0, 22, 5, 0), (1, 246, 0, 111), (1, 246, 1, 102), (1, 246, 2, 116), (1, 246, 3, 101), (1, 246, 4, 110), (2, 190, 78, 246)]
set_option maxRecDepth 100000 in
theorem mb_1903 (S SN : SX) (jp : Nat → NX) (A : AH) (hs : sz A = 245) : blk false 3 S SN jp pb_X12_init_b1903 1903 [vR 21 190 0] [] A = jp 1962 [vR 21 190 0] [] (hap A oM_1903) := by
  have e : pb_X12_init_b1903 = clM_1903 ++ (clM_1930 ++ []) := rfl
  rw [e]
  rw [ckM_1903 S SN jp _ _ hs]
  rw [ckM_1930 S SN jp _ _ (by simp only [sz_hap, hs]; rfl)]
  rfl
def clM_1962 : List EI := [e0 (.aload_n 0) 1, e0 (.iconst 5) 1, e0 (.newarray .char) 2, e0 .dup 1, e0 (.iconst 0) 1, e0 (.bipush 116) 2, e0 .castore 1, e0 .dup 1, e0 (.iconst 1) 1, e0 (.bipush 111) 2, e0 .castore 1, e0 .dup 1, e0 (.iconst 2) 1, e0 (.bipush 116) 2, e0 .castore 1, e0 .dup 1, e0 (.iconst 3) 1, e0 (.bipush 97) 2, e0 .castore 1, e0 .dup 1, e0 (.iconst 4) 1, e0 (.bipush 108) 2, e0 .castore 1, (.putfield 191, 3, 11, 79, 32, 247, 5, 1)]
theorem ckM_1962 (S SN : SX) (jp : Nat → NX) (rest : List EI) (A : AH) (hs : sz A = 247) : blk false 3 S SN jp (clM_1962 ++ rest) 1962 [vR 21 190 0] [] A = blk false 3 S SN jp rest 1994 [vR 21 190 0] [] (hap A [(0, 22, 5, 0), (1, 247, 0, 116), (1, 247, 1, 111), (1, 247, 2, 116), (1, 247, 3, 97), (1, 247, 4, 108), (2, 190, 79, 247)]) := by
  have e : blk false 3 S SN jp (clM_1962 ++ rest) 1962 [vR 21 190 0] [] A = blk false 3 S SN jp rest 1994 [vR 21 190 0] [] (wr (wi (wi (wi (wi (wi (nw A 22 5) (sz A) 0 116) (sz A) 1 111) (sz A) 2 116) (sz A) 3 97) (sz A) 4 108) 190 79 (sz A)) := by
    obtain ⟨g, r, sh⟩ := A
    cases sh with
    | nil => exact absurd (show (0 : Nat) = 247 from hs) (by decide)
    | cons x t => rfl
  rw [hs] at e
  exact e
def clM_1994 : List EI := [e0 (.aload_n 0) 1, e0 (.iconst 4) 1, e0 (.newarray .char) 2, e0 .dup 1, e0 (.iconst 0) 1, e0 (.bipush 109) 2, e0 .castore 1, e0 .dup 1, e0 (.iconst 1) 1, e0 (.bipush 111) 2, e0 .castore 1, e0 .dup 1, e0 (.iconst 2) 1, e0 (.bipush 115) 2, e0 .castore 1, e0 .dup 1, e0 (.iconst 3) 1, e0 (.bipush 116) 2, e0 .castore 1, (.putfield 194, 3, 11, 80, 32, 248, 4, 1)]
theorem ckM_1994 (S SN : SX) (jp : Nat → NX) (rest : List EI) (A : AH) (hs : sz A = 248) : blk false 3 S SN jp (clM_1994 ++ rest) 1994 [vR 21 190 0] [] A = blk false 3 S SN jp rest 2021 [vR 21 190 0] [] (hap A [(0, 22, 4, 0), (1, 248, 0, 109), (1, 248, 1, 111), (1, 248, 2, 115), (1, 248, 3, 116), (2, 190, 80, 248)]) := by
  have e : blk false 3 S SN jp (clM_1994 ++ rest) 1994 [vR 21 190 0] [] A = blk false 3 S SN jp rest 2021 [vR 21 190 0] [] (wr (wi (wi (wi (wi (nw A 22 4) (sz A) 0 109) (sz A) 1 111) (sz A) 2 115) (sz A) 3 116) 190 80 (sz A)) := by
    obtain ⟨g, r, sh⟩ := A
    cases sh with
    | nil => exact absurd (show (0 : Nat) = 248 from hs) (by decide)
    | cons x t => rfl
  rw [hs] at e
  exact e
def oM_1962 : List (Nat × Nat × Nat × Int) := [(0, 22, 5, 0), (1, 247, 0, 116), (1, 247, 1, 111), (1, 247, 2, 116), (1, 247, 3, 97), (1, 247, 4, 108), (2, 190, 79, 247), (0, 22, 4, 0), (1, 248, 0, 109), (1, 248, 1, 111), (1, 248, 2, 115), (1, 248, 3, 116), (2, 190, 80, 248)]
set_option maxRecDepth 100000 in
theorem mb_1962 (S SN : SX) (jp : Nat → NX) (A : AH) (hs : sz A = 247) : blk false 3 S SN jp pb_X12_init_b1962 1962 [vR 21 190 0] [] A = jp 2021 [vR 21 190 0] [] (hap A oM_1962) := by
  have e : pb_X12_init_b1962 = clM_1962 ++ (clM_1994 ++ []) := rfl
  rw [e]
  rw [ckM_1962 S SN jp _ _ hs]
  rw [ckM_1994 S SN jp _ _ (by simp only [sz_hap, hs]; rfl)]
  rfl
def clM_2021 : List EI := [e0 (.aload_n 0) 1, e0 (.iconst 5) 1, e0 (.newarray .char) 2, e0 .dup 1, e0 (.iconst 0) 1, e0 (.bipush 108) 2, e0 .castore 1, e0 .dup 1, e0 (.iconst 1) 1, e0 (.bipush 101) 2, e0 .castore 1, e0 .dup 1, e0 (.iconst 2) 1, e0 (.bipush 97) 2, e0 .castore 1, e0 .dup 1, e0 (.iconst 3) 1, e0 (.bipush 115) 2, e0 .castore 1, e0 .dup 1, e0 (.iconst 4) 1, e0 (.bipush 116) 2, e0 .castore 1, (.putfield 197, 3, 11, 81, 32, 249, 5, 1)]
theorem ckM_2021 (S SN : SX) (jp : Nat → NX) (rest : List EI) (A : AH) (hs : sz A = 249) : blk false 3 S SN jp (clM_2021 ++ rest) 2021 [vR 21 190 0] [] A = blk false 3 S SN jp rest 2053 [vR 21 190 0] [] (hap A [(0, 22, 5, 0), (1, 249, 0, 108), (1, 249, 1, 101), (1, 249, 2, 97), (1, 249, 3, 115), (1, 249, 4, 116), (2, 190, 81, 249)]) := by
  have e : blk false 3 S SN jp (clM_2021 ++ rest) 2021 [vR 21 190 0] [] A = blk false 3 S SN jp rest 2053 [vR 21 190 0] [] (wr (wi (wi (wi (wi (wi (nw A 22 5) (sz A) 0 108) (sz A) 1 101) (sz A) 2 97) (sz A) 3 115) (sz A) 4 116) 190 81 (sz A)) := by
    obtain ⟨g, r, sh⟩ := A
    cases sh with
    | nil => exact absurd (show (0 : Nat) = 249 from hs) (by decide)
    | cons x t => rfl
  rw [hs] at e
  exact e
def clM_2053 : List EI := [e0 (.aload_n 0) 1, e0 (.iconst 3) 1, e0 (.newarray .char) 2, e0 .dup 1, e0 (.iconst 0) 1, e0 (.bipush 110) 2, e0 .castore 1, e0 .dup 1, e0 (.iconst 1) 1, e0 (.bipush 111) 2, e0 .castore 1, e0 .dup 1, e0 (.iconst 2) 1, e0 (.bipush 116) 2, e0 .castore 1, (.putfield 200, 3, 11, 82, 32, 250, 3, 1)]
theorem ckM_2053 (S SN : SX) (jp : Nat → NX) (rest : List EI) (A : AH) (hs : sz A = 250) : blk false 3 S SN jp (clM_2053 ++ rest) 2053 [vR 21 190 0] [] A = blk false 3 S SN jp rest 2075 [vR 21 190 0] [] (hap A [(0, 22, 3, 0), (1, 250, 0, 110), (1, 250, 1, 111), (1, 250, 2, 116), (2, 190, 82, 250)]) := by
  have e : blk false 3 S SN jp (clM_2053 ++ rest) 2053 [vR 21 190 0] [] A = blk false 3 S SN jp rest 2075 [vR 21 190 0] [] (wr (wi (wi (wi (nw A 22 3) (sz A) 0 110) (sz A) 1 111) (sz A) 2 116) 190 82 (sz A)) := by
    obtain ⟨g, r, sh⟩ := A
    cases sh with
    | nil => exact absurd (show (0 : Nat) = 250 from hs) (by decide)
    | cons x t => rfl
  rw [hs] at e
  exact e
def oM_2021 : List (Nat × Nat × Nat × Int) := [(0, 22, 5, 0), (1, 249, 0, 108), (1, 249, 1, 101), (1, 249, 2, 97), (1, 249, 3, 115), (1, 249, 4, 116), (2, 190, 81, 249), (0, 22, 3, 0), (1, 250, 0, 110), (1, 250, 1, 111), (1, 250, 2, 116), (2, 190, 82, 250)]
set_option maxRecDepth 100000 in
theorem mb_2021 (S SN : SX) (jp : Nat → NX) (A : AH) (hs : sz A = 249) : blk false 3 S SN jp pb_X12_init_b2021 2021 [vR 21 190 0] [] A = jp 2075 [vR 21 190 0] [] (hap A oM_2021) := by
  have e : pb_X12_init_b2021 = clM_2021 ++ (clM_2053 ++ []) := rfl
  rw [e]
  rw [ckM_2021 S SN jp _ _ hs]
  rw [ckM_2053 S SN jp _ _ (by simp only [sz_hap, hs]; rfl)]
  rfl
def clM_2075 : List EI := [e0 (.aload_n 0) 1, e0 (.iconst 3) 1, e0 (.newarray .char) 2, e0 .dup 1, e0 (.iconst 0) 1, e0 (.bipush 97) 2, e0 .castore 1, e0 .dup 1, e0 (.iconst 1) 1, e0 (.bipush 110) 2, e0 .castore 1, e0 .dup 1, e0 (.iconst 2) 1, e0 (.bipush 100) 2, e0 .castore 1, (.putfield 203, 3, 11, 83, 32, 251, 3, 1)]
theorem ckM_2075 (S SN : SX) (jp : Nat → NX) (rest : List EI) (A : AH) (hs : sz A = 251) : blk false 3 S SN jp (clM_2075 ++ rest) 2075 [vR 21 190 0] [] A = blk false 3 S SN jp rest 2097 [vR 21 190 0] [] (hap A [(0, 22, 3, 0), (1, 251, 0, 97), (1, 251, 1, 110), (1, 251, 2, 100), (2, 190, 83, 251)]) := by
  have e : blk false 3 S SN jp (clM_2075 ++ rest) 2075 [vR 21 190 0] [] A = blk false 3 S SN jp rest 2097 [vR 21 190 0] [] (wr (wi (wi (wi (nw A 22 3) (sz A) 0 97) (sz A) 1 110) (sz A) 2 100) 190 83 (sz A)) := by
    obtain ⟨g, r, sh⟩ := A
    cases sh with
    | nil => exact absurd (show (0 : Nat) = 251 from hs) (by decide)
    | cons x t => rfl
  rw [hs] at e
  exact e
def clM_2097 : List EI := [e0 (.aload_n 0) 1, e0 (.iconst 2) 1, e0 (.newarray .char) 2, e0 .dup 1, e0 (.iconst 0) 1, e0 (.bipush 111) 2, e0 .castore 1, e0 .dup 1, e0 (.iconst 1) 1, e0 (.bipush 114) 2, e0 .castore 1, (.putfield 206, 3, 11, 84, 32, 252, 2, 1)]
theorem ckM_2097 (S SN : SX) (jp : Nat → NX) (rest : List EI) (A : AH) (hs : sz A = 252) : blk false 3 S SN jp (clM_2097 ++ rest) 2097 [vR 21 190 0] [] A = blk false 3 S SN jp rest 2114 [vR 21 190 0] [] (hap A [(0, 22, 2, 0), (1, 252, 0, 111), (1, 252, 1, 114), (2, 190, 84, 252)]) := by
  have e : blk false 3 S SN jp (clM_2097 ++ rest) 2097 [vR 21 190 0] [] A = blk false 3 S SN jp rest 2114 [vR 21 190 0] [] (wr (wi (wi (nw A 22 2) (sz A) 0 111) (sz A) 1 114) 190 84 (sz A)) := by
    obtain ⟨g, r, sh⟩ := A
    cases sh with
    | nil => exact absurd (show (0 : Nat) = 252 from hs) (by decide)
    | cons x t => rfl
  rw [hs] at e
  exact e
def clM_2114 : List EI := [e0 (.aload_n 0) 1, e0 (.iconst 3) 1, e0 (.newarray .char) 2, e0 .dup 1, e0 (.iconst 0) 1, e0 (.bipush 97) 2, e0 .castore 1, e0 .dup 1, e0 (.iconst 1) 1, e0 (.bipush 108) 2, e0 .castore 1, e0 .dup 1, e0 (.iconst 2) 1, e0 (.bipush 108) 2, e0 .castore 1, (.putfield 209, 3, 11, 85, 32, 253, 3, 1)]
theorem ckM_2114 (S SN : SX) (jp : Nat → NX) (rest : List EI) (A : AH) (hs : sz A = 253) : blk false 3 S SN jp (clM_2114 ++ rest) 2114 [vR 21 190 0] [] A = blk false 3 S SN jp rest 2136 [vR 21 190 0] [] (hap A [(0, 22, 3, 0), (1, 253, 0, 97), (1, 253, 1, 108), (1, 253, 2, 108), (2, 190, 85, 253)]) := by
  have e : blk false 3 S SN jp (clM_2114 ++ rest) 2114 [vR 21 190 0] [] A = blk false 3 S SN jp rest 2136 [vR 21 190 0] [] (wr (wi (wi (wi (nw A 22 3) (sz A) 0 97) (sz A) 1 108) (sz A) 2 108) 190 85 (sz A)) := by
    obtain ⟨g, r, sh⟩ := A
    cases sh with
    | nil => exact absurd (show (0 : Nat) = 253 from hs) (by decide)
    | cons x t => rfl
  rw [hs] at e
  exact e
def oM_2075 : List (Nat × Nat × Nat × Int) := [(0, 22, 3, 0), (1, 251, 0, 97), (1, 251, 1, 110), (1, 251, 2, 100), (2, 190, 83, 251), (0, 22, 2, 0), (1, 252, 0, 111), (1, 252, 1, 114), (2, 190, 84, 252), (0, 22, 3, 0), (1, 253, 0, 97), (1, 253, 1, 108), (1, 253, 2, 108), (2, 190, 85, 253)]
set_option maxRecDepth 100000 in
theorem mb_2075 (S SN : SX) (jp : Nat → NX) (A : AH) (hs : sz A = 251) : blk false 3 S SN jp pb_X12_init_b2075 2075 [vR 21 190 0] [] A = jp 2136 [vR 21 190 0] [] (hap A oM_2075) := by
  have e : pb_X12_init_b2075 = clM_2075 ++ (clM_2097 ++ (clM_2114 ++ [])) := rfl
  rw [e]
  rw [ckM_2075 S SN jp _ _ hs]
  rw [ckM_2097 S SN jp _ _ (by simp only [sz_hap, hs]; rfl)]
  rw [ckM_2114 S SN jp _ _ (by simp only [sz_hap, hs]; rfl)]
  rfl
def clM_2136 : List EI := [e0 (.aload_n 0) 1, e0 (.iconst 3) 1, e0 (.newarray .char) 2, e0 .dup 1, e0 (.iconst 0) 1, e0 (.bipush 109) 2, e0 .castore 1, e0 .dup 1, e0 (.iconst 1) 1, e0 (.bipush 105) 2, e0 .castore 1, e0 .dup 1, e0 (.iconst 2) 1, e0 (.bipush 110) 2, e0 .castore 1, (.putfield 212, 3, 11, 86, 32, 254, 3, 1)]
theorem ckM_2136 (S SN : SX) (jp : Nat → NX) (rest : List EI) (A : AH) (hs : sz A = 254) : blk false 3 S SN jp (clM_2136 ++ rest) 2136 [vR 21 190 0] [] A = blk false 3 S SN jp rest 2158 [vR 21 190 0] [] (hap A [(0, 22, 3, 0), (1, 254, 0, 109), (1, 254, 1, 105), (1, 254, 2, 110), (2, 190, 86, 254)]) := by
  have e : blk false 3 S SN jp (clM_2136 ++ rest) 2136 [vR 21 190 0] [] A = blk false 3 S SN jp rest 2158 [vR 21 190 0] [] (wr (wi (wi (wi (nw A 22 3) (sz A) 0 109) (sz A) 1 105) (sz A) 2 110) 190 86 (sz A)) := by
    obtain ⟨g, r, sh⟩ := A
    cases sh with
    | nil => exact absurd (show (0 : Nat) = 254 from hs) (by decide)
    | cons x t => rfl
  rw [hs] at e
  exact e
def clM_2158 : List EI := [e0 (.aload_n 0) 1, e0 (.iconst 3) 1, e0 (.newarray .char) 2, e0 .dup 1, e0 (.iconst 0) 1, e0 (.bipush 109) 2, e0 .castore 1, e0 .dup 1, e0 (.iconst 1) 1, e0 (.bipush 97) 2, e0 .castore 1, e0 .dup 1, e0 (.iconst 2) 1, e0 (.bipush 120) 2, e0 .castore 1, (.putfield 215, 3, 11, 87, 32, 255, 3, 1)]
theorem ckM_2158 (S SN : SX) (jp : Nat → NX) (rest : List EI) (A : AH) (hs : sz A = 255) : blk false 3 S SN jp (clM_2158 ++ rest) 2158 [vR 21 190 0] [] A = blk false 3 S SN jp rest 2180 [vR 21 190 0] [] (hap A [(0, 22, 3, 0), (1, 255, 0, 109), (1, 255, 1, 97), (1, 255, 2, 120), (2, 190, 87, 255)]) := by
  have e : blk false 3 S SN jp (clM_2158 ++ rest) 2158 [vR 21 190 0] [] A = blk false 3 S SN jp rest 2180 [vR 21 190 0] [] (wr (wi (wi (wi (nw A 22 3) (sz A) 0 109) (sz A) 1 97) (sz A) 2 120) 190 87 (sz A)) := by
    obtain ⟨g, r, sh⟩ := A
    cases sh with
    | nil => exact absurd (show (0 : Nat) = 255 from hs) (by decide)
    | cons x t => rfl
  rw [hs] at e
  exact e
def clM_2180 : List EI := [e0 (.aload_n 0) 1, e0 (.iconst 5) 1, e0 (.newarray .char) 2, e0 .dup 1, e0 (.iconst 0) 1, e0 (.bipush 107) 2, e0 .castore 1, e0 .dup 1, e0 (.iconst 1) 1, e0 (.bipush 101) 2, e0 .castore 1, e0 .dup 1, e0 (.iconst 2) 1, e0 (.bipush 101) 2, e0 .castore 1, e0 .dup 1, e0 (.iconst 3) 1, e0 (.bipush 112) 2, e0 .castore 1, e0 .dup 1, e0 (.iconst 4) 1, e0 (.bipush 115) 2, e0 .castore 1, (.putfield 218, 3, 11, 88, 32, 256, 5, 1)]
theorem ckM_2180 (S SN : SX) (jp : Nat → NX) (rest : List EI) (A : AH) (hs : sz A = 256) : blk false 3 S SN jp (clM_2180 ++ rest) 2180 [vR 21 190 0] [] A = blk false 3 S SN jp rest 2212 [vR 21 190 0] [] (hap A [(0, 22, 5, 0), (1, 256, 0, 107), (1, 256, 1, 101), (1, 256, 2, 101), (1, 256, 3, 112), (1, 256, 4, 115), (2, 190, 88, 256)]) := by
  have e : blk false 3 S SN jp (clM_2180 ++ rest) 2180 [vR 21 190 0] [] A = blk false 3 S SN jp rest 2212 [vR 21 190 0] [] (wr (wi (wi (wi (wi (wi (nw A 22 5) (sz A) 0 107) (sz A) 1 101) (sz A) 2 101) (sz A) 3 112) (sz A) 4 115) 190 88 (sz A)) := by
    obtain ⟨g, r, sh⟩ := A
    cases sh with
    | nil => exact absurd (show (0 : Nat) = 256 from hs) (by decide)
    | cons x t => rfl
  rw [hs] at e
  exact e
def oM_2136 : List (Nat × Nat × Nat × Int) := [(0, 22, 3, 0), (1, 254, 0, 109), (1, 254, 1, 105), (1, 254, 2, 110), (2, 190, 86, 254), (0, 22, 3, 0), (1, 255, 0, 109), (1, 255, 1, 97), (1, 255, 2, 120), (2, 190, 87, 255), (0, 22, 5, 0), (1, 256, 0, 107), (1, 256, 1, 101), (1, 256, 2, 101), (1, 256, 3, 112), (1, 256, 4, 115), (2, 190, 88, 256)]
set_option maxRecDepth 100000 in
theorem mb_2136 (S SN : SX) (jp : Nat → NX) (A : AH) (hs : sz A = 254) : blk false 3 S SN jp pb_X12_init_b2136 2136 [vR 21 190 0] [] A = jp 2212 [vR 21 190 0] [] (hap A oM_2136) := by
  have e : pb_X12_init_b2136 = clM_2136 ++ (clM_2158 ++ (clM_2180 ++ [])) := rfl
  rw [e]
  rw [ckM_2136 S SN jp _ _ hs]
  rw [ckM_2158 S SN jp _ _ (by simp only [sz_hap, hs]; rfl)]
  rw [ckM_2180 S SN jp _ _ (by simp only [sz_hap, hs]; rfl)]
  rfl
def clM_2212 : List EI := [e0 (.aload_n 0) 1, e0 (.bipush 6) 2, e0 (.newarray .char) 2, e0 .dup 1, e0 (.iconst 0) 1, e0 (.bipush 105) 2, e0 .castore 1, e0 .dup 1, e0 (.iconst 1) 1, e0 (.bipush 116) 2, e0 .castore 1, e0 .dup 1, e0 (.iconst 2) 1, e0 (.bipush 99) 2, e0 .castore 1, e0 .dup 1, e0 (.iconst 3) 1, e0 (.bipush 104) 2, e0 .castore 1, e0 .dup 1, e0 (.iconst 4) 1, e0 (.bipush 101) 2, e0 .castore 1, e0 .dup 1, e0 (.iconst 5) 1, e0 (.bipush 115) 2, e0 .castore 1, (.putfield 221, 3, 11, 89, 32, 257, 6, 1)]
theorem ckM_2212 (S SN : SX) (jp : Nat → NX) (rest : List EI) (A : AH) (hs : sz A = 257) : blk false 3 S SN jp (clM_2212 ++ rest) 2212 [vR 21 190 0] [] A = blk false 3 S SN jp rest 2250 [vR 21 190 0] [] (hap A [(0, 22, 6, 0), (1, 257, 0, 105), (1, 257, 1, 116), (1, 257, 2, 99), (1, 257, 3, 104), (1, 257, 4, 101), (1, 257, 5, 115), (2, 190, 89, 257)]) := by
  have e : blk false 3 S SN jp (clM_2212 ++ rest) 2212 [vR 21 190 0] [] A = blk false 3 S SN jp rest 2250 [vR 21 190 0] [] (wr (wi (wi (wi (wi (wi (wi (nw A 22 6) (sz A) 0 105) (sz A) 1 116) (sz A) 2 99) (sz A) 3 104) (sz A) 4 101) (sz A) 5 115) 190 89 (sz A)) := by
    obtain ⟨g, r, sh⟩ := A
    cases sh with
    | nil => exact absurd (show (0 : Nat) = 257 from hs) (by decide)
    | cons x t => rfl
  rw [hs] at e
  exact e
def clM_2250 : List EI := [e0 (.aload_n 0) 1, e0 (.iconst 4) 1, e0 (.newarray .char) 2, e0 .dup 1, e0 (.iconst 0) 1, e0 (.bipush 110) 2, e0 .castore 1, e0 .dup 1, e0 (.iconst 1) 1, e0 (.bipush 101) 2, e0 .castore 1, e0 .dup 1, e0 (.iconst 2) 1, e0 (.bipush 97) 2, e0 .castore 1, e0 .dup 1, e0 (.iconst 3) 1, e0 (.bipush 114) 2, e0 .castore 1, (.putfield 224, 3, 11, 90, 32, 258, 4, 1)]
theorem ckM_2250 (S SN : SX) (jp : Nat → NX) (rest : List EI) (A : AH) (hs : sz A = 258) : blk false 3 S SN jp (clM_2250 ++ rest) 2250 [vR 21 190 0] [] A = blk false 3 S SN jp rest 2277 [vR 21 190 0] [] (hap A [(0, 22, 4, 0), (1, 258, 0, 110), (1, 258, 1, 101), (1, 258, 2, 97), (1, 258, 3, 114), (2, 190, 90, 258)]) := by
  have e : blk false 3 S SN jp (clM_2250 ++ rest) 2250 [vR 21 190 0] [] A = blk false 3 S SN jp rest 2277 [vR 21 190 0] [] (wr (wi (wi (wi (wi (nw A 22 4) (sz A) 0 110) (sz A) 1 101) (sz A) 2 97) (sz A) 3 114) 190 90 (sz A)) := by
    obtain ⟨g, r, sh⟩ := A
    cases sh with
    | nil => exact absurd (show (0 : Nat) = 258 from hs) (by decide)
    | cons x t => rfl
  rw [hs] at e
  exact e
def oM_2212 : List (Nat × Nat × Nat × Int) := [(0, 22, 6, 0), (1, 257, 0, 105), (1, 257, 1, 116), (1, 257, 2, 99), (1, 257, 3, 104), (1, 257, 4, 101), (1, 257, 5, 115), (2, 190, 89, 257), (0, 22, 4, 0), (1, 258, 0, 110), (1, 258, 1, 101), (1, 258, 2, 97), (1, 258, 3, 114), (2, 190, 90, 258)]
set_option maxRecDepth 100000 in
theorem mb_2212 (S SN : SX) (jp : Nat → NX) (A : AH) (hs : sz A = 257) : blk false 3 S SN jp pb_X12_init_b2212 2212 [vR 21 190 0] [] A = jp 2277 [vR 21 190 0] [] (hap A oM_2212) := by
  have e : pb_X12_init_b2212 = clM_2212 ++ (clM_2250 ++ []) := rfl
  rw [e]
  rw [ckM_2212 S SN jp _ _ hs]
  rw [ckM_2250 S SN jp _ _ (by simp only [sz_hap, hs]; rfl)]
  rfl
def clM_2277 : List EI := [e0 (.aload_n 0) 1, e0 (.iconst 5) 1, e0 (.newarray .char) 2, e0 .dup 1, e0 (.iconst 0) 1, e0 (.bipush 104) 2, e0 .castore 1, e0 .dup 1, e0 (.iconst 1) 1, e0 (.bipush 97) 2, e0 .castore 1, e0 .dup 1, e0 (.iconst 2) 1, e0 (.bipush 116) 2, e0 .castore 1, e0 .dup 1, e0 (.iconst 3) 1, e0 (.bipush 101) 2, e0 .castore 1, e0 .dup 1, e0 (.iconst 4) 1, e0 (.bipush 100) 2, e0 .castore 1, (.putfield 227, 3, 11, 91, 32, 259, 5, 1)]
theorem ckM_2277 (S SN : SX) (jp : Nat → NX) (rest : List EI) (A : AH) (hs : sz A = 259) : blk false 3 S SN jp (clM_2277 ++ rest) 2277 [vR 21 190 0] [] A = blk false 3 S SN jp rest 2309 [vR 21 190 0] [] (hap A [(0, 22, 5, 0), (1, 259, 0, 104), (1, 259, 1, 97), (1, 259, 2, 116), (1, 259, 3, 101), (1, 259, 4, 100), (2, 190, 91, 259)]) := by
  have e : blk false 3 S SN jp (clM_2277 ++ rest) 2277 [vR 21 190 0] [] A = blk false 3 S SN jp rest 2309 [vR 21 190 0] [] (wr (wi (wi (wi (wi (wi (nw A 22 5) (sz A) 0 104) (sz A) 1 97) (sz A) 2 116) (sz A) 3 101) (sz A) 4 100) 190 91 (sz A)) := by
    obtain ⟨g, r, sh⟩ := A
    cases sh with
    | nil => exact absurd (show (0 : Nat) = 259 from hs) (by decide)
    | cons x t => rfl
  rw [hs] at e
  exact e
def clM_2309 : List EI := [e0 (.aload_n 0) 1, e0 (.iconst 5) 1, e0 (.newarray .char) 2, e0 .dup 1, e0 (.iconst 0) 1, e0 (.bipush 97) 2, e0 .castore 1, e0 .dup 1, e0 (.iconst 1) 1, e0 (.bipush 115) 2, e0 .castore 1, e0 .dup 1, e0 (.iconst 2) 1, e0 (.bipush 107) 2, e0 .castore 1, e0 .dup 1, e0 (.iconst 3) 1, e0 (.bipush 101) 2, e0 .castore 1, e0 .dup 1, e0 (.iconst 4) 1, e0 (.bipush 100) 2, e0 .castore 1, (.putfield 230, 3, 11, 92, 32, 260, 5, 1)]
theorem ckM_2309 (S SN : SX) (jp : Nat → NX) (rest : List EI) (A : AH) (hs : sz A = 260) : blk false 3 S SN jp (clM_2309 ++ rest) 2309 [vR 21 190 0] [] A = blk false 3 S SN jp rest 2341 [vR 21 190 0] [] (hap A [(0, 22, 5, 0), (1, 260, 0, 97), (1, 260, 1, 115), (1, 260, 2, 107), (1, 260, 3, 101), (1, 260, 4, 100), (2, 190, 92, 260)]) := by
  have e : blk false 3 S SN jp (clM_2309 ++ rest) 2309 [vR 21 190 0] [] A = blk false 3 S SN jp rest 2341 [vR 21 190 0] [] (wr (wi (wi (wi (wi (wi (nw A 22 5) (sz A) 0 97) (sz A) 1 115) (sz A) 2 107) (sz A) 3 101) (sz A) 4 100) 190 92 (sz A)) := by
    obtain ⟨g, r, sh⟩ := A
    cases sh with
    | nil => exact absurd (show (0 : Nat) = 260 from hs) (by decide)
    | cons x t => rfl
  rw [hs] at e
  exact e
def oM_2277 : List (Nat × Nat × Nat × Int) := [(0, 22, 5, 0), (1, 259, 0, 104), (1, 259, 1, 97), (1, 259, 2, 116), (1, 259, 3, 101), (1, 259, 4, 100), (2, 190, 91, 259), (0, 22, 5, 0), (1, 260, 0, 97), (1, 260, 1, 115), (1, 260, 2, 107), (1, 260, 3, 101), (1, 260, 4, 100), (2, 190, 92, 260)]
set_option maxRecDepth 100000 in
theorem mb_2277 (S SN : SX) (jp : Nat → NX) (A : AH) (hs : sz A = 259) : blk false 3 S SN jp pb_X12_init_b2277 2277 [vR 21 190 0] [] A = jp 2341 [vR 21 190 0] [] (hap A oM_2277) := by
  have e : pb_X12_init_b2277 = clM_2277 ++ (clM_2309 ++ []) := rfl
  rw [e]
  rw [ckM_2277 S SN jp _ _ hs]
  rw [ckM_2309 S SN jp _ _ (by simp only [sz_hap, hs]; rfl)]
  rfl
def clM_2341 : List EI := [e0 (.aload_n 0) 1, e0 (.iconst 5) 1, e0 (.newarray .char) 2, e0 .dup 1, e0 (.iconst 0) 1, e0 (.bipush 110) 2, e0 .castore 1, e0 .dup 1, e0 (.iconst 1) 1, e0 (.bipush 111) 2, e0 .castore 1, e0 .dup 1, e0 (.iconst 2) 1, e0 (.bipush 105) 2, e0 .castore 1, e0 .dup 1, e0 (.iconst 3) 1, e0 (.bipush 115) 2, e0 .castore 1, e0 .dup 1, e0 (.iconst 4) 1, e0 (.bipush 101) 2, e0 .castore 1, (.putfield 233, 3, 11, 93, 32, 261, 5, 1)]
theorem ckM_2341 (S SN : SX) (jp : Nat → NX) (rest : List EI) (A : AH) (hs : sz A = 261) : blk false 3 S SN jp (clM_2341 ++ rest) 2341 [vR 21 190 0] [] A = blk false 3 S SN jp rest 2373 [vR 21 190 0] [] (hap A [(0, 22, 5, 0), (1, 261, 0, 110), (1, 261, 1, 111), (1, 261, 2, 105), (1, 261, 3, 115), (1, 261, 4, 101), (2, 190, 93, 261)]) := by
  have e : blk false 3 S SN jp (clM_2341 ++ rest) 2341 [vR 21 190 0] [] A = blk false 3 S SN jp rest 2373 [vR 21 190 0] [] (wr (wi (wi (wi (wi (wi (nw A 22 5) (sz A) 0 110) (sz A) 1 111) (sz A) 2 105) (sz A) 3 115) (sz A) 4 101) 190 93 (sz A)) := by
    obtain ⟨g, r, sh⟩ := A
    cases sh with
    | nil => exact absurd (show (0 : Nat) = 261 from hs) (by decide)
    | cons x t => rfl
  rw [hs] at e
  exact e
def clM_2373 : List EI := [e0 (.aload_n 0) 1, e0 (.iconst 4) 1, e0 (.newarray .char) 2, e0 .dup 1, e0 (.iconst 0) 1, e0 (.bipush 115) 2, e0 .castore 1, e0 .dup 1, e0 (.iconst 1) 1, e0 (.bipush 101) 2, e0 .castore 1, e0 .dup 1, e0 (.iconst 2) 1, e0 (.bipush 97) 2, e0 .castore 1, e0 .dup 1, e0 (.iconst 3) 1, e0 (.bipush 116) 2, e0 .castore 1, (.putfield 236, 3, 11, 94, 32, 262, 4, 1)]
theorem ckM_2373 (S SN : SX) (jp : Nat → NX) (rest : List EI) (A : AH) (hs : sz A = 262) : blk false 3 S SN jp (clM_2373 ++ rest) 2373 [vR 21 190 0] [] A = blk false 3 S SN jp rest 2400 [vR 21 190 0] [] (hap A [(0, 22, 4, 0), (1, 262, 0, 115), (1, 262, 1, 101), (1, 262, 2, 97), (1, 262, 3, 116), (2, 190, 94, 262)]) := by
  have e : blk false 3 S SN jp (clM_2373 ++ rest) 2373 [vR 21 190 0] [] A = blk false 3 S SN jp rest 2400 [vR 21 190 0] [] (wr (wi (wi (wi (wi (nw A 22 4) (sz A) 0 115) (sz A) 1 101) (sz A) 2 97) (sz A) 3 116) 190 94 (sz A)) := by
    obtain ⟨g, r, sh⟩ := A
    cases sh with
    | nil => exact absurd (show (0 : Nat) = 262 from hs) (by decide)
    | cons x t => rfl
  rw [hs] at e
  exact e
def oM_2341 : List (Nat × Nat × Nat × Int) := [(0, 22, 5, 0), (1, 261, 0, 110), (1, 261, 1, 111), (1, 261, 2, 105), (1, 261, 3, 115), (1, 261, 4, 101), (2, 190, 93, 261), (0, 22, 4, 0), (1, 262, 0, 115), (1, 262, 1, 101), (1, 262, 2, 97), (1, 262, 3, 116), (2, 190, 94, 262)]
set_option maxRecDepth 100000 in
theorem mb_2341 (S SN : SX) (jp : Nat → NX) (A : AH) (hs : sz A = 261) : blk false 3 S SN jp pb_X12_init_b2341 2341 [vR 21 190 0] [] A = jp 2400 [vR 21 190 0] [] (hap A oM_2341) := by
  have e : pb_X12_init_b2341 = clM_2341 ++ (clM_2373 ++ []) := rfl
  rw [e]
  rw [ckM_2341 S SN jp _ _ hs]
  rw [ckM_2373 S SN jp _ _ (by simp only [sz_hap, hs]; rfl)]
  rfl
def clM_2400 : List EI := [e0 (.aload_n 0) 1, e0 (.bipush 6) 2, e0 (.newarray .char) 2, e0 .dup 1, e0 (.iconst 0) 1, e0 (.bipush 109) 2, e0 .castore 1, e0 .dup 1, e0 (.iconst 1) 1, e0 (.bipush 105) 2, e0 .castore 1, e0 .dup 1, e0 (.iconst 2) 1, e0 (.bipush 110) 2, e0 .castore 1, e0 .dup 1, e0 (.iconst 3) 1, e0 (.bipush 117) 2, e0 .castore 1, e0 .dup 1, e0 (.iconst 4) 1, e0 (.bipush 116) 2, e0 .castore 1, e0 .dup 1, e0 (.iconst 5) 1, e0 (.bipush 101) 2, e0 .castore 1, (.putfield 239, 3, 11, 95, 32, 263, 6, 1)]
theorem ckM_2400 (S SN : SX) (jp : Nat → NX) (rest : List EI) (A : AH) (hs : sz A = 263) : blk false 3 S SN jp (clM_2400 ++ rest) 2400 [vR 21 190 0] [] A = blk false 3 S SN jp rest 2438 [vR 21 190 0] [] (hap A [(0, 22, 6, 0), (1, 263, 0, 109), (1, 263, 1, 105), (1, 263, 2, 110), (1, 263, 3, 117), (1, 263, 4, 116), (1, 263, 5, 101), (2, 190, 95, 263)]) := by
  have e : blk false 3 S SN jp (clM_2400 ++ rest) 2400 [vR 21 190 0] [] A = blk false 3 S SN jp rest 2438 [vR 21 190 0] [] (wr (wi (wi (wi (wi (wi (wi (nw A 22 6) (sz A) 0 109) (sz A) 1 105) (sz A) 2 110) (sz A) 3 117) (sz A) 4 116) (sz A) 5 101) 190 95 (sz A)) := by
    obtain ⟨g, r, sh⟩ := A
    cases sh with
    | nil => exact absurd (show (0 : Nat) = 263 from hs) (by decide)
    | cons x t => rfl
  rw [hs] at e
  exact e
def clM_2438 : List EI := [e0 (.aload_n 0) 1, e0 (.bipush 6) 2, e0 (.newarray .char) 2, e0 .dup 1, e0 (.iconst 0) 1, e0 (.bipush 110) 2, e0 .castore 1, e0 .dup 1, e0 (.iconst 1) 1, e0 (.bipush 117) 2, e0 .castore 1, e0 .dup 1, e0 (.iconst 2) 1, e0 (.bipush 109) 2, e0 .castore 1, e0 .dup 1, e0 (.iconst 3) 1, e0 (.bipush 98) 2, e0 .castore 1, e0 .dup 1, e0 (.iconst 4) 1, e0 (.bipush 101) 2, e0 .castore 1, e0 .dup 1, e0 (.iconst 5) 1, e0 (.bipush 114) 2, e0 .castore 1, (.putfield 242, 3, 11, 96, 32, 264, 6, 1)]
theorem ckM_2438 (S SN : SX) (jp : Nat → NX) (rest : List EI) (A : AH) (hs : sz A = 264) : blk false 3 S SN jp (clM_2438 ++ rest) 2438 [vR 21 190 0] [] A = blk false 3 S SN jp rest 2476 [vR 21 190 0] [] (hap A [(0, 22, 6, 0), (1, 264, 0, 110), (1, 264, 1, 117), (1, 264, 2, 109), (1, 264, 3, 98), (1, 264, 4, 101), (1, 264, 5, 114), (2, 190, 96, 264)]) := by
  have e : blk false 3 S SN jp (clM_2438 ++ rest) 2438 [vR 21 190 0] [] A = blk false 3 S SN jp rest 2476 [vR 21 190 0] [] (wr (wi (wi (wi (wi (wi (wi (nw A 22 6) (sz A) 0 110) (sz A) 1 117) (sz A) 2 109) (sz A) 3 98) (sz A) 4 101) (sz A) 5 114) 190 96 (sz A)) := by
    obtain ⟨g, r, sh⟩ := A
    cases sh with
    | nil => exact absurd (show (0 : Nat) = 264 from hs) (by decide)
    | cons x t => rfl
  rw [hs] at e
  exact e
def oM_2400 : List (Nat × Nat × Nat × Int) := [(0, 22, 6, 0), (1, 263, 0, 109), (1, 263, 1, 105), (1, 263, 2, 110), (1, 263, 3, 117), (1, 263, 4, 116), (1, 263, 5, 101), (2, 190, 95, 263), (0, 22, 6, 0), (1, 264, 0, 110), (1, 264, 1, 117), (1, 264, 2, 109), (1, 264, 3, 98), (1, 264, 4, 101), (1, 264, 5, 114), (2, 190, 96, 264)]
set_option maxRecDepth 100000 in
theorem mb_2400 (S SN : SX) (jp : Nat → NX) (A : AH) (hs : sz A = 263) : blk false 3 S SN jp pb_X12_init_b2400 2400 [vR 21 190 0] [] A = jp 2476 [vR 21 190 0] [] (hap A oM_2400) := by
  have e : pb_X12_init_b2400 = clM_2400 ++ (clM_2438 ++ []) := rfl
  rw [e]
  rw [ckM_2400 S SN jp _ _ hs]
  rw [ckM_2438 S SN jp _ _ (by simp only [sz_hap, hs]; rfl)]
  rfl
def clM_2476 : List EI := [e0 (.aload_n 0) 1, e0 (.iconst 5) 1, e0 (.newarray .char) 2, e0 .dup 1, e0 (.iconst 0) 1, e0 (.bipush 112) 2, e0 .castore 1, e0 .dup 1, e0 (.iconst 1) 1, e0 (.bipush 97) 2, e0 .castore 1, e0 .dup 1, e0 (.iconst 2) 1, e0 (.bipush 114) 2, e0 .castore 1, e0 .dup 1, e0 (.iconst 3) 1, e0 (.bipush 116) 2, e0 .castore 1, e0 .dup 1, e0 (.iconst 4) 1, e0 (.bipush 121) 2, e0 .castore 1, (.putfield 245, 3, 11, 97, 32, 265, 5, 1)]
theorem ckM_2476 (S SN : SX) (jp : Nat → NX) (rest : List EI) (A : AH) (hs : sz A = 265) : blk false 3 S SN jp (clM_2476 ++ rest) 2476 [vR 21 190 0] [] A = blk false 3 S SN jp rest 2508 [vR 21 190 0] [] (hap A [(0, 22, 5, 0), (1, 265, 0, 112), (1, 265, 1, 97), (1, 265, 2, 114), (1, 265, 3, 116), (1, 265, 4, 121), (2, 190, 97, 265)]) := by
  have e : blk false 3 S SN jp (clM_2476 ++ rest) 2476 [vR 21 190 0] [] A = blk false 3 S SN jp rest 2508 [vR 21 190 0] [] (wr (wi (wi (wi (wi (wi (nw A 22 5) (sz A) 0 112) (sz A) 1 97) (sz A) 2 114) (sz A) 3 116) (sz A) 4 121) 190 97 (sz A)) := by
    obtain ⟨g, r, sh⟩ := A
    cases sh with
    | nil => exact absurd (show (0 : Nat) = 265 from hs) (by decide)
    | cons x t => rfl
  rw [hs] at e
  exact e
def clM_2508 : List EI := [e0 (.aload_n 0) 1, e0 (.bipush 6) 2, e0 (.newarray .char) 2, e0 .dup 1, e0 (.iconst 0) 1, e0 (.bipush 98) 2, e0 .castore 1, e0 .dup 1, e0 (.iconst 1) 1, e0 (.bipush 101) 2, e0 .castore 1, e0 .dup 1, e0 (.iconst 2) 1, e0 (.bipush 115) 2, e0 .castore 1, e0 .dup 1, e0 (.iconst 3) 1, e0 (.bipush 105) 2, e0 .castore 1, e0 .dup 1, e0 (.iconst 4) 1, e0 (.bipush 100) 2, e0 .castore 1, e0 .dup 1, e0 (.iconst 5) 1, e0 (.bipush 101) 2, e0 .castore 1, (.putfield 248, 3, 11, 98, 32, 266, 6, 1)]
theorem ckM_2508 (S SN : SX) (jp : Nat → NX) (rest : List EI) (A : AH) (hs : sz A = 266) : blk false 3 S SN jp (clM_2508 ++ rest) 2508 [vR 21 190 0] [] A = blk false 3 S SN jp rest 2546 [vR 21 190 0] [] (hap A [(0, 22, 6, 0), (1, 266, 0, 98), (1, 266, 1, 101), (1, 266, 2, 115), (1, 266, 3, 105), (1, 266, 4, 100), (1, 266, 5, 101), (2, 190, 98, 266)]) := by
  have e : blk false 3 S SN jp (clM_2508 ++ rest) 2508 [vR 21 190 0] [] A = blk false 3 S SN jp rest 2546 [vR 21 190 0] [] (wr (wi (wi (wi (wi (wi (wi (nw A 22 6) (sz A) 0 98) (sz A) 1 101) (sz A) 2 115) (sz A) 3 105) (sz A) 4 100) (sz A) 5 101) 190 98 (sz A)) := by
    obtain ⟨g, r, sh⟩ := A
    cases sh with
    | nil => exact absurd (show (0 : Nat) = 266 from hs) (by decide)
    | cons x t => rfl
  rw [hs] at e
  exact e
def oM_2476 : List (Nat × Nat × Nat × Int) := [(0, 22, 5, 0), (1, 265, 0, 112), (1, 265, 1, 97), (1, 265, 2, 114), (1, 265, 3, 116), (1, 265, 4, 121), (2, 190, 97, 265), (0, 22, 6, 0), (1, 266, 0, 98), (1, 266, 1, 101), (1, 266, 2, 115), (1, 266, 3, 105), (1, 266, 4, 100), (1, 266, 5, 101), (2, 190, 98, 266)]
set_option maxRecDepth 100000 in
theorem mb_2476 (S SN : SX) (jp : Nat → NX) (A : AH) (hs : sz A = 265) : blk false 3 S SN jp pb_X12_init_b2476 2476 [vR 21 190 0] [] A = jp 2546 [vR 21 190 0] [] (hap A oM_2476) := by
  have e : pb_X12_init_b2476 = clM_2476 ++ (clM_2508 ++ []) := rfl
  rw [e]
  rw [ckM_2476 S SN jp _ _ hs]
  rw [ckM_2508 S SN jp _ _ (by simp only [sz_hap, hs]; rfl)]
  rfl
