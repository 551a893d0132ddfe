/-! the reference, made -/
def clM_813 : List EI := [e0 (.aload_n 0) 1, e0 (.iconst 3) 1, e0 (.newarray .char) 2, e0 .dup 1, e0 (.iconst 0) 1, e0 (.bipush 110) 2, e0 .castore 1, e0 .dup 1, e0 (.iconst 1) 1, e0 (.bipush 111) 2, e0 .castore 1, e0 .dup 1, e0 (.iconst 2) 1, e0 (.bipush 116) 2, e0 .castore 1, (.putfield 99, 3, 11, 37, 32, 219, 3, 1)]
theorem ckM_813 (S SN : SX) (jp : Nat → NX) (rest : List EI) (A : AH) (hs : sz A = 219) : blk false 3 S SN jp (clM_813 ++ rest) 813 [vR 21 190 0] [] A = blk false 3 S SN jp rest 835 [vR 21 190 0] [] (hap A [(0, 22, 3, 0), (1, 219, 0, 110), (1, 219, 1, 111), (1, 219, 2, 116), (2, 190, 37, 219)]) := by
  have e : blk false 3 S SN jp (clM_813 ++ rest) 813 [vR 21 190 0] [] A = blk false 3 S SN jp rest 835 [vR 21 190 0] [] (wr (wi (wi (wi (nw A 22 3) (sz A) 0 110) (sz A) 1 111) (sz A) 2 116) 190 37 (sz A)) := by
    obtain ⟨g, r, sh⟩ := A
    cases sh with
    | nil => exact absurd (show (0 : Nat) = 219 from hs) (by decide)
    | cons x t => rfl
  rw [hs] at e
  exact e
def clM_835 : List EI := [e0 (.aload_n 0) 1, e0 (.iconst 3) 1, e0 (.newarray .char) 2, e0 .dup 1, e0 (.iconst 0) 1, e0 (.bipush 97) 2, e0 .castore 1, e0 .dup 1, e0 (.iconst 1) 1, e0 (.bipush 108) 2, e0 .castore 1, e0 .dup 1, e0 (.iconst 2) 1, e0 (.bipush 108) 2, e0 .castore 1, (.putfield 102, 3, 11, 38, 32, 220, 3, 1)]
theorem ckM_835 (S SN : SX) (jp : Nat → NX) (rest : List EI) (A : AH) (hs : sz A = 220) : blk false 3 S SN jp (clM_835 ++ rest) 835 [vR 21 190 0] [] A = blk false 3 S SN jp rest 857 [vR 21 190 0] [] (hap A [(0, 22, 3, 0), (1, 220, 0, 97), (1, 220, 1, 108), (1, 220, 2, 108), (2, 190, 38, 220)]) := by
  have e : blk false 3 S SN jp (clM_835 ++ rest) 835 [vR 21 190 0] [] A = blk false 3 S SN jp rest 857 [vR 21 190 0] [] (wr (wi (wi (wi (nw A 22 3) (sz A) 0 97) (sz A) 1 108) (sz A) 2 108) 190 38 (sz A)) := by
    obtain ⟨g, r, sh⟩ := A
    cases sh with
    | nil => exact absurd (show (0 : Nat) = 220 from hs) (by decide)
    | cons x t => rfl
  rw [hs] at e
  exact e
def clM_857 : List EI := [e0 (.aload_n 0) 1, e0 (.iconst 3) 1, e0 (.newarray .char) 2, e0 .dup 1, e0 (.iconst 0) 1, e0 (.bipush 109) 2, e0 .castore 1, e0 .dup 1, e0 (.iconst 1) 1, e0 (.bipush 105) 2, e0 .castore 1, e0 .dup 1, e0 (.iconst 2) 1, e0 (.bipush 110) 2, e0 .castore 1, (.putfield 105, 3, 11, 39, 32, 221, 3, 1)]
theorem ckM_857 (S SN : SX) (jp : Nat → NX) (rest : List EI) (A : AH) (hs : sz A = 221) : blk false 3 S SN jp (clM_857 ++ rest) 857 [vR 21 190 0] [] A = blk false 3 S SN jp rest 879 [vR 21 190 0] [] (hap A [(0, 22, 3, 0), (1, 221, 0, 109), (1, 221, 1, 105), (1, 221, 2, 110), (2, 190, 39, 221)]) := by
  have e : blk false 3 S SN jp (clM_857 ++ rest) 857 [vR 21 190 0] [] A = blk false 3 S SN jp rest 879 [vR 21 190 0] [] (wr (wi (wi (wi (nw A 22 3) (sz A) 0 109) (sz A) 1 105) (sz A) 2 110) 190 39 (sz A)) := by
    obtain ⟨g, r, sh⟩ := A
    cases sh with
    | nil => exact absurd (show (0 : Nat) = 221 from hs) (by decide)
    | cons x t => rfl
  rw [hs] at e
  exact e
def oM_813 : List (Nat × Nat × Nat × Int) := [(0, 22, 3, 0), (1, 219, 0, 110), (1, 219, 1, 111), (1, 219, 2, 116), (2, 190, 37, 219), (0, 22, 3, 0), (1, 220, 0, 97), (1, 220, 1, 108), (1, 220, 2, 108), (2, 190, 38, 220), (0, 22, 3, 0), (1, 221, 0, 109), (1, 221, 1, 105), (1, 221, 2, 110), (2, 190, 39, 221)]
set_option maxRecDepth 100000 in
theorem mb_813 (S SN : SX) (jp : Nat → NX) (A : AH) (hs : sz A = 219) : blk false 3 S SN jp pb_X12_init_b813 813 [vR 21 190 0] [] A = jp 879 [vR 21 190 0] [] (hap A oM_813) := by
  have e : pb_X12_init_b813 = clM_813 ++ (clM_835 ++ (clM_857 ++ [])) := rfl
  rw [e]
  rw [ckM_813 S SN jp _ _ hs]
  rw [ckM_835 S SN jp _ _ (by simp only [sz_hap, hs]; rfl)]
  rw [ckM_857 S SN jp _ _ (by simp only [sz_hap, hs]; rfl)]
  rfl
def clM_879 : List EI := [e0 (.aload_n 0) 1, e0 (.iconst 3) 1, e0 (.newarray .char) 2, e0 .dup 1, e0 (.iconst 0) 1, e0 (.bipush 109) 2, e0 .castore 1, e0 .dup 1, e0 (.iconst 1) 1, e0 (.bipush 97) 2, e0 .castore 1, e0 .dup 1, e0 (.iconst 2) 1, e0 (.bipush 120) 2, e0 .castore 1, (.putfield 108, 3, 11, 40, 32, 222, 3, 1)]
theorem ckM_879 (S SN : SX) (jp : Nat → NX) (rest : List EI) (A : AH) (hs : sz A = 222) : blk false 3 S SN jp (clM_879 ++ rest) 879 [vR 21 190 0] [] A = blk false 3 S SN jp rest 901 [vR 21 190 0] [] (hap A [(0, 22, 3, 0), (1, 222, 0, 109), (1, 222, 1, 97), (1, 222, 2, 120), (2, 190, 40, 222)]) := by
  have e : blk false 3 S SN jp (clM_879 ++ rest) 879 [vR 21 190 0] [] A = blk false 3 S SN jp rest 901 [vR 21 190 0] [] (wr (wi (wi (wi (nw A 22 3) (sz A) 0 109) (sz A) 1 97) (sz A) 2 120) 190 40 (sz A)) := by
    obtain ⟨g, r, sh⟩ := A
    cases sh with
    | nil => exact absurd (show (0 : Nat) = 222 from hs) (by decide)
    | cons x t => rfl
  rw [hs] at e
  exact e
def clM_901 : List EI := [e0 (.aload_n 0) 1, e0 (.bipush 6) 2, e0 (.newarray .char) 2, e0 .dup 1, e0 (.iconst 0) 1, e0 (.bipush 98) 2, e0 .castore 1, e0 .dup 1, e0 (.iconst 1) 1, e0 (.bipush 101) 2, e0 .castore 1, e0 .dup 1, e0 (.iconst 2) 1, e0 (.bipush 115) 2, e0 .castore 1, e0 .dup 1, e0 (.iconst 3) 1, e0 (.bipush 105) 2, e0 .castore 1, e0 .dup 1, e0 (.iconst 4) 1, e0 (.bipush 100) 2, e0 .castore 1, e0 .dup 1, e0 (.iconst 5) 1, e0 (.bipush 101) 2, e0 .castore 1, (.putfield 111, 3, 11, 41, 32, 223, 6, 1)]
theorem ckM_901 (S SN : SX) (jp : Nat → NX) (rest : List EI) (A : AH) (hs : sz A = 223) : blk false 3 S SN jp (clM_901 ++ rest) 901 [vR 21 190 0] [] A = blk false 3 S SN jp rest 939 [vR 21 190 0] [] (hap A [(0, 22, 6, 0), (1, 223, 0, 98), (1, 223, 1, 101), (1, 223, 2, 115), (1, 223, 3, 105), (1, 223, 4, 100), (1, 223, 5, 101), (2, 190, 41, 223)]) := by
  have e : blk false 3 S SN jp (clM_901 ++ rest) 901 [vR 21 190 0] [] A = blk false 3 S SN jp rest 939 [vR 21 190 0] [] (wr (wi (wi (wi (wi (wi (wi (nw A 22 6) (sz A) 0 98) (sz A) 1 101) (sz A) 2 115) (sz A) 3 105) (sz A) 4 100) (sz A) 5 101) 190 41 (sz A)) := by
    obtain ⟨g, r, sh⟩ := A
    cases sh with
    | nil => exact absurd (show (0 : Nat) = 223 from hs) (by decide)
    | cons x t => rfl
  rw [hs] at e
  exact e
def oM_879 : List (Nat × Nat × Nat × Int) := [(0, 22, 3, 0), (1, 222, 0, 109), (1, 222, 1, 97), (1, 222, 2, 120), (2, 190, 40, 222), (0, 22, 6, 0), (1, 223, 0, 98), (1, 223, 1, 101), (1, 223, 2, 115), (1, 223, 3, 105), (1, 223, 4, 100), (1, 223, 5, 101), (2, 190, 41, 223)]
set_option maxRecDepth 100000 in
theorem mb_879 (S SN : SX) (jp : Nat → NX) (A : AH) (hs : sz A = 222) : blk false 3 S SN jp pb_X12_init_b879 879 [vR 21 190 0] [] A = jp 939 [vR 21 190 0] [] (hap A oM_879) := by
  have e : pb_X12_init_b879 = clM_879 ++ (clM_901 ++ []) := rfl
  rw [e]
  rw [ckM_879 S SN jp _ _ hs]
  rw [ckM_901 S SN jp _ _ (by simp only [sz_hap, hs]; rfl)]
  rfl
def clM_939 : List EI := [e0 (.aload_n 0) 1, e0 (.bipush 12) 2, e0 (.newarray .int) 2, (.putfield 114, 3, 11, 43, 30, 224, 12, 1)]
theorem ckM_939 (S SN : SX) (jp : Nat → NX) (rest : List EI) (A : AH) (hs : sz A = 224) : blk false 3 S SN jp (clM_939 ++ rest) 939 [vR 21 190 0] [] A = blk false 3 S SN jp rest 947 [vR 21 190 0] [] (hap A [(0, 20, 12, 0), (2, 190, 43, 224)]) := by
  have e : blk false 3 S SN jp (clM_939 ++ rest) 939 [vR 21 190 0] [] A = blk false 3 S SN jp rest 947 [vR 21 190 0] [] (wr (nw A 20 12) 190 43 (sz A)) := by
    obtain ⟨g, r, sh⟩ := A
    cases sh with
    | nil => exact absurd (show (0 : Nat) = 224 from hs) (by decide)
    | cons x t => rfl
  rw [hs] at e
  exact e
def clM_947 : List EI := [e0 (.aload_n 0) 1, e0 (.bipush 48) 2, e0 (.newarray .long) 2, (.putfield 117, 3, 11, 44, 31, 225, 48, 1)]
theorem ckM_947 (S SN : SX) (jp : Nat → NX) (rest : List EI) (A : AH) (hs : sz A = 225) : blk false 3 S SN jp (clM_947 ++ rest) 947 [vR 21 190 0] [] A = blk false 3 S SN jp rest 955 [vR 21 190 0] [] (hap A [(0, 21, 48, 0), (2, 190, 44, 225)]) := by
  have e : blk false 3 S SN jp (clM_947 ++ rest) 947 [vR 21 190 0] [] A = blk false 3 S SN jp rest 955 [vR 21 190 0] [] (wr (nw A 21 48) 190 44 (sz A)) := by
    obtain ⟨g, r, sh⟩ := A
    cases sh with
    | nil => exact absurd (show (0 : Nat) = 225 from hs) (by decide)
    | cons x t => rfl
  rw [hs] at e
  exact e
def clM_955 : List EI := [e0 (.aload_n 0) 1, e0 (.bipush 64) 2, e0 (.newarray .int) 2, (.putfield 121, 3, 11, 45, 30, 226, 64, 1)]
theorem ckM_955 (S SN : SX) (jp : Nat → NX) (rest : List EI) (A : AH) (hs : sz A = 226) : blk false 3 S SN jp (clM_955 ++ rest) 955 [vR 21 190 0] [] A = blk false 3 S SN jp rest 963 [vR 21 190 0] [] (hap A [(0, 20, 64, 0), (2, 190, 45, 226)]) := by
  have e : blk false 3 S SN jp (clM_955 ++ rest) 955 [vR 21 190 0] [] A = blk false 3 S SN jp rest 963 [vR 21 190 0] [] (wr (nw A 20 64) 190 45 (sz A)) := by
    obtain ⟨g, r, sh⟩ := A
    cases sh with
    | nil => exact absurd (show (0 : Nat) = 226 from hs) (by decide)
    | cons x t => rfl
  rw [hs] at e
  exact e
def clM_963 : List EI := [e0 (.aload_n 0) 1, e0 (.bipush 24) 2, e0 (.newarray .int) 2, (.putfield 124, 3, 11, 46, 30, 227, 24, 1)]
theorem ckM_963 (S SN : SX) (jp : Nat → NX) (rest : List EI) (A : AH) (hs : sz A = 227) : blk false 3 S SN jp (clM_963 ++ rest) 963 [vR 21 190 0] [] A = blk false 3 S SN jp rest 971 [vR 21 190 0] [] (hap A [(0, 20, 24, 0), (2, 190, 46, 227)]) := by
  have e : blk false 3 S SN jp (clM_963 ++ rest) 963 [vR 21 190 0] [] A = blk false 3 S SN jp rest 971 [vR 21 190 0] [] (wr (nw A 20 24) 190 46 (sz A)) := by
    obtain ⟨g, r, sh⟩ := A
    cases sh with
    | nil => exact absurd (show (0 : Nat) = 227 from hs) (by decide)
    | cons x t => rfl
  rw [hs] at e
  exact e
def clM_971 : List EI := [e0 (.aload_n 0) 1, e0 (.bipush 16) 2, e0 (.newarray .int) 2, (.putfield 127, 3, 11, 47, 30, 228, 16, 1)]
theorem ckM_971 (S SN : SX) (jp : Nat → NX) (rest : List EI) (A : AH) (hs : sz A = 228) : blk false 3 S SN jp (clM_971 ++ rest) 971 [vR 21 190 0] [] A = blk false 3 S SN jp rest 979 [vR 21 190 0] [] (hap A [(0, 20, 16, 0), (2, 190, 47, 228)]) := by
  have e : blk false 3 S SN jp (clM_971 ++ rest) 971 [vR 21 190 0] [] A = blk false 3 S SN jp rest 979 [vR 21 190 0] [] (wr (nw A 20 16) 190 47 (sz A)) := by
    obtain ⟨g, r, sh⟩ := A
    cases sh with
    | nil => exact absurd (show (0 : Nat) = 228 from hs) (by decide)
    | cons x t => rfl
  rw [hs] at e
  exact e
def clM_979 : List EI := [e0 (.aload_n 0) 1, e0 (.bipush 36) 2, e0 (.newarray .int) 2, (.putfield 130, 3, 11, 48, 30, 229, 36, 1)]
theorem ckM_979 (S SN : SX) (jp : Nat → NX) (rest : List EI) (A : AH) (hs : sz A = 229) : blk false 3 S SN jp (clM_979 ++ rest) 979 [vR 21 190 0] [] A = blk false 3 S SN jp rest 987 [vR 21 190 0] [] (hap A [(0, 20, 36, 0), (2, 190, 48, 229)]) := by
  have e : blk false 3 S SN jp (clM_979 ++ rest) 979 [vR 21 190 0] [] A = blk false 3 S SN jp rest 987 [vR 21 190 0] [] (wr (nw A 20 36) 190 48 (sz A)) := by
    obtain ⟨g, r, sh⟩ := A
    cases sh with
    | nil => exact absurd (show (0 : Nat) = 229 from hs) (by decide)
    | cons x t => rfl
  rw [hs] at e
  exact e
def clM_987 : List EI := [e0 (.aload_n 0) 1, e0 (.bipush 32) 2, e0 (.newarray .int) 2, (.putfield 133, 3, 11, 49, 30, 230, 32, 1)]
theorem ckM_987 (S SN : SX) (jp : Nat → NX) (rest : List EI) (A : AH) (hs : sz A = 230) : blk false 3 S SN jp (clM_987 ++ rest) 987 [vR 21 190 0] [] A = blk false 3 S SN jp rest 995 [vR 21 190 0] [] (hap A [(0, 20, 32, 0), (2, 190, 49, 230)]) := by
  have e : blk false 3 S SN jp (clM_987 ++ rest) 987 [vR 21 190 0] [] A = blk false 3 S SN jp rest 995 [vR 21 190 0] [] (wr (nw A 20 32) 190 49 (sz A)) := by
    obtain ⟨g, r, sh⟩ := A
    cases sh with
    | nil => exact absurd (show (0 : Nat) = 230 from hs) (by decide)
    | cons x t => rfl
  rw [hs] at e
  exact e
def clM_995 : List EI := [e0 (.aload_n 0) 1, e0 (.iconst 4) 1, e0 (.newarray .int) 2, e0 .dup 1, e0 (.iconst 0) 1, e0 (.iconst (-1)) 1, e0 .iastore 1, e0 .dup 1, e0 (.iconst 1) 1, e0 (.iconst (-1)) 1, e0 .iastore 1, e0 .dup 1, e0 (.iconst 2) 1, e0 (.iconst (-1)) 1, e0 .iastore 1, e0 .dup 1, e0 (.iconst 3) 1, e0 (.iconst (-1)) 1, e0 .iastore 1, (.putfield 136, 3, 11, 50, 30, 231, 4, 1)]
theorem ckM_995 (S SN : SX) (jp : Nat → NX) (rest : List EI) (A : AH) (hs : sz A = 231) : blk false 3 S SN jp (clM_995 ++ rest) 995 [vR 21 190 0] [] A = blk false 3 S SN jp rest 1018 [vR 21 190 0] [] (hap A [(0, 20, 4, 0), (1, 231, 0, (-1)), (1, 231, 1, (-1)), (1, 231, 2, (-1)), (1, 231, 3, (-1)), (2, 190, 50, 231)]) := by
  have e : blk false 3 S SN jp (clM_995 ++ rest) 995 [vR 21 190 0] [] A = blk false 3 S SN jp rest 1018 [vR 21 190 0] [] (wr (wi (wi (wi (wi (nw A 20 4) (sz A) 0 (-1)) (sz A) 1 (-1)) (sz A) 2 (-1)) (sz A) 3 (-1)) 190 50 (sz A)) := by
    obtain ⟨g, r, sh⟩ := A
    cases sh with
    | nil => exact absurd (show (0 : Nat) = 231 from hs) (by decide)
    | cons x t => rfl
  rw [hs] at e
  exact e
def oM_939 : List (Nat × Nat × Nat × Int) := [(0, 20, 12, 0), (2, 190, 43, 224), (0, 21, 48, 0), (2, 190, 44, 225), (0, 20, 64, 0), (2, 190, 45, 226), (0, 20, 24, 0), (2, 190, 46, 227), (0, 20, 16, 0), (2, 190, 47, 228), (0, 20, 36, 0), (2, 190, 48, 229), (0, 20, 32, 0), (2, 190, 49, 230), (0, 20, 4, 0), (1, 231, 0, (-1)), (1, 231, 1, (-1)), (1, 231, 2, (-1)), (1, 231, 3, (-1)), (2, 190, 50, 231)]
set_option maxRecDepth 100000 in
theorem mb_939 (S SN : SX) (jp : Nat → NX) (A : AH) (hs : sz A = 224) : blk false 3 S SN jp pb_X12_init_b939 939 [vR 21 190 0] [] A = jp 1018 [vR 21 190 0] [] (hap A oM_939) := by
  have e : pb_X12_init_b939 = clM_939 ++ (clM_947 ++ (clM_955 ++ (clM_963 ++ (clM_971 ++ (clM_979 ++ (clM_987 ++ (clM_995 ++ []))))))) := rfl
  rw [e]
  rw [ckM_939 S SN jp _ _ hs]
  rw [ckM_947 S SN jp _ _ (by simp only [sz_hap, hs]; rfl)]
  rw [ckM_955 S SN jp _ _ (by simp only [sz_hap, hs]; rfl)]
  rw [ckM_963 S SN jp _ _ (by simp only [sz_hap, hs]; rfl)]
  rw [ckM_971 S SN jp _ _ (by simp only [sz_hap, hs]; rfl)]
  rw [ckM_979 S SN jp _ _ (by simp only [sz_hap, hs]; rfl)]
  rw [ckM_987 S SN jp _ _ (by simp only [sz_hap, hs]; rfl)]
  rw [ckM_995 S SN jp _ _ (by simp only [sz_hap, hs]; rfl)]
  rfl
def clM_1018 : List EI := [e0 (.aload_n 0) 1, e0 (.iconst 4) 1, e0 (.newarray .int) 2, (.putfield 139, 3, 11, 51, 30, 232, 4, 1)]
theorem ckM_1018 (S SN : SX) (jp : Nat → NX) (rest : List EI) (A : AH) (hs : sz A = 232) : blk false 3 S SN jp (clM_1018 ++ rest) 1018 [vR 21 190 0] [] A = blk false 3 S SN jp rest 1025 [vR 21 190 0] [] (hap A [(0, 20, 4, 0), (2, 190, 51, 232)]) := by
  have e : blk false 3 S SN jp (clM_1018 ++ rest) 1018 [vR 21 190 0] [] A = blk false 3 S SN jp rest 1025 [vR 21 190 0] [] (wr (nw A 20 4) 190 51 (sz A)) := by
    obtain ⟨g, r, sh⟩ := A
    cases sh with
    | nil => exact absurd (show (0 : Nat) = 232 from hs) (by decide)
    | cons x t => rfl
  rw [hs] at e
  exact e
def clM_1025 : List EI := [e0 (.aload_n 0) 1, e0 (.sipush 3200) 3, e0 (.newarray .int) 2, (.putfield 142, 3, 11, 54, 30, 233, 3200, 1)]
theorem ckM_1025 (S SN : SX) (jp : Nat → NX) (rest : List EI) (A : AH) (hs : sz A = 233) : blk false 3 S SN jp (clM_1025 ++ rest) 1025 [vR 21 190 0] [] A = blk false 3 S SN jp rest 1034 [vR 21 190 0] [] (hap A [(0, 20, 3200, 0), (2, 190, 54, 233)]) := by
  have e : blk false 3 S SN jp (clM_1025 ++ rest) 1025 [vR 21 190 0] [] A = blk false 3 S SN jp rest 1034 [vR 21 190 0] [] (wr (nw A 20 3200) 190 54 (sz A)) := by
    obtain ⟨g, r, sh⟩ := A
    cases sh with
    | nil => exact absurd (show (0 : Nat) = 233 from hs) (by decide)
    | cons x t => rfl
  rw [hs] at e
  exact e
def clM_1034 : List EI := [e0 (.aload_n 0) 1, e0 (.sipush 1700) 3, e0 (.newarray .int) 2, (.putfield 145, 3, 11, 56, 30, 234, 1700, 1)]
theorem ckM_1034 (S SN : SX) (jp : Nat → NX) (rest : List EI) (A : AH) (hs : sz A = 234) : blk false 3 S SN jp (clM_1034 ++ rest) 1034 [vR 21 190 0] [] A = blk false 3 S SN jp rest 1043 [vR 21 190 0] [] (hap A [(0, 20, 1700, 0), (2, 190, 56, 234)]) := by
  have e : blk false 3 S SN jp (clM_1034 ++ rest) 1034 [vR 21 190 0] [] A = blk false 3 S SN jp rest 1043 [vR 21 190 0] [] (wr (nw A 20 1700) 190 56 (sz A)) := by
    obtain ⟨g, r, sh⟩ := A
    cases sh with
    | nil => exact absurd (show (0 : Nat) = 234 from hs) (by decide)
    | cons x t => rfl
  rw [hs] at e
  exact e
def clM_1043 : List EI := [e0 (.aload_n 0) 1, e0 (.sipush 1700) 3, e0 (.newarray .long) 2, (.putfield 148, 3, 11, 60, 31, 235, 1700, 1)]
theorem ckM_1043 (S SN : SX) (jp : Nat → NX) (rest : List EI) (A : AH) (hs : sz A = 235) : blk false 3 S SN jp (clM_1043 ++ rest) 1043 [vR 21 190 0] [] A = blk false 3 S SN jp rest 1052 [vR 21 190 0] [] (hap A [(0, 21, 1700, 0), (2, 190, 60, 235)]) := by
  have e : blk false 3 S SN jp (clM_1043 ++ rest) 1043 [vR 21 190 0] [] A = blk false 3 S SN jp rest 1052 [vR 21 190 0] [] (wr (nw A 21 1700) 190 60 (sz A)) := by
    obtain ⟨g, r, sh⟩ := A
    cases sh with
    | nil => exact absurd (show (0 : Nat) = 235 from hs) (by decide)
    | cons x t => rfl
  rw [hs] at e
  exact e
def clM_1052 : List EI := [e0 (.aload_n 0) 1, e0 (.bipush 8) 2, e0 (.newarray .int) 2, (.putfield 151, 3, 11, 62, 30, 236, 8, 1)]
theorem ckM_1052 (S SN : SX) (jp : Nat → NX) (rest : List EI) (A : AH) (hs : sz A = 236) : blk false 3 S SN jp (clM_1052 ++ rest) 1052 [vR 21 190 0] [] A = blk false 3 S SN jp rest 1060 [vR 21 190 0] [] (hap A [(0, 20, 8, 0), (2, 190, 62, 236)]) := by
  have e : blk false 3 S SN jp (clM_1052 ++ rest) 1052 [vR 21 190 0] [] A = blk false 3 S SN jp rest 1060 [vR 21 190 0] [] (wr (nw A 20 8) 190 62 (sz A)) := by
    obtain ⟨g, r, sh⟩ := A
    cases sh with
    | nil => exact absurd (show (0 : Nat) = 236 from hs) (by decide)
    | cons x t => rfl
  rw [hs] at e
  exact e
def clM_1060 : List EI := [e0 (.aload_n 0) 1, e0 (.sipush 146) 3, e0 (.newarray .int) 2, e0 .dup 1, e0 (.iconst 0) 1, e0 (.iconst 0) 1, e0 .iastore 1, e0 .dup 1, e0 (.iconst 1) 1, e0 (.iconst 0) 1, e0 .iastore 1, e0 .dup 1, e0 (.iconst 2) 1, e0 (.iconst (-1)) 1, e0 .iastore 1, e0 .dup 1, e0 (.iconst 3) 1, e0 (.iconst 0) 1, e0 .iastore 1, e0 .dup 1, e0 (.iconst 4) 1, e0 (.iconst 0) 1, e0 .iastore 1, e0 .dup 1, e0 (.iconst 5) 1, e0 (.iconst 0) 1, e0 .iastore 1, e0 .dup 1, e0 (.bipush 6) 2, e0 (.iconst 0) 1, e0 .iastore 1, e0 .dup 1, e0 (.bipush 7) 2, e0 (.iconst 0) 1, e0 .iastore 1]
theorem ckM_1060 (S SN : SX) (jp : Nat → NX) (rest : List EI) (A : AH) (hs : sz A = 237) : blk false 3 S SN jp (clM_1060 ++ rest) 1060 [vR 21 190 0] [] A = blk false 3 S SN jp rest 1100 [vR 21 190 0] [vR 30 237 146, vR 21 190 0] (hap A [(0, 20, 146, 0), (1, 237, 0, 0), (1, 237, 1, 0), (1, 237, 2, (-1)), (1, 237, 3, 0), (1, 237, 4, 0), (1, 237, 5, 0), (1, 237, 6, 0), (1, 237, 7, 0)]) := by
  have e : blk false 3 S SN jp (clM_1060 ++ rest) 1060 [vR 21 190 0] [] A = blk false 3 S SN jp rest 1100 [vR 21 190 0] [vR 30 (sz A) 146, vR 21 190 0] (wi (wi (wi (wi (wi (wi (wi (wi (nw A 20 146) (sz A) 0 0) (sz A) 1 0) (sz A) 2 (-1)) (sz A) 3 0) (sz A) 4 0) (sz A) 5 0) (sz A) 6 0) (sz A) 7 0) := by
    obtain ⟨g, r, sh⟩ := A
    cases sh with
    | nil => exact absurd (show (0 : Nat) = 237 from hs) (by decide)
    | cons x t => rfl
  rw [hs] at e
  exact e
def clM_1100 : List EI := [e0 .dup 1, e0 (.bipush 8) 2, e0 (.iconst 0) 1, e0 .iastore 1, e0 .dup 1, e0 (.bipush 9) 2, e0 (.iconst 0) 1, e0 .iastore 1, e0 .dup 1, e0 (.bipush 10) 2, e0 (.iconst 0) 1, e0 .iastore 1, e0 .dup 1, e0 (.bipush 11) 2, e0 (.iconst 0) 1, e0 .iastore 1, e0 .dup 1, e0 (.bipush 12) 2, e0 (.iconst 0) 1, e0 .iastore 1, e0 .dup 1, e0 (.bipush 13) 2, e0 (.iconst (-1)) 1, e0 .iastore 1, e0 .dup 1, e0 (.bipush 14) 2, e0 (.iconst (-1)) 1, e0 .iastore 1, e0 .dup 1, e0 (.bipush 15) 2, e0 (.iconst (-1)) 1, e0 .iastore 1, e0 .dup 1, e0 (.bipush 16) 2, e0 (.iconst (-1)) 1, e0 .iastore 1, e0 .dup 1, e0 (.bipush 17) 2, e0 (.iconst (-1)) 1, e0 .iastore 1, e0 .dup 1, e0 (.bipush 18) 2, e0 (.iconst (-1)) 1, e0 .iastore 1, e0 .dup 1, e0 (.bipush 19) 2, e0 (.iconst 0) 1, e0 .iastore 1]
theorem ckM_1100 (S SN : SX) (jp : Nat → NX) (rest : List EI) (A : AH) (hs : sz A = 238) : blk false 3 S SN jp (clM_1100 ++ rest) 1100 [vR 21 190 0] [vR 30 237 146, vR 21 190 0] A = blk false 3 S SN jp rest 1160 [vR 21 190 0] [vR 30 237 146, vR 21 190 0] (hap A [(1, 237, 8, 0), (1, 237, 9, 0), (1, 237, 10, 0), (1, 237, 11, 0), (1, 237, 12, 0), (1, 237, 13, (-1)), (1, 237, 14, (-1)), (1, 237, 15, (-1)), (1, 237, 16, (-1)), (1, 237, 17, (-1)), (1, 237, 18, (-1)), (1, 237, 19, 0)]) := rfl
def clM_1160 : List EI := [e0 .dup 1, e0 (.bipush 20) 2, e0 (.iconst 0) 1, e0 .iastore 1, e0 .dup 1, e0 (.bipush 21) 2, e0 (.iconst 0) 1, e0 .iastore 1, e0 .dup 1, e0 (.bipush 22) 2, e0 (.iconst 0) 1, e0 .iastore 1, e0 .dup 1, e0 (.bipush 23) 2, e0 (.iconst 0) 1, e0 .iastore 1, e0 .dup 1, e0 (.bipush 24) 2, e0 (.iconst 0) 1, e0 .iastore 1, e0 .dup 1, e0 (.bipush 25) 2, e0 (.iconst 0) 1, e0 .iastore 1, e0 .dup 1, e0 (.bipush 26) 2, e0 (.iconst 0) 1, e0 .iastore 1, e0 .dup 1, e0 (.bipush 27) 2, e0 (.iconst 0) 1, e0 .iastore 1, e0 .dup 1, e0 (.bipush 28) 2, e0 (.iconst 0) 1, e0 .iastore 1, e0 .dup 1, e0 (.bipush 29) 2, e0 (.iconst 0) 1, e0 .iastore 1, e0 .dup 1, e0 (.bipush 30) 2, e0 (.iconst 0) 1, e0 .iastore 1, e0 .dup 1, e0 (.bipush 31) 2, e0 (.iconst 0) 1, e0 .iastore 1]
theorem ckM_1160 (S SN : SX) (jp : Nat → NX) (rest : List EI) (A : AH) (hs : sz A = 238) : blk false 3 S SN jp (clM_1160 ++ rest) 1160 [vR 21 190 0] [vR 30 237 146, vR 21 190 0] A = blk false 3 S SN jp rest 1220 [vR 21 190 0] [vR 30 237 146, vR 21 190 0] (hap A [(1, 237, 20, 0), (1, 237, 21, 0), (1, 237, 22, 0), (1, 237, 23, 0), (1, 237, 24, 0), (1, 237, 25, 0), (1, 237, 26, 0), (1, 237, 27, 0), (1, 237, 28, 0), (1, 237, 29, 0), (1, 237, 30, 0), (1, 237, 31, 0)]) := rfl
def clM_1220 : List EI := [e0 .dup 1, e0 (.bipush 32) 2, e0 (.iconst 0) 1, e0 .iastore 1, e0 .dup 1, e0 (.bipush 33) 2, e0 (.iconst 0) 1, e0 .iastore 1, e0 .dup 1, e0 (.bipush 34) 2, e0 (.iconst 0) 1, e0 .iastore 1, e0 .dup 1, e0 (.bipush 35) 2, e0 (.iconst 0) 1, e0 .iastore 1, e0 .dup 1, e0 (.bipush 36) 2, e0 (.iconst 0) 1, e0 .iastore 1, e0 .dup 1, e0 (.bipush 37) 2, e0 (.iconst 0) 1, e0 .iastore 1, e0 .dup 1, e0 (.bipush 38) 2, e0 (.iconst 0) 1, e0 .iastore 1, e0 .dup 1, e0 (.bipush 39) 2, e0 (.iconst 0) 1, e0 .iastore 1, e0 .dup 1, e0 (.bipush 40) 2, e0 (.iconst 0) 1, e0 .iastore 1, e0 .dup 1, e0 (.bipush 41) 2, e0 (.iconst 0) 1, e0 .iastore 1, e0 .dup 1, e0 (.bipush 42) 2, e0 (.iconst 0) 1, e0 .iastore 1, e0 .dup 1, e0 (.bipush 43) 2, e0 (.iconst 0) 1, e0 .iastore 1]
theorem ckM_1220 (S SN : SX) (jp : Nat → NX) (rest : List EI) (A : AH) (hs : sz A = 238) : blk false 3 S SN jp (clM_1220 ++ rest) 1220 [vR 21 190 0] [vR 30 237 146, vR 21 190 0] A = blk false 3 S SN jp rest 1280 [vR 21 190 0] [vR 30 237 146, vR 21 190 0] (hap A [(1, 237, 32, 0), (1, 237, 33, 0), (1, 237, 34, 0), (1, 237, 35, 0), (1, 237, 36, 0), (1, 237, 37, 0), (1, 237, 38, 0), (1, 237, 39, 0), (1, 237, 40, 0), (1, 237, 41, 0), (1, 237, 42, 0), (1, 237, 43, 0)]) := rfl
def clM_1280 : List EI := [e0 .dup 1, e0 (.bipush 44) 2, e0 (.iconst 0) 1, e0 .iastore 1, e0 .dup 1, e0 (.bipush 45) 2, e0 (.iconst 0) 1, e0 .iastore 1, e0 .dup 1, e0 (.bipush 46) 2, e0 (.iconst 0) 1, e0 .iastore 1, e0 .dup 1, e0 (.bipush 47) 2, e0 (.iconst 0) 1, e0 .iastore 1, e0 .dup 1, e0 (.bipush 48) 2, e0 (.iconst 0) 1, e0 .iastore 1, e0 .dup 1, e0 (.bipush 49) 2, e0 (.iconst 0) 1, e0 .iastore 1, e0 .dup 1, e0 (.bipush 50) 2, e0 (.iconst 0) 1, e0 .iastore 1, e0 .dup 1, e0 (.bipush 51) 2, e0 (.iconst 0) 1, e0 .iastore 1, e0 .dup 1, e0 (.bipush 52) 2, e0 (.iconst 0) 1, e0 .iastore 1, e0 .dup 1, e0 (.bipush 53) 2, e0 (.iconst 0) 1, e0 .iastore 1, e0 .dup 1, e0 (.bipush 54) 2, e0 (.iconst 0) 1, e0 .iastore 1, e0 .dup 1, e0 (.bipush 55) 2, e0 (.iconst 0) 1, e0 .iastore 1]
theorem ckM_1280 (S SN : SX) (jp : Nat → NX) (rest : List EI) (A : AH) (hs : sz A = 238) : blk false 3 S SN jp (clM_1280 ++ rest) 1280 [vR 21 190 0] [vR 30 237 146, vR 21 190 0] A = blk false 3 S SN jp rest 1340 [vR 21 190 0] [vR 30 237 146, vR 21 190 0] (hap A [(1, 237, 44, 0), (1, 237, 45, 0), (1, 237, 46, 0), (1, 237, 47, 0), (1, 237, 48, 0), (1, 237, 49, 0), (1, 237, 50, 0), (1, 237, 51, 0), (1, 237, 52, 0), (1, 237, 53, 0), (1, 237, 54, 0), (1, 237, 55, 0)]) := rfl
def clM_1340 : List EI := [e0 .dup 1, e0 (.bipush 56) 2, e0 (.iconst 0) 1, e0 .iastore 1, e0 .dup 1, e0 (.bipush 57) 2, e0 (.iconst 0) 1, e0 .iastore 1, e0 .dup 1, e0 (.bipush 58) 2, e0 (.iconst 0) 1, e0 .iastore 1, e0 .dup 1, e0 (.bipush 59) 2, e0 (.iconst 0) 1, e0 .iastore 1, e0 .dup 1, e0 (.bipush 60) 2, e0 (.iconst 0) 1, e0 .iastore 1, e0 .dup 1, e0 (.bipush 61) 2, e0 (.iconst 0) 1, e0 .iastore 1, e0 .dup 1, e0 (.bipush 62) 2, e0 (.iconst 0) 1, e0 .iastore 1, e0 .dup 1, e0 (.bipush 63) 2, e0 (.iconst 0) 1, e0 .iastore 1, e0 .dup 1, e0 (.bipush 64) 2, e0 (.iconst 0) 1, e0 .iastore 1, e0 .dup 1, e0 (.bipush 65) 2, e0 (.iconst 0) 1, e0 .iastore 1, e0 .dup 1, e0 (.bipush 66) 2, e0 (.iconst 0) 1, e0 .iastore 1, e0 .dup 1, e0 (.bipush 67) 2, e0 (.iconst 0) 1, e0 .iastore 1]
theorem ckM_1340 (S SN : SX) (jp : Nat → NX) (rest : List EI) (A : AH) (hs : sz A = 238) : blk false 3 S SN jp (clM_1340 ++ rest) 1340 [vR 21 190 0] [vR 30 237 146, vR 21 190 0] A = blk false 3 S SN jp rest 1400 [vR 21 190 0] [vR 30 237 146, vR 21 190 0] (hap A [(1, 237, 56, 0), (1, 237, 57, 0), (1, 237, 58, 0), (1, 237, 59, 0), (1, 237, 60, 0), (1, 237, 61, 0), (1, 237, 62, 0), (1, 237, 63, 0), (1, 237, 64, 0), (1, 237, 65, 0), (1, 237, 66, 0), (1, 237, 67, 0)]) := rfl
def clM_1400 : List EI := [e0 .dup 1, e0 (.bipush 68) 2, e0 (.iconst 0) 1, e0 .iastore 1, e0 .dup 1, e0 (.bipush 69) 2, e0 (.iconst 0) 1, e0 .iastore 1, e0 .dup 1, e0 (.bipush 70) 2, e0 (.iconst 0) 1, e0 .iastore 1, e0 .dup 1, e0 (.bipush 71) 2, e0 (.iconst 0) 1, e0 .iastore 1, e0 .dup 1, e0 (.bipush 72) 2, e0 (.iconst 0) 1, e0 .iastore 1, e0 .dup 1, e0 (.bipush 73) 2, e0 (.iconst 0) 1, e0 .iastore 1, e0 .dup 1, e0 (.bipush 74) 2, e0 (.iconst 0) 1, e0 .iastore 1, e0 .dup 1, e0 (.bipush 75) 2, e0 (.iconst 0) 1, e0 .iastore 1, e0 .dup 1, e0 (.bipush 76) 2, e0 (.iconst 0) 1, e0 .iastore 1, e0 .dup 1, e0 (.bipush 77) 2, e0 (.iconst 0) 1, e0 .iastore 1, e0 .dup 1, e0 (.bipush 78) 2, e0 (.iconst 0) 1, e0 .iastore 1, e0 .dup 1, e0 (.bipush 79) 2, e0 (.iconst 0) 1, e0 .iastore 1]
theorem ckM_1400 (S SN : SX) (jp : Nat → NX) (rest : List EI) (A : AH) (hs : sz A = 238) : blk false 3 S SN jp (clM_1400 ++ rest) 1400 [vR 21 190 0] [vR 30 237 146, vR 21 190 0] A = blk false 3 S SN jp rest 1460 [vR 21 190 0] [vR 30 237 146, vR 21 190 0] (hap A [(1, 237, 68, 0), (1, 237, 69, 0), (1, 237, 70, 0), (1, 237, 71, 0), (1, 237, 72, 0), (1, 237, 73, 0), (1, 237, 74, 0), (1, 237, 75, 0), (1, 237, 76, 0), (1, 237, 77, 0), (1, 237, 78, 0), (1, 237, 79, 0)]) := rfl
def clM_1460 : List EI := [e0 .dup 1, e0 (.bipush 80) 2, e0 (.iconst 0) 1, e0 .iastore 1, e0 .dup 1, e0 (.bipush 81) 2, e0 (.iconst 0) 1, e0 .iastore 1, e0 .dup 1, e0 (.bipush 82) 2, e0 (.iconst 0) 1, e0 .iastore 1, e0 .dup 1, e0 (.bipush 83) 2, e0 (.iconst 0) 1, e0 .iastore 1, e0 .dup 1, e0 (.bipush 84) 2, e0 (.iconst 0) 1, e0 .iastore 1, e0 .dup 1, e0 (.bipush 85) 2, e0 (.iconst 0) 1, e0 .iastore 1, e0 .dup 1, e0 (.bipush 86) 2, e0 (.iconst 0) 1, e0 .iastore 1, e0 .dup 1, e0 (.bipush 87) 2, e0 (.iconst 0) 1, e0 .iastore 1, e0 .dup 1, e0 (.bipush 88) 2, e0 (.iconst 0) 1, e0 .iastore 1, e0 .dup 1, e0 (.bipush 89) 2, e0 (.iconst 0) 1, e0 .iastore 1, e0 .dup 1, e0 (.bipush 90) 2, e0 (.iconst 0) 1, e0 .iastore 1, e0 .dup 1, e0 (.bipush 91) 2, e0 (.iconst 0) 1, e0 .iastore 1]
theorem ckM_1460 (S SN : SX) (jp : Nat → NX) (rest : List EI) (A : AH) (hs : sz A = 238) : blk false 3 S SN jp (clM_1460 ++ rest) 1460 [vR 21 190 0] [vR 30 237 146, vR 21 190 0] A = blk false 3 S SN jp rest 1520 [vR 21 190 0] [vR 30 237 146, vR 21 190 0] (hap A [(1, 237, 80, 0), (1, 237, 81, 0), (1, 237, 82, 0), (1, 237, 83, 0), (1, 237, 84, 0), (1, 237, 85, 0), (1, 237, 86, 0), (1, 237, 87, 0), (1, 237, 88, 0), (1, 237, 89, 0), (1, 237, 90, 0), (1, 237, 91, 0)]) := rfl
def clM_1520 : List EI := [e0 .dup 1, e0 (.bipush 92) 2, e0 (.iconst 0) 1, e0 .iastore 1, e0 .dup 1, e0 (.bipush 93) 2, e0 (.iconst 0) 1, e0 .iastore 1, e0 .dup 1, e0 (.bipush 94) 2, e0 (.iconst 0) 1, e0 .iastore 1, e0 .dup 1, e0 (.bipush 95) 2, e0 (.iconst 0) 1, e0 .iastore 1, e0 .dup 1, e0 (.bipush 96) 2, e0 (.iconst 0) 1, e0 .iastore 1, e0 .dup 1, e0 (.bipush 97) 2, e0 (.iconst 0) 1, e0 .iastore 1, e0 .dup 1, e0 (.bipush 98) 2, e0 (.iconst 0) 1, e0 .iastore 1, e0 .dup 1, e0 (.bipush 99) 2, e0 (.iconst 0) 1, e0 .iastore 1, e0 .dup 1, e0 (.bipush 100) 2, e0 (.iconst 0) 1, e0 .iastore 1, e0 .dup 1, e0 (.bipush 101) 2, e0 (.iconst 0) 1, e0 .iastore 1, e0 .dup 1, e0 (.bipush 102) 2, e0 (.iconst 0) 1, e0 .iastore 1, e0 .dup 1, e0 (.bipush 103) 2, e0 (.iconst 0) 1, e0 .iastore 1]
theorem ckM_1520 (S SN : SX) (jp : Nat → NX) (rest : List EI) (A : AH) (hs : sz A = 238) : blk false 3 S SN jp (clM_1520 ++ rest) 1520 [vR 21 190 0] [vR 30 237 146, vR 21 190 0] A = blk false 3 S SN jp rest 1580 [vR 21 190 0] [vR 30 237 146, vR 21 190 0] (hap A [(1, 237, 92, 0), (1, 237, 93, 0), (1, 237, 94, 0), (1, 237, 95, 0), (1, 237, 96, 0), (1, 237, 97, 0), (1, 237, 98, 0), (1, 237, 99, 0), (1, 237, 100, 0), (1, 237, 101, 0), (1, 237, 102, 0), (1, 237, 103, 0)]) := rfl
def clM_1580 : List EI := [e0 .dup 1, e0 (.bipush 104) 2, e0 (.iconst 0) 1, e0 .iastore 1, e0 .dup 1, e0 (.bipush 105) 2, e0 (.iconst 0) 1, e0 .iastore 1, e0 .dup 1, e0 (.bipush 106) 2, e0 (.iconst 0) 1, e0 .iastore 1, e0 .dup 1, e0 (.bipush 107) 2, e0 (.iconst 0) 1, e0 .iastore 1, e0 .dup 1, e0 (.bipush 108) 2, e0 (.iconst 0) 1, e0 .iastore 1, e0 .dup 1, e0 (.bipush 109) 2, e0 (.iconst 0) 1, e0 .iastore 1, e0 .dup 1, e0 (.bipush 110) 2, e0 (.iconst 0) 1, e0 .iastore 1, e0 .dup 1, e0 (.bipush 111) 2, e0 (.iconst 0) 1, e0 .iastore 1, e0 .dup 1, e0 (.bipush 112) 2, e0 (.iconst 0) 1, e0 .iastore 1, e0 .dup 1, e0 (.bipush 113) 2, e0 (.iconst 0) 1, e0 .iastore 1, e0 .dup 1, e0 (.bipush 114) 2, e0 (.iconst 0) 1, e0 .iastore 1, e0 .dup 1, e0 (.bipush 115) 2, e0 (.iconst 0) 1, e0 .iastore 1]
theorem ckM_1580 (S SN : SX) (jp : Nat → NX) (rest : List EI) (A : AH) (hs : sz A = 238) : blk false 3 S SN jp (clM_1580 ++ rest) 1580 [vR 21 190 0] [vR 30 237 146, vR 21 190 0] A = blk false 3 S SN jp rest 1640 [vR 21 190 0] [vR 30 237 146, vR 21 190 0] (hap A [(1, 237, 104, 0), (1, 237, 105, 0), (1, 237, 106, 0), (1, 237, 107, 0), (1, 237, 108, 0), (1, 237, 109, 0), (1, 237, 110, 0), (1, 237, 111, 0), (1, 237, 112, 0), (1, 237, 113, 0), (1, 237, 114, 0), (1, 237, 115, 0)]) := rfl
def clM_1640 : List EI := [e0 .dup 1, e0 (.bipush 116) 2, e0 (.iconst 0) 1, e0 .iastore 1, e0 .dup 1, e0 (.bipush 117) 2, e0 (.iconst 0) 1, e0 .iastore 1, e0 .dup 1, e0 (.bipush 118) 2, e0 (.iconst 0) 1, e0 .iastore 1, e0 .dup 1, e0 (.bipush 119) 2, e0 (.iconst 0) 1, e0 .iastore 1, e0 .dup 1, e0 (.bipush 120) 2, e0 (.iconst 0) 1, e0 .iastore 1, e0 .dup 1, e0 (.bipush 121) 2, e0 (.iconst 0) 1, e0 .iastore 1, e0 .dup 1, e0 (.bipush 122) 2, e0 (.iconst 0) 1, e0 .iastore 1, e0 .dup 1, e0 (.bipush 123) 2, e0 (.iconst 0) 1, e0 .iastore 1, e0 .dup 1, e0 (.bipush 124) 2, e0 (.iconst 0) 1, e0 .iastore 1, e0 .dup 1, e0 (.bipush 125) 2, e0 (.iconst 0) 1, e0 .iastore 1, e0 .dup 1, e0 (.bipush 126) 2, e0 (.iconst 0) 1, e0 .iastore 1, e0 .dup 1, e0 (.bipush 127) 2, e0 (.iconst 0) 1, e0 .iastore 1]
theorem ckM_1640 (S SN : SX) (jp : Nat → NX) (rest : List EI) (A : AH) (hs : sz A = 238) : blk false 3 S SN jp (clM_1640 ++ rest) 1640 [vR 21 190 0] [vR 30 237 146, vR 21 190 0] A = blk false 3 S SN jp rest 1700 [vR 21 190 0] [vR 30 237 146, vR 21 190 0] (hap A [(1, 237, 116, 0), (1, 237, 117, 0), (1, 237, 118, 0), (1, 237, 119, 0), (1, 237, 120, 0), (1, 237, 121, 0), (1, 237, 122, 0), (1, 237, 123, 0), (1, 237, 124, 0), (1, 237, 125, 0), (1, 237, 126, 0), (1, 237, 127, 0)]) := rfl
def clM_1700 : List EI := [e0 .dup 1, e0 (.sipush 128) 3, e0 (.iconst 0) 1, e0 .iastore 1, e0 .dup 1, e0 (.sipush 129) 3, e0 (.iconst 0) 1, e0 .iastore 1, e0 .dup 1, e0 (.sipush 130) 3, e0 (.iconst 0) 1, e0 .iastore 1, e0 .dup 1, e0 (.sipush 131) 3, e0 (.iconst 0) 1, e0 .iastore 1, e0 .dup 1, e0 (.sipush 132) 3, e0 (.iconst 0) 1, e0 .iastore 1, e0 .dup 1, e0 (.sipush 133) 3, e0 (.iconst 0) 1, e0 .iastore 1, e0 .dup 1, e0 (.sipush 134) 3, e0 (.iconst 0) 1, e0 .iastore 1, e0 .dup 1, e0 (.sipush 135) 3, e0 (.iconst 0) 1, e0 .iastore 1, e0 .dup 1, e0 (.sipush 136) 3, e0 (.iconst 0) 1, e0 .iastore 1, e0 .dup 1, e0 (.sipush 137) 3, e0 (.iconst 0) 1, e0 .iastore 1, e0 .dup 1, e0 (.sipush 138) 3, e0 (.iconst 0) 1, e0 .iastore 1, e0 .dup 1, e0 (.sipush 139) 3, e0 (.iconst 0) 1, e0 .iastore 1]
theorem ckM_1700 (S SN : SX) (jp : Nat → NX) (rest : List EI) (A : AH) (hs : sz A = 238) : blk false 3 S SN jp (clM_1700 ++ rest) 1700 [vR 21 190 0] [vR 30 237 146, vR 21 190 0] A = blk false 3 S SN jp rest 1772 [vR 21 190 0] [vR 30 237 146, vR 21 190 0] (hap A [(1, 237, 128, 0), (1, 237, 129, 0), (1, 237, 130, 0), (1, 237, 131, 0), (1, 237, 132, 0), (1, 237, 133, 0), (1, 237, 134, 0), (1, 237, 135, 0), (1, 237, 136, 0), (1, 237, 137, 0), (1, 237, 138, 0), (1, 237, 139, 0)]) := rfl
def clM_1772 : List EI := [e0 .dup 1, e0 (.sipush 140) 3, e0 (.iconst 0) 1, e0 .iastore 1, e0 .dup 1, e0 (.sipush 141) 3, e0 (.iconst 0) 1, e0 .iastore 1, e0 .dup 1, e0 (.sipush 142) 3, e0 (.iconst 0) 1, e0 .iastore 1, e0 .dup 1, e0 (.sipush 143) 3, e0 (.iconst 0) 1, e0 .iastore 1, e0 .dup 1, e0 (.sipush 144) 3, e0 (.iconst 0) 1, e0 .iastore 1, e0 .dup 1, e0 (.sipush 145) 3, e0 (.iconst 0) 1, e0 .iastore 1, (.putfield 154, 3, 11, 63, 30, 237, 146, 1)]
theorem ckM_1772 (S SN : SX) (jp : Nat → NX) (rest : List EI) (A : AH) (hs : sz A = 238) : blk false 3 S SN jp (clM_1772 ++ rest) 1772 [vR 21 190 0] [vR 30 237 146, vR 21 190 0] A = blk false 3 S SN jp rest 1811 [vR 21 190 0] [] (hap A [(1, 237, 140, 0), (1, 237, 141, 0), (1, 237, 142, 0), (1, 237, 143, 0), (1, 237, 144, 0), (1, 237, 145, 0), (2, 190, 63, 237)]) := rfl
def oM_1018 : List (Nat × Nat × Nat × Int) := [(0, 20, 4, 0), (2, 190, 51, 232), (0, 20, 3200, 0), (2, 190, 54, 233), (0, 20, 1700, 0), (2, 190, 56, 234), (0, 21, 1700, 0), (2, 190, 60, 235), (0, 20, 8, 0), (2, 190, 62, 236), (0, 20, 146, 0), (1, 237, 0, 0), (1, 237, 1, 0), (1, 237, 2, (-1)), (1, 237, 3, 0), (1, 237, 4, 0), (1, 237, 5, 0), (1, 237, 6, 0), (1, 237, 7, 0), (1, 237, 8, 0), (1, 237, 9, 0), (1, 237, 10, 0), (1, 237, 11, 0), (1, 237, 12, 0), (1, 237, 13, (-1)), (1, 237, 14, (-1)), (1, 237, 15, (-1)), (1, 237, 16, (-1)), (1, 237, 17, (-1)), (1, 237, 18, (-1)), (1, 237, 19, 0), (1, 237, 20, 0), (1, 237, 21, 0), (1, 237, 22, 0), (1, 237, 23, 0), (1, 237, 24, 0), (1, 237, 25, 0), (1, 237, 26, 0), (1, 237, 27, 0), (1, 237, 28, 0), (1, 237, 29, 0), (1, 237, 30, 0), (1, 237, 31, 0), (1, 237, 32, 0), (1, 237, 33, 0), (1, 237, 34, 0), (1, 237, 35, 0), (1, 237, 36, 0), (1, 237, 37, 0), (1, 237, 38, 0), (1, 237, 39, 0), (1, 237, 40, 0), (1, 237, 41, 0), (1, 237, 42, 0), (1, 237, 43, 0), (1, 237, 44, 0), (1, 237, 45, 0), (1, 237, 46, 0), (1, 237, 47, 0), (1, 237, 48, 0), (1, 237, 49, 0), (1, 237, 50, 0), (1, 237, 51, 0), (1, 237, 52, 0), (1, 237, 53, 0), (1, 237, 54, 0), (1, 237, 55, 0), (1, 237, 56, 0), (1, 237, 57, 0), (1, 237, 58, 0), (1, 237, 59, 0), (1, 237, 60, 0), (1, 237, 61, 0), (1, 237, 62, 0), (1, 237, 63, 0), (1, 237, 64, 0), (1, 237, 65, 0), (1, 237, 66, 0), (1, 237, 67, 0), (1, 237, 68, 0), (1, 237, 69, 0), (1, 237, 70, 0), (1, 237, 71, 0), (1, 237, 72, 0), (1, 237, 73, 0), (1, 237, 74, 0), (1, 237, 75, 0), (1, 237, 76, 0), (1, 237, 77, 0), (1, 237, 78, 0), (1, 237, 79, 0), (1, 237, 80, 0), (1, 237, 81, 0), (1, 237, 82, 0), (1, 237, 83, 0), (1, 237, 84, 0), (1, 237, 85, 0), (1, 237, 86, 0), (1, 237, 87, 0), (1, 237, 88, 0), (1, 237, 89, 0), (1, 237, 90, 0), (1, 237, 91, 0), (1, 237, 92, 0), (1, 237, 93, 0), (1, 237, 94, 0), (1, 237, 95, 0), (1, 237, 96, 0), (1, 237, 97, 0), (1, 237, 98, 0), (1, 237, 99, 0), (1, 237, 100, 0), (1, 237, 101, 0), (1, 237, 102, 0), (1, 237, 103, 0), (1, 237, 104, 0), (1, 237, 105, 0), (1, 237, 106, 0), (1, 237, 107, 0), (1, 237, 108, 0), (1, 237, 109, 0), (1, 237, 110, 0), (1, 237, 111, 0), (1, 237, 112, 0), (1, 237, 113, 0), (1, 237, 114, 0), (1, 237, 115, 0), (1, 237, 116, 0), (1, 237, 117, 0), (1, 237, 118, 0), (1, 237, 119, 0), (1, 237, 120, 0), (1, 237, 121, 0), (1, 237, 122, 0), (1, 237, 123, 0), (1, 237, 124, 0), (1, 237, 125, 0), (1, 237, 126, 0), (1, 237, 127, 0), (1, 237, 128, 0), (1, 237, 129, 0), (1, 237, 130, 0), (1, 237, 131, 0), (1, 237, 132, 0), (1, 237, 133, 0), (1, 237, 134, 0), (1, 237, 135, 0), (1, 237, 136, 0), (1, 237, 137, 0), (1, 237, 138, 0), (1, 237, 139, 0), (1, 237, 140, 0), (1, 237, 141, 0), (1, 237, 142, 0), (1, 237, 143, 0), (1, 237, 144, 0), (1, 237, 145, 0), (2, 190, 63, 237)]
set_option maxRecDepth 100000 in
theorem mb_1018 (S SN : SX) (jp : Nat → NX) (A : AH) (hs : sz A = 232) : blk false 3 S SN jp pb_X12_init_b1018 1018 [vR 21 190 0] [] A = jp 1811 [vR 21 190 0] [] (hap A oM_1018) := by
  have e : pb_X12_init_b1018 = clM_1018 ++ (clM_1025 ++ (clM_1034 ++ (clM_1043 ++ (clM_1052 ++ (clM_1060 ++ (clM_1100 ++ (clM_1160 ++ (clM_1220 ++ (clM_1280 ++ (clM_1340 ++ (clM_1400 ++ (clM_1460 ++ (clM_1520 ++ (clM_1580 ++ (clM_1640 ++ (clM_1700 ++ (clM_1772 ++ []))))))))))))))))) := rfl
  rw [e]
  rw [ckM_1018 S SN jp _ _ hs]
  rw [ckM_1025 S SN jp _ _ (by simp only [sz_hap, hs]; rfl)]
  rw [ckM_1034 S SN jp _ _ (by simp only [sz_hap, hs]; rfl)]
  rw [ckM_1043 S SN jp _ _ (by simp only [sz_hap, hs]; rfl)]
  rw [ckM_1052 S SN jp _ _ (by simp only [sz_hap, hs]; rfl)]
  rw [ckM_1060 S SN jp _ _ (by simp only [sz_hap, hs]; rfl)]
  rw [ckM_1100 S SN jp _ _ (by simp only [sz_hap, hs]; rfl)]
  rw [ckM_1160 S SN jp _ _ (by simp only [sz_hap, hs]; rfl)]
  rw [ckM_1220 S SN jp _ _ (by simp only [sz_hap, hs]; rfl)]
  rw [ckM_1280 S SN jp _ _ (by simp only [sz_hap, hs]; rfl)]
  rw [ckM_1340 S SN jp _ _ (by simp only [sz_hap, hs]; rfl)]
  rw [ckM_1400 S SN jp _ _ (by simp only [sz_hap, hs]; rfl)]
  rw [ckM_1460 S SN jp _ _ (by simp only [sz_hap, hs]; rfl)]
  rw [ckM_1520 S SN jp _ _ (by simp only [sz_hap, hs]; rfl)]
  rw [ckM_1580 S SN jp _ _ (by simp only [sz_hap, hs]; rfl)]
  rw [ckM_1640 S SN jp _ _ (by simp only [sz_hap, hs]; rfl)]
  rw [ckM_1700 S SN jp _ _ (by simp only [sz_hap, hs]; rfl)]
  rw [ckM_1772 S SN jp _ _ (by simp only [sz_hap, hs]; rfl)]
  rfl
