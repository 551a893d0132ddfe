/-! the law: its blocks, cut behind the class's call -/
def lw_18 : List EI := [e0 (.iload_n 3) 1, e0 (.aload_n 0) 1, e0 .arraylength 1, e0 (.bipush 6) 2, e0 .isub 1, e1 (.if_icmp .gt 1037) 3 1061, e0 (.aload_n 0) 1, e0 (.iload_n 3) 1, e0 .iaload 1, e0 (.bipush 31) 2, e0 .iand 1, e0 (.tableswitch 1022 0 31 #[143, 206, 229, 242, 265, 288, 301, 344, 377, 400, 433, 466, 499, 523, 546, 599, 632, 666, 699, 732, 755, 778, 801, 834, 877, 900, 913, 936, 950, 963, 986, 999]) 143]
set_option maxRecDepth 100000 in
theorem b_18 (S SN : SX) (jp : Nat → NX) (L : Nat) (i : Int) (A : AH) : blk true 2 S SN jp lw_18 18 [vR 35 39 L, vR 20 40 0, vR 21 190 0, vI i] [] A =
    if (w32 ((L : Int) - 6)) < i then
      jp 1061 [vR 35 39 L, vR 20 40 0, vR 21 190 0, vI i] [] A
    else
    if (0 : Int) ≤ i ∧ i < (L : Int) then
      if (band (gi A 39 i.toNat) 31) = 0 then
        jp 176 [vR 35 39 L, vR 20 40 0, vR 21 190 0, vI i] [] A
      else
      if (band (gi A 39 i.toNat) 31) = 1 then
        jp 239 [vR 35 39 L, vR 20 40 0, vR 21 190 0, vI i] [] A
      else
      if (band (gi A 39 i.toNat) 31) = 2 then
        jp 262 [vR 35 39 L, vR 20 40 0, vR 21 190 0, vI i] [] A
      else
      if (band (gi A 39 i.toNat) 31) = 3 then
        jp 275 [vR 35 39 L, vR 20 40 0, vR 21 190 0, vI i] [] A
      else
      if (band (gi A 39 i.toNat) 31) = 4 then
        jp 298 [vR 35 39 L, vR 20 40 0, vR 21 190 0, vI i] [] A
      else
      if (band (gi A 39 i.toNat) 31) = 5 then
        jp 321 [vR 35 39 L, vR 20 40 0, vR 21 190 0, vI i] [] A
      else
      if (band (gi A 39 i.toNat) 31) = 6 then
        jp 334 [vR 35 39 L, vR 20 40 0, vR 21 190 0, vI i] [] A
      else
      if (band (gi A 39 i.toNat) 31) = 7 then
        jp 377 [vR 35 39 L, vR 20 40 0, vR 21 190 0, vI i] [] A
      else
      if (band (gi A 39 i.toNat) 31) = 8 then
        jp 410 [vR 35 39 L, vR 20 40 0, vR 21 190 0, vI i] [] A
      else
      if (band (gi A 39 i.toNat) 31) = 9 then
        jp 433 [vR 35 39 L, vR 20 40 0, vR 21 190 0, vI i] [] A
      else
      if (band (gi A 39 i.toNat) 31) = 10 then
        jp 466 [vR 35 39 L, vR 20 40 0, vR 21 190 0, vI i] [] A
      else
      if (band (gi A 39 i.toNat) 31) = 11 then
        jp 499 [vR 35 39 L, vR 20 40 0, vR 21 190 0, vI i] [] A
      else
      if (band (gi A 39 i.toNat) 31) = 12 then
        jp 532 [vR 35 39 L, vR 20 40 0, vR 21 190 0, vI i] [] A
      else
      if (band (gi A 39 i.toNat) 31) = 13 then
        jp 556 [vR 35 39 L, vR 20 40 0, vR 21 190 0, vI i] [] A
      else
      if (band (gi A 39 i.toNat) 31) = 14 then
        jp 579 [vR 35 39 L, vR 20 40 0, vR 21 190 0, vI i] [] A
      else
      if (band (gi A 39 i.toNat) 31) = 15 then
        jp 632 [vR 35 39 L, vR 20 40 0, vR 21 190 0, vI i] [] A
      else
      if (band (gi A 39 i.toNat) 31) = 16 then
        jp 665 [vR 35 39 L, vR 20 40 0, vR 21 190 0, vI i] [] A
      else
      if (band (gi A 39 i.toNat) 31) = 17 then
        jp 699 [vR 35 39 L, vR 20 40 0, vR 21 190 0, vI i] [] A
      else
      if (band (gi A 39 i.toNat) 31) = 18 then
        jp 732 [vR 35 39 L, vR 20 40 0, vR 21 190 0, vI i] [] A
      else
      if (band (gi A 39 i.toNat) 31) = 19 then
        jp 765 [vR 35 39 L, vR 20 40 0, vR 21 190 0, vI i] [] A
      else
      if (band (gi A 39 i.toNat) 31) = 20 then
        jp 788 [vR 35 39 L, vR 20 40 0, vR 21 190 0, vI i] [] A
      else
      if (band (gi A 39 i.toNat) 31) = 21 then
        jp 811 [vR 35 39 L, vR 20 40 0, vR 21 190 0, vI i] [] A
      else
      if (band (gi A 39 i.toNat) 31) = 22 then
        jp 834 [vR 35 39 L, vR 20 40 0, vR 21 190 0, vI i] [] A
      else
      if (band (gi A 39 i.toNat) 31) = 23 then
        jp 867 [vR 35 39 L, vR 20 40 0, vR 21 190 0, vI i] [] A
      else
      if (band (gi A 39 i.toNat) 31) = 24 then
        jp 910 [vR 35 39 L, vR 20 40 0, vR 21 190 0, vI i] [] A
      else
      if (band (gi A 39 i.toNat) 31) = 25 then
        jp 933 [vR 35 39 L, vR 20 40 0, vR 21 190 0, vI i] [] A
      else
      if (band (gi A 39 i.toNat) 31) = 26 then
        jp 946 [vR 35 39 L, vR 20 40 0, vR 21 190 0, vI i] [] A
      else
      if (band (gi A 39 i.toNat) 31) = 27 then
        jp 969 [vR 35 39 L, vR 20 40 0, vR 21 190 0, vI i] [] A
      else
      if (band (gi A 39 i.toNat) 31) = 28 then
        jp 983 [vR 35 39 L, vR 20 40 0, vR 21 190 0, vI i] [] A
      else
      if (band (gi A 39 i.toNat) 31) = 29 then
        jp 996 [vR 35 39 L, vR 20 40 0, vR 21 190 0, vI i] [] A
      else
      if (band (gi A 39 i.toNat) 31) = 30 then
        jp 1019 [vR 35 39 L, vR 20 40 0, vR 21 190 0, vI i] [] A
      else
      if (band (gi A 39 i.toNat) 31) = 31 then
        jp 1032 [vR 35 39 L, vR 20 40 0, vR 21 190 0, vI i] [] A
      else
      jp 1055 [vR 35 39 L, vR 20 40 0, vR 21 190 0, vI i] [] A
    else none := rfl
def lw1_176 : List EI := [e0 (.aload_n 1) 1, e0 (.aload_n 0) 1, e0 (.iload_n 3) 1, e0 (.iconst 1) 1, e0 .iadd 1, e0 .iaload 1, e0 (.aload_n 0) 1, e0 (.iload_n 3) 1, e0 (.iconst 2) 1, e0 .iadd 1, e0 .iaload 1, e0 (.aload_n 0) 1, e0 (.iload_n 3) 1, e0 (.iconst 3) 1, e0 .iadd 1, e0 .iaload 1, e0 (.aload_n 0) 1, e0 (.iload_n 3) 1, e0 (.iconst 4) 1, e0 .iadd 1, e0 .iaload 1, e0 (.aload_n 0) 1, e0 (.iload_n 3) 1, e0 (.iconst 5) 1, e0 .iadd 1, e0 .iaload 1, (.invokevirtual 13, 3, 109, 6, 10, 0, 0, 0)]
def lw2_176 : List EI := [e0 (.aload_n 2) 1, e0 (.aload_n 0) 1, e0 (.iload_n 3) 1, e0 (.iconst 1) 1, e0 .iadd 1, e0 .iaload 1, e0 (.aload_n 0) 1, e0 (.iload_n 3) 1, e0 (.iconst 2) 1, e0 .iadd 1, e0 .iaload 1, e0 (.aload_n 0) 1, e0 (.iload_n 3) 1, e0 (.iconst 3) 1, e0 .iadd 1, e0 .iaload 1, e0 (.aload_n 0) 1, e0 (.iload_n 3) 1, e0 (.iconst 4) 1, e0 .iadd 1, e0 .iaload 1, e0 (.aload_n 0) 1, e0 (.iload_n 3) 1, e0 (.iconst 5) 1, e0 .iadd 1, e0 .iaload 1, (.invokevirtual 17, 3, 150, 6, 11, 0, 0, 0), e1 (.if_icmp .eq 821) 3 1055, e0 (.iconst 0) 1, e0 .ireturn 1]
set_option maxRecDepth 100000 in
theorem b1_176 (S SN : SX) (jp : Nat → NX) (L : Nat) (i : Int) (A : AH) : blk true 2 S SN jp lw1_176 176 [vR 35 39 L, vR 20 40 0, vR 21 190 0, vI i] [] A =
    if (0 : Int) ≤ w32 (i + 1) ∧ w32 (i + 1) < (L : Int) then
      if (0 : Int) ≤ w32 (i + 2) ∧ w32 (i + 2) < (L : Int) then
        if (0 : Int) ≤ w32 (i + 3) ∧ w32 (i + 3) < (L : Int) then
          if (0 : Int) ≤ w32 (i + 4) ∧ w32 (i + 4) < (L : Int) then
            if (0 : Int) ≤ w32 (i + 5) ∧ w32 (i + 5) < (L : Int) then
              cI (S 109 [vR 20 40 0, vI (gi A 39 ((w32 (i + 1)).toNat)), vI (gi A 39 ((w32 (i + 2)).toNat)), vI (gi A 39 ((w32 (i + 3)).toNat)), vI (gi A 39 ((w32 (i + 4)).toNat)), vI (gi A 39 ((w32 (i + 5)).toNat))] A) fun r2 A1 =>
              jp 205 [vR 35 39 L, vR 20 40 0, vR 21 190 0, vI i] [vI r2] A1
            else none
          else none
        else none
      else none
    else none := rfl
set_option maxRecDepth 100000 in
theorem b2_176 (S SN : SX) (jp : Nat → NX) (L : Nat) (i y : Int) (A : AH) : blk true 2 S SN jp lw2_176 205 [vR 35 39 L, vR 20 40 0, vR 21 190 0, vI i] [vI y] A =
    if (0 : Int) ≤ w32 (i + 1) ∧ w32 (i + 1) < (L : Int) then
      if (0 : Int) ≤ w32 (i + 2) ∧ w32 (i + 2) < (L : Int) then
        if (0 : Int) ≤ w32 (i + 3) ∧ w32 (i + 3) < (L : Int) then
          if (0 : Int) ≤ w32 (i + 4) ∧ w32 (i + 4) < (L : Int) then
            if (0 : Int) ≤ w32 (i + 5) ∧ w32 (i + 5) < (L : Int) then
              cI (S 150 [vR 21 190 0, vI (gi A 39 ((w32 (i + 1)).toNat)), vI (gi A 39 ((w32 (i + 2)).toNat)), vI (gi A 39 ((w32 (i + 3)).toNat)), vI (gi A 39 ((w32 (i + 4)).toNat)), vI (gi A 39 ((w32 (i + 5)).toNat))] A) fun r4 A3 =>
              if y = r4 then
                jp 1055 [vR 35 39 L, vR 20 40 0, vR 21 190 0, vI i] [] A3
              else
              some (some (vI 0), A3)
            else none
          else none
        else none
      else none
    else none := rfl
def lw1_239 : List EI := [e0 (.aload_n 1) 1, e0 (.aload_n 0) 1, e0 (.iload_n 3) 1, e0 (.iconst 1) 1, e0 .iadd 1, e0 .iaload 1, (.invokevirtual 18, 3, 110, 2, 10, 0, 0, 0)]
def lw2_239 : List EI := [e0 (.aload_n 2) 1, e0 (.aload_n 0) 1, e0 (.iload_n 3) 1, e0 (.iconst 1) 1, e0 .iadd 1, e0 .iaload 1, (.invokevirtual 22, 3, 151, 2, 11, 0, 0, 0), e1 (.if_icmp .eq 798) 3 1055, e0 (.iconst 0) 1, e0 .ireturn 1]
set_option maxRecDepth 100000 in
theorem b1_239 (S SN : SX) (jp : Nat → NX) (L : Nat) (i : Int) (A : AH) : blk true 2 S SN jp lw1_239 239 [vR 35 39 L, vR 20 40 0, vR 21 190 0, vI i] [] A =
    if (0 : Int) ≤ w32 (i + 1) ∧ w32 (i + 1) < (L : Int) then
      cI (S 110 [vR 20 40 0, vI (gi A 39 ((w32 (i + 1)).toNat))] A) fun r6 A5 =>
      jp 248 [vR 35 39 L, vR 20 40 0, vR 21 190 0, vI i] [vI r6] A5
    else none := rfl
set_option maxRecDepth 100000 in
theorem b2_239 (S SN : SX) (jp : Nat → NX) (L : Nat) (i y : Int) (A : AH) : blk true 2 S SN jp lw2_239 248 [vR 35 39 L, vR 20 40 0, vR 21 190 0, vI i] [vI y] A =
    if (0 : Int) ≤ w32 (i + 1) ∧ w32 (i + 1) < (L : Int) then
      cI (S 151 [vR 21 190 0, vI (gi A 39 ((w32 (i + 1)).toNat))] A) fun r8 A7 =>
      if y = r8 then
        jp 1055 [vR 35 39 L, vR 20 40 0, vR 21 190 0, vI i] [] A7
      else
      some (some (vI 0), A7)
    else none := rfl
def lw1_262 : List EI := [e0 (.aload_n 1) 1, (.invokevirtual 23, 3, 111, 1, 10, 0, 0, 0)]
def lw2_262 : List EI := [e0 (.aload_n 2) 1, (.invokevirtual 27, 3, 177, 1, 11, 0, 0, 0), e1 (.if_icmp .eq 785) 3 1055, e0 (.iconst 0) 1, e0 .ireturn 1]
set_option maxRecDepth 100000 in
theorem b1_262 (S SN : SX) (jp : Nat → NX) (L : Nat) (i : Int) (A : AH) : blk true 2 S SN jp lw1_262 262 [vR 35 39 L, vR 20 40 0, vR 21 190 0, vI i] [] A =
    cI (S 111 [vR 20 40 0] A) fun r10 A9 =>
    jp 266 [vR 35 39 L, vR 20 40 0, vR 21 190 0, vI i] [vI r10] A9 := rfl
set_option maxRecDepth 100000 in
theorem b2_262 (S SN : SX) (jp : Nat → NX) (L : Nat) (i y : Int) (A : AH) : blk true 2 S SN jp lw2_262 266 [vR 35 39 L, vR 20 40 0, vR 21 190 0, vI i] [vI y] A =
    cI (S 177 [vR 21 190 0] A) fun r12 A11 =>
    if y = r12 then
      jp 1055 [vR 35 39 L, vR 20 40 0, vR 21 190 0, vI i] [] A11
    else
    some (some (vI 0), A11) := rfl
def lw1_275 : List EI := [e0 (.aload_n 1) 1, e0 (.aload_n 0) 1, e0 (.iload_n 3) 1, e0 (.iconst 1) 1, e0 .iadd 1, e0 .iaload 1, (.invokevirtual 28, 3, 112, 2, 10, 0, 0, 0)]
def lw2_275 : List EI := [e0 (.aload_n 2) 1, e0 (.aload_n 0) 1, e0 (.iload_n 3) 1, e0 (.iconst 1) 1, e0 .iadd 1, e0 .iaload 1, (.invokevirtual 32, 3, 189, 2, 11, 0, 0, 0), e1 (.if_icmp .eq 762) 3 1055, e0 (.iconst 0) 1, e0 .ireturn 1]
set_option maxRecDepth 100000 in
theorem b1_275 (S SN : SX) (jp : Nat → NX) (L : Nat) (i : Int) (A : AH) : blk true 2 S SN jp lw1_275 275 [vR 35 39 L, vR 20 40 0, vR 21 190 0, vI i] [] A =
    if (0 : Int) ≤ w32 (i + 1) ∧ w32 (i + 1) < (L : Int) then
      cI (S 112 [vR 20 40 0, vI (gi A 39 ((w32 (i + 1)).toNat))] A) fun r14 A13 =>
      jp 284 [vR 35 39 L, vR 20 40 0, vR 21 190 0, vI i] [vI r14] A13
    else none := rfl
set_option maxRecDepth 100000 in
theorem b2_275 (S SN : SX) (jp : Nat → NX) (L : Nat) (i y : Int) (A : AH) : blk true 2 S SN jp lw2_275 284 [vR 35 39 L, vR 20 40 0, vR 21 190 0, vI i] [vI y] A =
    if (0 : Int) ≤ w32 (i + 1) ∧ w32 (i + 1) < (L : Int) then
      cI (S 189 [vR 21 190 0, vI (gi A 39 ((w32 (i + 1)).toNat))] A) fun r16 A15 =>
      if y = r16 then
        jp 1055 [vR 35 39 L, vR 20 40 0, vR 21 190 0, vI i] [] A15
      else
      some (some (vI 0), A15)
    else none := rfl
def lw1_298 : List EI := [e0 (.aload_n 1) 1, e0 (.aload_n 0) 1, e0 (.iload_n 3) 1, e0 (.iconst 1) 1, e0 .iadd 1, e0 .iaload 1, (.invokevirtual 33, 3, 113, 2, 10, 0, 0, 0)]
def lw2_298 : List EI := [e0 (.aload_n 2) 1, e0 (.aload_n 0) 1, e0 (.iload_n 3) 1, e0 (.iconst 1) 1, e0 .iadd 1, e0 .iaload 1, (.invokevirtual 36, 3, 217, 2, 11, 0, 0, 0), e1 (.if_icmp .eq 739) 3 1055, e0 (.iconst 0) 1, e0 .ireturn 1]
set_option maxRecDepth 100000 in
theorem b1_298 (S SN : SX) (jp : Nat → NX) (L : Nat) (i : Int) (A : AH) : blk true 2 S SN jp lw1_298 298 [vR 35 39 L, vR 20 40 0, vR 21 190 0, vI i] [] A =
    if (0 : Int) ≤ w32 (i + 1) ∧ w32 (i + 1) < (L : Int) then
      cI (S 113 [vR 20 40 0, vI (gi A 39 ((w32 (i + 1)).toNat))] A) fun r18 A17 =>
      jp 307 [vR 35 39 L, vR 20 40 0, vR 21 190 0, vI i] [vI r18] A17
    else none := rfl
set_option maxRecDepth 100000 in
theorem b2_298 (S SN : SX) (jp : Nat → NX) (L : Nat) (i y : Int) (A : AH) : blk true 2 S SN jp lw2_298 307 [vR 35 39 L, vR 20 40 0, vR 21 190 0, vI i] [vI y] A =
    if (0 : Int) ≤ w32 (i + 1) ∧ w32 (i + 1) < (L : Int) then
      cI (S 217 [vR 21 190 0, vI (gi A 39 ((w32 (i + 1)).toNat))] A) fun r20 A19 =>
      if y = r20 then
        jp 1055 [vR 35 39 L, vR 20 40 0, vR 21 190 0, vI i] [] A19
      else
      some (some (vI 0), A19)
    else none := rfl
def lw1_321 : List EI := [e0 (.aload_n 1) 1, (.invokevirtual 37, 3, 114, 1, 10, 0, 0, 0)]
def lw2_321 : List EI := [e0 (.aload_n 2) 1, (.invokevirtual 40, 3, 218, 1, 11, 0, 0, 0), e1 (.if_icmp .eq 726) 3 1055, e0 (.iconst 0) 1, e0 .ireturn 1]
set_option maxRecDepth 100000 in
theorem b1_321 (S SN : SX) (jp : Nat → NX) (L : Nat) (i : Int) (A : AH) : blk true 2 S SN jp lw1_321 321 [vR 35 39 L, vR 20 40 0, vR 21 190 0, vI i] [] A =
    cI (S 114 [vR 20 40 0] A) fun r22 A21 =>
    jp 325 [vR 35 39 L, vR 20 40 0, vR 21 190 0, vI i] [vI r22] A21 := rfl
set_option maxRecDepth 100000 in
theorem b2_321 (S SN : SX) (jp : Nat → NX) (L : Nat) (i y : Int) (A : AH) : blk true 2 S SN jp lw2_321 325 [vR 35 39 L, vR 20 40 0, vR 21 190 0, vI i] [vI y] A =
    cI (S 218 [vR 21 190 0] A) fun r24 A23 =>
    if y = r24 then
      jp 1055 [vR 35 39 L, vR 20 40 0, vR 21 190 0, vI i] [] A23
    else
    some (some (vI 0), A23) := rfl
def lw1_334 : List EI := [e0 (.aload_n 1) 1, e0 (.aload_n 0) 1, e0 (.iload_n 3) 1, e0 (.iconst 1) 1, e0 .iadd 1, e0 .iaload 1, e0 (.aload_n 0) 1, e0 (.iload_n 3) 1, e0 (.iconst 2) 1, e0 .iadd 1, e0 .iaload 1, e0 (.aload_n 0) 1, e0 (.iload_n 3) 1, e0 (.iconst 3) 1, e0 .iadd 1, e0 .iaload 1, (.invokevirtual 41, 3, 115, 4, 10, 0, 0, 0)]
def lw2_334 : List EI := [e0 (.aload_n 2) 1, e0 (.aload_n 0) 1, e0 (.iload_n 3) 1, e0 (.iconst 1) 1, e0 .iadd 1, e0 .iaload 1, e0 (.aload_n 0) 1, e0 (.iload_n 3) 1, e0 (.iconst 2) 1, e0 .iadd 1, e0 .iaload 1, e0 (.aload_n 0) 1, e0 (.iload_n 3) 1, e0 (.iconst 3) 1, e0 .iadd 1, e0 .iaload 1, (.invokevirtual 45, 3, 219, 4, 11, 0, 0, 0), e1 (.if_icmp .eq 683) 3 1055, e0 (.iconst 0) 1, e0 .ireturn 1]
set_option maxRecDepth 100000 in
theorem b1_334 (S SN : SX) (jp : Nat → NX) (L : Nat) (i : Int) (A : AH) : blk true 2 S SN jp lw1_334 334 [vR 35 39 L, vR 20 40 0, vR 21 190 0, vI i] [] A =
    if (0 : Int) ≤ w32 (i + 1) ∧ w32 (i + 1) < (L : Int) then
      if (0 : Int) ≤ w32 (i + 2) ∧ w32 (i + 2) < (L : Int) then
        if (0 : Int) ≤ w32 (i + 3) ∧ w32 (i + 3) < (L : Int) then
          cI (S 115 [vR 20 40 0, vI (gi A 39 ((w32 (i + 1)).toNat)), vI (gi A 39 ((w32 (i + 2)).toNat)), vI (gi A 39 ((w32 (i + 3)).toNat))] A) fun r26 A25 =>
          jp 353 [vR 35 39 L, vR 20 40 0, vR 21 190 0, vI i] [vI r26] A25
        else none
      else none
    else none := rfl
set_option maxRecDepth 100000 in
theorem b2_334 (S SN : SX) (jp : Nat → NX) (L : Nat) (i y : Int) (A : AH) : blk true 2 S SN jp lw2_334 353 [vR 35 39 L, vR 20 40 0, vR 21 190 0, vI i] [vI y] A =
    if (0 : Int) ≤ w32 (i + 1) ∧ w32 (i + 1) < (L : Int) then
      if (0 : Int) ≤ w32 (i + 2) ∧ w32 (i + 2) < (L : Int) then
        if (0 : Int) ≤ w32 (i + 3) ∧ w32 (i + 3) < (L : Int) then
          cI (S 219 [vR 21 190 0, vI (gi A 39 ((w32 (i + 1)).toNat)), vI (gi A 39 ((w32 (i + 2)).toNat)), vI (gi A 39 ((w32 (i + 3)).toNat))] A) fun r28 A27 =>
          if y = r28 then
            jp 1055 [vR 35 39 L, vR 20 40 0, vR 21 190 0, vI i] [] A27
          else
          some (some (vI 0), A27)
        else none
      else none
    else none := rfl
def lw1_377 : List EI := [e0 (.aload_n 1) 1, e0 (.aload_n 0) 1, e0 (.iload_n 3) 1, e0 (.iconst 1) 1, e0 .iadd 1, e0 .iaload 1, e0 (.aload_n 0) 1, e0 (.iload_n 3) 1, e0 (.iconst 2) 1, e0 .iadd 1, e0 .iaload 1, (.invokevirtual 46, 3, 116, 3, 10, 0, 0, 0)]
def lw2_377 : List EI := [e0 (.aload_n 2) 1, e0 (.aload_n 0) 1, e0 (.iload_n 3) 1, e0 (.iconst 1) 1, e0 .iadd 1, e0 .iaload 1, e0 (.aload_n 0) 1, e0 (.iload_n 3) 1, e0 (.iconst 2) 1, e0 .iadd 1, e0 .iaload 1, (.invokevirtual 50, 3, 220, 3, 11, 0, 0, 0), e1 (.if_icmp .eq 650) 3 1055, e0 (.iconst 0) 1, e0 .ireturn 1]
set_option maxRecDepth 100000 in
theorem b1_377 (S SN : SX) (jp : Nat → NX) (L : Nat) (i : Int) (A : AH) : blk true 2 S SN jp lw1_377 377 [vR 35 39 L, vR 20 40 0, vR 21 190 0, vI i] [] A =
    if (0 : Int) ≤ w32 (i + 1) ∧ w32 (i + 1) < (L : Int) then
      if (0 : Int) ≤ w32 (i + 2) ∧ w32 (i + 2) < (L : Int) then
        cI (S 116 [vR 20 40 0, vI (gi A 39 ((w32 (i + 1)).toNat)), vI (gi A 39 ((w32 (i + 2)).toNat))] A) fun r30 A29 =>
        jp 391 [vR 35 39 L, vR 20 40 0, vR 21 190 0, vI i] [vI r30] A29
      else none
    else none := rfl
set_option maxRecDepth 100000 in
theorem b2_377 (S SN : SX) (jp : Nat → NX) (L : Nat) (i y : Int) (A : AH) : blk true 2 S SN jp lw2_377 391 [vR 35 39 L, vR 20 40 0, vR 21 190 0, vI i] [vI y] A =
    if (0 : Int) ≤ w32 (i + 1) ∧ w32 (i + 1) < (L : Int) then
      if (0 : Int) ≤ w32 (i + 2) ∧ w32 (i + 2) < (L : Int) then
        cI (S 220 [vR 21 190 0, vI (gi A 39 ((w32 (i + 1)).toNat)), vI (gi A 39 ((w32 (i + 2)).toNat))] A) fun r32 A31 =>
        if y = r32 then
          jp 1055 [vR 35 39 L, vR 20 40 0, vR 21 190 0, vI i] [] A31
        else
        some (some (vI 0), A31)
      else none
    else none := rfl
def lw1_410 : List EI := [e0 (.aload_n 1) 1, e0 (.aload_n 0) 1, e0 (.iload_n 3) 1, e0 (.iconst 1) 1, e0 .iadd 1, e0 .iaload 1, (.invokevirtual 51, 3, 117, 2, 10, 0, 0, 0)]
def lw2_410 : List EI := [e0 (.aload_n 2) 1, e0 (.aload_n 0) 1, e0 (.iload_n 3) 1, e0 (.iconst 1) 1, e0 .iadd 1, e0 .iaload 1, (.invokevirtual 54, 3, 221, 2, 11, 0, 0, 0), e1 (.if_icmp .eq 627) 3 1055, e0 (.iconst 0) 1, e0 .ireturn 1]
set_option maxRecDepth 100000 in
theorem b1_410 (S SN : SX) (jp : Nat → NX) (L : Nat) (i : Int) (A : AH) : blk true 2 S SN jp lw1_410 410 [vR 35 39 L, vR 20 40 0, vR 21 190 0, vI i] [] A =
    if (0 : Int) ≤ w32 (i + 1) ∧ w32 (i + 1) < (L : Int) then
      cI (S 117 [vR 20 40 0, vI (gi A 39 ((w32 (i + 1)).toNat))] A) fun r34 A33 =>
      jp 419 [vR 35 39 L, vR 20 40 0, vR 21 190 0, vI i] [vI r34] A33
    else none := rfl
set_option maxRecDepth 100000 in
theorem b2_410 (S SN : SX) (jp : Nat → NX) (L : Nat) (i y : Int) (A : AH) : blk true 2 S SN jp lw2_410 419 [vR 35 39 L, vR 20 40 0, vR 21 190 0, vI i] [vI y] A =
    if (0 : Int) ≤ w32 (i + 1) ∧ w32 (i + 1) < (L : Int) then
      cI (S 221 [vR 21 190 0, vI (gi A 39 ((w32 (i + 1)).toNat))] A) fun r36 A35 =>
      if y = r36 then
        jp 1055 [vR 35 39 L, vR 20 40 0, vR 21 190 0, vI i] [] A35
      else
      some (some (vI 0), A35)
    else none := rfl
def lw1_433 : List EI := [e0 (.aload_n 1) 1, e0 (.aload_n 0) 1, e0 (.iload_n 3) 1, e0 (.iconst 1) 1, e0 .iadd 1, e0 .iaload 1, e0 (.aload_n 0) 1, e0 (.iload_n 3) 1, e0 (.iconst 2) 1, e0 .iadd 1, e0 .iaload 1, (.invokevirtual 55, 3, 118, 3, 10, 0, 0, 0)]
def lw2_433 : List EI := [e0 (.aload_n 2) 1, e0 (.aload_n 0) 1, e0 (.iload_n 3) 1, e0 (.iconst 1) 1, e0 .iadd 1, e0 .iaload 1, e0 (.aload_n 0) 1, e0 (.iload_n 3) 1, e0 (.iconst 2) 1, e0 .iadd 1, e0 .iaload 1, (.invokevirtual 58, 3, 222, 3, 11, 0, 0, 0), e1 (.if_icmp .eq 594) 3 1055, e0 (.iconst 0) 1, e0 .ireturn 1]
set_option maxRecDepth 100000 in
theorem b1_433 (S SN : SX) (jp : Nat → NX) (L : Nat) (i : Int) (A : AH) : blk true 2 S SN jp lw1_433 433 [vR 35 39 L, vR 20 40 0, vR 21 190 0, vI i] [] A =
    if (0 : Int) ≤ w32 (i + 1) ∧ w32 (i + 1) < (L : Int) then
      if (0 : Int) ≤ w32 (i + 2) ∧ w32 (i + 2) < (L : Int) then
        cI (S 118 [vR 20 40 0, vI (gi A 39 ((w32 (i + 1)).toNat)), vI (gi A 39 ((w32 (i + 2)).toNat))] A) fun r38 A37 =>
        jp 447 [vR 35 39 L, vR 20 40 0, vR 21 190 0, vI i] [vI r38] A37
      else none
    else none := rfl
set_option maxRecDepth 100000 in
theorem b2_433 (S SN : SX) (jp : Nat → NX) (L : Nat) (i y : Int) (A : AH) : blk true 2 S SN jp lw2_433 447 [vR 35 39 L, vR 20 40 0, vR 21 190 0, vI i] [vI y] A =
    if (0 : Int) ≤ w32 (i + 1) ∧ w32 (i + 1) < (L : Int) then
      if (0 : Int) ≤ w32 (i + 2) ∧ w32 (i + 2) < (L : Int) then
        cI (S 222 [vR 21 190 0, vI (gi A 39 ((w32 (i + 1)).toNat)), vI (gi A 39 ((w32 (i + 2)).toNat))] A) fun r40 A39 =>
        if y = r40 then
          jp 1055 [vR 35 39 L, vR 20 40 0, vR 21 190 0, vI i] [] A39
        else
        some (some (vI 0), A39)
      else none
    else none := rfl
def lw1_466 : List EI := [e0 (.aload_n 1) 1, e0 (.aload_n 0) 1, e0 (.iload_n 3) 1, e0 (.iconst 1) 1, e0 .iadd 1, e0 .iaload 1, e0 (.aload_n 0) 1, e0 (.iload_n 3) 1, e0 (.iconst 2) 1, e0 .iadd 1, e0 .iaload 1, (.invokevirtual 59, 3, 119, 3, 10, 0, 0, 0)]
def lw2_466 : List EI := [e0 (.aload_n 2) 1, e0 (.aload_n 0) 1, e0 (.iload_n 3) 1, e0 (.iconst 1) 1, e0 .iadd 1, e0 .iaload 1, e0 (.aload_n 0) 1, e0 (.iload_n 3) 1, e0 (.iconst 2) 1, e0 .iadd 1, e0 .iaload 1, (.invokevirtual 62, 3, 223, 3, 11, 0, 0, 0), e1 (.if_icmp .eq 561) 3 1055, e0 (.iconst 0) 1, e0 .ireturn 1]
set_option maxRecDepth 100000 in
theorem b1_466 (S SN : SX) (jp : Nat → NX) (L : Nat) (i : Int) (A : AH) : blk true 2 S SN jp lw1_466 466 [vR 35 39 L, vR 20 40 0, vR 21 190 0, vI i] [] A =
    if (0 : Int) ≤ w32 (i + 1) ∧ w32 (i + 1) < (L : Int) then
      if (0 : Int) ≤ w32 (i + 2) ∧ w32 (i + 2) < (L : Int) then
        cI (S 119 [vR 20 40 0, vI (gi A 39 ((w32 (i + 1)).toNat)), vI (gi A 39 ((w32 (i + 2)).toNat))] A) fun r42 A41 =>
        jp 480 [vR 35 39 L, vR 20 40 0, vR 21 190 0, vI i] [vI r42] A41
      else none
    else none := rfl
set_option maxRecDepth 100000 in
theorem b2_466 (S SN : SX) (jp : Nat → NX) (L : Nat) (i y : Int) (A : AH) : blk true 2 S SN jp lw2_466 480 [vR 35 39 L, vR 20 40 0, vR 21 190 0, vI i] [vI y] A =
    if (0 : Int) ≤ w32 (i + 1) ∧ w32 (i + 1) < (L : Int) then
      if (0 : Int) ≤ w32 (i + 2) ∧ w32 (i + 2) < (L : Int) then
        cI (S 223 [vR 21 190 0, vI (gi A 39 ((w32 (i + 1)).toNat)), vI (gi A 39 ((w32 (i + 2)).toNat))] A) fun r44 A43 =>
        if y = r44 then
          jp 1055 [vR 35 39 L, vR 20 40 0, vR 21 190 0, vI i] [] A43
        else
        some (some (vI 0), A43)
      else none
    else none := rfl
def lw1_499 : List EI := [e0 (.aload_n 1) 1, e0 (.aload_n 0) 1, e0 (.iload_n 3) 1, e0 (.iconst 1) 1, e0 .iadd 1, e0 .iaload 1, e0 (.aload_n 0) 1, e0 (.iload_n 3) 1, e0 (.iconst 2) 1, e0 .iadd 1, e0 .iaload 1, (.invokevirtual 63, 3, 120, 3, 10, 0, 0, 0)]
def lw2_499 : List EI := [e0 (.aload_n 2) 1, e0 (.aload_n 0) 1, e0 (.iload_n 3) 1, e0 (.iconst 1) 1, e0 .iadd 1, e0 .iaload 1, e0 (.aload_n 0) 1, e0 (.iload_n 3) 1, e0 (.iconst 2) 1, e0 .iadd 1, e0 .iaload 1, (.invokevirtual 66, 3, 224, 3, 11, 0, 0, 0), e1 (.if_icmp .eq 528) 3 1055, e0 (.iconst 0) 1, e0 .ireturn 1]
set_option maxRecDepth 100000 in
theorem b1_499 (S SN : SX) (jp : Nat → NX) (L : Nat) (i : Int) (A : AH) : blk true 2 S SN jp lw1_499 499 [vR 35 39 L, vR 20 40 0, vR 21 190 0, vI i] [] A =
    if (0 : Int) ≤ w32 (i + 1) ∧ w32 (i + 1) < (L : Int) then
      if (0 : Int) ≤ w32 (i + 2) ∧ w32 (i + 2) < (L : Int) then
        cI (S 120 [vR 20 40 0, vI (gi A 39 ((w32 (i + 1)).toNat)), vI (gi A 39 ((w32 (i + 2)).toNat))] A) fun r46 A45 =>
        jp 513 [vR 35 39 L, vR 20 40 0, vR 21 190 0, vI i] [vI r46] A45
      else none
    else none := rfl
set_option maxRecDepth 100000 in
theorem b2_499 (S SN : SX) (jp : Nat → NX) (L : Nat) (i y : Int) (A : AH) : blk true 2 S SN jp lw2_499 513 [vR 35 39 L, vR 20 40 0, vR 21 190 0, vI i] [vI y] A =
    if (0 : Int) ≤ w32 (i + 1) ∧ w32 (i + 1) < (L : Int) then
      if (0 : Int) ≤ w32 (i + 2) ∧ w32 (i + 2) < (L : Int) then
        cI (S 224 [vR 21 190 0, vI (gi A 39 ((w32 (i + 1)).toNat)), vI (gi A 39 ((w32 (i + 2)).toNat))] A) fun r48 A47 =>
        if y = r48 then
          jp 1055 [vR 35 39 L, vR 20 40 0, vR 21 190 0, vI i] [] A47
        else
        some (some (vI 0), A47)
      else none
    else none := rfl
def lw1_532 : List EI := [e0 (.aload_n 1) 1, e0 (.aload_n 0) 1, e0 (.iload_n 3) 1, e0 (.iconst 1) 1, e0 .iadd 1, e0 .iaload 1, (.invokevirtual 67, 3, 121, 2, 10, 0, 1, 0)]
def lw2_532 : List EI := [e0 (.aload_n 2) 1, e0 (.aload_n 0) 1, e0 (.iload_n 3) 1, e0 (.iconst 1) 1, e0 .iadd 1, e0 .iaload 1, (.invokevirtual 71, 3, 230, 2, 11, 0, 1, 0), e0 .lcmp 1, e1 (.ifCond .eq 504) 3 1055, e0 (.iconst 0) 1, e0 .ireturn 1]
set_option maxRecDepth 100000 in
theorem b1_532 (S SN : SX) (jp : Nat → NX) (L : Nat) (i : Int) (A : AH) : blk true 2 S SN jp lw1_532 532 [vR 35 39 L, vR 20 40 0, vR 21 190 0, vI i] [] A =
    if (0 : Int) ≤ w32 (i + 1) ∧ w32 (i + 1) < (L : Int) then
      cL (S 121 [vR 20 40 0, vI (gi A 39 ((w32 (i + 1)).toNat))] A) fun r50 A49 =>
      jp 541 [vR 35 39 L, vR 20 40 0, vR 21 190 0, vI i] [vL r50] A49
    else none := rfl
set_option maxRecDepth 100000 in
theorem b2_532 (S SN : SX) (jp : Nat → NX) (L : Nat) (i y : Int) (A : AH) : blk true 2 S SN jp lw2_532 541 [vR 35 39 L, vR 20 40 0, vR 21 190 0, vI i] [vL y] A =
    if (0 : Int) ≤ w32 (i + 1) ∧ w32 (i + 1) < (L : Int) then
      cL (S 230 [vR 21 190 0, vI (gi A 39 ((w32 (i + 1)).toNat))] A) fun r52 A51 =>
      if (lcp y r52) = 0 then
        jp 1055 [vR 35 39 L, vR 20 40 0, vR 21 190 0, vI i] [] A51
      else
      some (some (vI 0), A51)
    else none := rfl
def lw1_556 : List EI := [e0 (.aload_n 1) 1, e0 (.aload_n 0) 1, e0 (.iload_n 3) 1, e0 (.iconst 1) 1, e0 .iadd 1, e0 .iaload 1, (.invokevirtual 72, 3, 122, 2, 10, 0, 0, 0)]
def lw2_556 : List EI := [e0 (.aload_n 2) 1, e0 (.aload_n 0) 1, e0 (.iload_n 3) 1, e0 (.iconst 1) 1, e0 .iadd 1, e0 .iaload 1, (.invokevirtual 75, 3, 234, 2, 11, 0, 0, 0), e1 (.if_icmp .eq 481) 3 1055, e0 (.iconst 0) 1, e0 .ireturn 1]
set_option maxRecDepth 100000 in
theorem b1_556 (S SN : SX) (jp : Nat → NX) (L : Nat) (i : Int) (A : AH) : blk true 2 S SN jp lw1_556 556 [vR 35 39 L, vR 20 40 0, vR 21 190 0, vI i] [] A =
    if (0 : Int) ≤ w32 (i + 1) ∧ w32 (i + 1) < (L : Int) then
      cI (S 122 [vR 20 40 0, vI (gi A 39 ((w32 (i + 1)).toNat))] A) fun r54 A53 =>
      jp 565 [vR 35 39 L, vR 20 40 0, vR 21 190 0, vI i] [vI r54] A53
    else none := rfl
set_option maxRecDepth 100000 in
theorem b2_556 (S SN : SX) (jp : Nat → NX) (L : Nat) (i y : Int) (A : AH) : blk true 2 S SN jp lw2_556 565 [vR 35 39 L, vR 20 40 0, vR 21 190 0, vI i] [vI y] A =
    if (0 : Int) ≤ w32 (i + 1) ∧ w32 (i + 1) < (L : Int) then
      cI (S 234 [vR 21 190 0, vI (gi A 39 ((w32 (i + 1)).toNat))] A) fun r56 A55 =>
      if y = r56 then
        jp 1055 [vR 35 39 L, vR 20 40 0, vR 21 190 0, vI i] [] A55
      else
      some (some (vI 0), A55)
    else none := rfl
def lw1_579 : List EI := [e0 (.aload_n 1) 1, e0 (.aload_n 0) 1, e0 (.iload_n 3) 1, e0 (.iconst 1) 1, e0 .iadd 1, e0 .iaload 1, e0 (.aload_n 0) 1, e0 (.iload_n 3) 1, e0 (.iconst 2) 1, e0 .iadd 1, e0 .iaload 1, e0 (.aload_n 0) 1, e0 (.iload_n 3) 1, e0 (.iconst 3) 1, e0 .iadd 1, e0 .iaload 1, e0 (.aload_n 0) 1, e0 (.iload_n 3) 1, e0 (.iconst 4) 1, e0 .iadd 1, e0 .iaload 1, (.invokevirtual 76, 3, 123, 5, 10, 0, 0, 0)]
def lw2_579 : List EI := [e0 (.aload_n 2) 1, e0 (.aload_n 0) 1, e0 (.iload_n 3) 1, e0 (.iconst 1) 1, e0 .iadd 1, e0 .iaload 1, e0 (.aload_n 0) 1, e0 (.iload_n 3) 1, e0 (.iconst 2) 1, e0 .iadd 1, e0 .iaload 1, e0 (.aload_n 0) 1, e0 (.iload_n 3) 1, e0 (.iconst 3) 1, e0 .iadd 1, e0 .iaload 1, e0 (.aload_n 0) 1, e0 (.iload_n 3) 1, e0 (.iconst 4) 1, e0 .iadd 1, e0 .iaload 1, (.invokevirtual 80, 3, 240, 5, 11, 0, 0, 0), e1 (.if_icmp .eq 428) 3 1055, e0 (.iconst 0) 1, e0 .ireturn 1]
set_option maxRecDepth 100000 in
theorem b1_579 (S SN : SX) (jp : Nat → NX) (L : Nat) (i : Int) (A : AH) : blk true 2 S SN jp lw1_579 579 [vR 35 39 L, vR 20 40 0, vR 21 190 0, vI i] [] A =
    if (0 : Int) ≤ w32 (i + 1) ∧ w32 (i + 1) < (L : Int) then
      if (0 : Int) ≤ w32 (i + 2) ∧ w32 (i + 2) < (L : Int) then
        if (0 : Int) ≤ w32 (i + 3) ∧ w32 (i + 3) < (L : Int) then
          if (0 : Int) ≤ w32 (i + 4) ∧ w32 (i + 4) < (L : Int) then
            cI (S 123 [vR 20 40 0, vI (gi A 39 ((w32 (i + 1)).toNat)), vI (gi A 39 ((w32 (i + 2)).toNat)), vI (gi A 39 ((w32 (i + 3)).toNat)), vI (gi A 39 ((w32 (i + 4)).toNat))] A) fun r58 A57 =>
            jp 603 [vR 35 39 L, vR 20 40 0, vR 21 190 0, vI i] [vI r58] A57
          else none
        else none
      else none
    else none := rfl
set_option maxRecDepth 100000 in
theorem b2_579 (S SN : SX) (jp : Nat → NX) (L : Nat) (i y : Int) (A : AH) : blk true 2 S SN jp lw2_579 603 [vR 35 39 L, vR 20 40 0, vR 21 190 0, vI i] [vI y] A =
    if (0 : Int) ≤ w32 (i + 1) ∧ w32 (i + 1) < (L : Int) then
      if (0 : Int) ≤ w32 (i + 2) ∧ w32 (i + 2) < (L : Int) then
        if (0 : Int) ≤ w32 (i + 3) ∧ w32 (i + 3) < (L : Int) then
          if (0 : Int) ≤ w32 (i + 4) ∧ w32 (i + 4) < (L : Int) then
            cI (S 240 [vR 21 190 0, vI (gi A 39 ((w32 (i + 1)).toNat)), vI (gi A 39 ((w32 (i + 2)).toNat)), vI (gi A 39 ((w32 (i + 3)).toNat)), vI (gi A 39 ((w32 (i + 4)).toNat))] A) fun r60 A59 =>
            if y = r60 then
              jp 1055 [vR 35 39 L, vR 20 40 0, vR 21 190 0, vI i] [] A59
            else
            some (some (vI 0), A59)
          else none
        else none
      else none
    else none := rfl
def lw1_632 : List EI := [e0 (.aload_n 1) 1, e0 (.aload_n 0) 1, e0 (.iload_n 3) 1, e0 (.iconst 1) 1, e0 .iadd 1, e0 .iaload 1, e0 (.aload_n 0) 1, e0 (.iload_n 3) 1, e0 (.iconst 2) 1, e0 .iadd 1, e0 .iaload 1, (.invokevirtual 81, 3, 124, 3, 10, 0, 0, 0)]
def lw2_632 : List EI := [e0 (.aload_n 2) 1, e0 (.aload_n 0) 1, e0 (.iload_n 3) 1, e0 (.iconst 1) 1, e0 .iadd 1, e0 .iaload 1, e0 (.aload_n 0) 1, e0 (.iload_n 3) 1, e0 (.iconst 2) 1, e0 .iadd 1, e0 .iaload 1, (.invokevirtual 84, 3, 242, 3, 11, 0, 0, 0), e1 (.if_icmp .eq 395) 3 1055, e0 (.iconst 0) 1, e0 .ireturn 1]
set_option maxRecDepth 100000 in
theorem b1_632 (S SN : SX) (jp : Nat → NX) (L : Nat) (i : Int) (A : AH) : blk true 2 S SN jp lw1_632 632 [vR 35 39 L, vR 20 40 0, vR 21 190 0, vI i] [] A =
    if (0 : Int) ≤ w32 (i + 1) ∧ w32 (i + 1) < (L : Int) then
      if (0 : Int) ≤ w32 (i + 2) ∧ w32 (i + 2) < (L : Int) then
        cI (S 124 [vR 20 40 0, vI (gi A 39 ((w32 (i + 1)).toNat)), vI (gi A 39 ((w32 (i + 2)).toNat))] A) fun r62 A61 =>
        jp 646 [vR 35 39 L, vR 20 40 0, vR 21 190 0, vI i] [vI r62] A61
      else none
    else none := rfl
set_option maxRecDepth 100000 in
theorem b2_632 (S SN : SX) (jp : Nat → NX) (L : Nat) (i y : Int) (A : AH) : blk true 2 S SN jp lw2_632 646 [vR 35 39 L, vR 20 40 0, vR 21 190 0, vI i] [vI y] A =
    if (0 : Int) ≤ w32 (i + 1) ∧ w32 (i + 1) < (L : Int) then
      if (0 : Int) ≤ w32 (i + 2) ∧ w32 (i + 2) < (L : Int) then
        cI (S 242 [vR 21 190 0, vI (gi A 39 ((w32 (i + 1)).toNat)), vI (gi A 39 ((w32 (i + 2)).toNat))] A) fun r64 A63 =>
        if y = r64 then
          jp 1055 [vR 35 39 L, vR 20 40 0, vR 21 190 0, vI i] [] A63
        else
        some (some (vI 0), A63)
      else none
    else none := rfl
def lw1_665 : List EI := [e0 (.aload_n 1) 1, e0 (.aload_n 0) 1, e0 (.iload_n 3) 1, e0 (.iconst 1) 1, e0 .iadd 1, e0 .iaload 1, e0 (.aload_n 0) 1, e0 (.iload_n 3) 1, e0 (.iconst 2) 1, e0 .iadd 1, e0 .iaload 1, (.invokevirtual 85, 3, 125, 3, 10, 0, 1, 0)]
def lw2_665 : List EI := [e0 (.aload_n 2) 1, e0 (.aload_n 0) 1, e0 (.iload_n 3) 1, e0 (.iconst 1) 1, e0 .iadd 1, e0 .iaload 1, e0 (.aload_n 0) 1, e0 (.iload_n 3) 1, e0 (.iconst 2) 1, e0 .iadd 1, e0 .iaload 1, (.invokevirtual 89, 3, 245, 3, 11, 0, 1, 0), e0 .lcmp 1, e1 (.ifCond .eq 361) 3 1055, e0 (.iconst 0) 1, e0 .ireturn 1]
set_option maxRecDepth 100000 in
theorem b1_665 (S SN : SX) (jp : Nat → NX) (L : Nat) (i : Int) (A : AH) : blk true 2 S SN jp lw1_665 665 [vR 35 39 L, vR 20 40 0, vR 21 190 0, vI i] [] A =
    if (0 : Int) ≤ w32 (i + 1) ∧ w32 (i + 1) < (L : Int) then
      if (0 : Int) ≤ w32 (i + 2) ∧ w32 (i + 2) < (L : Int) then
        cL (S 125 [vR 20 40 0, vI (gi A 39 ((w32 (i + 1)).toNat)), vI (gi A 39 ((w32 (i + 2)).toNat))] A) fun r66 A65 =>
        jp 679 [vR 35 39 L, vR 20 40 0, vR 21 190 0, vI i] [vL r66] A65
      else none
    else none := rfl
set_option maxRecDepth 100000 in
theorem b2_665 (S SN : SX) (jp : Nat → NX) (L : Nat) (i y : Int) (A : AH) : blk true 2 S SN jp lw2_665 679 [vR 35 39 L, vR 20 40 0, vR 21 190 0, vI i] [vL y] A =
    if (0 : Int) ≤ w32 (i + 1) ∧ w32 (i + 1) < (L : Int) then
      if (0 : Int) ≤ w32 (i + 2) ∧ w32 (i + 2) < (L : Int) then
        cL (S 245 [vR 21 190 0, vI (gi A 39 ((w32 (i + 1)).toNat)), vI (gi A 39 ((w32 (i + 2)).toNat))] A) fun r68 A67 =>
        if (lcp y r68) = 0 then
          jp 1055 [vR 35 39 L, vR 20 40 0, vR 21 190 0, vI i] [] A67
        else
        some (some (vI 0), A67)
      else none
    else none := rfl
def lw1_699 : List EI := [e0 (.aload_n 1) 1, e0 (.aload_n 0) 1, e0 (.iload_n 3) 1, e0 (.iconst 1) 1, e0 .iadd 1, e0 .iaload 1, e0 (.aload_n 0) 1, e0 (.iload_n 3) 1, e0 (.iconst 2) 1, e0 .iadd 1, e0 .iaload 1, (.invokevirtual 90, 3, 126, 3, 10, 0, 0, 0)]
def lw2_699 : List EI := [e0 (.aload_n 2) 1, e0 (.aload_n 0) 1, e0 (.iload_n 3) 1, e0 (.iconst 1) 1, e0 .iadd 1, e0 .iaload 1, e0 (.aload_n 0) 1, e0 (.iload_n 3) 1, e0 (.iconst 2) 1, e0 .iadd 1, e0 .iaload 1, (.invokevirtual 93, 3, 247, 3, 11, 0, 0, 0), e1 (.if_icmp .eq 328) 3 1055, e0 (.iconst 0) 1, e0 .ireturn 1]
set_option maxRecDepth 100000 in
theorem b1_699 (S SN : SX) (jp : Nat → NX) (L : Nat) (i : Int) (A : AH) : blk true 2 S SN jp lw1_699 699 [vR 35 39 L, vR 20 40 0, vR 21 190 0, vI i] [] A =
    if (0 : Int) ≤ w32 (i + 1) ∧ w32 (i + 1) < (L : Int) then
      if (0 : Int) ≤ w32 (i + 2) ∧ w32 (i + 2) < (L : Int) then
        cI (S 126 [vR 20 40 0, vI (gi A 39 ((w32 (i + 1)).toNat)), vI (gi A 39 ((w32 (i + 2)).toNat))] A) fun r70 A69 =>
        jp 713 [vR 35 39 L, vR 20 40 0, vR 21 190 0, vI i] [vI r70] A69
      else none
    else none := rfl
set_option maxRecDepth 100000 in
theorem b2_699 (S SN : SX) (jp : Nat → NX) (L : Nat) (i y : Int) (A : AH) : blk true 2 S SN jp lw2_699 713 [vR 35 39 L, vR 20 40 0, vR 21 190 0, vI i] [vI y] A =
    if (0 : Int) ≤ w32 (i + 1) ∧ w32 (i + 1) < (L : Int) then
      if (0 : Int) ≤ w32 (i + 2) ∧ w32 (i + 2) < (L : Int) then
        cI (S 247 [vR 21 190 0, vI (gi A 39 ((w32 (i + 1)).toNat)), vI (gi A 39 ((w32 (i + 2)).toNat))] A) fun r72 A71 =>
        if y = r72 then
          jp 1055 [vR 35 39 L, vR 20 40 0, vR 21 190 0, vI i] [] A71
        else
        some (some (vI 0), A71)
      else none
    else none := rfl
def lw1_732 : List EI := [e0 (.aload_n 1) 1, e0 (.aload_n 0) 1, e0 (.iload_n 3) 1, e0 (.iconst 1) 1, e0 .iadd 1, e0 .iaload 1, e0 (.aload_n 0) 1, e0 (.iload_n 3) 1, e0 (.iconst 2) 1, e0 .iadd 1, e0 .iaload 1, (.invokevirtual 94, 3, 127, 3, 10, 0, 0, 0)]
def lw2_732 : List EI := [e0 (.aload_n 2) 1, e0 (.aload_n 0) 1, e0 (.iload_n 3) 1, e0 (.iconst 1) 1, e0 .iadd 1, e0 .iaload 1, e0 (.aload_n 0) 1, e0 (.iload_n 3) 1, e0 (.iconst 2) 1, e0 .iadd 1, e0 .iaload 1, (.invokevirtual 97, 3, 248, 3, 11, 0, 0, 0), e1 (.if_icmp .eq 295) 3 1055, e0 (.iconst 0) 1, e0 .ireturn 1]
set_option maxRecDepth 100000 in
theorem b1_732 (S SN : SX) (jp : Nat → NX) (L : Nat) (i : Int) (A : AH) : blk true 2 S SN jp lw1_732 732 [vR 35 39 L, vR 20 40 0, vR 21 190 0, vI i] [] A =
    if (0 : Int) ≤ w32 (i + 1) ∧ w32 (i + 1) < (L : Int) then
      if (0 : Int) ≤ w32 (i + 2) ∧ w32 (i + 2) < (L : Int) then
        cI (S 127 [vR 20 40 0, vI (gi A 39 ((w32 (i + 1)).toNat)), vI (gi A 39 ((w32 (i + 2)).toNat))] A) fun r74 A73 =>
        jp 746 [vR 35 39 L, vR 20 40 0, vR 21 190 0, vI i] [vI r74] A73
      else none
    else none := rfl
set_option maxRecDepth 100000 in
theorem b2_732 (S SN : SX) (jp : Nat → NX) (L : Nat) (i y : Int) (A : AH) : blk true 2 S SN jp lw2_732 746 [vR 35 39 L, vR 20 40 0, vR 21 190 0, vI i] [vI y] A =
    if (0 : Int) ≤ w32 (i + 1) ∧ w32 (i + 1) < (L : Int) then
      if (0 : Int) ≤ w32 (i + 2) ∧ w32 (i + 2) < (L : Int) then
        cI (S 248 [vR 21 190 0, vI (gi A 39 ((w32 (i + 1)).toNat)), vI (gi A 39 ((w32 (i + 2)).toNat))] A) fun r76 A75 =>
        if y = r76 then
          jp 1055 [vR 35 39 L, vR 20 40 0, vR 21 190 0, vI i] [] A75
        else
        some (some (vI 0), A75)
      else none
    else none := rfl
def lw1_765 : List EI := [e0 (.aload_n 1) 1, e0 (.aload_n 0) 1, e0 (.iload_n 3) 1, e0 (.iconst 1) 1, e0 .iadd 1, e0 .iaload 1, (.invokevirtual 98, 3, 128, 2, 10, 0, 0, 0)]
def lw2_765 : List EI := [e0 (.aload_n 2) 1, e0 (.aload_n 0) 1, e0 (.iload_n 3) 1, e0 (.iconst 1) 1, e0 .iadd 1, e0 .iaload 1, (.invokevirtual 101, 3, 249, 2, 11, 0, 0, 0), e1 (.if_icmp .eq 272) 3 1055, e0 (.iconst 0) 1, e0 .ireturn 1]
set_option maxRecDepth 100000 in
theorem b1_765 (S SN : SX) (jp : Nat → NX) (L : Nat) (i : Int) (A : AH) : blk true 2 S SN jp lw1_765 765 [vR 35 39 L, vR 20 40 0, vR 21 190 0, vI i] [] A =
    if (0 : Int) ≤ w32 (i + 1) ∧ w32 (i + 1) < (L : Int) then
      cI (S 128 [vR 20 40 0, vI (gi A 39 ((w32 (i + 1)).toNat))] A) fun r78 A77 =>
      jp 774 [vR 35 39 L, vR 20 40 0, vR 21 190 0, vI i] [vI r78] A77
    else none := rfl
set_option maxRecDepth 100000 in
theorem b2_765 (S SN : SX) (jp : Nat → NX) (L : Nat) (i y : Int) (A : AH) : blk true 2 S SN jp lw2_765 774 [vR 35 39 L, vR 20 40 0, vR 21 190 0, vI i] [vI y] A =
    if (0 : Int) ≤ w32 (i + 1) ∧ w32 (i + 1) < (L : Int) then
      cI (S 249 [vR 21 190 0, vI (gi A 39 ((w32 (i + 1)).toNat))] A) fun r80 A79 =>
      if y = r80 then
        jp 1055 [vR 35 39 L, vR 20 40 0, vR 21 190 0, vI i] [] A79
      else
      some (some (vI 0), A79)
    else none := rfl
def lw1_788 : List EI := [e0 (.aload_n 1) 1, e0 (.aload_n 0) 1, e0 (.iload_n 3) 1, e0 (.iconst 1) 1, e0 .iadd 1, e0 .iaload 1, (.invokevirtual 102, 3, 129, 2, 10, 0, 0, 0)]
def lw2_788 : List EI := [e0 (.aload_n 2) 1, e0 (.aload_n 0) 1, e0 (.iload_n 3) 1, e0 (.iconst 1) 1, e0 .iadd 1, e0 .iaload 1, (.invokevirtual 105, 3, 256, 2, 11, 0, 0, 0), e1 (.if_icmp .eq 249) 3 1055, e0 (.iconst 0) 1, e0 .ireturn 1]
set_option maxRecDepth 100000 in
theorem b1_788 (S SN : SX) (jp : Nat → NX) (L : Nat) (i : Int) (A : AH) : blk true 2 S SN jp lw1_788 788 [vR 35 39 L, vR 20 40 0, vR 21 190 0, vI i] [] A =
    if (0 : Int) ≤ w32 (i + 1) ∧ w32 (i + 1) < (L : Int) then
      cI (S 129 [vR 20 40 0, vI (gi A 39 ((w32 (i + 1)).toNat))] A) fun r82 A81 =>
      jp 797 [vR 35 39 L, vR 20 40 0, vR 21 190 0, vI i] [vI r82] A81
    else none := rfl
set_option maxRecDepth 100000 in
theorem b2_788 (S SN : SX) (jp : Nat → NX) (L : Nat) (i y : Int) (A : AH) : blk true 2 S SN jp lw2_788 797 [vR 35 39 L, vR 20 40 0, vR 21 190 0, vI i] [vI y] A =
    if (0 : Int) ≤ w32 (i + 1) ∧ w32 (i + 1) < (L : Int) then
      cI (S 256 [vR 21 190 0, vI (gi A 39 ((w32 (i + 1)).toNat))] A) fun r84 A83 =>
      if y = r84 then
        jp 1055 [vR 35 39 L, vR 20 40 0, vR 21 190 0, vI i] [] A83
      else
      some (some (vI 0), A83)
    else none := rfl
def lw1_811 : List EI := [e0 (.aload_n 1) 1, e0 (.aload_n 0) 1, e0 (.iload_n 3) 1, e0 (.iconst 1) 1, e0 .iadd 1, e0 .iaload 1, (.invokevirtual 106, 3, 130, 2, 10, 0, 0, 0)]
def lw2_811 : List EI := [e0 (.aload_n 2) 1, e0 (.aload_n 0) 1, e0 (.iload_n 3) 1, e0 (.iconst 1) 1, e0 .iadd 1, e0 .iaload 1, (.invokevirtual 109, 3, 258, 2, 11, 0, 0, 0), e1 (.if_icmp .eq 226) 3 1055, e0 (.iconst 0) 1, e0 .ireturn 1]
set_option maxRecDepth 100000 in
theorem b1_811 (S SN : SX) (jp : Nat → NX) (L : Nat) (i : Int) (A : AH) : blk true 2 S SN jp lw1_811 811 [vR 35 39 L, vR 20 40 0, vR 21 190 0, vI i] [] A =
    if (0 : Int) ≤ w32 (i + 1) ∧ w32 (i + 1) < (L : Int) then
      cI (S 130 [vR 20 40 0, vI (gi A 39 ((w32 (i + 1)).toNat))] A) fun r86 A85 =>
      jp 820 [vR 35 39 L, vR 20 40 0, vR 21 190 0, vI i] [vI r86] A85
    else none := rfl
set_option maxRecDepth 100000 in
theorem b2_811 (S SN : SX) (jp : Nat → NX) (L : Nat) (i y : Int) (A : AH) : blk true 2 S SN jp lw2_811 820 [vR 35 39 L, vR 20 40 0, vR 21 190 0, vI i] [vI y] A =
    if (0 : Int) ≤ w32 (i + 1) ∧ w32 (i + 1) < (L : Int) then
      cI (S 258 [vR 21 190 0, vI (gi A 39 ((w32 (i + 1)).toNat))] A) fun r88 A87 =>
      if y = r88 then
        jp 1055 [vR 35 39 L, vR 20 40 0, vR 21 190 0, vI i] [] A87
      else
      some (some (vI 0), A87)
    else none := rfl
def lw1_834 : List EI := [e0 (.aload_n 1) 1, e0 (.aload_n 0) 1, e0 (.iload_n 3) 1, e0 (.iconst 1) 1, e0 .iadd 1, e0 .iaload 1, e0 (.aload_n 0) 1, e0 (.iload_n 3) 1, e0 (.iconst 2) 1, e0 .iadd 1, e0 .iaload 1, (.invokevirtual 110, 3, 131, 3, 10, 0, 0, 0)]
def lw2_834 : List EI := [e0 (.aload_n 2) 1, e0 (.aload_n 0) 1, e0 (.iload_n 3) 1, e0 (.iconst 1) 1, e0 .iadd 1, e0 .iaload 1, e0 (.aload_n 0) 1, e0 (.iload_n 3) 1, e0 (.iconst 2) 1, e0 .iadd 1, e0 .iaload 1, (.invokevirtual 114, 3, 259, 3, 11, 0, 0, 0), e1 (.if_icmp .eq 193) 3 1055, e0 (.iconst 0) 1, e0 .ireturn 1]
set_option maxRecDepth 100000 in
theorem b1_834 (S SN : SX) (jp : Nat → NX) (L : Nat) (i : Int) (A : AH) : blk true 2 S SN jp lw1_834 834 [vR 35 39 L, vR 20 40 0, vR 21 190 0, vI i] [] A =
    if (0 : Int) ≤ w32 (i + 1) ∧ w32 (i + 1) < (L : Int) then
      if (0 : Int) ≤ w32 (i + 2) ∧ w32 (i + 2) < (L : Int) then
        cI (S 131 [vR 20 40 0, vI (gi A 39 ((w32 (i + 1)).toNat)), vI (gi A 39 ((w32 (i + 2)).toNat))] A) fun r90 A89 =>
        jp 848 [vR 35 39 L, vR 20 40 0, vR 21 190 0, vI i] [vI r90] A89
      else none
    else none := rfl
set_option maxRecDepth 100000 in
theorem b2_834 (S SN : SX) (jp : Nat → NX) (L : Nat) (i y : Int) (A : AH) : blk true 2 S SN jp lw2_834 848 [vR 35 39 L, vR 20 40 0, vR 21 190 0, vI i] [vI y] A =
    if (0 : Int) ≤ w32 (i + 1) ∧ w32 (i + 1) < (L : Int) then
      if (0 : Int) ≤ w32 (i + 2) ∧ w32 (i + 2) < (L : Int) then
        cI (S 259 [vR 21 190 0, vI (gi A 39 ((w32 (i + 1)).toNat)), vI (gi A 39 ((w32 (i + 2)).toNat))] A) fun r92 A91 =>
        if y = r92 then
          jp 1055 [vR 35 39 L, vR 20 40 0, vR 21 190 0, vI i] [] A91
        else
        some (some (vI 0), A91)
      else none
    else none := rfl
def lw1_867 : List EI := [e0 (.aload_n 1) 1, e0 (.aload_n 0) 1, e0 (.iload_n 3) 1, e0 (.iconst 1) 1, e0 .iadd 1, e0 .iaload 1, e0 (.aload_n 0) 1, e0 (.iload_n 3) 1, e0 (.iconst 2) 1, e0 .iadd 1, e0 .iaload 1, e0 (.aload_n 0) 1, e0 (.iload_n 3) 1, e0 (.iconst 3) 1, e0 .iadd 1, e0 .iaload 1, (.invokevirtual 115, 3, 132, 4, 10, 0, 0, 0)]
def lw2_867 : List EI := [e0 (.aload_n 2) 1, e0 (.aload_n 0) 1, e0 (.iload_n 3) 1, e0 (.iconst 1) 1, e0 .iadd 1, e0 .iaload 1, e0 (.aload_n 0) 1, e0 (.iload_n 3) 1, e0 (.iconst 2) 1, e0 .iadd 1, e0 .iaload 1, e0 (.aload_n 0) 1, e0 (.iload_n 3) 1, e0 (.iconst 3) 1, e0 .iadd 1, e0 .iaload 1, (.invokevirtual 119, 3, 260, 4, 11, 0, 0, 0), e1 (.if_icmp .eq 150) 3 1055, e0 (.iconst 0) 1, e0 .ireturn 1]
set_option maxRecDepth 100000 in
theorem b1_867 (S SN : SX) (jp : Nat → NX) (L : Nat) (i : Int) (A : AH) : blk true 2 S SN jp lw1_867 867 [vR 35 39 L, vR 20 40 0, vR 21 190 0, vI i] [] A =
    if (0 : Int) ≤ w32 (i + 1) ∧ w32 (i + 1) < (L : Int) then
      if (0 : Int) ≤ w32 (i + 2) ∧ w32 (i + 2) < (L : Int) then
        if (0 : Int) ≤ w32 (i + 3) ∧ w32 (i + 3) < (L : Int) then
          cI (S 132 [vR 20 40 0, vI (gi A 39 ((w32 (i + 1)).toNat)), vI (gi A 39 ((w32 (i + 2)).toNat)), vI (gi A 39 ((w32 (i + 3)).toNat))] A) fun r94 A93 =>
          jp 886 [vR 35 39 L, vR 20 40 0, vR 21 190 0, vI i] [vI r94] A93
        else none
      else none
    else none := rfl
set_option maxRecDepth 100000 in
theorem b2_867 (S SN : SX) (jp : Nat → NX) (L : Nat) (i y : Int) (A : AH) : blk true 2 S SN jp lw2_867 886 [vR 35 39 L, vR 20 40 0, vR 21 190 0, vI i] [vI y] A =
    if (0 : Int) ≤ w32 (i + 1) ∧ w32 (i + 1) < (L : Int) then
      if (0 : Int) ≤ w32 (i + 2) ∧ w32 (i + 2) < (L : Int) then
        if (0 : Int) ≤ w32 (i + 3) ∧ w32 (i + 3) < (L : Int) then
          cI (S 260 [vR 21 190 0, vI (gi A 39 ((w32 (i + 1)).toNat)), vI (gi A 39 ((w32 (i + 2)).toNat)), vI (gi A 39 ((w32 (i + 3)).toNat))] A) fun r96 A95 =>
          if y = r96 then
            jp 1055 [vR 35 39 L, vR 20 40 0, vR 21 190 0, vI i] [] A95
          else
          some (some (vI 0), A95)
        else none
      else none
    else none := rfl
def lw1_910 : List EI := [e0 (.aload_n 1) 1, e0 (.aload_n 0) 1, e0 (.iload_n 3) 1, e0 (.iconst 1) 1, e0 .iadd 1, e0 .iaload 1, (.invokevirtual 120, 3, 133, 2, 10, 0, 0, 0)]
def lw2_910 : List EI := [e0 (.aload_n 2) 1, e0 (.aload_n 0) 1, e0 (.iload_n 3) 1, e0 (.iconst 1) 1, e0 .iadd 1, e0 .iaload 1, (.invokevirtual 123, 3, 261, 2, 11, 0, 0, 0), e1 (.if_icmp .eq 127) 3 1055, e0 (.iconst 0) 1, e0 .ireturn 1]
set_option maxRecDepth 100000 in
theorem b1_910 (S SN : SX) (jp : Nat → NX) (L : Nat) (i : Int) (A : AH) : blk true 2 S SN jp lw1_910 910 [vR 35 39 L, vR 20 40 0, vR 21 190 0, vI i] [] A =
    if (0 : Int) ≤ w32 (i + 1) ∧ w32 (i + 1) < (L : Int) then
      cI (S 133 [vR 20 40 0, vI (gi A 39 ((w32 (i + 1)).toNat))] A) fun r98 A97 =>
      jp 919 [vR 35 39 L, vR 20 40 0, vR 21 190 0, vI i] [vI r98] A97
    else none := rfl
set_option maxRecDepth 100000 in
theorem b2_910 (S SN : SX) (jp : Nat → NX) (L : Nat) (i y : Int) (A : AH) : blk true 2 S SN jp lw2_910 919 [vR 35 39 L, vR 20 40 0, vR 21 190 0, vI i] [vI y] A =
    if (0 : Int) ≤ w32 (i + 1) ∧ w32 (i + 1) < (L : Int) then
      cI (S 261 [vR 21 190 0, vI (gi A 39 ((w32 (i + 1)).toNat))] A) fun r100 A99 =>
      if y = r100 then
        jp 1055 [vR 35 39 L, vR 20 40 0, vR 21 190 0, vI i] [] A99
      else
      some (some (vI 0), A99)
    else none := rfl
def lw1_933 : List EI := [e0 (.aload_n 1) 1, (.invokevirtual 124, 3, 134, 1, 10, 0, 0, 0)]
def lw2_933 : List EI := [e0 (.aload_n 2) 1, (.invokevirtual 128, 3, 251, 1, 11, 0, 0, 0), e1 (.if_icmp .eq 114) 3 1055, e0 (.iconst 0) 1, e0 .ireturn 1]
set_option maxRecDepth 100000 in
theorem b1_933 (S SN : SX) (jp : Nat → NX) (L : Nat) (i : Int) (A : AH) : blk true 2 S SN jp lw1_933 933 [vR 35 39 L, vR 20 40 0, vR 21 190 0, vI i] [] A =
    cI (S 134 [vR 20 40 0] A) fun r102 A101 =>
    jp 937 [vR 35 39 L, vR 20 40 0, vR 21 190 0, vI i] [vI r102] A101 := rfl
set_option maxRecDepth 100000 in
theorem b2_933 (S SN : SX) (jp : Nat → NX) (L : Nat) (i y : Int) (A : AH) : blk true 2 S SN jp lw2_933 937 [vR 35 39 L, vR 20 40 0, vR 21 190 0, vI i] [vI y] A =
    cI (S 251 [vR 21 190 0] A) fun r104 A103 =>
    if y = r104 then
      jp 1055 [vR 35 39 L, vR 20 40 0, vR 21 190 0, vI i] [] A103
    else
    some (some (vI 0), A103) := rfl
def lw1_946 : List EI := [e0 (.aload_n 1) 1, e0 (.aload_n 0) 1, e0 (.iload_n 3) 1, e0 (.iconst 1) 1, e0 .iadd 1, e0 .iaload 1, (.invokevirtual 129, 3, 135, 2, 10, 0, 0, 0)]
def lw2_946 : List EI := [e0 (.aload_n 2) 1, e0 (.aload_n 0) 1, e0 (.iload_n 3) 1, e0 (.iconst 1) 1, e0 .iadd 1, e0 .iaload 1, (.invokevirtual 132, 3, 252, 2, 11, 0, 0, 0), e1 (.if_icmp .eq 91) 3 1055, e0 (.iconst 0) 1, e0 .ireturn 1]
set_option maxRecDepth 100000 in
theorem b1_946 (S SN : SX) (jp : Nat → NX) (L : Nat) (i : Int) (A : AH) : blk true 2 S SN jp lw1_946 946 [vR 35 39 L, vR 20 40 0, vR 21 190 0, vI i] [] A =
    if (0 : Int) ≤ w32 (i + 1) ∧ w32 (i + 1) < (L : Int) then
      cI (S 135 [vR 20 40 0, vI (gi A 39 ((w32 (i + 1)).toNat))] A) fun r106 A105 =>
      jp 955 [vR 35 39 L, vR 20 40 0, vR 21 190 0, vI i] [vI r106] A105
    else none := rfl
set_option maxRecDepth 100000 in
theorem b2_946 (S SN : SX) (jp : Nat → NX) (L : Nat) (i y : Int) (A : AH) : blk true 2 S SN jp lw2_946 955 [vR 35 39 L, vR 20 40 0, vR 21 190 0, vI i] [vI y] A =
    if (0 : Int) ≤ w32 (i + 1) ∧ w32 (i + 1) < (L : Int) then
      cI (S 252 [vR 21 190 0, vI (gi A 39 ((w32 (i + 1)).toNat))] A) fun r108 A107 =>
      if y = r108 then
        jp 1055 [vR 35 39 L, vR 20 40 0, vR 21 190 0, vI i] [] A107
      else
      some (some (vI 0), A107)
    else none := rfl
def lw1_969 : List EI := [e0 (.aload_n 1) 1, (.invokevirtual 133, 3, 136, 1, 10, 0, 1, 0)]
def lw2_969 : List EI := [e0 (.aload_n 2) 1, (.invokevirtual 137, 3, 290, 1, 11, 0, 1, 0), e0 .lcmp 1, e1 (.ifCond .eq 77) 3 1055, e0 (.iconst 0) 1, e0 .ireturn 1]
set_option maxRecDepth 100000 in
theorem b1_969 (S SN : SX) (jp : Nat → NX) (L : Nat) (i : Int) (A : AH) : blk true 2 S SN jp lw1_969 969 [vR 35 39 L, vR 20 40 0, vR 21 190 0, vI i] [] A =
    cL (S 136 [vR 20 40 0] A) fun r110 A109 =>
    jp 973 [vR 35 39 L, vR 20 40 0, vR 21 190 0, vI i] [vL r110] A109 := rfl
set_option maxRecDepth 100000 in
theorem b2_969 (S SN : SX) (jp : Nat → NX) (L : Nat) (i y : Int) (A : AH) : blk true 2 S SN jp lw2_969 973 [vR 35 39 L, vR 20 40 0, vR 21 190 0, vI i] [vL y] A =
    cL (S 290 [vR 21 190 0] A) fun r112 A111 =>
    if (lcp y r112) = 0 then
      jp 1055 [vR 35 39 L, vR 20 40 0, vR 21 190 0, vI i] [] A111
    else
    some (some (vI 0), A111) := rfl
def lw1_983 : List EI := [e0 (.aload_n 1) 1, (.invokevirtual 138, 3, 137, 1, 10, 0, 0, 0)]
def lw2_983 : List EI := [e0 (.aload_n 2) 1, (.invokevirtual 141, 3, 293, 1, 11, 0, 0, 0), e1 (.if_icmp .eq 64) 3 1055, e0 (.iconst 0) 1, e0 .ireturn 1]
set_option maxRecDepth 100000 in
theorem b1_983 (S SN : SX) (jp : Nat → NX) (L : Nat) (i : Int) (A : AH) : blk true 2 S SN jp lw1_983 983 [vR 35 39 L, vR 20 40 0, vR 21 190 0, vI i] [] A =
    cI (S 137 [vR 20 40 0] A) fun r114 A113 =>
    jp 987 [vR 35 39 L, vR 20 40 0, vR 21 190 0, vI i] [vI r114] A113 := rfl
set_option maxRecDepth 100000 in
theorem b2_983 (S SN : SX) (jp : Nat → NX) (L : Nat) (i y : Int) (A : AH) : blk true 2 S SN jp lw2_983 987 [vR 35 39 L, vR 20 40 0, vR 21 190 0, vI i] [vI y] A =
    cI (S 293 [vR 21 190 0] A) fun r116 A115 =>
    if y = r116 then
      jp 1055 [vR 35 39 L, vR 20 40 0, vR 21 190 0, vI i] [] A115
    else
    some (some (vI 0), A115) := rfl
def lw1_996 : List EI := [e0 (.aload_n 1) 1, e0 (.aload_n 0) 1, e0 (.iload_n 3) 1, e0 (.iconst 1) 1, e0 .iadd 1, e0 .iaload 1, (.invokevirtual 142, 3, 138, 2, 10, 0, 0, 0)]
def lw2_996 : List EI := [e0 (.aload_n 2) 1, e0 (.aload_n 0) 1, e0 (.iload_n 3) 1, e0 (.iconst 1) 1, e0 .iadd 1, e0 .iaload 1, (.invokevirtual 145, 3, 294, 2, 11, 0, 0, 0), e1 (.if_icmp .eq 41) 3 1055, e0 (.iconst 0) 1, e0 .ireturn 1]
set_option maxRecDepth 100000 in
theorem b1_996 (S SN : SX) (jp : Nat → NX) (L : Nat) (i : Int) (A : AH) : blk true 2 S SN jp lw1_996 996 [vR 35 39 L, vR 20 40 0, vR 21 190 0, vI i] [] A =
    if (0 : Int) ≤ w32 (i + 1) ∧ w32 (i + 1) < (L : Int) then
      cI (S 138 [vR 20 40 0, vI (gi A 39 ((w32 (i + 1)).toNat))] A) fun r118 A117 =>
      jp 1005 [vR 35 39 L, vR 20 40 0, vR 21 190 0, vI i] [vI r118] A117
    else none := rfl
set_option maxRecDepth 100000 in
theorem b2_996 (S SN : SX) (jp : Nat → NX) (L : Nat) (i y : Int) (A : AH) : blk true 2 S SN jp lw2_996 1005 [vR 35 39 L, vR 20 40 0, vR 21 190 0, vI i] [vI y] A =
    if (0 : Int) ≤ w32 (i + 1) ∧ w32 (i + 1) < (L : Int) then
      cI (S 294 [vR 21 190 0, vI (gi A 39 ((w32 (i + 1)).toNat))] A) fun r120 A119 =>
      if y = r120 then
        jp 1055 [vR 35 39 L, vR 20 40 0, vR 21 190 0, vI i] [] A119
      else
      some (some (vI 0), A119)
    else none := rfl
def lw1_1019 : List EI := [e0 (.aload_n 1) 1, (.invokevirtual 146, 3, 139, 1, 10, 0, 0, 0)]
def lw2_1019 : List EI := [e0 (.aload_n 2) 1, (.invokevirtual 149, 3, 299, 1, 11, 0, 0, 0), e1 (.if_icmp .eq 28) 3 1055, e0 (.iconst 0) 1, e0 .ireturn 1]
set_option maxRecDepth 100000 in
theorem b1_1019 (S SN : SX) (jp : Nat → NX) (L : Nat) (i : Int) (A : AH) : blk true 2 S SN jp lw1_1019 1019 [vR 35 39 L, vR 20 40 0, vR 21 190 0, vI i] [] A =
    cI (S 139 [vR 20 40 0] A) fun r122 A121 =>
    jp 1023 [vR 35 39 L, vR 20 40 0, vR 21 190 0, vI i] [vI r122] A121 := rfl
set_option maxRecDepth 100000 in
theorem b2_1019 (S SN : SX) (jp : Nat → NX) (L : Nat) (i y : Int) (A : AH) : blk true 2 S SN jp lw2_1019 1023 [vR 35 39 L, vR 20 40 0, vR 21 190 0, vI i] [vI y] A =
    cI (S 299 [vR 21 190 0] A) fun r124 A123 =>
    if y = r124 then
      jp 1055 [vR 35 39 L, vR 20 40 0, vR 21 190 0, vI i] [] A123
    else
    some (some (vI 0), A123) := rfl
def lw1_1032 : List EI := [e0 (.aload_n 1) 1, e0 (.aload_n 0) 1, e0 (.iload_n 3) 1, e0 (.iconst 1) 1, e0 .iadd 1, e0 .iaload 1, (.invokevirtual 150, 3, 140, 2, 10, 0, 0, 0)]
def lw2_1032 : List EI := [e0 (.aload_n 2) 1, e0 (.aload_n 0) 1, e0 (.iload_n 3) 1, e0 (.iconst 1) 1, e0 .iadd 1, e0 .iaload 1, (.invokevirtual 153, 3, 300, 2, 11, 0, 0, 0), e1 (.if_icmp .eq 5) 3 1055, e0 (.iconst 0) 1, e0 .ireturn 1]
set_option maxRecDepth 100000 in
theorem b1_1032 (S SN : SX) (jp : Nat → NX) (L : Nat) (i : Int) (A : AH) : blk true 2 S SN jp lw1_1032 1032 [vR 35 39 L, vR 20 40 0, vR 21 190 0, vI i] [] A =
    if (0 : Int) ≤ w32 (i + 1) ∧ w32 (i + 1) < (L : Int) then
      cI (S 140 [vR 20 40 0, vI (gi A 39 ((w32 (i + 1)).toNat))] A) fun r126 A125 =>
      jp 1041 [vR 35 39 L, vR 20 40 0, vR 21 190 0, vI i] [vI r126] A125
    else none := rfl
set_option maxRecDepth 100000 in
theorem b2_1032 (S SN : SX) (jp : Nat → NX) (L : Nat) (i y : Int) (A : AH) : blk true 2 S SN jp lw2_1032 1041 [vR 35 39 L, vR 20 40 0, vR 21 190 0, vI i] [vI y] A =
    if (0 : Int) ≤ w32 (i + 1) ∧ w32 (i + 1) < (L : Int) then
      cI (S 300 [vR 21 190 0, vI (gi A 39 ((w32 (i + 1)).toNat))] A) fun r128 A127 =>
      if y = r128 then
        jp 1055 [vR 35 39 L, vR 20 40 0, vR 21 190 0, vI i] [] A127
      else
      some (some (vI 0), A127)
    else none := rfl
def lw_1055 : List EI := [e0 (.iinc 3 6) 3, e1 (.goto (-1040)) 3 18]
set_option maxRecDepth 100000 in
theorem b_1055 (S SN : SX) (jp : Nat → NX) (L : Nat) (i : Int) (A : AH) : blk true 2 S SN jp lw_1055 1055 [vR 35 39 L, vR 20 40 0, vR 21 190 0, vI i] [] A =
    jp 18 [vR 35 39 L, vR 20 40 0, vR 21 190 0, vI (w32 (i + 6))] [] A := rfl
def lw_1061 : List EI := [e0 (.iconst 1) 1, e0 .ireturn 1]
set_option maxRecDepth 100000 in
theorem q_L_law_1061 (S SN : SX) (n : Nat) (L : Nat) (i : Int) (A : AH) : go true 2 S SN pb_L_law (n + 1) 1061 [vR 35 39 L, vR 20 40 0, vR 21 190 0, vI i] [] A = some (some (vI 1), A) := rfl
