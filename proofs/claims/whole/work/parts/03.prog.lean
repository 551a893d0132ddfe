/-! the methods: blocks of decoded instructions, what they resolve to -/
set_option maxRecDepth 100000 in
def pb_X0_init : List (Nat × List EI) := [(0, [e0 (.aload_n 0) 1, (.invokespecial 3, 3, 0, 1, 0, 9, 3, 0), e0 (.aload_n 0) 1, e0 (.iconst 1) 1, (.putfield 9, 3, 0, 2, 2, 0, 0, 0), e0 (.aload_n 0) 1, e0 (.iconst 0) 1, (.putfield 15, 3, 0, 3, 2, 0, 0, 0), e0 (.aload_n 0) 1, e0 (.iconst (-1)) 1, (.putfield 18, 3, 0, 4, 0, 0, 0, 0), e0 (.aload_n 0) 1, e0 (.iconst (-1)) 1, (.putfield 22, 3, 0, 5, 0, 0, 0, 0), e0 (.aload_n 0) 1, e0 (.iconst 0) 1, (.putfield 25, 3, 0, 6, 0, 0, 0, 0), e0 (.aload_n 0) 1, e0 (.bipush 10) 2, e0 (.newarray .int) 2, (.putfield 28, 3, 0, 7, 30, 181, 10, 1), e0 (.aload_n 0) 1, e0 (.bipush 16) 2, e0 (.newarray .int) 2, (.putfield 32, 3, 0, 8, 30, 182, 16, 1), e0 (.aload_n 0) 1, e0 (.bipush 16) 2, e0 (.newarray .int) 2, (.putfield 35, 3, 0, 9, 30, 183, 16, 1), e0 (.aload_n 0) 1, e0 (.bipush 64) 2, e0 (.newarray .int) 2, (.putfield 38, 3, 0, 10, 30, 184, 64, 1), e0 (.aload_n 0) 1, e0 (.iconst 0) 1, (.putfield 41, 3, 0, 11, 0, 0, 0, 0), e0 (.aload_n 0) 1, e0 (.aload_n 1) 1, (.putfield 44, 3, 0, 0, 13, 0, 0, 0), e0 (.aload_n 0) 1, e0 (.aload_n 2) 1, (.putfield 48, 3, 0, 1, 19, 0, 0, 0), e0 .return_ 1])]

set_option maxRecDepth 100000 in
def pb_X0_look : List (Nat × List EI) := [(0, [e0 (.aload_n 0) 1, e0 (.aload_n 1) 1, (.putfield 44, 3, 0, 0, 13, 0, 0, 0), e0 (.aload_n 0) 1, e0 (.aload_n 2) 1, (.putfield 48, 3, 0, 1, 19, 0, 0, 0)]),
  (10, [e0 (.aload_n 0) 1, e0 (.aload_n 0) 1, (.getfield 44, 3, 0, 0, 13, 0, 0, 0), (.getfield 52, 3, 3, 18, 2, 0, 0, 0), e1 (.ifCond .ne 7) 3 25, e0 (.iconst 1) 1, e1 (.goto 4) 3 26]),
  (25, [e0 (.iconst 0) 1]),
  (26, [(.putfield 9, 3, 0, 2, 2, 0, 0, 0), e0 (.aload_n 0) 1, e0 (.aload_n 0) 1, (.getfield 48, 3, 0, 1, 19, 0, 0, 0), e1 (.getfield 57) 3 9, e0 (.aload_n 0) 1, (.getfield 48, 3, 0, 1, 19, 0, 0, 0), (.getfield 60, 3, 9, 2, 0, 0, 0, 0), e0 (.iconst (-1)) 1, (.invokevirtual 61, 3, 2, 4, 0, 0, 3, 0), e0 .return_ 1])]

set_option maxRecDepth 100000 in
def pb_X0_suppose : List (Nat × List EI) := [(0, [e0 (.aload_n 0) 1, e0 (.iload_n 1) 1, (.putfield 25, 3, 0, 6, 0, 0, 0, 0), e0 (.aload_n 0) 1, e0 (.iload_n 2) 1, (.putfield 22, 3, 0, 5, 0, 0, 0, 0)]),
  (10, [e0 (.aload_n 0) 1, e0 (.iload_n 3) 1, (.putfield 18, 3, 0, 4, 0, 0, 0, 0), e0 (.aload_n 0) 1, e0 (.iconst 0) 1, (.putfield 15, 3, 0, 3, 2, 0, 0, 0)]),
  (20, [e0 .return_ 1])]

set_option maxRecDepth 100000 in
def pb_X0_tally : List (Nat × List EI) := [(0, [e0 (.aload_n 0) 1, (.getfield 9, 3, 0, 2, 2, 0, 0, 0), e1 (.ifCond .eq 21) 3 25, e0 (.aload_n 0) 1, (.getfield 44, 3, 0, 0, 13, 0, 0, 0), e0 (.aload_n 0) 1, (.getfield 25, 3, 0, 6, 0, 0, 0, 0), (.invokevirtual 65, 3, 50, 2, 3, 0, 0, 0), e1 (.ifCond .ne 7) 3 25, e0 (.iconst 1) 1, e1 (.goto 4) 3 26]),
  (25, [e0 (.iconst 0) 1]),
  (26, [e0 (.istore_n 1) 1, e0 (.iload_n 1) 1, e1 (.ifCond .eq 11) 3 39, e0 (.aload_n 0) 1, (.getfield 15, 3, 0, 3, 2, 0, 0, 0), e1 (.ifCond .eq 4) 3 39, e0 .return_ 1]),
  (39, [e0 (.aload_n 0) 1, e0 (.iload_n 1) 1, (.putfield 15, 3, 0, 3, 2, 0, 0, 0), e0 (.iconst 0) 1, e0 (.istore_n 2) 1]),
  (46, [e0 (.iload_n 2) 1, e0 (.bipush 16) 2, e1 (.if_icmp .ge 45) 3 94, e0 (.aload_n 0) 1, (.getfield 48, 3, 0, 1, 19, 0, 0, 0), e0 (.iload_n 2) 1, (.invokevirtual 69, 3, 98, 2, 9, 0, 0, 0), e1 (.ifCond .eq 28) 3 88, e0 (.aload_n 0) 1, e0 (.iload_n 2) 1, (.invokevirtual 72, 3, 4, 2, 0, 0, 3, 0), e0 (.aload_n 0) 1, (.getfield 32, 3, 0, 8, 30, 182, 16, 1), e0 (.iload_n 2) 1, e0 (.aload_n 0) 1, (.invokevirtual 76, 3, 5, 1, 0, 0, 0, 0), e0 .iastore 1]),
  (78, [e0 (.aload_n 0) 1, (.getfield 35, 3, 0, 9, 30, 183, 16, 1), e0 (.iload_n 2) 1, e0 (.aload_n 0) 1, (.invokevirtual 80, 3, 6, 1, 0, 0, 0, 0), e0 .iastore 1]),
  (88, [e0 (.iinc 2 1) 3, e1 (.goto (-45)) 3 46]),
  (94, [e0 .return_ 1])]

set_option maxRecDepth 100000 in
def pb_X0_regard : List (Nat × List EI) := [(0, [e0 (.aload_n 0) 1, (.getfield 48, 3, 0, 1, 19, 0, 0, 0), (.getfield 83, 3, 9, 3, 30, 1, 16, 0), e0 (.iload_n 1) 1, e0 .iaload 1, e0 (.istore_n 2) 1, e0 (.aload_n 0) 1, (.getfield 48, 3, 0, 1, 19, 0, 0, 0), (.getfield 86, 3, 9, 4, 30, 2, 16, 0), e0 (.iload_n 1) 1, e0 .iaload 1, e0 (.istore_n 3) 1, e0 (.aload_n 0) 1, (.getfield 48, 3, 0, 1, 19, 0, 0, 0), e0 (.iload_n 2) 1, e0 (.iconst 1) 1, e0 .isub 1, (.invokevirtual 89, 3, 99, 2, 9, 0, 0, 0), e0 (.istore 4) 2, e0 (.aload_n 0) 1, (.getfield 48, 3, 0, 1, 19, 0, 0, 0), e0 (.iload_n 2) 1, e0 (.iconst 1) 1, e0 .iadd 1, (.invokevirtual 89, 3, 99, 2, 9, 0, 0, 0), e0 (.istore 5) 2]),
  (44, [e0 (.aload_n 0) 1, (.getfield 28, 3, 0, 7, 30, 181, 10, 1), e0 (.iconst 0) 1, e0 (.aload_n 0) 1, (.getfield 44, 3, 0, 0, 13, 0, 0, 0), (.getfield 93, 3, 3, 8, 30, 2, 16, 0), e0 (.iload_n 1) 1, e0 .iaload 1, e0 .iastore 1]),
  (59, [e0 (.aload_n 0) 1, (.getfield 28, 3, 0, 7, 30, 181, 10, 1), e0 (.iconst 1) 1, e0 (.aload_n 0) 1, (.getfield 44, 3, 0, 0, 13, 0, 0, 0), (.getfield 96, 3, 3, 9, 30, 3, 16, 0), e0 (.iload_n 1) 1, e0 .iaload 1, e0 .iastore 1]),
  (74, [e0 (.aload_n 0) 1, (.getfield 28, 3, 0, 7, 30, 181, 10, 1), e0 (.iconst 2) 1, e0 (.iload 4) 2, e0 (.iconst (-1)) 1, e1 (.if_icmp .eq 7) 3 89, e0 (.iconst 1) 1, e1 (.goto 4) 3 90]),
  (89, [e0 (.iconst 0) 1]),
  (90, [e0 (.iload 5) 2, e0 (.iconst (-1)) 1, e1 (.if_icmp .eq 7) 3 100, e0 (.iconst 1) 1, e1 (.goto 4) 3 101]),
  (100, [e0 (.iconst 0) 1]),
  (101, [e0 .iadd 1, e0 .iastore 1, e0 (.aload_n 0) 1, (.getfield 28, 3, 0, 7, 30, 181, 10, 1), e0 (.iconst 3) 1, e0 (.iload 4) 2, e0 (.iconst (-1)) 1, e1 (.if_icmp .eq 20) 3 131, e0 (.aload_n 0) 1, (.getfield 44, 3, 0, 0, 13, 0, 0, 0), e0 (.iload_n 1) 1, e0 (.iload 4) 2, (.invokevirtual 99, 3, 51, 3, 3, 0, 0, 0), e1 (.ifCond .eq 7) 3 131, e0 (.iconst 1) 1, e1 (.goto 4) 3 132]),
  (131, [e0 (.iconst 0) 1]),
  (132, [e0 (.iload 5) 2, e0 (.iconst (-1)) 1, e1 (.if_icmp .eq 20) 3 155, e0 (.aload_n 0) 1, (.getfield 44, 3, 0, 0, 13, 0, 0, 0), e0 (.iload_n 1) 1, e0 (.iload 5) 2, (.invokevirtual 99, 3, 51, 3, 3, 0, 0, 0), e1 (.ifCond .eq 7) 3 155, e0 (.iconst 1) 1, e1 (.goto 4) 3 156]),
  (155, [e0 (.iconst 0) 1]),
  (156, [e0 .iadd 1, e0 .iastore 1, e0 (.aload_n 0) 1, (.getfield 28, 3, 0, 7, 30, 181, 10, 1), e0 (.iconst 4) 1, e0 (.iload_n 3) 1, e0 (.iconst 2) 1, e1 (.if_icmp .eq 17) 3 182, e0 (.aload_n 0) 1, (.getfield 44, 3, 0, 0, 13, 0, 0, 0), e0 (.aload_n 0) 1, (.getfield 22, 3, 0, 5, 0, 0, 0, 0), (.invokevirtual 103, 3, 46, 2, 3, 0, 0, 0), e1 (.ifCond .ne 7) 3 186]),
  (182, [e0 (.iconst 0) 1, e1 (.goto 19) 3 202]),
  (186, [e0 (.aload_n 0) 1, (.getfield 44, 3, 0, 0, 13, 0, 0, 0), (.getfield 106, 3, 3, 13, 30, 7, 8, 0), e0 (.iconst 2) 1, e0 (.aload_n 0) 1, (.getfield 22, 3, 0, 5, 0, 0, 0, 0), e0 .imul 1, e0 (.iload_n 3) 1, e0 .iadd 1, e0 .iaload 1]),
  (202, [e0 .iastore 1, e0 (.aload_n 0) 1, (.getfield 28, 3, 0, 7, 30, 181, 10, 1), e0 (.iconst 5) 1, e0 (.aload_n 0) 1, (.getfield 44, 3, 0, 0, 13, 0, 0, 0), e0 (.iload_n 2) 1, e0 (.aload_n 0) 1, (.getfield 25, 3, 0, 6, 0, 0, 0, 0), e0 (.aload_n 0) 1, (.getfield 18, 3, 0, 4, 0, 0, 0, 0), (.invokevirtual 109, 3, 49, 4, 3, 0, 0, 0), e0 .iastore 1]),
  (225, [e0 (.aload_n 0) 1, (.getfield 28, 3, 0, 7, 30, 181, 10, 1), e0 (.bipush 6) 2, e0 (.iload_n 2) 1, e0 .iastore 1, e0 (.aload_n 0) 1, (.getfield 28, 3, 0, 7, 30, 181, 10, 1), e0 (.bipush 7) 2, e0 (.aload_n 0) 1, (.getfield 25, 3, 0, 6, 0, 0, 0, 0), e0 .iastore 1]),
  (244, [e0 (.aload_n 0) 1, (.getfield 28, 3, 0, 7, 30, 181, 10, 1), e0 (.bipush 8) 2, e0 (.iload_n 1) 1, e0 .iastore 1, e0 (.aload_n 0) 1, (.getfield 28, 3, 0, 7, 30, 181, 10, 1), e0 (.bipush 9) 2, e0 (.iload_n 3) 1, e0 .iastore 1]),
  (260, [e0 .return_ 1])]

set_option maxRecDepth 100000 in
def pb_X0_weightNow : List (Nat × List EI) := [(0, [e0 (.aload_n 0) 1, (.getfield 44, 3, 0, 0, 13, 0, 0, 0), (.getfield 113, 3, 3, 16, 30, 0, 0, 0), e1 (.ifnonnull 12) 3 19, e0 (.aload_n 0) 1, (.getfield 28, 3, 0, 7, 30, 181, 10, 1), e0 (.iconst 0) 1, e0 .iaload 1, e1 (.goto 30) 3 46]),
  (19, [e0 (.aload_n 0) 1, e0 (.aload_n 0) 1, (.getfield 44, 3, 0, 0, 13, 0, 0, 0), (.getfield 113, 3, 3, 16, 30, 0, 0, 0), e0 (.aload_n 0) 1, (.getfield 44, 3, 0, 0, 13, 0, 0, 0), (.getfield 113, 3, 3, 16, 30, 0, 0, 0), e0 .arraylength 1, (.invokevirtual 116, 3, 11, 3, 0, 0, 0, 0), e0 .i2l 1, e0 (.iconst 0) 1, e0 (.sipush 999) 3, (.invokestatic 120, 3, 147, 3, 10, 1, 0, 0)]),
  (46, [e0 .ireturn 1])]

set_option maxRecDepth 100000 in
def pb_X0_coughNow : List (Nat × List EI) := [(0, [e0 (.aload_n 0) 1, (.getfield 44, 3, 0, 0, 13, 0, 0, 0), (.getfield 124, 3, 3, 17, 30, 0, 0, 0), e1 (.ifnonnull 7) 3 14, e0 (.iconst 5) 1, e1 (.goto 30) 3 41]),
  (14, [e0 (.aload_n 0) 1, e0 (.aload_n 0) 1, (.getfield 44, 3, 0, 0, 13, 0, 0, 0), (.getfield 124, 3, 3, 17, 30, 0, 0, 0), e0 (.aload_n 0) 1, (.getfield 44, 3, 0, 0, 13, 0, 0, 0), (.getfield 124, 3, 3, 17, 30, 0, 0, 0), e0 .arraylength 1, (.invokevirtual 116, 3, 11, 3, 0, 0, 0, 0), e0 .i2l 1, e0 (.iconst 0) 1, e0 (.sipush 999) 3, (.invokestatic 120, 3, 147, 3, 10, 1, 0, 0)]),
  (41, [e0 .ireturn 1])]

set_option maxRecDepth 100000 in
def pb_X0_swing : List (Nat × List EI) := [(0, [e0 (.iconst 0) 1, e0 (.istore_n 2) 1, e0 (.iconst 0) 1, e0 (.istore_n 3) 1]),
  (4, [e0 (.iload_n 3) 1, e0 (.bipush 16) 2, e1 (.if_icmp .ge 57) 3 64, e0 (.aload_n 0) 1, (.getfield 48, 3, 0, 1, 19, 0, 0, 0), e0 (.iload_n 3) 1, (.invokevirtual 69, 3, 98, 2, 9, 0, 0, 0), e1 (.ifCond .eq 40) 3 58, e0 (.iload_n 1) 1, e0 (.iload_n 3) 1, e0 .ishr 1, e0 (.iconst 1) 1, e0 .iand 1, e1 (.ifCond .eq 13) 3 39, e0 (.aload_n 0) 1, (.getfield 35, 3, 0, 9, 30, 183, 16, 1), e0 (.iload_n 3) 1, e0 .iaload 1, e0 .ineg 1, e1 (.goto 9) 3 45]),
  (39, [e0 (.aload_n 0) 1, (.getfield 32, 3, 0, 8, 30, 182, 16, 1), e0 (.iload_n 3) 1, e0 .iaload 1]),
  (45, [e0 (.istore 4) 2, e0 (.iload_n 2) 1, e0 (.aload_n 0) 1, e0 (.iload_n 3) 1, (.invokevirtual 127, 3, 9, 2, 0, 0, 0, 0), e0 (.iload 4) 2, e0 .imul 1, e0 .iadd 1, e0 (.istore_n 2) 1]),
  (58, [e0 (.iinc 3 1) 3, e1 (.goto (-57)) 3 4]),
  (64, [e0 (.iload_n 2) 1, e0 .ireturn 1])]

set_option maxRecDepth 100000 in
def pb_X0_meanSwing : List (Nat × List EI) := [(0, [e0 (.iconst 0) 1, e0 (.istore_n 1) 1, e0 (.iconst 0) 1, e0 (.istore_n 2) 1]),
  (4, [e0 (.iload_n 2) 1, e0 (.bipush 16) 2, e1 (.if_icmp .ge 59) 3 66, e0 (.aload_n 0) 1, (.getfield 48, 3, 0, 1, 19, 0, 0, 0), e0 (.iload_n 2) 1, (.invokevirtual 69, 3, 98, 2, 9, 0, 0, 0), e1 (.ifCond .eq 42) 3 60, e0 (.aload_n 0) 1, (.getfield 44, 3, 0, 0, 13, 0, 0, 0), (.getfield 96, 3, 3, 9, 30, 3, 16, 0), e0 (.iload_n 2) 1, e0 .iaload 1, e0 (.istore_n 3) 1, e0 (.iload_n 1) 1, e0 (.aload_n 0) 1, e0 (.iload_n 2) 1, (.invokevirtual 127, 3, 9, 2, 0, 0, 0, 0), e0 (.bipush 100) 2, e0 (.iload_n 3) 1, e0 .isub 1, e0 (.aload_n 0) 1, (.getfield 32, 3, 0, 8, 30, 182, 16, 1), e0 (.iload_n 2) 1, e0 .iaload 1, e0 .imul 1, e0 (.iload_n 3) 1, e0 (.aload_n 0) 1, (.getfield 35, 3, 0, 9, 30, 183, 16, 1), e0 (.iload_n 2) 1, e0 .iaload 1, e0 .imul 1, e0 .isub 1, e0 .imul 1, e0 .iadd 1, e0 (.istore_n 1) 1]),
  (60, [e0 (.iinc 2 1) 3, e1 (.goto (-59)) 3 4]),
  (66, [e0 (.iload_n 1) 1, e0 .ireturn 1])]

set_option maxRecDepth 100000 in
def pb_X0_sideOf : List (Nat × List EI) := [(0, [e0 (.aload_n 0) 1, (.getfield 48, 3, 0, 1, 19, 0, 0, 0), (.getfield 86, 3, 9, 4, 30, 2, 16, 0), e0 (.iload_n 1) 1, e0 .iaload 1, e0 (.istore_n 2) 1, e0 (.iload_n 2) 1, e1 (.ifCond .ne 7) 3 18, e0 (.iconst 1) 1, e1 (.goto 13) 3 28]),
  (18, [e0 (.iload_n 2) 1, e0 (.iconst 1) 1, e1 (.if_icmp .ne 7) 3 27, e0 (.iconst (-1)) 1, e1 (.goto 4) 3 28]),
  (27, [e0 (.iconst 0) 1]),
  (28, [e0 .ireturn 1])]

set_option maxRecDepth 100000 in
def pb_X0_meanOf : List (Nat × List EI) := [(0, [e0 (.aload_n 0) 1, (.getfield 25, 3, 0, 6, 0, 0, 0, 0), e0 (.istore_n 2) 1, (.ldc2_w 130, 3, 0, 0, 0, 0, 0, 100), e0 (.aload_n 0) 1, (.getfield 48, 3, 0, 1, 19, 0, 0, 0), (.getfield 132, 3, 9, 1, 0, 0, 0, 0), e0 .i2l 1, e0 .lmul 1, e0 (.lstore_n 3) 1, e0 (.iconst 0) 1, e0 (.istore 5) 2]),
  (21, [e0 (.iload 5) 2, e0 (.iload_n 1) 1, e1 (.if_icmp .ge 29) 3 53, e0 (.aload_n 0) 1, e0 (.iload_n 2) 1, e0 (.iload 5) 2, e0 .iadd 1, (.putfield 25, 3, 0, 6, 0, 0, 0, 0)]),
  (35, [e0 (.aload_n 0) 1, (.invokevirtual 135, 3, 3, 1, 0, 0, 3, 0), e0 (.lload_n 3) 1, e0 (.aload_n 0) 1, (.invokevirtual 138, 3, 8, 1, 0, 0, 0, 0), e0 .i2l 1, e0 .ladd 1, e0 (.lstore_n 3) 1, e0 (.iinc 5 1) 3, e1 (.goto (-29)) 3 21]),
  (53, [e0 (.aload_n 0) 1, e0 (.iload_n 2) 1, (.putfield 25, 3, 0, 6, 0, 0, 0, 0), e0 (.lload_n 3) 1, e0 .lreturn 1])]

set_option maxRecDepth 100000 in
def pb_X0_run : List (Nat × List EI) := [(0, [e0 (.aload_n 0) 1, e0 (.iconst 0) 1, (.putfield 41, 3, 0, 11, 0, 0, 0, 0), e0 (.iconst 0) 1, e0 (.istore_n 3) 1]),
  (7, [e0 (.iload_n 3) 1, e0 (.iload_n 2) 1, e1 (.if_icmp .ge 143) 3 152, e0 (.iload_n 3) 1, e0 (.aload_n 1) 1, e0 .arraylength 1, e1 (.if_icmp .ge 137) 3 152, e0 (.aload_n 1) 1, e0 (.iload_n 3) 1, e0 .iaload 1, e0 (.istore 4) 2, e0 (.iload 4) 2, e0 (.bipush 100) 2, e1 (.if_icmp .lt 15) 3 42, e0 (.aload_n 0) 1, e0 (.iload 4) 2, e0 (.bipush 100) 2, e0 .isub 1, (.invokevirtual 141, 3, 12, 2, 0, 0, 3, 0), e1 (.goto 107) 3 146]),
  (42, [e0 (.iload 4) 2, e1 (.ifCond .lt 24) 3 68, e0 (.iload 4) 2, e0 (.bipush 10) 2, e1 (.if_icmp .ge 17) 3 68, e0 (.aload_n 0) 1, e0 (.aload_n 0) 1, (.getfield 28, 3, 0, 7, 30, 181, 10, 1), e0 (.iload 4) 2, e0 .iaload 1, (.invokevirtual 141, 3, 12, 2, 0, 0, 3, 0), e1 (.goto 81) 3 146]),
  (68, [e0 (.iload 4) 2, e0 (.bipush 21) 2, e1 (.if_icmp .ne 16) 3 88, e0 (.aload_n 0) 1, e0 (.iconst 1) 1, e0 (.aload_n 0) 1, (.invokevirtual 144, 3, 13, 1, 0, 0, 0, 0), e0 .isub 1, (.invokevirtual 141, 3, 12, 2, 0, 0, 3, 0), e1 (.goto 61) 3 146]),
  (88, [e0 (.iload 4) 2, e0 (.bipush 22) 2, e1 (.if_icmp .ne 26) 3 118, e0 (.aload_n 0) 1, e0 (.aload_n 0) 1, e0 (.aload_n 0) 1, (.invokevirtual 144, 3, 13, 1, 0, 0, 0, 0), (.invokevirtual 147, 3, 14, 2, 0, 0, 0, 0), e1 (.ifCond .eq 7) 3 111, e0 (.iconst 1) 1, e1 (.goto 4) 3 112]),
  (111, [e0 (.iconst 0) 1]),
  (112, [(.invokevirtual 141, 3, 12, 2, 0, 0, 3, 0), e1 (.goto 31) 3 146]),
  (118, [e0 (.aload_n 0) 1, (.invokevirtual 144, 3, 13, 1, 0, 0, 0, 0), e0 (.istore 5) 2, e0 (.aload_n 0) 1, e0 (.iload 4) 2, e0 (.aload_n 0) 1, (.invokevirtual 144, 3, 13, 1, 0, 0, 0, 0), e0 (.iload 5) 2, (.invokestatic 150, 3, 15, 3, 0, 0, 1, 0), (.ldc 154, 2, 0, 0, 0, 0, 0, (-1000000)), (.ldc 155, 2, 0, 0, 0, 0, 0, 1000000), (.invokestatic 120, 3, 147, 3, 10, 1, 0, 0), (.invokevirtual 141, 3, 12, 2, 0, 0, 3, 0)]),
  (146, [e0 (.iinc 3 1) 3, e1 (.goto (-142)) 3 7]),
  (152, [e0 (.aload_n 0) 1, (.invokevirtual 144, 3, 13, 1, 0, 0, 0, 0), e0 .ireturn 1])]

set_option maxRecDepth 100000 in
def pb_X0_push : List (Nat × List EI) := [(0, [e0 (.aload_n 0) 1, (.getfield 41, 3, 0, 11, 0, 0, 0, 0), e0 (.bipush 64) 2, e1 (.if_icmp .ge 23) 3 29, e0 (.aload_n 0) 1, (.getfield 38, 3, 0, 10, 30, 184, 64, 1), e0 (.aload_n 0) 1, (.getfield 41, 3, 0, 11, 0, 0, 0, 0), e0 (.iload_n 1) 1, e0 .iastore 1]),
  (19, [e0 (.aload_n 0) 1, e0 .dup 1, (.getfield 41, 3, 0, 11, 0, 0, 0, 0), e0 (.iconst 1) 1, e0 .iadd 1, (.putfield 41, 3, 0, 11, 0, 0, 0, 0)]),
  (29, [e0 .return_ 1])]

set_option maxRecDepth 100000 in
def pb_X0_pop : List (Nat × List EI) := [(0, [e0 (.aload_n 0) 1, (.getfield 41, 3, 0, 11, 0, 0, 0, 0), e1 (.ifCond .ne 5) 3 9, e0 (.iconst 0) 1, e0 .ireturn 1]),
  (9, [e0 (.aload_n 0) 1, e0 .dup 1, (.getfield 41, 3, 0, 11, 0, 0, 0, 0), e0 (.iconst 1) 1, e0 .isub 1, (.putfield 41, 3, 0, 11, 0, 0, 0, 0)]),
  (19, [e0 (.aload_n 0) 1, (.getfield 38, 3, 0, 10, 30, 184, 64, 1), e0 (.aload_n 0) 1, (.getfield 41, 3, 0, 11, 0, 0, 0, 0), e0 .iaload 1, e0 .ireturn 1])]

set_option maxRecDepth 100000 in
def pb_X0_isBeside : List (Nat × List EI) := [(0, [e0 (.aload_n 0) 1, (.getfield 48, 3, 0, 1, 19, 0, 0, 0), e0 (.iload_n 1) 1, (.invokevirtual 69, 3, 98, 2, 9, 0, 0, 0), e1 (.ifCond .eq 31) 3 39, e0 (.aload_n 0) 1, (.getfield 48, 3, 0, 1, 19, 0, 0, 0), (.getfield 83, 3, 9, 3, 30, 1, 16, 0), e0 (.iload_n 1) 1, e0 .iaload 1, e0 (.aload_n 0) 1, (.getfield 28, 3, 0, 7, 30, 181, 10, 1), e0 (.bipush 6) 2, e0 .iaload 1, e0 .isub 1, (.invokestatic 156, 3, 303, 1, 0, 0, 0, 0), e0 (.iconst 1) 1, e1 (.if_icmp .ne 7) 3 39, e0 (.iconst 1) 1, e1 (.goto 4) 3 40]),
  (39, [e0 (.iconst 0) 1]),
  (40, [e0 .ireturn 1])]

set_option maxRecDepth 100000 in
def pb_X0_reckon : List (Nat × List EI) := [(0, [e0 (.iload_n 0) 1, e0 (.tableswitch 147 10 20 #[59, 64, 69, 75, 90, 97, 104, 115, 126, 137, 142]) 59]),
  (60, [e0 (.iload_n 1) 1, e0 (.iload_n 2) 1, e0 .iadd 1, e0 .i2l 1, e0 .lreturn 1]),
  (65, [e0 (.iload_n 1) 1, e0 (.iload_n 2) 1, e0 .isub 1, e0 .i2l 1, e0 .lreturn 1]),
  (70, [e0 (.iload_n 1) 1, e0 .i2l 1, e0 (.iload_n 2) 1, e0 .i2l 1, e0 .lmul 1, e0 .lreturn 1]),
  (76, [e0 (.iload_n 2) 1, e1 (.ifCond .ne 7) 3 84, e0 (.lconst 0) 1, e1 (.goto 9) 3 90]),
  (84, [e0 (.iload_n 1) 1, e0 (.iload_n 2) 1, (.invokestatic 161, 3, 302, 2, 0, 0, 0, 0), e0 .i2l 1]),
  (90, [e0 .lreturn 1]),
  (91, [e0 (.iload_n 1) 1, e0 (.iload_n 2) 1, (.invokestatic 165, 3, 306, 2, 0, 0, 0, 0), e0 .i2l 1, e0 .lreturn 1]),
  (98, [e0 (.iload_n 1) 1, e0 (.iload_n 2) 1, (.invokestatic 168, 3, 304, 2, 0, 0, 0, 0), e0 .i2l 1, e0 .lreturn 1]),
  (105, [e0 (.iload_n 1) 1, e0 (.iload_n 2) 1, e1 (.if_icmp .ge 7) 3 114, e0 (.lconst 1) 1, e1 (.goto 4) 3 115]),
  (114, [e0 (.lconst 0) 1]),
  (115, [e0 .lreturn 1]),
  (116, [e0 (.iload_n 1) 1, e0 (.iload_n 2) 1, e1 (.if_icmp .le 7) 3 125, e0 (.lconst 1) 1, e1 (.goto 4) 3 126]),
  (125, [e0 (.lconst 0) 1]),
  (126, [e0 .lreturn 1]),
  (127, [e0 (.iload_n 1) 1, e0 (.iload_n 2) 1, e1 (.if_icmp .ne 7) 3 136, e0 (.lconst 1) 1, e1 (.goto 4) 3 137]),
  (136, [e0 (.lconst 0) 1]),
  (137, [e0 .lreturn 1]),
  (138, [e0 (.iload_n 1) 1, e0 (.iload_n 2) 1, e0 .iand 1, e0 .i2l 1, e0 .lreturn 1]),
  (143, [e0 (.iload_n 1) 1, e0 (.iload_n 2) 1, e0 .ior 1, e0 .i2l 1, e0 .lreturn 1]),
  (148, [e0 (.lconst 0) 1, e0 .lreturn 1])]

set_option maxRecDepth 100000 in
def pb_X1_init : List (Nat × List EI) := [(0, [e0 (.aload_n 0) 1, (.invokespecial 3, 3, 0, 1, 0, 9, 3, 0), e0 (.aload_n 0) 1, e0 (.aload_n 1) 1, (.putfield 9, 3, 1, 0, 10, 180, 0, 1), e0 (.aload_n 0) 1, e0 (.aload_n 2) 1, (.putfield 15, 3, 1, 1, 19, 73, 0, 1), e0 .return_ 1])]

set_option maxRecDepth 100000 in
def pb_X1_itching : List (Nat × List EI) := [(0, [e0 (.iconst 0) 1, e0 (.istore_n 1) 1, e0 (.iconst 0) 1, e0 (.istore_n 2) 1]),
  (4, [e0 (.iload_n 2) 1, e0 (.aload_n 0) 1, (.getfield 19, 3, 3, 2, 0, 0, 0, 0), e1 (.if_icmp .ge 28) 3 37, e0 (.iload_n 1) 1, e0 (.aload_n 0) 1, (.getfield 25, 3, 3, 9, 30, 3, 16, 0), e0 (.iload_n 2) 1, e0 .iaload 1, e1 (.ifCond .le 9) 3 28, e0 (.iconst 1) 1, e0 (.iload_n 2) 1, e0 .ishl 1, e1 (.goto 4) 3 29]),
  (28, [e0 (.iconst 0) 1]),
  (29, [e0 .ior 1, e0 (.istore_n 1) 1, e0 (.iinc 2 1) 3, e1 (.goto (-30)) 3 4]),
  (37, [e0 (.iload_n 1) 1, e0 .ireturn 1])]

set_option maxRecDepth 100000 in
def pb_X1_oddsOf : List (Nat × List EI) := [(0, [e0 (.aload_n 1) 1, (.invokestatic 29, 3, 17, 1, 1, 0, 0, 0), e0 (.istore 4) 2, e0 (.lconst 0) 1, e0 (.lstore 5) 2, e0 (.aload_n 0) 1, (.getfield 9, 3, 1, 0, 10, 180, 0, 1), e0 (.aload_n 1) 1, e0 (.aload_n 2) 1, (.invokevirtual 33, 3, 1, 3, 0, 0, 3, 0), e0 (.aload_n 0) 1, (.getfield 9, 3, 1, 0, 10, 180, 0, 1), (.invokevirtual 39, 3, 3, 1, 0, 0, 3, 0), e0 (.iconst 0) 1, e0 (.istore 7) 2]),
  (28, [e0 (.iload 7) 2, e0 (.sipush 256) 3, e1 (.if_icmp .ge 72) 3 105, e0 (.iload 7) 2, e0 (.iload 4) 2, e0 (.iconst (-1)) 1, e0 .ixor 1, e0 .iand 1, e1 (.ifCond .ne 56) 3 99, e0 (.aload_n 0) 1, (.getfield 9, 3, 1, 0, 10, 180, 0, 1), e0 (.iload 7) 2, (.invokevirtual 42, 3, 7, 2, 0, 0, 0, 0), e0 (.istore 8) 2, e0 (.iload 8) 2, e1 (.ifCond .le 7) 3 66, e0 (.iconst 0) 1, e1 (.goto 13) 3 76]),
  (66, [e0 (.iload 8) 2, e1 (.ifCond .ge 7) 3 75, e0 (.iconst 1) 1, e1 (.goto 4) 3 76]),
  (75, [e0 (.iconst 2) 1]),
  (76, [e0 (.istore 9) 2, e0 (.lload 5) 2, e0 (.iload 9) 2, e0 (.iload_n 3) 1, e1 (.if_icmp .ne 12) 3 95, e0 (.aload_n 1) 1, e0 (.iload 7) 2, (.invokestatic 46, 3, 19, 2, 1, 0, 1, 0), e1 (.goto 4) 3 96]),
  (95, [e0 (.lconst 0) 1]),
  (96, [e0 .ladd 1, e0 (.lstore 5) 2]),
  (99, [e0 (.iinc 7 1) 3, e1 (.goto (-74)) 3 28]),
  (105, [e0 (.lload 5) 2, (.ldc2_w 50, 3, 0, 0, 0, 0, 0, 10000000000), e0 .ldiv 1, e0 .l2i 1, e0 .ireturn 1])]

set_option maxRecDepth 100000 in
def pb_X1_chancesOf : List (Nat × List EI) := [(0, [e0 (.lconst 1) 1, e0 (.lstore_n 2) 1, e0 (.iconst 0) 1, e0 (.istore 4) 2]),
  (5, [e0 (.iload 4) 2, e0 (.bipush 8) 2, e1 (.if_icmp .ge 43) 3 52, e0 (.lload_n 2) 1, e0 (.iload_n 1) 1, e0 (.iload 4) 2, e0 .ishr 1, e0 (.iconst 1) 1, e0 .iand 1, e1 (.ifCond .eq 14) 3 33, e0 (.aload_n 0) 1, (.getfield 25, 3, 3, 9, 30, 3, 16, 0), e0 (.iload 4) 2, e0 .iaload 1, e0 .i2l 1, e1 (.goto 14) 3 44]),
  (33, [e0 (.bipush 100) 2, e0 (.aload_n 0) 1, (.getfield 25, 3, 3, 9, 30, 3, 16, 0), e0 (.iload 4) 2, e0 .iaload 1, e0 .isub 1, e0 .i2l 1]),
  (44, [e0 .lmul 1, e0 (.lstore_n 2) 1, e0 (.iinc 4 1) 3, e1 (.goto (-44)) 3 5]),
  (52, [e0 (.lload_n 2) 1, e0 .lreturn 1])]

set_option maxRecDepth 100000 in
def pb_X1_hired : List (Nat × List EI) := [(0, [e0 (.iconst (-1)) 1, e0 (.istore 6) 2, e0 (.iconst 0) 1, e0 (.istore 7) 2]),
  (6, [e0 (.iload 7) 2, e0 (.iconst 1) 1, e0 (.aload_n 1) 1, (.getfield 52, 3, 3, 5, 0, 0, 0, 0), e0 .ishl 1, e1 (.if_icmp .ge 89) 3 103, e0 (.iload 6) 2, e0 (.iconst (-1)) 1, e1 (.if_icmp .eq 14) 3 34, e0 (.aload_n 1) 1, e0 (.iload 7) 2, e0 (.iload 6) 2, (.invokestatic 55, 3, 21, 3, 1, 0, 0, 0), e1 (.ifCond .eq 66) 3 97]),
  (34, [e0 (.aload_n 0) 1, e0 (.aload_n 1) 1, e0 (.aload_n 2) 1, e0 (.iload_n 3) 1, e0 (.iload 7) 2, (.invokevirtual 59, 3, 22, 5, 1, 0, 0, 0), e1 (.ifCond .eq 54) 3 97, e0 (.aload_n 0) 1, (.getfield 9, 3, 1, 0, 10, 180, 0, 1), e0 (.aload_n 1) 1, e0 (.aload_n 0) 1, (.getfield 15, 3, 1, 1, 19, 73, 0, 1), (.invokevirtual 33, 3, 1, 3, 0, 0, 3, 0), e0 (.aload_n 0) 1, (.getfield 9, 3, 1, 0, 10, 180, 0, 1), e0 (.iload 4) 2, (.invokevirtual 63, 3, 10, 2, 0, 0, 1, 0), e0 (.lstore 8) 2, e0 (.iload_n 3) 1, e1 (.ifCond .ne 8) 3 78, e0 (.lload 8) 2, e1 (.goto 6) 3 81]),
  (78, [e0 (.lload 8) 2, e0 .lneg 1]),
  (81, [e0 (.iload 5) 2, e0 .i2l 1, e0 .lcmp 1, e1 (.ifCond .lt 8) 3 93, e0 (.iload 7) 2, e1 (.goto 5) 3 95]),
  (93, [e0 (.iload 6) 2]),
  (95, [e0 (.istore 6) 2]),
  (97, [e0 (.iinc 7 1) 3, e1 (.goto (-94)) 3 6]),
  (103, [e0 (.iload 6) 2, e0 .ireturn 1])]

set_option maxRecDepth 100000 in
def pb_X1_isCheaper : List (Nat × List EI) := [(0, [e0 (.iload_n 2) 1, (.invokestatic 67, 3, 301, 1, 0, 0, 0, 0), e0 (.iload_n 1) 1, (.invokestatic 67, 3, 301, 1, 0, 0, 0, 0), e0 .isub 1, e0 (.istore_n 3) 1, e0 (.iload_n 3) 1, e1 (.ifCond .gt 20) 3 31, e0 (.iload_n 3) 1, e1 (.ifCond .ne 20) 3 35, e0 (.aload_n 0) 1, e0 (.iload_n 1) 1, (.invokevirtual 72, 3, 52, 2, 3, 0, 0, 0), e0 (.aload_n 0) 1, e0 (.iload_n 2) 1, (.invokevirtual 72, 3, 52, 2, 3, 0, 0, 0), e1 (.if_icmp .ge 7) 3 35]),
  (31, [e0 (.iconst 1) 1, e1 (.goto 4) 3 36]),
  (35, [e0 (.iconst 0) 1]),
  (36, [e0 .ireturn 1])]

set_option maxRecDepth 100000 in
def pb_X1_seatAside : List (Nat × List EI) := [(0, [e0 (.aload_n 0) 1, (.getfield 15, 3, 1, 1, 19, 73, 0, 1), e0 (.aload_n 2) 1, (.invokevirtual 75, 3, 97, 2, 9, 0, 3, 0), e0 (.iconst 0) 1, e0 (.istore 5) 2]),
  (11, [e0 (.iload 5) 2, e0 (.aload_n 1) 1, (.getfield 52, 3, 3, 5, 0, 0, 0, 0), e1 (.if_icmp .ge 67) 3 84, e0 (.iload 4) 2, e0 (.iload 5) 2, e0 .ishr 1, e0 (.iconst 1) 1, e0 .iand 1, e1 (.ifCond .eq 51) 3 78, e0 (.aload_n 0) 1, (.getfield 15, 3, 1, 1, 19, 73, 0, 1), e0 (.aload_n 1) 1, (.getfield 81, 3, 3, 1, 0, 0, 0, 0), (.invokevirtual 84, 3, 103, 2, 9, 0, 0, 0), e0 (.istore 6) 2, e0 (.iload 6) 2, e0 (.iconst (-1)) 1, e1 (.if_icmp .eq 15) 3 61, e0 (.aload_n 2) 1, e0 (.bipush 10) 2, e0 (.iload 5) 2, e0 .iadd 1, (.invokevirtual 87, 3, 98, 2, 9, 0, 0, 0), e1 (.ifCond .eq 5) 3 63]),
  (61, [e0 (.iconst 0) 1, e0 .ireturn 1]),
  (63, [e0 (.aload_n 0) 1, (.getfield 15, 3, 1, 1, 19, 73, 0, 1), e0 (.bipush 10) 2, e0 (.iload 5) 2, e0 .iadd 1, e0 (.iload_n 3) 1, e0 (.iload 6) 2, (.invokevirtual 91, 3, 100, 4, 9, 0, 3, 0)]),
  (78, [e0 (.iinc 5 1) 3, e1 (.goto (-70)) 3 11]),
  (84, [e0 (.iconst 1) 1, e0 .ireturn 1])]

set_option maxRecDepth 100000 in
def pb_X1_changed : List (Nat × List EI) := [(0, [e0 (.iconst (-1)) 1, e0 (.istore 4) 2, e0 (.aload_n 0) 1, (.getfield 15, 3, 1, 1, 19, 73, 0, 1), e0 (.aload_n 2) 1, (.invokevirtual 75, 3, 97, 2, 9, 0, 3, 0), e0 (.aload_n 0) 1, (.getfield 9, 3, 1, 0, 10, 180, 0, 1), e0 (.aload_n 1) 1, e0 (.aload_n 0) 1, (.getfield 15, 3, 1, 1, 19, 73, 0, 1), (.invokevirtual 33, 3, 1, 3, 0, 0, 3, 0), e0 (.aload_n 0) 1, e0 (.iload_n 3) 1, (.invokevirtual 95, 3, 24, 2, 1, 0, 0, 0), e0 (.istore 5) 2, e0 (.iconst 0) 1, e0 (.istore 6) 2]),
  (33, [e0 (.iload 6) 2, e0 (.bipush 16) 2, e1 (.if_icmp .ge 132) 3 169, e0 (.iload 6) 2, e0 (.iconst 1) 1, e0 .iadd 1, e0 (.istore 7) 2]),
  (46, [e0 (.iload 7) 2, e0 (.bipush 16) 2, e1 (.if_icmp .ge 113) 3 163, e0 (.aload_n 0) 1, (.getfield 15, 3, 1, 1, 19, 73, 0, 1), e0 (.iload 6) 2, (.invokevirtual 87, 3, 98, 2, 9, 0, 0, 0), e1 (.ifCond .eq 95) 3 157, e0 (.aload_n 0) 1, (.getfield 15, 3, 1, 1, 19, 73, 0, 1), e0 (.iload 7) 2, (.invokevirtual 87, 3, 98, 2, 9, 0, 0, 0), e1 (.ifCond .eq 83) 3 157, e0 (.aload_n 0) 1, (.getfield 15, 3, 1, 1, 19, 73, 0, 1), (.getfield 98, 3, 9, 3, 30, 1, 16, 0), e0 (.iload 6) 2, e0 .iaload 1, e0 (.istore 8) 2, e0 (.aload_n 0) 1, (.getfield 15, 3, 1, 1, 19, 73, 0, 1), e0 (.iload 6) 2, e0 (.aload_n 0) 1, (.getfield 15, 3, 1, 1, 19, 73, 0, 1), (.getfield 98, 3, 9, 3, 30, 1, 16, 0), e0 (.iload 7) 2, e0 .iaload 1, (.invokevirtual 101, 3, 102, 3, 9, 0, 3, 0)]),
  (108, [e0 (.aload_n 0) 1, e0 (.iload_n 3) 1, (.invokevirtual 95, 3, 24, 2, 1, 0, 0, 0), e0 (.istore 9) 2, e0 (.aload_n 0) 1, (.getfield 15, 3, 1, 1, 19, 73, 0, 1), e0 (.iload 6) 2, e0 (.iload 8) 2, (.invokevirtual 101, 3, 102, 3, 9, 0, 3, 0), e0 (.iload 9) 2, e0 (.iload 5) 2, e1 (.if_icmp .le 14) 3 144, e0 (.iload 6) 2, e0 (.bipush 16) 2, e0 .imul 1, e0 (.iload 7) 2, e0 .iadd 1, e1 (.goto 5) 3 146]),
  (144, [e0 (.iload 4) 2]),
  (146, [e0 (.istore 4) 2, e0 (.iload 5) 2, e0 (.iload 9) 2, (.invokestatic 105, 3, 304, 2, 0, 0, 0, 0), e0 (.istore 5) 2]),
  (157, [e0 (.iinc 7 1) 3, e1 (.goto (-114)) 3 46]),
  (163, [e0 (.iinc 6 1) 3, e1 (.goto (-133)) 3 33]),
  (169, [e0 (.iload 4) 2, e0 .ireturn 1])]

set_option maxRecDepth 100000 in
def pb_X1_swingFor : List (Nat × List EI) := [(0, [e0 (.aload_n 0) 1, (.getfield 9, 3, 1, 0, 10, 180, 0, 1), e0 (.aload_n 0) 1, (.getfield 15, 3, 1, 1, 19, 73, 0, 1), e1 (.getfield 111) 3 9, e0 (.aload_n 0) 1, (.getfield 15, 3, 1, 1, 19, 73, 0, 1), (.getfield 114, 3, 9, 2, 0, 0, 0, 0), e0 (.iconst (-1)) 1, (.invokevirtual 117, 3, 2, 4, 0, 0, 3, 0), e0 (.aload_n 0) 1, (.getfield 9, 3, 1, 0, 10, 180, 0, 1), (.invokevirtual 39, 3, 3, 1, 0, 0, 3, 0), e0 (.iload_n 1) 1, e1 (.ifCond .ne 13) 3 43, e0 (.aload_n 0) 1, (.getfield 9, 3, 1, 0, 10, 180, 0, 1), (.invokevirtual 120, 3, 8, 1, 0, 0, 0, 0), e1 (.goto 11) 3 51]),
  (43, [e0 (.aload_n 0) 1, (.getfield 9, 3, 1, 0, 10, 180, 0, 1), (.invokevirtual 120, 3, 8, 1, 0, 0, 0, 0), e0 .ineg 1]),
  (51, [e0 .ireturn 1])]

set_option maxRecDepth 100000 in
def pb_X1_pointOfTurn : List (Nat × List EI) := [(0, [e0 (.iconst 0) 1, e0 (.istore 4) 2, e0 (.iconst 0) 1, e0 (.istore 5) 2, e0 (.aload_n 0) 1, (.getfield 9, 3, 1, 0, 10, 180, 0, 1), e0 (.aload_n 1) 1, e0 (.aload_n 2) 1, (.invokevirtual 33, 3, 1, 3, 0, 0, 3, 0), e0 (.iconst 0) 1, e0 (.istore 6) 2]),
  (18, [e0 (.iload 6) 2, e0 (.aload_n 1) 1, (.getfield 124, 3, 3, 3, 0, 0, 0, 0), e1 (.if_icmp .ge 78) 3 102, e0 (.aload_n 0) 1, (.getfield 9, 3, 1, 0, 10, 180, 0, 1), e0 (.aload_n 2) 1, e1 (.getfield 111) 3 9, e0 (.iload_n 3) 1, e0 .iadd 1, e0 (.iload 6) 2, e0 (.iconst (-1)) 1, (.invokevirtual 117, 3, 2, 4, 0, 0, 3, 0), e0 (.aload_n 0) 1, (.getfield 9, 3, 1, 0, 10, 180, 0, 1), (.invokevirtual 39, 3, 3, 1, 0, 0, 3, 0), e0 (.iload_n 3) 1, e0 (.iconst 2) 1, e0 .irem 1, e1 (.ifCond .ne 13) 3 66, e0 (.aload_n 0) 1, (.getfield 9, 3, 1, 0, 10, 180, 0, 1), (.invokevirtual 120, 3, 8, 1, 0, 0, 0, 0), e1 (.goto 11) 3 74]),
  (66, [e0 (.aload_n 0) 1, (.getfield 9, 3, 1, 0, 10, 180, 0, 1), (.invokevirtual 120, 3, 8, 1, 0, 0, 0, 0), e0 .ineg 1]),
  (74, [e0 (.istore 7) 2, e0 (.iload 6) 2, e1 (.ifCond .eq 10) 3 88, e0 (.iload 7) 2, e0 (.iload 5) 2, e1 (.if_icmp .le 11) 3 96]),
  (88, [e0 (.iload 6) 2, e0 (.istore 4) 2, e0 (.iload 7) 2, e0 (.istore 5) 2]),
  (96, [e0 (.iinc 6 1) 3, e1 (.goto (-81)) 3 18]),
  (102, [e0 (.iload 4) 2, e0 .ireturn 1])]

set_option maxRecDepth 100000 in
def pb_X1_meanByTurns : List (Nat × List EI) := [(0, [(.ldc2_w 127, 3, 0, 0, 0, 0, 0, 100), e0 (.aload_n 2) 1, (.getfield 129, 3, 9, 1, 0, 0, 0, 0), e0 .i2l 1, e0 .lmul 1, e0 (.lstore 4) 2, e0 (.iconst 0) 1, e0 (.istore 6) 2]),
  (14, [e0 (.iload 6) 2, e0 (.iload_n 3) 1, e1 (.if_icmp .ge 56) 3 73, e0 (.aload_n 0) 1, e0 (.aload_n 1) 1, e0 (.aload_n 2) 1, e0 (.iload 6) 2, (.invokevirtual 132, 3, 25, 4, 1, 0, 0, 0), e0 (.istore 7) 2, e0 (.aload_n 0) 1, (.getfield 9, 3, 1, 0, 10, 180, 0, 1), e0 (.aload_n 2) 1, e1 (.getfield 111) 3 9, e0 (.iload 6) 2, e0 .iadd 1, e0 (.iload 7) 2, e0 (.iconst (-1)) 1, (.invokevirtual 117, 3, 2, 4, 0, 0, 3, 0), e0 (.aload_n 0) 1, (.getfield 9, 3, 1, 0, 10, 180, 0, 1), (.invokevirtual 39, 3, 3, 1, 0, 0, 3, 0), e0 (.lload 4) 2, e0 (.aload_n 0) 1, (.getfield 9, 3, 1, 0, 10, 180, 0, 1), (.invokevirtual 120, 3, 8, 1, 0, 0, 0, 0), e0 .i2l 1, e0 .ladd 1, e0 (.lstore 4) 2]),
  (67, [e0 (.iinc 6 1) 3, e1 (.goto (-56)) 3 14]),
  (73, [e0 (.lload 4) 2, e0 .lreturn 1])]

set_option maxRecDepth 100000 in
def pb_X1_setsBy : List (Nat × List EI) := [(0, [e0 (.aload_n 1) 1, (.invokestatic 29, 3, 17, 1, 1, 0, 0, 0), e0 (.istore 5) 2, e0 (.iconst 0) 1, e0 (.istore 6) 2, e0 (.iload 5) 2, e0 (.istore 7) 2, e0 (.iconst 0) 1, e0 (.istore 8) 2, e0 (.aload_n 0) 1, (.getfield 9, 3, 1, 0, 10, 180, 0, 1), e0 (.aload_n 1) 1, e0 (.aload_n 2) 1, (.invokevirtual 33, 3, 1, 3, 0, 0, 3, 0), e0 (.aload_n 0) 1, (.getfield 9, 3, 1, 0, 10, 180, 0, 1), (.invokevirtual 39, 3, 3, 1, 0, 0, 3, 0), e0 (.iconst 0) 1, e0 (.istore 9) 2]),
  (35, [e0 (.iload 9) 2, e0 (.sipush 256) 3, e1 (.if_icmp .ge 49) 3 89, e0 (.iload 9) 2, e0 (.iload 5) 2, e0 (.iconst (-1)) 1, e0 .ixor 1, e0 .iand 1, e1 (.ifCond .ne 33) 3 83]),
  (53, [e0 (.aload_n 0) 1, (.getfield 9, 3, 1, 0, 10, 180, 0, 1), e0 (.iload 9) 2, (.invokevirtual 42, 3, 7, 2, 0, 0, 0, 0), e0 (.iload_n 3) 1, e1 (.if_icmp .ne 20) 3 83]),
  (66, [e0 (.iinc 6 1) 3, e0 (.iload 7) 2, e0 (.iload 9) 2, e0 .iand 1, e0 (.istore 7) 2, e0 (.iload 8) 2, e0 (.iload 9) 2, e0 .ior 1, e0 (.istore 8) 2]),
  (83, [e0 (.iinc 9 1) 3, e1 (.goto (-51)) 3 35]),
  (89, [e0 (.iload 4) 2, e1 (.ifCond .ne 6) 3 97, e0 (.iload 6) 2, e0 .ireturn 1]),
  (97, [e0 (.iload 4) 2, e0 (.iconst 2) 1, e1 (.if_icmp .ne 8) 3 108, e0 (.iload 8) 2, e1 (.goto 14) 3 119]),
  (108, [e0 (.iload 6) 2, e1 (.ifCond .ne 7) 3 117, e0 (.iconst 0) 1, e1 (.goto 5) 3 119]),
  (117, [e0 (.iload 7) 2]),
  (119, [e0 .ireturn 1])]

set_option maxRecDepth 100000 in
def pb_X1_pointsBy : List (Nat × List EI) := [(0, [e0 (.iconst 0) 1, e0 (.istore 5) 2, e0 (.aload_n 0) 1, (.getfield 9, 3, 1, 0, 10, 180, 0, 1), e0 (.aload_n 1) 1, e0 (.aload_n 2) 1, (.invokevirtual 33, 3, 1, 3, 0, 0, 3, 0), e0 (.iconst 0) 1, e0 (.istore 6) 2]),
  (15, [e0 (.iload 6) 2, e0 (.aload_n 1) 1, (.getfield 124, 3, 3, 3, 0, 0, 0, 0), e1 (.if_icmp .ge 56) 3 77, e0 (.aload_n 0) 1, (.getfield 9, 3, 1, 0, 10, 180, 0, 1), e0 (.aload_n 2) 1, e1 (.getfield 111) 3 9, e0 (.iload 6) 2, e0 (.iconst (-1)) 1, (.invokevirtual 117, 3, 2, 4, 0, 0, 3, 0), e0 (.aload_n 0) 1, (.getfield 9, 3, 1, 0, 10, 180, 0, 1), (.invokevirtual 39, 3, 3, 1, 0, 0, 3, 0), e0 (.iload 5) 2, e0 (.aload_n 0) 1, (.getfield 9, 3, 1, 0, 10, 180, 0, 1), e0 (.iload 4) 2, (.invokevirtual 42, 3, 7, 2, 0, 0, 0, 0), e0 (.iload_n 3) 1, e1 (.if_icmp .ne 10) 3 67, e0 (.iconst 1) 1, e0 (.iload 6) 2, e0 .ishl 1, e1 (.goto 4) 3 68]),
  (67, [e0 (.iconst 0) 1]),
  (68, [e0 .ior 1, e0 (.istore 5) 2, e0 (.iinc 6 1) 3, e1 (.goto (-59)) 3 15]),
  (77, [e0 (.iload 5) 2, e0 .ireturn 1])]

set_option maxRecDepth 100000 in
def pb_X1_loudestOf : List (Nat × List EI) := [(0, [e0 (.iconst 0) 1, e0 (.istore 4) 2, e0 (.iconst 0) 1, e0 (.istore 5) 2, e0 (.aload_n 0) 1, (.getfield 9, 3, 1, 0, 10, 180, 0, 1), e0 (.aload_n 1) 1, e0 (.aload_n 2) 1, (.invokevirtual 33, 3, 1, 3, 0, 0, 3, 0), e0 (.iconst 0) 1, e0 (.istore 6) 2]),
  (18, [e0 (.iload 6) 2, e0 (.aload_n 1) 1, (.getfield 136, 3, 3, 4, 0, 0, 0, 0), e1 (.if_icmp .ge 132) 3 156, e0 (.aload_n 1) 1, (.getfield 139, 3, 3, 14, 30, 8, 18, 0), e0 (.iconst 3) 1, e0 (.iload 6) 2, e0 .imul 1, e0 .iaload 1, e0 (.istore 7) 2, e0 (.iload 7) 2, e0 (.aload_n 2) 1, e1 (.getfield 111) 3 9, e1 (.if_icmp .lt 106) 3 150, e0 (.iload 7) 2, e0 (.aload_n 2) 1, e1 (.getfield 111) 3 9, e0 (.iload_n 3) 1, e0 .iadd 1, e1 (.if_icmp .ge 95) 3 150, e0 (.aload_n 0) 1, (.getfield 9, 3, 1, 0, 10, 180, 0, 1), e0 (.iload 7) 2, e0 (.aload_n 2) 1, (.getfield 114, 3, 9, 2, 0, 0, 0, 0), e0 (.iconst (-1)) 1, (.invokevirtual 117, 3, 2, 4, 0, 0, 3, 0)]),
  (72, [e0 (.aload_n 0) 1, (.getfield 9, 3, 1, 0, 10, 180, 0, 1), (.invokevirtual 39, 3, 3, 1, 0, 0, 3, 0), e0 (.aload_n 0) 1, (.getfield 9, 3, 1, 0, 10, 180, 0, 1), (.invokevirtual 120, 3, 8, 1, 0, 0, 0, 0), e0 (.istore 8) 2, e0 (.aload_n 0) 1, (.getfield 9, 3, 1, 0, 10, 180, 0, 1), e0 (.iload 7) 2, e0 (.aload_n 2) 1, (.getfield 114, 3, 9, 2, 0, 0, 0, 0), e0 (.iload 6) 2, (.invokevirtual 117, 3, 2, 4, 0, 0, 3, 0), e0 (.aload_n 0) 1, (.getfield 9, 3, 1, 0, 10, 180, 0, 1), (.invokevirtual 39, 3, 3, 1, 0, 0, 3, 0), e0 (.iload 8) 2, e0 (.aload_n 0) 1, (.getfield 9, 3, 1, 0, 10, 180, 0, 1), (.invokevirtual 120, 3, 8, 1, 0, 0, 0, 0), e0 .isub 1, (.invokestatic 142, 3, 303, 1, 0, 0, 0, 0), e0 (.istore 9) 2]),
  (125, [e0 (.iload 9) 2, e0 (.iload 5) 2, e1 (.if_icmp .le 8) 3 137, e0 (.iload 6) 2, e1 (.goto 5) 3 139]),
  (137, [e0 (.iload 4) 2]),
  (139, [e0 (.istore 4) 2, e0 (.iload 5) 2, e0 (.iload 9) 2, (.invokestatic 105, 3, 304, 2, 0, 0, 0, 0), e0 (.istore 5) 2]),
  (150, [e0 (.iinc 6 1) 3, e1 (.goto (-135)) 3 18]),
  (156, [e0 (.iload 4) 2, e0 .ireturn 1])]

set_option maxRecDepth 100000 in
def pb_X2_init : List (Nat × List EI) := [(0, [e0 (.aload_n 0) 1, (.invokespecial 3, 3, 0, 1, 0, 9, 3, 0), e0 (.aload_n 0) 1, e0 (.iconst 0) 1, (.putfield 9, 3, 2, 1, 2, 0, 0, 0), e0 (.aload_n 0) 1, e0 (.iconst 0) 1, (.putfield 15, 3, 2, 2, 2, 0, 0, 0), e0 (.aload_n 0) 1, e0 (.sipush 1600) 3, e0 (.newarray .int) 2, (.putfield 18, 3, 2, 3, 30, 45, 1600, 1), e0 (.aload_n 0) 1, e0 (.iconst 0) 1, (.putfield 22, 3, 2, 4, 0, 0, 0, 0), e0 (.aload_n 0) 1, e0 (.aload_n 1) 1, (.putfield 26, 3, 2, 0, 18, 42, 0, 1), e0 .return_ 1])]

set_option maxRecDepth 100000 in
def pb_J7_copyOf_59c91 : List (Nat × List EI) := [(0, [e0 (.iload_n 1) 1, e0 (.aload_n 0) 1, e0 .arraylength 1, e1 (.if_icmp .ne 11) 3 14, e0 (.aload_n 0) 1, (.invokevirtual 316, 3, 0, 1, 89, 0, 0, 0), e0 (.checkcast 317) 3, e0 .areturn 1]),
  (14, [e0 (.iload_n 1) 1, e0 (.newarray .int) 2, e0 (.astore_n 2) 1, e0 (.aload_n 0) 1, e0 (.iconst 0) 1, e0 (.aload_n 2) 1, e0 (.iconst 0) 1, e0 (.aload_n 0) 1, e0 .arraylength 1, e0 (.iload_n 1) 1, (.invokestatic 304, 3, 306, 2, 0, 0, 0, 0), (.invokestatic 150, 3, 0, 5, 0, 8, 3, 0), e0 (.aload_n 2) 1, e0 .areturn 1])]

set_option maxRecDepth 100000 in
def pb_L_law : List (Nat × List EI) := [(0, [(.new 7, 3, 10, 15, 0, 0, 0, 0), e0 .dup 1, (.invokespecial 9, 3, 108, 1, 10, 0, 3, 0), e0 (.astore_n 1) 1, (.new 10, 3, 11, 111, 0, 0, 0, 0), e0 .dup 1, (.invokespecial 12, 3, 148, 1, 11, 0, 3, 0), e0 (.astore_n 2) 1, e0 (.iconst 0) 1, e0 (.istore_n 3) 1]),
  (18, [e0 (.iload_n 3) 1, e0 (.aload_n 0) 1, e0 .arraylength 1, e0 (.bipush 6) 2, e0 .isub 1, e1 (.if_icmp .gt 1037) 3 1061, e0 (.aload_n 0) 1, e0 (.iload_n 3) 1, e0 .iaload 1, e0 (.bipush 31) 2, e0 .iand 1, e0 (.tableswitch 1022 0 31 #[143, 206, 229, 242, 265, 288, 301, 344, 377, 400, 433, 466, 499, 523, 546, 599, 632, 666, 699, 732, 755, 778, 801, 834, 877, 900, 913, 936, 950, 963, 986, 999]) 143]),
  (176, [e0 (.aload_n 1) 1, e0 (.aload_n 0) 1, e0 (.iload_n 3) 1, e0 (.iconst 1) 1, e0 .iadd 1, e0 .iaload 1, e0 (.aload_n 0) 1, e0 (.iload_n 3) 1, e0 (.iconst 2) 1, e0 .iadd 1, e0 .iaload 1, e0 (.aload_n 0) 1, e0 (.iload_n 3) 1, e0 (.iconst 3) 1, e0 .iadd 1, e0 .iaload 1, e0 (.aload_n 0) 1, e0 (.iload_n 3) 1, e0 (.iconst 4) 1, e0 .iadd 1, e0 .iaload 1, e0 (.aload_n 0) 1, e0 (.iload_n 3) 1, e0 (.iconst 5) 1, e0 .iadd 1, e0 .iaload 1, (.invokevirtual 13, 3, 109, 6, 10, 0, 0, 0), e0 (.aload_n 2) 1, e0 (.aload_n 0) 1, e0 (.iload_n 3) 1, e0 (.iconst 1) 1, e0 .iadd 1, e0 .iaload 1, e0 (.aload_n 0) 1, e0 (.iload_n 3) 1, e0 (.iconst 2) 1, e0 .iadd 1, e0 .iaload 1, e0 (.aload_n 0) 1, e0 (.iload_n 3) 1, e0 (.iconst 3) 1, e0 .iadd 1, e0 .iaload 1, e0 (.aload_n 0) 1, e0 (.iload_n 3) 1, e0 (.iconst 4) 1, e0 .iadd 1, e0 .iaload 1, e0 (.aload_n 0) 1, e0 (.iload_n 3) 1, e0 (.iconst 5) 1, e0 .iadd 1, e0 .iaload 1, (.invokevirtual 17, 3, 150, 6, 11, 0, 0, 0), e1 (.if_icmp .eq 821) 3 1055, e0 (.iconst 0) 1, e0 .ireturn 1]),
  (239, [e0 (.aload_n 1) 1, e0 (.aload_n 0) 1, e0 (.iload_n 3) 1, e0 (.iconst 1) 1, e0 .iadd 1, e0 .iaload 1, (.invokevirtual 18, 3, 110, 2, 10, 0, 0, 0), e0 (.aload_n 2) 1, e0 (.aload_n 0) 1, e0 (.iload_n 3) 1, e0 (.iconst 1) 1, e0 .iadd 1, e0 .iaload 1, (.invokevirtual 22, 3, 151, 2, 11, 0, 0, 0), e1 (.if_icmp .eq 798) 3 1055, e0 (.iconst 0) 1, e0 .ireturn 1]),
  (262, [e0 (.aload_n 1) 1, (.invokevirtual 23, 3, 111, 1, 10, 0, 0, 0), e0 (.aload_n 2) 1, (.invokevirtual 27, 3, 177, 1, 11, 0, 0, 0), e1 (.if_icmp .eq 785) 3 1055, e0 (.iconst 0) 1, e0 .ireturn 1]),
  (275, [e0 (.aload_n 1) 1, e0 (.aload_n 0) 1, e0 (.iload_n 3) 1, e0 (.iconst 1) 1, e0 .iadd 1, e0 .iaload 1, (.invokevirtual 28, 3, 112, 2, 10, 0, 0, 0), e0 (.aload_n 2) 1, e0 (.aload_n 0) 1, e0 (.iload_n 3) 1, e0 (.iconst 1) 1, e0 .iadd 1, e0 .iaload 1, (.invokevirtual 32, 3, 189, 2, 11, 0, 0, 0), e1 (.if_icmp .eq 762) 3 1055, e0 (.iconst 0) 1, e0 .ireturn 1]),
  (298, [e0 (.aload_n 1) 1, e0 (.aload_n 0) 1, e0 (.iload_n 3) 1, e0 (.iconst 1) 1, e0 .iadd 1, e0 .iaload 1, (.invokevirtual 33, 3, 113, 2, 10, 0, 0, 0), e0 (.aload_n 2) 1, e0 (.aload_n 0) 1, e0 (.iload_n 3) 1, e0 (.iconst 1) 1, e0 .iadd 1, e0 .iaload 1, (.invokevirtual 36, 3, 217, 2, 11, 0, 0, 0), e1 (.if_icmp .eq 739) 3 1055, e0 (.iconst 0) 1, e0 .ireturn 1]),
  (321, [e0 (.aload_n 1) 1, (.invokevirtual 37, 3, 114, 1, 10, 0, 0, 0), e0 (.aload_n 2) 1, (.invokevirtual 40, 3, 218, 1, 11, 0, 0, 0), e1 (.if_icmp .eq 726) 3 1055, e0 (.iconst 0) 1, e0 .ireturn 1]),
  (334, [e0 (.aload_n 1) 1, e0 (.aload_n 0) 1, e0 (.iload_n 3) 1, e0 (.iconst 1) 1, e0 .iadd 1, e0 .iaload 1, e0 (.aload_n 0) 1, e0 (.iload_n 3) 1, e0 (.iconst 2) 1, e0 .iadd 1, e0 .iaload 1, e0 (.aload_n 0) 1, e0 (.iload_n 3) 1, e0 (.iconst 3) 1, e0 .iadd 1, e0 .iaload 1, (.invokevirtual 41, 3, 115, 4, 10, 0, 0, 0), e0 (.aload_n 2) 1, e0 (.aload_n 0) 1, e0 (.iload_n 3) 1, e0 (.iconst 1) 1, e0 .iadd 1, e0 .iaload 1, e0 (.aload_n 0) 1, e0 (.iload_n 3) 1, e0 (.iconst 2) 1, e0 .iadd 1, e0 .iaload 1, e0 (.aload_n 0) 1, e0 (.iload_n 3) 1, e0 (.iconst 3) 1, e0 .iadd 1, e0 .iaload 1, (.invokevirtual 45, 3, 219, 4, 11, 0, 0, 0), e1 (.if_icmp .eq 683) 3 1055, e0 (.iconst 0) 1, e0 .ireturn 1]),
  (377, [e0 (.aload_n 1) 1, e0 (.aload_n 0) 1, e0 (.iload_n 3) 1, e0 (.iconst 1) 1, e0 .iadd 1, e0 .iaload 1, e0 (.aload_n 0) 1, e0 (.iload_n 3) 1, e0 (.iconst 2) 1, e0 .iadd 1, e0 .iaload 1, (.invokevirtual 46, 3, 116, 3, 10, 0, 0, 0), e0 (.aload_n 2) 1, e0 (.aload_n 0) 1, e0 (.iload_n 3) 1, e0 (.iconst 1) 1, e0 .iadd 1, e0 .iaload 1, e0 (.aload_n 0) 1, e0 (.iload_n 3) 1, e0 (.iconst 2) 1, e0 .iadd 1, e0 .iaload 1, (.invokevirtual 50, 3, 220, 3, 11, 0, 0, 0), e1 (.if_icmp .eq 650) 3 1055, e0 (.iconst 0) 1, e0 .ireturn 1]),
  (410, [e0 (.aload_n 1) 1, e0 (.aload_n 0) 1, e0 (.iload_n 3) 1, e0 (.iconst 1) 1, e0 .iadd 1, e0 .iaload 1, (.invokevirtual 51, 3, 117, 2, 10, 0, 0, 0), e0 (.aload_n 2) 1, e0 (.aload_n 0) 1, e0 (.iload_n 3) 1, e0 (.iconst 1) 1, e0 .iadd 1, e0 .iaload 1, (.invokevirtual 54, 3, 221, 2, 11, 0, 0, 0), e1 (.if_icmp .eq 627) 3 1055, e0 (.iconst 0) 1, e0 .ireturn 1]),
  (433, [e0 (.aload_n 1) 1, e0 (.aload_n 0) 1, e0 (.iload_n 3) 1, e0 (.iconst 1) 1, e0 .iadd 1, e0 .iaload 1, e0 (.aload_n 0) 1, e0 (.iload_n 3) 1, e0 (.iconst 2) 1, e0 .iadd 1, e0 .iaload 1, (.invokevirtual 55, 3, 118, 3, 10, 0, 0, 0), e0 (.aload_n 2) 1, e0 (.aload_n 0) 1, e0 (.iload_n 3) 1, e0 (.iconst 1) 1, e0 .iadd 1, e0 .iaload 1, e0 (.aload_n 0) 1, e0 (.iload_n 3) 1, e0 (.iconst 2) 1, e0 .iadd 1, e0 .iaload 1, (.invokevirtual 58, 3, 222, 3, 11, 0, 0, 0), e1 (.if_icmp .eq 594) 3 1055, e0 (.iconst 0) 1, e0 .ireturn 1]),
  (466, [e0 (.aload_n 1) 1, e0 (.aload_n 0) 1, e0 (.iload_n 3) 1, e0 (.iconst 1) 1, e0 .iadd 1, e0 .iaload 1, e0 (.aload_n 0) 1, e0 (.iload_n 3) 1, e0 (.iconst 2) 1, e0 .iadd 1, e0 .iaload 1, (.invokevirtual 59, 3, 119, 3, 10, 0, 0, 0), e0 (.aload_n 2) 1, e0 (.aload_n 0) 1, e0 (.iload_n 3) 1, e0 (.iconst 1) 1, e0 .iadd 1, e0 .iaload 1, e0 (.aload_n 0) 1, e0 (.iload_n 3) 1, e0 (.iconst 2) 1, e0 .iadd 1, e0 .iaload 1, (.invokevirtual 62, 3, 223, 3, 11, 0, 0, 0), e1 (.if_icmp .eq 561) 3 1055, e0 (.iconst 0) 1, e0 .ireturn 1]),
  (499, [e0 (.aload_n 1) 1, e0 (.aload_n 0) 1, e0 (.iload_n 3) 1, e0 (.iconst 1) 1, e0 .iadd 1, e0 .iaload 1, e0 (.aload_n 0) 1, e0 (.iload_n 3) 1, e0 (.iconst 2) 1, e0 .iadd 1, e0 .iaload 1, (.invokevirtual 63, 3, 120, 3, 10, 0, 0, 0), e0 (.aload_n 2) 1, e0 (.aload_n 0) 1, e0 (.iload_n 3) 1, e0 (.iconst 1) 1, e0 .iadd 1, e0 .iaload 1, e0 (.aload_n 0) 1, e0 (.iload_n 3) 1, e0 (.iconst 2) 1, e0 .iadd 1, e0 .iaload 1, (.invokevirtual 66, 3, 224, 3, 11, 0, 0, 0), e1 (.if_icmp .eq 528) 3 1055, e0 (.iconst 0) 1, e0 .ireturn 1]),
  (532, [e0 (.aload_n 1) 1, e0 (.aload_n 0) 1, e0 (.iload_n 3) 1, e0 (.iconst 1) 1, e0 .iadd 1, e0 .iaload 1, (.invokevirtual 67, 3, 121, 2, 10, 0, 1, 0), e0 (.aload_n 2) 1, e0 (.aload_n 0) 1, e0 (.iload_n 3) 1, e0 (.iconst 1) 1, e0 .iadd 1, e0 .iaload 1, (.invokevirtual 71, 3, 230, 2, 11, 0, 1, 0), e0 .lcmp 1, e1 (.ifCond .eq 504) 3 1055, e0 (.iconst 0) 1, e0 .ireturn 1]),
  (556, [e0 (.aload_n 1) 1, e0 (.aload_n 0) 1, e0 (.iload_n 3) 1, e0 (.iconst 1) 1, e0 .iadd 1, e0 .iaload 1, (.invokevirtual 72, 3, 122, 2, 10, 0, 0, 0), e0 (.aload_n 2) 1, e0 (.aload_n 0) 1, e0 (.iload_n 3) 1, e0 (.iconst 1) 1, e0 .iadd 1, e0 .iaload 1, (.invokevirtual 75, 3, 234, 2, 11, 0, 0, 0), e1 (.if_icmp .eq 481) 3 1055, e0 (.iconst 0) 1, e0 .ireturn 1]),
  (579, [e0 (.aload_n 1) 1, e0 (.aload_n 0) 1, e0 (.iload_n 3) 1, e0 (.iconst 1) 1, e0 .iadd 1, e0 .iaload 1, e0 (.aload_n 0) 1, e0 (.iload_n 3) 1, e0 (.iconst 2) 1, e0 .iadd 1, e0 .iaload 1, e0 (.aload_n 0) 1, e0 (.iload_n 3) 1, e0 (.iconst 3) 1, e0 .iadd 1, e0 .iaload 1, e0 (.aload_n 0) 1, e0 (.iload_n 3) 1, e0 (.iconst 4) 1, e0 .iadd 1, e0 .iaload 1, (.invokevirtual 76, 3, 123, 5, 10, 0, 0, 0), e0 (.aload_n 2) 1, e0 (.aload_n 0) 1, e0 (.iload_n 3) 1, e0 (.iconst 1) 1, e0 .iadd 1, e0 .iaload 1, e0 (.aload_n 0) 1, e0 (.iload_n 3) 1, e0 (.iconst 2) 1, e0 .iadd 1, e0 .iaload 1, e0 (.aload_n 0) 1, e0 (.iload_n 3) 1, e0 (.iconst 3) 1, e0 .iadd 1, e0 .iaload 1, e0 (.aload_n 0) 1, e0 (.iload_n 3) 1, e0 (.iconst 4) 1, e0 .iadd 1, e0 .iaload 1, (.invokevirtual 80, 3, 240, 5, 11, 0, 0, 0), e1 (.if_icmp .eq 428) 3 1055, e0 (.iconst 0) 1, e0 .ireturn 1]),
  (632, [e0 (.aload_n 1) 1, e0 (.aload_n 0) 1, e0 (.iload_n 3) 1, e0 (.iconst 1) 1, e0 .iadd 1, e0 .iaload 1, e0 (.aload_n 0) 1, e0 (.iload_n 3) 1, e0 (.iconst 2) 1, e0 .iadd 1, e0 .iaload 1, (.invokevirtual 81, 3, 124, 3, 10, 0, 0, 0), e0 (.aload_n 2) 1, e0 (.aload_n 0) 1, e0 (.iload_n 3) 1, e0 (.iconst 1) 1, e0 .iadd 1, e0 .iaload 1, e0 (.aload_n 0) 1, e0 (.iload_n 3) 1, e0 (.iconst 2) 1, e0 .iadd 1, e0 .iaload 1, (.invokevirtual 84, 3, 242, 3, 11, 0, 0, 0), e1 (.if_icmp .eq 395) 3 1055, e0 (.iconst 0) 1, e0 .ireturn 1]),
  (665, [e0 (.aload_n 1) 1, e0 (.aload_n 0) 1, e0 (.iload_n 3) 1, e0 (.iconst 1) 1, e0 .iadd 1, e0 .iaload 1, e0 (.aload_n 0) 1, e0 (.iload_n 3) 1, e0 (.iconst 2) 1, e0 .iadd 1, e0 .iaload 1, (.invokevirtual 85, 3, 125, 3, 10, 0, 1, 0), e0 (.aload_n 2) 1, e0 (.aload_n 0) 1, e0 (.iload_n 3) 1, e0 (.iconst 1) 1, e0 .iadd 1, e0 .iaload 1, e0 (.aload_n 0) 1, e0 (.iload_n 3) 1, e0 (.iconst 2) 1, e0 .iadd 1, e0 .iaload 1, (.invokevirtual 89, 3, 245, 3, 11, 0, 1, 0), e0 .lcmp 1, e1 (.ifCond .eq 361) 3 1055, e0 (.iconst 0) 1, e0 .ireturn 1]),
  (699, [e0 (.aload_n 1) 1, e0 (.aload_n 0) 1, e0 (.iload_n 3) 1, e0 (.iconst 1) 1, e0 .iadd 1, e0 .iaload 1, e0 (.aload_n 0) 1, e0 (.iload_n 3) 1, e0 (.iconst 2) 1, e0 .iadd 1, e0 .iaload 1, (.invokevirtual 90, 3, 126, 3, 10, 0, 0, 0), e0 (.aload_n 2) 1, e0 (.aload_n 0) 1, e0 (.iload_n 3) 1, e0 (.iconst 1) 1, e0 .iadd 1, e0 .iaload 1, e0 (.aload_n 0) 1, e0 (.iload_n 3) 1, e0 (.iconst 2) 1, e0 .iadd 1, e0 .iaload 1, (.invokevirtual 93, 3, 247, 3, 11, 0, 0, 0), e1 (.if_icmp .eq 328) 3 1055, e0 (.iconst 0) 1, e0 .ireturn 1]),
  (732, [e0 (.aload_n 1) 1, e0 (.aload_n 0) 1, e0 (.iload_n 3) 1, e0 (.iconst 1) 1, e0 .iadd 1, e0 .iaload 1, e0 (.aload_n 0) 1, e0 (.iload_n 3) 1, e0 (.iconst 2) 1, e0 .iadd 1, e0 .iaload 1, (.invokevirtual 94, 3, 127, 3, 10, 0, 0, 0), e0 (.aload_n 2) 1, e0 (.aload_n 0) 1, e0 (.iload_n 3) 1, e0 (.iconst 1) 1, e0 .iadd 1, e0 .iaload 1, e0 (.aload_n 0) 1, e0 (.iload_n 3) 1, e0 (.iconst 2) 1, e0 .iadd 1, e0 .iaload 1, (.invokevirtual 97, 3, 248, 3, 11, 0, 0, 0), e1 (.if_icmp .eq 295) 3 1055, e0 (.iconst 0) 1, e0 .ireturn 1]),
  (765, [e0 (.aload_n 1) 1, e0 (.aload_n 0) 1, e0 (.iload_n 3) 1, e0 (.iconst 1) 1, e0 .iadd 1, e0 .iaload 1, (.invokevirtual 98, 3, 128, 2, 10, 0, 0, 0), e0 (.aload_n 2) 1, e0 (.aload_n 0) 1, e0 (.iload_n 3) 1, e0 (.iconst 1) 1, e0 .iadd 1, e0 .iaload 1, (.invokevirtual 101, 3, 249, 2, 11, 0, 0, 0), e1 (.if_icmp .eq 272) 3 1055, e0 (.iconst 0) 1, e0 .ireturn 1]),
  (788, [e0 (.aload_n 1) 1, e0 (.aload_n 0) 1, e0 (.iload_n 3) 1, e0 (.iconst 1) 1, e0 .iadd 1, e0 .iaload 1, (.invokevirtual 102, 3, 129, 2, 10, 0, 0, 0), e0 (.aload_n 2) 1, e0 (.aload_n 0) 1, e0 (.iload_n 3) 1, e0 (.iconst 1) 1, e0 .iadd 1, e0 .iaload 1, (.invokevirtual 105, 3, 256, 2, 11, 0, 0, 0), e1 (.if_icmp .eq 249) 3 1055, e0 (.iconst 0) 1, e0 .ireturn 1]),
  (811, [e0 (.aload_n 1) 1, e0 (.aload_n 0) 1, e0 (.iload_n 3) 1, e0 (.iconst 1) 1, e0 .iadd 1, e0 .iaload 1, (.invokevirtual 106, 3, 130, 2, 10, 0, 0, 0), e0 (.aload_n 2) 1, e0 (.aload_n 0) 1, e0 (.iload_n 3) 1, e0 (.iconst 1) 1, e0 .iadd 1, e0 .iaload 1, (.invokevirtual 109, 3, 258, 2, 11, 0, 0, 0), e1 (.if_icmp .eq 226) 3 1055, e0 (.iconst 0) 1, e0 .ireturn 1]),
  (834, [e0 (.aload_n 1) 1, e0 (.aload_n 0) 1, e0 (.iload_n 3) 1, e0 (.iconst 1) 1, e0 .iadd 1, e0 .iaload 1, e0 (.aload_n 0) 1, e0 (.iload_n 3) 1, e0 (.iconst 2) 1, e0 .iadd 1, e0 .iaload 1, (.invokevirtual 110, 3, 131, 3, 10, 0, 0, 0), e0 (.aload_n 2) 1, e0 (.aload_n 0) 1, e0 (.iload_n 3) 1, e0 (.iconst 1) 1, e0 .iadd 1, e0 .iaload 1, e0 (.aload_n 0) 1, e0 (.iload_n 3) 1, e0 (.iconst 2) 1, e0 .iadd 1, e0 .iaload 1, (.invokevirtual 114, 3, 259, 3, 11, 0, 0, 0), e1 (.if_icmp .eq 193) 3 1055, e0 (.iconst 0) 1, e0 .ireturn 1]),
  (867, [e0 (.aload_n 1) 1, e0 (.aload_n 0) 1, e0 (.iload_n 3) 1, e0 (.iconst 1) 1, e0 .iadd 1, e0 .iaload 1, e0 (.aload_n 0) 1, e0 (.iload_n 3) 1, e0 (.iconst 2) 1, e0 .iadd 1, e0 .iaload 1, e0 (.aload_n 0) 1, e0 (.iload_n 3) 1, e0 (.iconst 3) 1, e0 .iadd 1, e0 .iaload 1, (.invokevirtual 115, 3, 132, 4, 10, 0, 0, 0), e0 (.aload_n 2) 1, e0 (.aload_n 0) 1, e0 (.iload_n 3) 1, e0 (.iconst 1) 1, e0 .iadd 1, e0 .iaload 1, e0 (.aload_n 0) 1, e0 (.iload_n 3) 1, e0 (.iconst 2) 1, e0 .iadd 1, e0 .iaload 1, e0 (.aload_n 0) 1, e0 (.iload_n 3) 1, e0 (.iconst 3) 1, e0 .iadd 1, e0 .iaload 1, (.invokevirtual 119, 3, 260, 4, 11, 0, 0, 0), e1 (.if_icmp .eq 150) 3 1055, e0 (.iconst 0) 1, e0 .ireturn 1]),
  (910, [e0 (.aload_n 1) 1, e0 (.aload_n 0) 1, e0 (.iload_n 3) 1, e0 (.iconst 1) 1, e0 .iadd 1, e0 .iaload 1, (.invokevirtual 120, 3, 133, 2, 10, 0, 0, 0), e0 (.aload_n 2) 1, e0 (.aload_n 0) 1, e0 (.iload_n 3) 1, e0 (.iconst 1) 1, e0 .iadd 1, e0 .iaload 1, (.invokevirtual 123, 3, 261, 2, 11, 0, 0, 0), e1 (.if_icmp .eq 127) 3 1055, e0 (.iconst 0) 1, e0 .ireturn 1]),
  (933, [e0 (.aload_n 1) 1, (.invokevirtual 124, 3, 134, 1, 10, 0, 0, 0), e0 (.aload_n 2) 1, (.invokevirtual 128, 3, 251, 1, 11, 0, 0, 0), e1 (.if_icmp .eq 114) 3 1055, e0 (.iconst 0) 1, e0 .ireturn 1]),
  (946, [e0 (.aload_n 1) 1, e0 (.aload_n 0) 1, e0 (.iload_n 3) 1, e0 (.iconst 1) 1, e0 .iadd 1, e0 .iaload 1, (.invokevirtual 129, 3, 135, 2, 10, 0, 0, 0), e0 (.aload_n 2) 1, e0 (.aload_n 0) 1, e0 (.iload_n 3) 1, e0 (.iconst 1) 1, e0 .iadd 1, e0 .iaload 1, (.invokevirtual 132, 3, 252, 2, 11, 0, 0, 0), e1 (.if_icmp .eq 91) 3 1055, e0 (.iconst 0) 1, e0 .ireturn 1]),
  (969, [e0 (.aload_n 1) 1, (.invokevirtual 133, 3, 136, 1, 10, 0, 1, 0), e0 (.aload_n 2) 1, (.invokevirtual 137, 3, 290, 1, 11, 0, 1, 0), e0 .lcmp 1, e1 (.ifCond .eq 77) 3 1055, e0 (.iconst 0) 1, e0 .ireturn 1]),
  (983, [e0 (.aload_n 1) 1, (.invokevirtual 138, 3, 137, 1, 10, 0, 0, 0), e0 (.aload_n 2) 1, (.invokevirtual 141, 3, 293, 1, 11, 0, 0, 0), e1 (.if_icmp .eq 64) 3 1055, e0 (.iconst 0) 1, e0 .ireturn 1]),
  (996, [e0 (.aload_n 1) 1, e0 (.aload_n 0) 1, e0 (.iload_n 3) 1, e0 (.iconst 1) 1, e0 .iadd 1, e0 .iaload 1, (.invokevirtual 142, 3, 138, 2, 10, 0, 0, 0), e0 (.aload_n 2) 1, e0 (.aload_n 0) 1, e0 (.iload_n 3) 1, e0 (.iconst 1) 1, e0 .iadd 1, e0 .iaload 1, (.invokevirtual 145, 3, 294, 2, 11, 0, 0, 0), e1 (.if_icmp .eq 41) 3 1055, e0 (.iconst 0) 1, e0 .ireturn 1]),
  (1019, [e0 (.aload_n 1) 1, (.invokevirtual 146, 3, 139, 1, 10, 0, 0, 0), e0 (.aload_n 2) 1, (.invokevirtual 149, 3, 299, 1, 11, 0, 0, 0), e1 (.if_icmp .eq 28) 3 1055, e0 (.iconst 0) 1, e0 .ireturn 1]),
  (1032, [e0 (.aload_n 1) 1, e0 (.aload_n 0) 1, e0 (.iload_n 3) 1, e0 (.iconst 1) 1, e0 .iadd 1, e0 .iaload 1, (.invokevirtual 150, 3, 140, 2, 10, 0, 0, 0), e0 (.aload_n 2) 1, e0 (.aload_n 0) 1, e0 (.iload_n 3) 1, e0 (.iconst 1) 1, e0 .iadd 1, e0 .iaload 1, (.invokevirtual 153, 3, 300, 2, 11, 0, 0, 0), e1 (.if_icmp .eq 5) 3 1055, e0 (.iconst 0) 1, e0 .ireturn 1]),
  (1055, [e0 (.iinc 3 6) 3, e1 (.goto (-1040)) 3 18]),
  (1061, [e0 (.iconst 1) 1, e0 .ireturn 1])]

set_option maxRecDepth 100000 in
def pb_X2_begin : List (Nat × List EI) := [(0, [e0 (.aload_n 0) 1, e0 (.iload_n 1) 1, (.putfield 9, 3, 2, 1, 2, 0, 0, 0), e0 (.aload_n 0) 1, e0 (.iconst 0) 1, (.putfield 15, 3, 2, 2, 2, 0, 0, 0)]),
  (10, [e0 (.aload_n 0) 1, e0 (.iconst 0) 1, (.putfield 22, 3, 2, 4, 0, 0, 0, 0), e0 .return_ 1])]

set_option maxRecDepth 100000 in
def pb_X2_copyOfSteps : List (Nat × List EI) := [(0, [e0 (.aload_n 0) 1, (.getfield 18, 3, 2, 3, 30, 45, 1600, 1), e0 (.aload_n 0) 1, (.getfield 22, 3, 2, 4, 0, 0, 0, 0), (.invokestatic 30, 3, 31, 2, 0, 0, 30, 0), e0 .areturn 1])]

set_option maxRecDepth 100000 in
def pb_X2_emit : List (Nat × List EI) := [(0, [e0 (.aload_n 0) 1, (.getfield 22, 3, 2, 4, 0, 0, 0, 0), e0 (.aload_n 0) 1, (.getfield 18, 3, 2, 3, 30, 45, 1600, 1), e0 .arraylength 1, e1 (.if_icmp .ge 23) 3 32, e0 (.aload_n 0) 1, (.getfield 18, 3, 2, 3, 30, 45, 1600, 1), e0 (.aload_n 0) 1, (.getfield 22, 3, 2, 4, 0, 0, 0, 0), e0 (.iload_n 1) 1, e0 .iastore 1]),
  (22, [e0 (.aload_n 0) 1, e0 .dup 1, (.getfield 22, 3, 2, 4, 0, 0, 0, 0), e0 (.iconst 1) 1, e0 .iadd 1, (.putfield 22, 3, 2, 4, 0, 0, 0, 0)]),
  (32, [e0 (.iconst 1) 1, e0 .ireturn 1])]

set_option maxRecDepth 100000 in
def pb_X2_goIn : List (Nat × List EI) := [(0, [e0 (.iload_n 1) 1, e0 (.bipush 6) 2, e1 (.if_icmp .lt 19) 3 22, e0 (.aload_n 0) 1, (.getfield 26, 3, 2, 0, 18, 42, 0, 1), e0 (.iconst 4) 1, e0 (.aload_n 0) 1, (.getfield 26, 3, 2, 0, 18, 42, 0, 1), (.getfield 36, 3, 8, 5, 0, 0, 0, 0), (.invokevirtual 41, 3, 85, 3, 8, 0, 0, 0), e0 .ireturn 1]),
  (22, [e0 (.aload_n 0) 1, (.getfield 26, 3, 2, 0, 18, 42, 0, 1), (.invokevirtual 45, 3, 86, 1, 8, 0, 3, 0), e0 (.iconst 1) 1, e0 .ireturn 1])]

set_option maxRecDepth 100000 in
def pb_X2_chain : List (Nat × List EI) := [(0, [e0 (.iload_n 1) 1, e0 (.iconst 2) 1, e1 (.if_icmp .ne 9) 3 11, e0 (.aload_n 0) 1, e0 (.iload_n 2) 1, (.invokevirtual 48, 3, 39, 2, 2, 0, 0, 0), e0 .ireturn 1]),
  (11, [e0 (.iload_n 1) 1, e0 (.iconst 5) 1, e1 (.if_icmp .lt 9) 3 22, e0 (.aload_n 0) 1, e0 (.iload_n 2) 1, (.invokevirtual 52, 3, 40, 2, 2, 0, 0, 0), e0 .ireturn 1]),
  (22, [e0 (.aload_n 0) 1, e0 (.iload_n 1) 1, e0 (.iconst 1) 1, e0 .iadd 1, e0 (.iload_n 2) 1, (.invokevirtual 55, 3, 37, 3, 2, 0, 0, 0), e0 (.istore_n 3) 1, e0 (.iconst 0) 1, e0 (.istore 4) 2]),
  (34, [e0 (.iload 4) 2, e0 (.sipush 1600) 3, e1 (.if_icmp .ge 62) 3 101, e0 (.iload_n 3) 1, e1 (.ifCond .eq 58) 3 101, e0 (.aload_n 0) 1, e0 (.iload_n 1) 1, (.invokevirtual 58, 3, 38, 2, 2, 0, 0, 0), e0 (.istore 5) 2, e0 (.iload 5) 2, e0 (.iconst (-1)) 1, e1 (.if_icmp .ne 6) 3 62, e1 (.goto 42) 3 101]),
  (62, [e0 (.aload_n 0) 1, (.getfield 26, 3, 2, 0, 18, 42, 0, 1), (.invokevirtual 45, 3, 86, 1, 8, 0, 3, 0), e0 (.aload_n 0) 1, e0 (.iload_n 1) 1, e0 (.iconst 1) 1, e0 .iadd 1, e0 (.iload_n 2) 1, (.invokevirtual 55, 3, 37, 3, 2, 0, 0, 0), e1 (.ifCond .eq 16) 3 93, e0 (.aload_n 0) 1, e0 (.iload 5) 2, (.invokevirtual 62, 3, 35, 2, 2, 0, 0, 0), e1 (.ifCond .eq 7) 3 93, e0 (.iconst 1) 1, e1 (.goto 4) 3 94]),
  (93, [e0 (.iconst 0) 1]),
  (94, [e0 (.istore_n 3) 1, e0 (.iinc 4 1) 3, e1 (.goto (-64)) 3 34]),
  (101, [e0 (.iload_n 3) 1, e0 .ireturn 1])]

set_option maxRecDepth 100000 in
def pb_X2_joiner : List (Nat × List EI) := [(0, [e0 (.iload_n 1) 1, e0 (.tableswitch 147 0 4 #[35, 55, 147, 75, 111]) 35]),
  (36, [e0 (.aload_n 0) 1, (.getfield 26, 3, 2, 0, 18, 42, 0, 1), (.getfield 65, 3, 8, 7, 22, 0, 0, 0), (.getstatic 69, 3, 12, 25, 0, 0, 0, 0), e1 (.if_acmp .ne 8) 3 54, e0 (.bipush 20) 2, e1 (.goto 4) 3 55]),
  (54, [e0 (.iconst (-1)) 1]),
  (55, [e0 .ireturn 1]),
  (56, [e0 (.aload_n 0) 1, (.getfield 26, 3, 2, 0, 18, 42, 0, 1), (.getfield 65, 3, 8, 7, 22, 0, 0, 0), (.getstatic 74, 3, 12, 26, 0, 0, 0, 0), e1 (.if_acmp .ne 8) 3 74, e0 (.bipush 19) 2, e1 (.goto 4) 3 75]),
  (74, [e0 (.iconst (-1)) 1]),
  (75, [e0 .ireturn 1]),
  (76, [e0 (.aload_n 0) 1, (.getfield 26, 3, 2, 0, 18, 42, 0, 1), e0 (.bipush 43) 2, (.invokevirtual 77, 3, 89, 2, 8, 0, 0, 0), e1 (.ifCond .eq 8) 3 93, e0 (.bipush 10) 2, e1 (.goto 21) 3 111]),
  (93, [e0 (.aload_n 0) 1, (.getfield 26, 3, 2, 0, 18, 42, 0, 1), e0 (.bipush 45) 2, (.invokevirtual 77, 3, 89, 2, 8, 0, 0, 0), e1 (.ifCond .eq 8) 3 110, e0 (.bipush 11) 2, e1 (.goto 4) 3 111]),
  (110, [e0 (.iconst (-1)) 1]),
  (111, [e0 .ireturn 1]),
  (112, [e0 (.aload_n 0) 1, (.getfield 26, 3, 2, 0, 18, 42, 0, 1), e0 (.bipush 42) 2, (.invokevirtual 77, 3, 89, 2, 8, 0, 0, 0), e1 (.ifCond .eq 8) 3 129, e0 (.bipush 12) 2, e1 (.goto 21) 3 147]),
  (129, [e0 (.aload_n 0) 1, (.getfield 26, 3, 2, 0, 18, 42, 0, 1), e0 (.bipush 47) 2, (.invokevirtual 77, 3, 89, 2, 8, 0, 0, 0), e1 (.ifCond .eq 8) 3 146, e0 (.bipush 13) 2, e1 (.goto 4) 3 147]),
  (146, [e0 (.iconst (-1)) 1]),
  (147, [e0 .ireturn 1]),
  (148, [e0 (.iconst (-1)) 1, e0 .ireturn 1])]

set_option maxRecDepth 100000 in
def pb_X2_fact : List (Nat × List EI) := [(0, [e0 (.aload_n 0) 1, (.getfield 26, 3, 2, 0, 18, 42, 0, 1), (.getfield 65, 3, 8, 7, 22, 0, 0, 0), (.getstatic 81, 3, 12, 27, 0, 0, 0, 0), e1 (.if_acmp .ne 36) 3 46, e0 (.aload_n 0) 1, e0 (.iload_n 1) 1, (.invokevirtual 84, 3, 36, 2, 2, 0, 0, 0), e1 (.ifCond .eq 26) 3 44, e0 (.aload_n 0) 1, e0 (.iload_n 1) 1, e0 (.iconst 1) 1, e0 .iadd 1, (.invokevirtual 48, 3, 39, 2, 2, 0, 0, 0), e1 (.ifCond .eq 16) 3 44, e0 (.aload_n 0) 1, e0 (.bipush 21) 2, (.invokevirtual 62, 3, 35, 2, 2, 0, 0, 0), e1 (.ifCond .eq 7) 3 44, e0 (.iconst 1) 1, e1 (.goto 4) 3 45]),
  (44, [e0 (.iconst 0) 1]),
  (45, [e0 .ireturn 1]),
  (46, [e0 (.aload_n 0) 1, (.getfield 26, 3, 2, 0, 18, 42, 0, 1), e0 (.bipush 91) 2, (.invokevirtual 77, 3, 89, 2, 8, 0, 0, 0), e1 (.ifCond .eq 40) 3 95, e0 (.aload_n 0) 1, e0 (.iload_n 1) 1, (.invokevirtual 84, 3, 36, 2, 2, 0, 0, 0), e1 (.ifCond .eq 30) 3 93, e0 (.aload_n 0) 1, e0 (.iconst 0) 1, e0 (.iload_n 1) 1, e0 (.iconst 1) 1, e0 .iadd 1, (.invokevirtual 55, 3, 37, 3, 2, 0, 0, 0), e1 (.ifCond .eq 19) 3 93, e0 (.aload_n 0) 1, (.getfield 26, 3, 2, 0, 18, 42, 0, 1), e0 (.bipush 93) 2, (.invokevirtual 87, 3, 90, 2, 8, 0, 0, 0), e1 (.ifCond .eq 7) 3 93, e0 (.iconst 1) 1, e1 (.goto 4) 3 94]),
  (93, [e0 (.iconst 0) 1]),
  (94, [e0 .ireturn 1]),
  (95, [e0 (.aload_n 0) 1, (.getfield 26, 3, 2, 0, 18, 42, 0, 1), (.getfield 65, 3, 8, 7, 22, 0, 0, 0), (.getstatic 90, 3, 12, 28, 0, 0, 0, 0), e1 (.if_acmp .ne 17) 3 122, e0 (.aload_n 0) 1, (.getfield 26, 3, 2, 0, 18, 42, 0, 1), (.invokevirtual 45, 3, 86, 1, 8, 0, 3, 0), e0 (.aload_n 0) 1, e0 (.bipush 101) 2, (.invokevirtual 62, 3, 35, 2, 2, 0, 0, 0), e0 .ireturn 1]),
  (122, [e0 (.aload_n 0) 1, e0 (.iconst 3) 1, e0 (.iload_n 1) 1, (.invokevirtual 55, 3, 37, 3, 2, 0, 0, 0), e1 (.ifCond .ne 5) 3 133, e0 (.iconst 0) 1, e0 .ireturn 1]),
  (133, [e0 (.aload_n 0) 1, (.getfield 26, 3, 2, 0, 18, 42, 0, 1), e0 (.bipush 60) 2, (.invokevirtual 77, 3, 89, 2, 8, 0, 0, 0), e1 (.ifCond .eq 8) 3 150, e0 (.bipush 16) 2, e1 (.goto 38) 3 185]),
  (150, [e0 (.aload_n 0) 1, (.getfield 26, 3, 2, 0, 18, 42, 0, 1), e0 (.bipush 62) 2, (.invokevirtual 77, 3, 89, 2, 8, 0, 0, 0), e1 (.ifCond .eq 8) 3 167, e0 (.bipush 17) 2, e1 (.goto 21) 3 185]),
  (167, [e0 (.aload_n 0) 1, (.getfield 26, 3, 2, 0, 18, 42, 0, 1), e0 (.bipush 61) 2, (.invokevirtual 77, 3, 89, 2, 8, 0, 0, 0), e1 (.ifCond .eq 8) 3 184, e0 (.bipush 18) 2, e1 (.goto 4) 3 185]),
  (184, [e0 (.iconst (-1)) 1]),
  (185, [e0 (.istore_n 2) 1, e0 (.iload_n 2) 1, e0 (.iconst (-1)) 1, e1 (.if_icmp .ne 19) 3 207, e0 (.aload_n 0) 1, (.getfield 26, 3, 2, 0, 18, 42, 0, 1), e0 (.iconst 1) 1, e0 (.aload_n 0) 1, (.getfield 26, 3, 2, 0, 18, 42, 0, 1), (.getfield 36, 3, 8, 5, 0, 0, 0, 0), (.invokevirtual 41, 3, 85, 3, 8, 0, 0, 0), e0 .ireturn 1]),
  (207, [e0 (.aload_n 0) 1, (.getfield 26, 3, 2, 0, 18, 42, 0, 1), (.invokevirtual 45, 3, 86, 1, 8, 0, 3, 0), e0 (.aload_n 0) 1, e0 (.iconst 3) 1, e0 (.iload_n 1) 1, (.invokevirtual 55, 3, 37, 3, 2, 0, 0, 0), e1 (.ifCond .eq 15) 3 235, e0 (.aload_n 0) 1, e0 (.iload_n 2) 1, (.invokevirtual 62, 3, 35, 2, 2, 0, 0, 0), e1 (.ifCond .eq 7) 3 235, e0 (.iconst 1) 1, e1 (.goto 4) 3 236]),
  (235, [e0 (.iconst 0) 1]),
  (236, [e0 .ireturn 1])]

set_option maxRecDepth 100000 in
def pb_X2_part : List (Nat × List EI) := [(0, [e0 (.aload_n 0) 1, (.getfield 26, 3, 2, 0, 18, 42, 0, 1), (.getfield 65, 3, 8, 7, 22, 0, 0, 0), e0 (.astore_n 2) 1, e0 (.aload_n 0) 1, (.getfield 26, 3, 2, 0, 18, 42, 0, 1), (.getfield 93, 3, 8, 6, 0, 0, 0, 0), e0 (.iconst 2) 1, e1 (.if_icmp .ne 40) 3 56, e0 (.aload_n 0) 1, (.getfield 26, 3, 2, 0, 18, 42, 0, 1), e0 (.iconst 0) 1, e0 (.sipush 9999) 3, (.invokevirtual 96, 3, 92, 3, 8, 0, 0, 0), e1 (.ifCond .eq 24) 3 54, e0 (.aload_n 0) 1, e0 (.bipush 100) 2, e0 (.aload_n 0) 1, (.getfield 26, 3, 2, 0, 18, 42, 0, 1), (.getfield 99, 3, 8, 10, 0, 0, 0, 0), e0 .iadd 1, (.invokevirtual 62, 3, 35, 2, 2, 0, 0, 0), e1 (.ifCond .eq 7) 3 54, e0 (.iconst 1) 1, e1 (.goto 4) 3 55]),
  (54, [e0 (.iconst 0) 1]),
  (55, [e0 .ireturn 1]),
  (56, [e0 (.aload_n 0) 1, (.getfield 26, 3, 2, 0, 18, 42, 0, 1), e0 (.bipush 40) 2, (.invokevirtual 77, 3, 89, 2, 8, 0, 0, 0), e1 (.ifCond .eq 40) 3 105, e0 (.aload_n 0) 1, e0 (.iload_n 1) 1, (.invokevirtual 84, 3, 36, 2, 2, 0, 0, 0), e1 (.ifCond .eq 30) 3 103, e0 (.aload_n 0) 1, e0 (.iconst 3) 1, e0 (.iload_n 1) 1, e0 (.iconst 1) 1, e0 .iadd 1, (.invokevirtual 55, 3, 37, 3, 2, 0, 0, 0), e1 (.ifCond .eq 19) 3 103, e0 (.aload_n 0) 1, (.getfield 26, 3, 2, 0, 18, 42, 0, 1), e0 (.bipush 41) 2, (.invokevirtual 87, 3, 90, 2, 8, 0, 0, 0), e1 (.ifCond .eq 7) 3 103, e0 (.iconst 1) 1, e1 (.goto 4) 3 104]),
  (103, [e0 (.iconst 0) 1]),
  (104, [e0 .ireturn 1]),
  (105, [e0 (.aload_n 2) 1, (.getstatic 102, 3, 12, 29, 0, 0, 0, 0), e1 (.if_acmp .eq 10) 3 119, e0 (.aload_n 2) 1, (.getstatic 105, 3, 12, 30, 0, 0, 0, 0), e1 (.if_acmp .ne 45) 3 161]),
  (119, [e0 (.aload_n 0) 1, (.getfield 26, 3, 2, 0, 18, 42, 0, 1), (.invokevirtual 45, 3, 86, 1, 8, 0, 3, 0), e0 (.aload_n 0) 1, e0 (.iload_n 1) 1, (.invokevirtual 108, 3, 41, 2, 2, 0, 0, 0), e1 (.ifCond .eq 28) 3 159, e0 (.aload_n 0) 1, e0 (.aload_n 2) 1, (.getstatic 102, 3, 12, 29, 0, 0, 0, 0), e1 (.if_acmp .ne 8) 3 147, e0 (.bipush 14) 2, e1 (.goto 5) 3 149]),
  (147, [e0 (.bipush 15) 2]),
  (149, [(.invokevirtual 62, 3, 35, 2, 2, 0, 0, 0), e1 (.ifCond .eq 7) 3 159, e0 (.iconst 1) 1, e1 (.goto 4) 3 160]),
  (159, [e0 (.iconst 0) 1]),
  (160, [e0 .ireturn 1]),
  (161, [e0 (.aload_n 0) 1, (.getfield 9, 3, 2, 1, 2, 0, 0, 0), e1 (.ifCond .eq 43) 3 208, e0 (.aload_n 2) 1, (.getstatic 111, 3, 12, 31, 0, 0, 0, 0), e1 (.if_acmp .ne 36) 3 208, e0 (.aload_n 0) 1, e0 (.iload_n 1) 1, (.invokevirtual 84, 3, 36, 2, 2, 0, 0, 0), e1 (.ifCond .eq 26) 3 206, e0 (.aload_n 0) 1, e0 (.iload_n 1) 1, e0 (.iconst 1) 1, e0 .iadd 1, (.invokevirtual 52, 3, 40, 2, 2, 0, 0, 0), e1 (.ifCond .eq 16) 3 206, e0 (.aload_n 0) 1, e0 (.bipush 22) 2, (.invokevirtual 62, 3, 35, 2, 2, 0, 0, 0), e1 (.ifCond .eq 7) 3 206, e0 (.iconst 1) 1, e1 (.goto 4) 3 207]),
  (206, [e0 (.iconst 0) 1]),
  (207, [e0 .ireturn 1]),
  (208, [e0 (.aload_n 2) 1, e1 (.ifnull 27) 3 236, e0 (.aload_n 2) 1, (.getfield 114, 3, 12, 1, 0, 0, 0, 0), e0 (.iconst (-1)) 1, e1 (.if_icmp .eq 19) 3 236, e0 (.aload_n 0) 1, (.getfield 9, 3, 2, 1, 2, 0, 0, 0), e1 (.ifCond .ne 28) 3 252, e0 (.aload_n 2) 1, (.getfield 114, 3, 12, 1, 0, 0, 0, 0), e0 (.bipush 8) 2, e1 (.if_icmp .lt 19) 3 252]),
  (236, [e0 (.aload_n 0) 1, (.getfield 26, 3, 2, 0, 18, 42, 0, 1), e0 (.iconst 1) 1, e0 (.aload_n 0) 1, (.getfield 26, 3, 2, 0, 18, 42, 0, 1), (.getfield 36, 3, 8, 5, 0, 0, 0, 0), (.invokevirtual 41, 3, 85, 3, 8, 0, 0, 0), e0 .ireturn 1]),
  (252, [e0 (.aload_n 0) 1, e0 (.aload_n 0) 1, (.getfield 15, 3, 2, 2, 2, 0, 0, 0), e1 (.ifCond .ne 10) 3 267, e0 (.aload_n 2) 1, (.getstatic 116, 3, 12, 22, 0, 0, 0, 0), e1 (.if_acmp .ne 7) 3 271]),
  (267, [e0 (.iconst 1) 1, e1 (.goto 4) 3 272]),
  (271, [e0 (.iconst 0) 1]),
  (272, [(.putfield 15, 3, 2, 2, 2, 0, 0, 0), e0 (.aload_n 0) 1, (.getfield 26, 3, 2, 0, 18, 42, 0, 1), (.invokevirtual 45, 3, 86, 1, 8, 0, 3, 0), e0 (.aload_n 0) 1, e0 (.aload_n 2) 1, (.getfield 114, 3, 12, 1, 0, 0, 0, 0), (.invokevirtual 62, 3, 35, 2, 2, 0, 0, 0), e0 .ireturn 1])]

set_option maxRecDepth 100000 in
def pb_X2_pair : List (Nat × List EI) := [(0, [e0 (.aload_n 0) 1, (.getfield 26, 3, 2, 0, 18, 42, 0, 1), e0 (.bipush 40) 2, (.invokevirtual 77, 3, 89, 2, 8, 0, 0, 0), e1 (.ifCond .ne 19) 3 28, e0 (.aload_n 0) 1, (.getfield 26, 3, 2, 0, 18, 42, 0, 1), e0 (.iconst 1) 1, e0 (.aload_n 0) 1, (.getfield 26, 3, 2, 0, 18, 42, 0, 1), (.getfield 36, 3, 8, 5, 0, 0, 0, 0), (.invokevirtual 41, 3, 85, 3, 8, 0, 0, 0), e0 .ireturn 1]),
  (28, [e0 (.aload_n 0) 1, e0 (.iload_n 1) 1, (.invokevirtual 84, 3, 36, 2, 2, 0, 0, 0), e1 (.ifCond .eq 53) 3 86, e0 (.aload_n 0) 1, e0 (.iconst 3) 1, e0 (.iload_n 1) 1, e0 (.iconst 1) 1, e0 .iadd 1, (.invokevirtual 55, 3, 37, 3, 2, 0, 0, 0), e1 (.ifCond .eq 42) 3 86, e0 (.aload_n 0) 1, (.getfield 26, 3, 2, 0, 18, 42, 0, 1), e0 (.bipush 44) 2, (.invokevirtual 87, 3, 90, 2, 8, 0, 0, 0), e1 (.ifCond .eq 30) 3 86, e0 (.aload_n 0) 1, e0 (.iconst 3) 1, e0 (.iload_n 1) 1, e0 (.iconst 1) 1, e0 .iadd 1, (.invokevirtual 55, 3, 37, 3, 2, 0, 0, 0), e1 (.ifCond .eq 19) 3 86, e0 (.aload_n 0) 1, (.getfield 26, 3, 2, 0, 18, 42, 0, 1), e0 (.bipush 41) 2, (.invokevirtual 87, 3, 90, 2, 8, 0, 0, 0), e1 (.ifCond .eq 7) 3 86, e0 (.iconst 1) 1, e1 (.goto 4) 3 87]),
  (86, [e0 (.iconst 0) 1]),
  (87, [e0 .ireturn 1])]

set_option maxRecDepth 100000 in
def pb_X3_init : List (Nat × List EI) := [(0, [e0 (.aload_n 0) 1, (.invokespecial 3, 3, 0, 1, 0, 9, 3, 0), e0 (.aload_n 0) 1, e0 (.iconst 0) 1, e1 (.putfield 9) 3 3, e0 (.aload_n 0) 1, e0 (.iconst 0) 1, (.putfield 15, 3, 3, 1, 0, 0, 0, 0), e0 (.aload_n 0) 1, e0 (.iconst 0) 1, (.putfield 18, 3, 3, 2, 0, 0, 0, 0), e0 (.aload_n 0) 1, e0 (.iconst 0) 1, (.putfield 21, 3, 3, 3, 0, 0, 0, 0), e0 (.aload_n 0) 1, e0 (.iconst 0) 1, (.putfield 24, 3, 3, 4, 0, 0, 0, 0), e0 (.aload_n 0) 1, e0 (.iconst 0) 1, (.putfield 27, 3, 3, 5, 0, 0, 0, 0), e0 (.aload_n 0) 1, e0 (.iconst 0) 1, (.putfield 30, 3, 3, 6, 0, 0, 0, 0), e0 (.aload_n 0) 1, e0 (.bipush 20) 2, e0 (.newarray .int) 2, (.putfield 33, 3, 3, 7, 30, 1, 20, 0), e0 (.aload_n 0) 1, e0 (.bipush 16) 2, e0 (.newarray .int) 2, (.putfield 37, 3, 3, 8, 30, 2, 16, 0), e0 (.aload_n 0) 1, e0 (.bipush 16) 2, e0 (.newarray .int) 2, (.putfield 40, 3, 3, 9, 30, 3, 16, 0), e0 (.aload_n 0) 1, e0 (.bipush 8) 2, e0 (.newarray .int) 2, (.putfield 43, 3, 3, 10, 30, 4, 8, 0), e0 (.aload_n 0) 1, e0 (.bipush 8) 2, e0 (.newarray .int) 2, (.putfield 46, 3, 3, 11, 30, 5, 8, 0), e0 (.aload_n 0) 1, e0 (.bipush 6) 2, e0 (.newarray .int) 2, (.putfield 49, 3, 3, 12, 30, 6, 6, 0), e0 (.aload_n 0) 1, e0 (.bipush 8) 2, e0 (.newarray .int) 2, (.putfield 52, 3, 3, 13, 30, 7, 8, 0), e0 (.aload_n 0) 1, e0 (.bipush 18) 2, e0 (.newarray .int) 2, (.putfield 55, 3, 3, 14, 30, 8, 18, 0), e0 (.aload_n 0) 1, e0 (.bipush 16) 2, e0 (.newarray .int) 2, (.putfield 58, 3, 3, 15, 30, 9, 16, 0), e0 (.aload_n 0) 1, e1 (.aconst_null) 1 20, (.putfield 61, 3, 3, 16, 30, 0, 0, 0), e0 (.aload_n 0) 1, e1 (.aconst_null) 1 20, (.putfield 64, 3, 3, 17, 30, 0, 0, 0), e0 (.aload_n 0) 1, e0 (.iconst 0) 1, (.putfield 67, 3, 3, 18, 2, 0, 0, 0), e0 .return_ 1])]

set_option maxRecDepth 100000 in
def pb_X3_isTold : List (Nat × List EI) := [(0, [e0 (.aload_n 0) 1, (.getfield 15, 3, 3, 1, 0, 0, 0, 0), e1 (.ifCond .le 7) 3 11, e0 (.iconst 1) 1, e1 (.goto 4) 3 12]),
  (11, [e0 (.iconst 0) 1]),
  (12, [e0 .ireturn 1])]

set_option maxRecDepth 100000 in
def pb_X3_isSeat : List (Nat × List EI) := [(0, [e0 (.iload_n 1) 1, e1 (.ifCond .lt 15) 3 16, e0 (.iload_n 1) 1, e0 (.aload_n 0) 1, (.getfield 15, 3, 3, 1, 0, 0, 0, 0), e1 (.if_icmp .ge 7) 3 16, e0 (.iconst 1) 1, e1 (.goto 4) 3 17]),
  (16, [e0 (.iconst 0) 1]),
  (17, [e0 .ireturn 1])]

set_option maxRecDepth 100000 in
def pb_X3_isMute : List (Nat × List EI) := [(0, [e0 (.iload_n 1) 1, e1 (.ifCond .lt 15) 3 16, e0 (.iload_n 1) 1, e0 (.aload_n 0) 1, (.getfield 27, 3, 3, 5, 0, 0, 0, 0), e1 (.if_icmp .ge 7) 3 16, e0 (.iconst 1) 1, e1 (.goto 4) 3 17]),
  (16, [e0 (.iconst 0) 1]),
  (17, [e0 .ireturn 1])]

set_option maxRecDepth 100000 in
def pb_X3_isPoint : List (Nat × List EI) := [(0, [e0 (.iload_n 1) 1, e1 (.ifCond .lt 15) 3 16, e0 (.iload_n 1) 1, e0 (.aload_n 0) 1, (.getfield 21, 3, 3, 3, 0, 0, 0, 0), e1 (.if_icmp .ge 7) 3 16, e0 (.iconst 1) 1, e1 (.goto 4) 3 17]),
  (16, [e0 (.iconst 0) 1]),
  (17, [e0 .ireturn 1])]

set_option maxRecDepth 100000 in
def pb_X3_find : List (Nat × List EI) := [(0, [e0 (.iconst 0) 1, e0 (.istore_n 2) 1]),
  (2, [e0 (.iload_n 2) 1, e0 (.aload_n 0) 1, (.getfield 33, 3, 3, 7, 30, 1, 20, 0), e0 .arraylength 1, e1 (.if_icmp .ge 21) 3 29, e0 (.aload_n 0) 1, (.getfield 33, 3, 3, 7, 30, 1, 20, 0), e0 (.iload_n 2) 1, e0 .iaload 1, e0 (.iload_n 1) 1, e1 (.if_icmp .ne 5) 3 23, e0 (.iload_n 2) 1, e0 .ireturn 1]),
  (23, [e0 (.iinc 2 1) 3, e1 (.goto (-24)) 3 2]),
  (29, [e0 (.iconst (-1)) 1, e0 .ireturn 1])]

set_option maxRecDepth 100000 in
def pb_X3_letterOf : List (Nat × List EI) := [(0, [e0 (.aload_n 0) 1, (.getfield 33, 3, 3, 7, 30, 1, 20, 0), e0 (.iload_n 1) 1, e0 .iaload 1, e0 (.istore_n 3) 1, e0 (.iconst 5) 1, e0 (.istore 4) 2]),
  (10, [e0 (.iload 4) 2, e0 (.iload_n 2) 1, e1 (.if_icmp .le 14) 3 27, e0 (.iload_n 3) 1, e0 (.bipush 27) 2, e0 .idiv 1, e0 (.istore_n 3) 1, e0 (.iinc 4 (-1)) 3, e1 (.goto (-14)) 3 10]),
  (27, [e0 (.iload_n 3) 1, e0 (.bipush 27) 2, e0 .irem 1, e0 .ireturn 1])]

set_option maxRecDepth 100000 in
def pb_X3_noiseAt : List (Nat × List EI) := [(0, [e0 (.iconst 0) 1, e0 (.istore 4) 2, e0 (.iconst 0) 1, e0 (.istore 5) 2]),
  (6, [e0 (.iload 5) 2, e0 (.aload_n 0) 1, (.getfield 24, 3, 3, 4, 0, 0, 0, 0), e1 (.if_icmp .ge 65) 3 77, e0 (.aload_n 0) 1, (.getfield 55, 3, 3, 14, 30, 8, 18, 0), e0 (.iconst 3) 1, e0 (.iload 5) 2, e0 .imul 1, e0 .iaload 1, e0 (.iload_n 2) 1, e1 (.if_icmp .ne 46) 3 71, e0 (.iload 5) 2, e0 (.iload_n 3) 1, e1 (.if_icmp .eq 40) 3 71, e0 (.iload 4) 2, e0 (.iconst 0) 1, e0 (.aload_n 0) 1, (.getfield 55, 3, 3, 14, 30, 8, 18, 0), e0 (.iconst 3) 1, e0 (.iload 5) 2, e0 .imul 1, e0 (.iconst 2) 1, e0 .iadd 1, e0 .iaload 1, e0 (.iload_n 1) 1, e0 (.aload_n 0) 1, (.getfield 55, 3, 3, 14, 30, 8, 18, 0), e0 (.iconst 3) 1, e0 (.iload 5) 2, e0 .imul 1, e0 (.iconst 1) 1, e0 .iadd 1, e0 .iaload 1, e0 .isub 1, (.invokestatic 71, 3, 303, 1, 0, 0, 0, 0), e0 .isub 1, (.invokestatic 77, 3, 304, 2, 0, 0, 0, 0), e0 .iadd 1, e0 (.istore 4) 2]),
  (71, [e0 (.iinc 5 1) 3, e1 (.goto (-68)) 3 6]),
  (77, [e0 (.iload 4) 2, e0 .ireturn 1])]

set_option maxRecDepth 100000 in
def pb_X3_isNoisy : List (Nat × List EI) := [(0, [e0 (.iconst 0) 1, e0 (.istore_n 2) 1]),
  (2, [e0 (.iload_n 2) 1, e0 (.aload_n 0) 1, (.getfield 24, 3, 3, 4, 0, 0, 0, 0), e1 (.if_icmp .ge 23) 3 30, e0 (.aload_n 0) 1, (.getfield 55, 3, 3, 14, 30, 8, 18, 0), e0 (.iconst 3) 1, e0 (.iload_n 2) 1, e0 .imul 1, e0 .iaload 1, e0 (.iload_n 1) 1, e1 (.if_icmp .ne 5) 3 24, e0 (.iconst 1) 1, e0 .ireturn 1]),
  (24, [e0 (.iinc 2 1) 3, e1 (.goto (-25)) 3 2]),
  (30, [e0 (.iconst 0) 1, e0 .ireturn 1])]

set_option maxRecDepth 100000 in
def pb_X3_areFoes : List (Nat × List EI) := [(0, [e0 (.aload_n 0) 1, (.getfield 58, 3, 3, 15, 30, 9, 16, 0), e0 (.iload_n 1) 1, e0 .iaload 1, e0 (.iload_n 2) 1, e0 .ishr 1, e0 (.iconst 1) 1, e0 .iand 1, e1 (.ifCond .ne 16) 3 26, e0 (.aload_n 0) 1, (.getfield 58, 3, 3, 15, 30, 9, 16, 0), e0 (.iload_n 2) 1, e0 .iaload 1, e0 (.iload_n 1) 1, e0 .ishr 1, e0 (.iconst 1) 1, e0 .iand 1, e1 (.ifCond .eq 7) 3 30]),
  (26, [e0 (.iconst 1) 1, e1 (.goto 4) 3 31]),
  (30, [e0 (.iconst 0) 1]),
  (31, [e0 .ireturn 1])]

set_option maxRecDepth 100000 in
def pb_X3_costOf : List (Nat × List EI) := [(0, [e0 (.iconst 0) 1, e0 (.istore_n 2) 1, e0 (.iconst 0) 1, e0 (.istore_n 3) 1]),
  (4, [e0 (.iload_n 3) 1, e0 (.aload_n 0) 1, (.getfield 27, 3, 3, 5, 0, 0, 0, 0), e1 (.if_icmp .ge 26) 3 35, e0 (.iload_n 1) 1, e0 (.iload_n 3) 1, e0 .ishr 1, e0 (.iconst 1) 1, e0 .iand 1, e1 (.ifCond .eq 12) 3 29, e0 (.iload_n 2) 1, e0 (.aload_n 0) 1, (.getfield 49, 3, 3, 12, 30, 6, 6, 0), e0 (.iload_n 3) 1, e0 .iaload 1, e0 .iadd 1, e0 (.istore_n 2) 1]),
  (29, [e0 (.iinc 3 1) 3, e1 (.goto (-28)) 3 4]),
  (35, [e0 (.iload_n 2) 1, e0 .ireturn 1])]

set_option maxRecDepth 100000 in
def pb_X4_init : List (Nat × List EI) := [(0, [e0 (.aload_n 0) 1, (.invokespecial 3, 3, 0, 1, 0, 9, 3, 0), e0 (.aload_n 0) 1, e0 (.iconst 3) 1, e0 (.newarray .int) 2, (.putfield 9, 3, 4, 2, 30, 47, 3, 1), e0 (.aload_n 0) 1, (.new 15, 7, 3, 19, 43, 17, 0, 0), (.putfield 18, 3, 4, 3, 13, 0, 0, 0), e0 (.aload_n 0) 1, e0 (.aload_n 1) 1, (.putfield 22, 3, 4, 0, 18, 42, 0, 1), e0 (.aload_n 0) 1, e0 (.aload_n 2) 1, (.putfield 26, 3, 4, 1, 12, 44, 0, 1), e0 .return_ 1])]

set_option maxRecDepth 100000 in
def pb_X4_read : List (Nat × List EI) := [(0, [e0 (.aload_n 0) 1, (.new 15, 7, 3, 19, 43, 17, 0, 0), (.putfield 18, 3, 4, 3, 13, 0, 0, 0), e0 (.aload_n 0) 1, (.invokevirtual 30, 3, 55, 1, 4, 0, 0, 0), e1 (.ifCond .eq 15) 3 30, e0 (.aload_n 0) 1, (.getfield 22, 3, 4, 0, 18, 42, 0, 1), e0 (.bipush 59) 2, (.invokevirtual 34, 3, 90, 2, 8, 0, 0, 0), e1 (.ifCond .ne 5) 3 32]),
  (30, [e1 (.aconst_null) 1 3, e0 .areturn 1]),
  (32, [e0 (.aload_n 0) 1, (.getfield 18, 3, 4, 3, 13, 0, 0, 0), e0 (.iconst 1) 1, e1 (.putfield 40) 3 3, e0 (.iconst 1) 1, e0 (.istore_n 1) 1]),
  (42, [e0 (.iload_n 1) 1, e0 (.bipush 60) 2, e1 (.if_icmp .gt 77) 3 122, e0 (.aload_n 0) 1, (.getfield 22, 3, 4, 0, 18, 42, 0, 1), (.getfield 44, 3, 8, 6, 0, 0, 0, 0), e1 (.ifCond .eq 67) 3 122, e0 (.iload_n 1) 1, e0 (.bipush 60) 2, e1 (.if_icmp .ne 21) 3 82, e0 (.aload_n 0) 1, (.getfield 22, 3, 4, 0, 18, 42, 0, 1), e0 (.iconst 5) 1, e0 (.aload_n 0) 1, (.getfield 22, 3, 4, 0, 18, 42, 0, 1), (.getfield 47, 3, 8, 5, 0, 0, 0, 0), (.invokevirtual 50, 3, 85, 3, 8, 0, 0, 0), e0 .pop 1, e1 (.aconst_null) 1 3, e0 .areturn 1]),
  (82, [e0 (.aload_n 0) 1, (.invokevirtual 54, 3, 56, 1, 4, 0, 0, 0), e1 (.ifCond .eq 15) 3 101, e0 (.aload_n 0) 1, (.getfield 22, 3, 4, 0, 18, 42, 0, 1), e0 (.bipush 59) 2, (.invokevirtual 34, 3, 90, 2, 8, 0, 0, 0), e1 (.ifCond .ne 5) 3 103]),
  (101, [e1 (.aconst_null) 1 3, e0 .areturn 1]),
  (103, [e0 (.aload_n 0) 1, (.getfield 18, 3, 4, 3, 13, 0, 0, 0), e0 .dup 1, e1 (.getfield 40) 3 3, e0 (.iconst 1) 1, e0 .iadd 1, e1 (.putfield 40) 3 3]),
  (116, [e0 (.iinc 1 1) 3, e1 (.goto (-77)) 3 42]),
  (122, [e0 (.aload_n 0) 1, (.getfield 18, 3, 4, 3, 13, 0, 0, 0), e0 .areturn 1])]

set_option maxRecDepth 100000 in
def pb_X4_opening : List (Nat × List EI) := [(0, [e0 (.aload_n 0) 1, (.getstatic 57, 3, 12, 1, 0, 0, 0, 0), e0 (.iconst 2) 1, e0 (.bipush 9) 2, e0 (.iconst 0) 1, (.invokevirtual 63, 3, 58, 5, 4, 0, 0, 0), e1 (.ifCond .ne 5) 3 16, e0 (.iconst 0) 1, e0 .ireturn 1]),
  (16, [e0 (.aload_n 0) 1, (.getfield 18, 3, 4, 3, 13, 0, 0, 0), e0 (.aload_n 0) 1, (.getfield 9, 3, 4, 2, 30, 47, 3, 1), e0 (.iconst 0) 1, e0 .iaload 1, (.putfield 67, 3, 3, 1, 0, 0, 0, 0)]),
  (29, [e0 (.iconst 1) 1, e0 .ireturn 1])]

set_option maxRecDepth 100000 in
def pb_X4_statement : List (Nat × List EI) := [(0, [e0 (.aload_n 0) 1, (.getfield 22, 3, 4, 0, 18, 42, 0, 1), (.getfield 70, 3, 8, 7, 22, 0, 0, 0), e0 (.astore_n 1) 1, e0 (.aload_n 1) 1, (.getstatic 73, 3, 12, 2, 0, 0, 0, 0), e1 (.if_acmp .ne 32) 3 44, e0 (.aload_n 0) 1, e0 (.aload_n 0) 1, (.getfield 18, 3, 4, 3, 13, 0, 0, 0), (.getfield 76, 3, 3, 2, 0, 0, 0, 0), e0 (.bipush 8) 2, (.invokevirtual 79, 3, 57, 3, 4, 0, 0, 0), e1 (.ifCond .eq 14) 3 42, e0 (.aload_n 0) 1, (.invokevirtual 82, 3, 60, 1, 4, 0, 0, 0), e1 (.ifCond .eq 7) 3 42, e0 (.iconst 1) 1, e1 (.goto 4) 3 43]),
  (42, [e0 (.iconst 0) 1]),
  (43, [e0 .ireturn 1]),
  (44, [e0 (.aload_n 1) 1, (.getstatic 85, 3, 12, 10, 0, 0, 0, 0), e1 (.if_acmp .ne 32) 3 80, e0 (.aload_n 0) 1, e0 (.aload_n 0) 1, (.getfield 18, 3, 4, 3, 13, 0, 0, 0), (.getfield 88, 3, 3, 6, 0, 0, 0, 0), e0 (.bipush 12) 2, (.invokevirtual 79, 3, 57, 3, 4, 0, 0, 0), e1 (.ifCond .eq 14) 3 78, e0 (.aload_n 0) 1, (.invokevirtual 91, 3, 62, 1, 4, 0, 0, 0), e1 (.ifCond .eq 7) 3 78, e0 (.iconst 1) 1, e1 (.goto 4) 3 79]),
  (78, [e0 (.iconst 0) 1]),
  (79, [e0 .ireturn 1]),
  (80, [e0 (.aload_n 1) 1, (.getstatic 94, 3, 12, 11, 0, 0, 0, 0), e1 (.if_acmp .ne 31) 3 115, e0 (.aload_n 0) 1, e0 (.aload_n 0) 1, (.getfield 18, 3, 4, 3, 13, 0, 0, 0), (.getfield 97, 3, 3, 3, 0, 0, 0, 0), e0 (.iconst 4) 1, (.invokevirtual 79, 3, 57, 3, 4, 0, 0, 0), e1 (.ifCond .eq 14) 3 113, e0 (.aload_n 0) 1, (.invokevirtual 100, 3, 63, 1, 4, 0, 0, 0), e1 (.ifCond .eq 7) 3 113, e0 (.iconst 1) 1, e1 (.goto 4) 3 114]),
  (113, [e0 (.iconst 0) 1]),
  (114, [e0 .ireturn 1]),
  (115, [e0 (.aload_n 1) 1, (.getstatic 103, 3, 12, 12, 0, 0, 0, 0), e1 (.if_acmp .ne 32) 3 151, e0 (.aload_n 0) 1, e0 (.aload_n 0) 1, (.getfield 18, 3, 4, 3, 13, 0, 0, 0), (.getfield 106, 3, 3, 4, 0, 0, 0, 0), e0 (.bipush 6) 2, (.invokevirtual 79, 3, 57, 3, 4, 0, 0, 0), e1 (.ifCond .eq 14) 3 149, e0 (.aload_n 0) 1, (.invokevirtual 109, 3, 64, 1, 4, 0, 0, 0), e1 (.ifCond .eq 7) 3 149, e0 (.iconst 1) 1, e1 (.goto 4) 3 150]),
  (149, [e0 (.iconst 0) 1]),
  (150, [e0 .ireturn 1]),
  (151, [e0 (.aload_n 1) 1, (.getstatic 112, 3, 12, 15, 0, 0, 0, 0), e1 (.if_acmp .ne 32) 3 187, e0 (.aload_n 0) 1, e0 (.aload_n 0) 1, (.getfield 18, 3, 4, 3, 13, 0, 0, 0), (.getfield 115, 3, 3, 5, 0, 0, 0, 0), e0 (.bipush 6) 2, (.invokevirtual 79, 3, 57, 3, 4, 0, 0, 0), e1 (.ifCond .eq 14) 3 185, e0 (.aload_n 0) 1, (.invokevirtual 118, 3, 65, 1, 4, 0, 0, 0), e1 (.ifCond .eq 7) 3 185, e0 (.iconst 1) 1, e1 (.goto 4) 3 186]),
  (185, [e0 (.iconst 0) 1]),
  (186, [e0 .ireturn 1]),
  (187, [e0 (.aload_n 1) 1, (.getstatic 121, 3, 12, 17, 0, 0, 0, 0), e1 (.if_acmp .eq 10) 3 201, e0 (.aload_n 1) 1, (.getstatic 124, 3, 12, 18, 0, 0, 0, 0), e1 (.if_acmp .ne 20) 3 218]),
  (201, [e0 (.aload_n 0) 1, e0 (.aload_n 1) 1, (.getstatic 121, 3, 12, 17, 0, 0, 0, 0), e1 (.if_acmp .ne 7) 3 213, e0 (.iconst 1) 1, e1 (.goto 4) 3 214]),
  (213, [e0 (.iconst 0) 1]),
  (214, [(.invokevirtual 127, 3, 66, 2, 4, 0, 0, 0), e0 .ireturn 1]),
  (218, [e0 (.aload_n 0) 1, (.getfield 22, 3, 4, 0, 18, 42, 0, 1), e0 (.iconst 1) 1, e0 (.aload_n 0) 1, (.getfield 22, 3, 4, 0, 18, 42, 0, 1), (.getfield 47, 3, 8, 5, 0, 0, 0, 0), (.invokevirtual 50, 3, 85, 3, 8, 0, 0, 0), e0 .ireturn 1])]

set_option maxRecDepth 100000 in
def pb_X4_begins : List (Nat × List EI) := [(0, [e0 (.iload_n 1) 1, e0 (.iload_n 2) 1, e1 (.if_icmp .lt 19) 3 21, e0 (.aload_n 0) 1, (.getfield 22, 3, 4, 0, 18, 42, 0, 1), e0 (.iconst 5) 1, e0 (.aload_n 0) 1, (.getfield 22, 3, 4, 0, 18, 42, 0, 1), (.getfield 47, 3, 8, 5, 0, 0, 0, 0), (.invokevirtual 50, 3, 85, 3, 8, 0, 0, 0), e0 .ireturn 1]),
  (21, [e0 (.aload_n 0) 1, (.getfield 22, 3, 4, 0, 18, 42, 0, 1), (.invokevirtual 131, 3, 86, 1, 8, 0, 3, 0), e0 (.iconst 1) 1, e0 .ireturn 1])]

set_option maxRecDepth 100000 in
def pb_X4_tells : List (Nat × List EI) := [(0, [e0 (.aload_n 0) 1, (.getfield 22, 3, 4, 0, 18, 42, 0, 1), e0 (.aload_n 1) 1, (.invokevirtual 134, 3, 91, 2, 8, 0, 0, 0), e1 (.ifCond .eq 15) 3 23, e0 (.aload_n 0) 1, (.getfield 22, 3, 4, 0, 18, 42, 0, 1), e0 (.iload_n 2) 1, e0 (.iload_n 3) 1, (.invokevirtual 138, 3, 92, 3, 8, 0, 0, 0), e1 (.ifCond .ne 5) 3 25]),
  (23, [e0 (.iconst 0) 1, e0 .ireturn 1]),
  (25, [e0 (.aload_n 0) 1, (.getfield 9, 3, 4, 2, 30, 47, 3, 1), e0 (.iload 4) 2, e0 (.aload_n 0) 1, (.getfield 22, 3, 4, 0, 18, 42, 0, 1), (.getfield 141, 3, 8, 10, 0, 0, 0, 0), e0 .iastore 1]),
  (39, [e0 (.iconst 1) 1, e0 .ireturn 1])]

set_option maxRecDepth 100000 in
def pb_X4_gives : List (Nat × List EI) := [(0, [e0 (.aload_n 0) 1, (.getfield 22, 3, 4, 0, 18, 42, 0, 1), (.invokevirtual 144, 3, 93, 1, 8, 0, 0, 0), e1 (.ifCond .ne 5) 3 12, e0 (.iconst 0) 1, e0 .ireturn 1]),
  (12, [e0 (.aload_n 0) 1, (.getfield 18, 3, 4, 3, 13, 0, 0, 0), e0 (.aload_n 0) 1, (.getfield 22, 3, 4, 0, 18, 42, 0, 1), (.getfield 147, 3, 8, 9, 0, 0, 0, 0), (.invokevirtual 150, 3, 47, 2, 3, 0, 0, 0), e0 (.iconst (-1)) 1, e1 (.if_icmp .eq 19) 3 46, e0 (.aload_n 0) 1, (.getfield 22, 3, 4, 0, 18, 42, 0, 1), e0 (.iconst 3) 1, e0 (.aload_n 0) 1, (.getfield 22, 3, 4, 0, 18, 42, 0, 1), (.getfield 154, 3, 8, 8, 0, 0, 0, 0), (.invokevirtual 50, 3, 85, 3, 8, 0, 0, 0), e0 .ireturn 1]),
  (46, [e0 (.aload_n 0) 1, (.getfield 18, 3, 4, 3, 13, 0, 0, 0), (.getfield 157, 3, 3, 7, 30, 1, 20, 0), e0 (.iload_n 1) 1, e0 (.aload_n 0) 1, (.getfield 22, 3, 4, 0, 18, 42, 0, 1), (.getfield 147, 3, 8, 9, 0, 0, 0, 0), e0 .iastore 1]),
  (62, [e0 (.iconst 1) 1, e0 .ireturn 1])]

set_option maxRecDepth 100000 in
def pb_X4_person : List (Nat × List EI) := [(0, [e0 (.aload_n 0) 1, (.getfield 18, 3, 4, 3, 13, 0, 0, 0), (.getfield 76, 3, 3, 2, 0, 0, 0, 0), e0 (.istore_n 1) 1, e0 (.aload_n 0) 1, e0 (.iload_n 1) 1, (.invokevirtual 160, 3, 59, 2, 4, 0, 0, 0), e1 (.ifCond .eq 73) 3 86, e0 (.aload_n 0) 1, (.getstatic 164, 3, 12, 3, 0, 0, 0, 0), e0 (.iconst 1) 1, e0 (.bipush 99) 2, e0 (.iconst 0) 1, (.invokevirtual 63, 3, 58, 5, 4, 0, 0, 0), e1 (.ifCond .eq 59) 3 86, e0 (.aload_n 0) 1, (.getstatic 167, 3, 12, 4, 0, 0, 0, 0), e0 (.iconst 0) 1, e0 (.bipush 100) 2, e0 (.iconst 1) 1, (.invokevirtual 63, 3, 58, 5, 4, 0, 0, 0), e1 (.ifCond .eq 45) 3 86, e0 (.aload_n 0) 1, (.getfield 22, 3, 4, 0, 18, 42, 0, 1), (.getstatic 170, 3, 12, 5, 0, 0, 0, 0), (.invokevirtual 134, 3, 91, 2, 8, 0, 0, 0), e1 (.ifCond .eq 32) 3 86, e0 (.aload_n 0) 1, e0 (.iload_n 1) 1, (.invokevirtual 173, 3, 61, 2, 4, 0, 0, 0), e1 (.ifCond .eq 24) 3 86, e0 (.aload_n 0) 1, (.getstatic 176, 3, 12, 9, 0, 0, 0, 0), e0 (.iconst 0) 1, e0 (.aload_n 0) 1, (.getfield 18, 3, 4, 3, 13, 0, 0, 0), (.getfield 67, 3, 3, 1, 0, 0, 0, 0), e0 (.iconst 1) 1, e0 .isub 1, e0 (.iconst 2) 1, (.invokevirtual 63, 3, 58, 5, 4, 0, 0, 0), e1 (.ifCond .ne 5) 3 88]),
  (86, [e0 (.iconst 0) 1, e0 .ireturn 1]),
  (88, [e0 (.iconst 0) 1, e0 (.istore_n 2) 1]),
  (90, [e0 (.iload_n 2) 1, e0 (.iload_n 1) 1, e1 (.if_icmp .ge 43) 3 135, e0 (.aload_n 0) 1, (.getfield 18, 3, 4, 3, 13, 0, 0, 0), (.getfield 179, 3, 3, 11, 30, 5, 8, 0), e0 (.iload_n 2) 1, e0 .iaload 1, e0 (.aload_n 0) 1, (.getfield 9, 3, 4, 2, 30, 47, 3, 1), e0 (.iconst 2) 1, e0 .iaload 1, e1 (.if_icmp .ne 19) 3 129, e0 (.aload_n 0) 1, (.getfield 22, 3, 4, 0, 18, 42, 0, 1), e0 (.iconst 2) 1, e0 (.aload_n 0) 1, (.getfield 22, 3, 4, 0, 18, 42, 0, 1), (.getfield 154, 3, 8, 8, 0, 0, 0, 0), (.invokevirtual 50, 3, 85, 3, 8, 0, 0, 0), e0 .ireturn 1]),
  (129, [e0 (.iinc 2 1) 3, e1 (.goto (-42)) 3 90]),
  (135, [e0 (.aload_n 0) 1, (.getfield 18, 3, 4, 3, 13, 0, 0, 0), (.getfield 182, 3, 3, 8, 30, 2, 16, 0), e0 (.iload_n 1) 1, e0 (.aload_n 0) 1, (.getfield 9, 3, 4, 2, 30, 47, 3, 1), e0 (.iconst 0) 1, e0 .iaload 1, e0 .iastore 1]),
  (150, [e0 (.aload_n 0) 1, (.getfield 18, 3, 4, 3, 13, 0, 0, 0), (.getfield 185, 3, 3, 9, 30, 3, 16, 0), e0 (.iload_n 1) 1, e0 (.aload_n 0) 1, (.getfield 9, 3, 4, 2, 30, 47, 3, 1), e0 (.iconst 1) 1, e0 .iaload 1, e0 .iastore 1]),
  (165, [e0 (.aload_n 0) 1, (.getfield 18, 3, 4, 3, 13, 0, 0, 0), (.getfield 179, 3, 3, 11, 30, 5, 8, 0), e0 (.iload_n 1) 1, e0 (.aload_n 0) 1, (.getfield 9, 3, 4, 2, 30, 47, 3, 1), e0 (.iconst 2) 1, e0 .iaload 1, e0 .iastore 1]),
  (180, [e0 (.aload_n 0) 1, (.getfield 18, 3, 4, 3, 13, 0, 0, 0), e0 .dup 1, (.getfield 76, 3, 3, 2, 0, 0, 0, 0), e0 (.iconst 1) 1, e0 .iadd 1, (.putfield 76, 3, 3, 2, 0, 0, 0, 0)]),
  (193, [e0 (.iconst 1) 1, e0 .ireturn 1])]

set_option maxRecDepth 100000 in
def pb_X4_partyOf : List (Nat × List EI) := [(0, [e0 (.aload_n 0) 1, (.getfield 22, 3, 4, 0, 18, 42, 0, 1), (.getfield 70, 3, 8, 7, 22, 0, 0, 0), e0 (.astore_n 2) 1, e0 (.aload_n 2) 1, (.getstatic 188, 3, 12, 6, 0, 0, 0, 0), e1 (.if_acmp .ne 7) 3 19, e0 (.iconst 0) 1, e1 (.goto 26) 3 42]),
  (19, [e0 (.aload_n 2) 1, (.getstatic 191, 3, 12, 7, 0, 0, 0, 0), e1 (.if_acmp .ne 7) 3 30, e0 (.iconst 1) 1, e1 (.goto 15) 3 42]),
  (30, [e0 (.aload_n 2) 1, (.getstatic 194, 3, 12, 8, 0, 0, 0, 0), e1 (.if_acmp .ne 7) 3 41, e0 (.iconst 2) 1, e1 (.goto 4) 3 42]),
  (41, [e0 (.iconst (-1)) 1]),
  (42, [e0 (.istore_n 3) 1, e0 (.iload_n 3) 1, e0 (.iconst (-1)) 1, e1 (.if_icmp .ne 19) 3 64, e0 (.aload_n 0) 1, (.getfield 22, 3, 4, 0, 18, 42, 0, 1), e0 (.iconst 1) 1, e0 (.aload_n 0) 1, (.getfield 22, 3, 4, 0, 18, 42, 0, 1), (.getfield 47, 3, 8, 5, 0, 0, 0, 0), (.invokevirtual 50, 3, 85, 3, 8, 0, 0, 0), e0 .ireturn 1]),
  (64, [e0 (.aload_n 0) 1, (.getfield 18, 3, 4, 3, 13, 0, 0, 0), (.getfield 197, 3, 3, 10, 30, 4, 8, 0), e0 (.iload_n 1) 1, e0 (.iload_n 3) 1, e0 .iastore 1]),
  (74, [e0 (.aload_n 0) 1, (.getfield 22, 3, 4, 0, 18, 42, 0, 1), (.invokevirtual 131, 3, 86, 1, 8, 0, 3, 0), e0 (.iconst 1) 1, e0 .ireturn 1])]

set_option maxRecDepth 100000 in
def pb_X4_hatred : List (Nat × List EI) := [(0, [e0 (.aload_n 0) 1, (.getfield 22, 3, 4, 0, 18, 42, 0, 1), (.invokevirtual 144, 3, 93, 1, 8, 0, 0, 0), e1 (.ifCond .ne 5) 3 12, e0 (.iconst 0) 1, e0 .ireturn 1]),
  (12, [e0 (.aload_n 0) 1, (.getfield 18, 3, 4, 3, 13, 0, 0, 0), e0 (.aload_n 0) 1, (.getfield 22, 3, 4, 0, 18, 42, 0, 1), (.getfield 147, 3, 8, 9, 0, 0, 0, 0), (.invokevirtual 150, 3, 47, 2, 3, 0, 0, 0), e0 (.istore_n 1) 1, e0 (.iload_n 1) 1, e0 (.iconst (-1)) 1, e1 (.if_icmp .eq 9) 3 38, e0 (.iload_n 1) 1, e0 (.bipush 16) 2, e1 (.if_icmp .lt 19) 3 54]),
  (38, [e0 (.aload_n 0) 1, (.getfield 22, 3, 4, 0, 18, 42, 0, 1), e0 (.iconst 3) 1, e0 (.aload_n 0) 1, (.getfield 22, 3, 4, 0, 18, 42, 0, 1), (.getfield 154, 3, 8, 8, 0, 0, 0, 0), (.invokevirtual 50, 3, 85, 3, 8, 0, 0, 0), e0 .ireturn 1]),
  (54, [e0 (.aload_n 0) 1, (.getfield 22, 3, 4, 0, 18, 42, 0, 1), (.invokevirtual 144, 3, 93, 1, 8, 0, 0, 0), e1 (.ifCond .ne 5) 3 66, e0 (.iconst 0) 1, e0 .ireturn 1]),
  (66, [e0 (.aload_n 0) 1, (.getfield 18, 3, 4, 3, 13, 0, 0, 0), e0 (.aload_n 0) 1, (.getfield 22, 3, 4, 0, 18, 42, 0, 1), (.getfield 147, 3, 8, 9, 0, 0, 0, 0), (.invokevirtual 150, 3, 47, 2, 3, 0, 0, 0), e0 (.istore_n 2) 1, e0 (.iload_n 2) 1, e0 (.iconst (-1)) 1, e1 (.if_icmp .eq 30) 3 113, e0 (.iload_n 2) 1, e0 (.bipush 16) 2, e1 (.if_icmp .ge 24) 3 113, e0 (.iload_n 2) 1, e0 (.iload_n 1) 1, e1 (.if_icmp .eq 19) 3 113, e0 (.aload_n 0) 1, (.getfield 18, 3, 4, 3, 13, 0, 0, 0), (.getfield 200, 3, 3, 15, 30, 9, 16, 0), e0 (.iload_n 1) 1, e0 .iaload 1, e0 (.iload_n 2) 1, e0 .ishr 1, e0 (.iconst 1) 1, e0 .iand 1, e1 (.ifCond .eq 19) 3 129]),
  (113, [e0 (.aload_n 0) 1, (.getfield 22, 3, 4, 0, 18, 42, 0, 1), e0 (.iconst 3) 1, e0 (.aload_n 0) 1, (.getfield 22, 3, 4, 0, 18, 42, 0, 1), (.getfield 154, 3, 8, 8, 0, 0, 0, 0), (.invokevirtual 50, 3, 85, 3, 8, 0, 0, 0), e0 .ireturn 1]),
  (129, [e0 (.aload_n 0) 1, (.getfield 18, 3, 4, 3, 13, 0, 0, 0), (.getfield 200, 3, 3, 15, 30, 9, 16, 0), e0 (.iload_n 1) 1, e0 .dup2 1, e0 .iaload 1, e0 (.iconst 1) 1, e0 (.iload_n 2) 1, e0 .ishl 1, e0 .ior 1, e0 .iastore 1]),
  (144, [e0 (.aload_n 0) 1, (.getfield 18, 3, 4, 3, 13, 0, 0, 0), e0 .dup 1, (.getfield 88, 3, 3, 6, 0, 0, 0, 0), e0 (.iconst 1) 1, e0 .iadd 1, (.putfield 88, 3, 3, 6, 0, 0, 0, 0)]),
  (157, [e0 (.iconst 1) 1, e0 .ireturn 1])]

set_option maxRecDepth 100000 in
def pb_X4_pointTold : List (Nat × List EI) := [(0, [e0 (.aload_n 0) 1, (.getfield 18, 3, 4, 3, 13, 0, 0, 0), (.getfield 97, 3, 3, 3, 0, 0, 0, 0), e0 (.istore_n 1) 1, e0 (.aload_n 0) 1, e0 (.bipush 16) 2, e0 (.iload_n 1) 1, e0 .iadd 1, (.invokevirtual 160, 3, 59, 2, 4, 0, 0, 0), e1 (.ifCond .eq 31) 3 47, e0 (.aload_n 0) 1, (.getstatic 188, 3, 12, 6, 0, 0, 0, 0), e0 (.iconst 0) 1, e0 (.bipush 99) 2, e0 (.iconst 0) 1, (.invokevirtual 63, 3, 58, 5, 4, 0, 0, 0), e1 (.ifCond .eq 17) 3 47, e0 (.aload_n 0) 1, (.getstatic 191, 3, 12, 7, 0, 0, 0, 0), e0 (.iconst 0) 1, e0 (.bipush 99) 2, e0 (.iconst 1) 1, (.invokevirtual 63, 3, 58, 5, 4, 0, 0, 0), e1 (.ifCond .ne 5) 3 49]),
  (47, [e0 (.iconst 0) 1, e0 .ireturn 1]),
  (49, [e0 (.aload_n 0) 1, (.getfield 18, 3, 4, 3, 13, 0, 0, 0), (.getfield 203, 3, 3, 13, 30, 7, 8, 0), e0 (.iconst 2) 1, e0 (.iload_n 1) 1, e0 .imul 1, e0 (.iconst 0) 1, e0 .iadd 1, e0 (.aload_n 0) 1, (.getfield 9, 3, 4, 2, 30, 47, 3, 1), e0 (.iconst 0) 1, e0 .iaload 1, e0 .iastore 1]),
  (68, [e0 (.aload_n 0) 1, (.getfield 18, 3, 4, 3, 13, 0, 0, 0), (.getfield 203, 3, 3, 13, 30, 7, 8, 0), e0 (.iconst 2) 1, e0 (.iload_n 1) 1, e0 .imul 1, e0 (.iconst 1) 1, e0 .iadd 1, e0 (.aload_n 0) 1, (.getfield 9, 3, 4, 2, 30, 47, 3, 1), e0 (.iconst 1) 1, e0 .iaload 1, e0 .iastore 1]),
  (87, [e0 (.aload_n 0) 1, (.getfield 18, 3, 4, 3, 13, 0, 0, 0), e0 .dup 1, (.getfield 97, 3, 3, 3, 0, 0, 0, 0), e0 (.iconst 1) 1, e0 .iadd 1, (.putfield 97, 3, 3, 3, 0, 0, 0, 0)]),
  (100, [e0 (.iconst 1) 1, e0 .ireturn 1])]

set_option maxRecDepth 100000 in
def pb_X4_sound : List (Nat × List EI) := [(0, [e0 (.aload_n 0) 1, (.getstatic 176, 3, 12, 9, 0, 0, 0, 0), e0 (.iconst 0) 1, e0 (.bipush 99) 2, e0 (.iconst 0) 1, (.invokevirtual 63, 3, 58, 5, 4, 0, 0, 0), e1 (.ifCond .eq 38) 3 49, e0 (.aload_n 0) 1, (.getstatic 205, 3, 12, 13, 0, 0, 0, 0), e0 (.iconst 0) 1, e0 (.aload_n 0) 1, (.getfield 18, 3, 4, 3, 13, 0, 0, 0), (.getfield 67, 3, 3, 1, 0, 0, 0, 0), e0 (.iconst 1) 1, e0 .isub 1, e0 (.iconst 1) 1, (.invokevirtual 63, 3, 58, 5, 4, 0, 0, 0), e1 (.ifCond .eq 17) 3 49, e0 (.aload_n 0) 1, (.getstatic 208, 3, 12, 14, 0, 0, 0, 0), e0 (.iconst 1) 1, e0 (.bipush 9) 2, e0 (.iconst 2) 1, (.invokevirtual 63, 3, 58, 5, 4, 0, 0, 0), e1 (.ifCond .ne 5) 3 51]),
  (49, [e0 (.iconst 0) 1, e0 .ireturn 1]),
  (51, [e0 (.aload_n 0) 1, (.getfield 9, 3, 4, 2, 30, 47, 3, 1), e0 (.iconst 0) 1, e0 (.aload_n 0) 1, (.getfield 18, 3, 4, 3, 13, 0, 0, 0), (.getfield 211, 3, 3, 14, 30, 8, 18, 0), e0 (.iconst 3) 1, e0 (.aload_n 0) 1, (.getfield 18, 3, 4, 3, 13, 0, 0, 0), (.getfield 106, 3, 3, 4, 0, 0, 0, 0), e0 .imul 1, e0 (.iconst 3) 1, (.invokestatic 214, 3, 0, 5, 0, 8, 3, 0), e0 (.aload_n 0) 1, (.getfield 18, 3, 4, 3, 13, 0, 0, 0), e0 .dup 1, (.getfield 106, 3, 3, 4, 0, 0, 0, 0), e0 (.iconst 1) 1, e0 .iadd 1, (.putfield 106, 3, 3, 4, 0, 0, 0, 0)]),
  (89, [e0 (.iconst 1) 1, e0 .ireturn 1])]

set_option maxRecDepth 100000 in
def pb_X4_muteTold : List (Nat × List EI) := [(0, [e0 (.bipush 10) 2, e0 (.aload_n 0) 1, (.getfield 18, 3, 4, 3, 13, 0, 0, 0), (.getfield 115, 3, 3, 5, 0, 0, 0, 0), e0 .iadd 1, e0 (.istore_n 1) 1, e0 (.aload_n 0) 1, e0 (.iload_n 1) 1, (.invokevirtual 160, 3, 59, 2, 4, 0, 0, 0), e1 (.ifCond .eq 31) 3 47, e0 (.aload_n 0) 1, (.getstatic 164, 3, 12, 3, 0, 0, 0, 0), e0 (.iconst 1) 1, e0 (.bipush 99) 2, e0 (.iconst 0) 1, (.invokevirtual 63, 3, 58, 5, 4, 0, 0, 0), e1 (.ifCond .eq 17) 3 47, e0 (.aload_n 0) 1, (.getstatic 220, 3, 12, 16, 0, 0, 0, 0), e0 (.iconst 0) 1, e0 (.bipush 99) 2, e0 (.iconst 1) 1, (.invokevirtual 63, 3, 58, 5, 4, 0, 0, 0), e1 (.ifCond .ne 5) 3 49]),
  (47, [e0 (.iconst 0) 1, e0 .ireturn 1]),
  (49, [e0 (.aload_n 0) 1, (.getfield 18, 3, 4, 3, 13, 0, 0, 0), (.getfield 182, 3, 3, 8, 30, 2, 16, 0), e0 (.iload_n 1) 1, e0 (.aload_n 0) 1, (.getfield 9, 3, 4, 2, 30, 47, 3, 1), e0 (.iconst 0) 1, e0 .iaload 1, e0 .iastore 1]),
  (64, [e0 (.aload_n 0) 1, (.getfield 18, 3, 4, 3, 13, 0, 0, 0), (.getfield 223, 3, 3, 12, 30, 6, 6, 0), e0 (.aload_n 0) 1, (.getfield 18, 3, 4, 3, 13, 0, 0, 0), (.getfield 115, 3, 3, 5, 0, 0, 0, 0), e0 (.aload_n 0) 1, (.getfield 9, 3, 4, 2, 30, 47, 3, 1), e0 (.iconst 1) 1, e0 .iaload 1, e0 .iastore 1]),
  (85, [e0 (.aload_n 0) 1, (.getfield 18, 3, 4, 3, 13, 0, 0, 0), e0 .dup 1, (.getfield 115, 3, 3, 5, 0, 0, 0, 0), e0 (.iconst 1) 1, e0 .iadd 1, (.putfield 115, 3, 3, 5, 0, 0, 0, 0)]),
  (98, [e0 (.iconst 1) 1, e0 .ireturn 1])]

set_option maxRecDepth 100000 in
def pb_X4_worth : List (Nat × List EI) := [(0, [e0 (.iload_n 1) 1, e1 (.ifCond .eq 13) 3 14, e0 (.aload_n 0) 1, (.getfield 18, 3, 4, 3, 13, 0, 0, 0), (.getfield 226, 3, 3, 16, 30, 0, 0, 0), e1 (.goto 10) 3 21]),
  (14, [e0 (.aload_n 0) 1, (.getfield 18, 3, 4, 3, 13, 0, 0, 0), (.getfield 229, 3, 3, 17, 30, 0, 0, 0)]),
  (21, [e0 (.astore_n 2) 1, e0 (.aload_n 0) 1, e0 (.aload_n 2) 1, e1 (.ifnonnull 7) 3 31, e0 (.iconst 0) 1, e1 (.goto 4) 3 32]),
  (31, [e0 (.iconst 1) 1]),
  (32, [e0 (.iconst 1) 1, (.invokevirtual 79, 3, 57, 3, 4, 0, 0, 0), e1 (.ifCond .ne 5) 3 41, e0 (.iconst 0) 1, e0 .ireturn 1]),
  (41, [e0 (.aload_n 0) 1, (.getfield 26, 3, 4, 1, 12, 44, 0, 1), e0 (.iconst 0) 1, (.invokevirtual 232, 3, 33, 2, 2, 0, 3, 0), e0 (.aload_n 0) 1, (.getfield 26, 3, 4, 1, 12, 44, 0, 1), e0 (.iconst 3) 1, e0 (.iconst 0) 1, (.invokevirtual 238, 3, 37, 3, 2, 0, 0, 0), e1 (.ifCond .ne 5) 3 63, e0 (.iconst 0) 1, e0 .ireturn 1]),
  (63, [e0 (.aload_n 0) 1, (.getfield 18, 3, 4, 3, 13, 0, 0, 0), e0 (.aload_n 0) 1, (.getfield 18, 3, 4, 3, 13, 0, 0, 0), (.getfield 241, 3, 3, 18, 2, 0, 0, 0), e1 (.ifCond .ne 13) 3 87, e0 (.aload_n 0) 1, (.getfield 26, 3, 4, 1, 12, 44, 0, 1), (.getfield 245, 3, 2, 2, 2, 0, 0, 0), e1 (.ifCond .eq 7) 3 91]),
  (87, [e0 (.iconst 1) 1, e1 (.goto 4) 3 92]),
  (91, [e0 (.iconst 0) 1]),
  (92, [(.putfield 241, 3, 3, 18, 2, 0, 0, 0), e0 (.iload_n 1) 1, e1 (.ifCond .eq 20) 3 116, e0 (.aload_n 0) 1, (.getfield 18, 3, 4, 3, 13, 0, 0, 0), e0 (.aload_n 0) 1, (.getfield 26, 3, 4, 1, 12, 44, 0, 1), (.invokevirtual 246, 3, 34, 1, 2, 0, 30, 0), (.putfield 226, 3, 3, 16, 30, 0, 0, 0)]),
  (113, [e1 (.goto 17) 3 130]),
  (116, [e0 (.aload_n 0) 1, (.getfield 18, 3, 4, 3, 13, 0, 0, 0), e0 (.aload_n 0) 1, (.getfield 26, 3, 4, 1, 12, 44, 0, 1), (.invokevirtual 246, 3, 34, 1, 2, 0, 30, 0), (.putfield 229, 3, 3, 17, 30, 0, 0, 0)]),
  (130, [e0 (.iconst 1) 1, e0 .ireturn 1])]

set_option maxRecDepth 100000 in
def pb_X5_init : List (Nat × List EI) := [(0, [e0 (.aload_n 0) 1, (.invokespecial 3, 3, 0, 1, 0, 9, 3, 0), e0 (.aload_n 0) 1, e0 (.bipush 27) 2, e0 (.newarray .int) 2, (.putfield 11, 3, 5, 0, 30, 188, 27, 1), e0 (.aload_n 0) 1, e0 (.iconst 0) 1, (.putfield 15, 3, 5, 1, 0, 0, 0, 0), e0 .return_ 1])]

set_option maxRecDepth 100000 in
def pb_X5_write : List (Nat × List EI) := [(0, [e0 (.aload_n 2) 1, (.getfield 19, 3, 9, 1, 0, 0, 0, 0), (.ldc 24, 2, 0, 0, 0, 0, 0, 100000), e0 .iadd 1, e0 (.istore_n 3) 1, e0 (.aload_n 0) 1, (.getfield 11, 3, 5, 0, 30, 188, 27, 1), e0 (.iconst 0) 1, e0 (.aload_n 2) 1, e1 (.getfield 25) 3 9, e0 (.bipush 8) 2, e0 .ishr 1, e0 .iastore 1]),
  (21, [e0 (.aload_n 0) 1, (.getfield 11, 3, 5, 0, 30, 188, 27, 1), e0 (.iconst 1) 1, e0 (.aload_n 2) 1, e1 (.getfield 25) 3 9, e0 (.sipush 255) 3, e0 .iand 1, e0 .iastore 1]),
  (35, [e0 (.aload_n 0) 1, (.getfield 11, 3, 5, 0, 30, 188, 27, 1), e0 (.iconst 2) 1, e0 (.iload_n 3) 1, e0 (.bipush 16) 2, e0 .ishr 1, e0 .iastore 1]),
  (45, [e0 (.aload_n 0) 1, (.getfield 11, 3, 5, 0, 30, 188, 27, 1), e0 (.iconst 3) 1, e0 (.iload_n 3) 1, e0 (.bipush 8) 2, e0 .ishr 1, e0 (.sipush 255) 3, e0 .iand 1, e0 .iastore 1]),
  (59, [e0 (.aload_n 0) 1, (.getfield 11, 3, 5, 0, 30, 188, 27, 1), e0 (.iconst 4) 1, e0 (.iload_n 3) 1, e0 (.sipush 255) 3, e0 .iand 1, e0 .iastore 1]),
  (70, [e0 (.aload_n 0) 1, (.getfield 11, 3, 5, 0, 30, 188, 27, 1), e0 (.iconst 5) 1, e0 (.aload_n 2) 1, (.getfield 28, 3, 9, 2, 0, 0, 0, 0), e0 (.iconst 1) 1, e0 .iadd 1, e0 .iastore 1]),
  (82, [e0 (.iconst 0) 1, e0 (.istore 4) 2]),
  (85, [e0 (.iload 4) 2, e0 (.aload_n 1) 1, (.getfield 31, 3, 3, 2, 0, 0, 0, 0), e1 (.if_icmp .ge 26) 3 117, e0 (.aload_n 0) 1, (.getfield 11, 3, 5, 0, 30, 188, 27, 1), e0 (.bipush 6) 2, e0 (.iload 4) 2, e0 .iadd 1, e0 (.aload_n 2) 1, (.getfield 36, 3, 9, 3, 30, 1, 16, 0), e0 (.iload 4) 2, e0 .iaload 1, e0 .iastore 1]),
  (111, [e0 (.iinc 4 1) 3, e1 (.goto (-29)) 3 85]),
  (117, [e0 (.iconst 0) 1, e0 (.istore 4) 2]),
  (120, [e0 (.iload 4) 2, e0 (.aload_n 1) 1, (.getfield 39, 3, 3, 5, 0, 0, 0, 0), e1 (.if_icmp .ge 67) 3 193, e0 (.aload_n 0) 1, (.getfield 11, 3, 5, 0, 30, 188, 27, 1), e0 (.bipush 6) 2, e0 (.aload_n 1) 1, (.getfield 31, 3, 3, 2, 0, 0, 0, 0), e0 .iadd 1, e0 (.iconst 2) 1, e0 (.iload 4) 2, e0 .imul 1, e0 .iadd 1, e0 (.aload_n 2) 1, (.getfield 36, 3, 9, 3, 30, 1, 16, 0), e0 (.bipush 10) 2, e0 (.iload 4) 2, e0 .iadd 1, e0 .iaload 1, e0 (.iconst 1) 1, e0 .iadd 1, e0 .iastore 1]),
  (158, [e0 (.aload_n 0) 1, (.getfield 11, 3, 5, 0, 30, 188, 27, 1), e0 (.bipush 6) 2, e0 (.aload_n 1) 1, (.getfield 31, 3, 3, 2, 0, 0, 0, 0), e0 .iadd 1, e0 (.iconst 2) 1, e0 (.iload 4) 2, e0 .imul 1, e0 .iadd 1, e0 (.iconst 1) 1, e0 .iadd 1, e0 (.aload_n 2) 1, (.getfield 42, 3, 9, 4, 30, 2, 16, 0), e0 (.bipush 10) 2, e0 (.iload 4) 2, e0 .iadd 1, e0 .iaload 1, e0 .iastore 1]),
  (187, [e0 (.iinc 4 1) 3, e1 (.goto (-70)) 3 120]),
  (193, [e0 (.aload_n 0) 1, e0 (.aload_n 1) 1, (.invokestatic 45, 3, 69, 1, 5, 0, 0, 0), (.putfield 15, 3, 5, 1, 0, 0, 0, 0), e0 (.aload_n 0) 1, (.getfield 11, 3, 5, 0, 30, 188, 27, 1), e0 (.aload_n 0) 1, (.getfield 15, 3, 5, 1, 0, 0, 0, 0), e0 (.iconst 1) 1, e0 .isub 1, e0 (.aload_n 0) 1, (.getfield 11, 3, 5, 0, 30, 188, 27, 1), e0 (.aload_n 0) 1, (.getfield 15, 3, 5, 1, 0, 0, 0, 0), e0 (.iconst 1) 1, e0 .isub 1, (.invokestatic 49, 3, 70, 2, 5, 0, 0, 0), e0 .iastore 1]),
  (225, [e0 (.aload_n 0) 1, (.getfield 15, 3, 5, 1, 0, 0, 0, 0), e0 .ireturn 1])]

set_option maxRecDepth 100000 in
def pb_X5_lengthOf : List (Nat × List EI) := [(0, [e0 (.bipush 6) 2, e0 (.aload_n 0) 1, (.getfield 31, 3, 3, 2, 0, 0, 0, 0), e0 .iadd 1, e0 (.iconst 2) 1, e0 (.aload_n 0) 1, (.getfield 39, 3, 3, 5, 0, 0, 0, 0), e0 .imul 1, e0 .iadd 1, e0 (.iconst 1) 1, e0 .iadd 1, e0 .ireturn 1])]

set_option maxRecDepth 100000 in
def pb_X5_checkOf : List (Nat × List EI) := [(0, [e0 (.sipush 229) 3, e0 (.istore_n 2) 1, e0 (.iconst 0) 1, e0 (.istore_n 3) 1]),
  (6, [e0 (.iload_n 3) 1, e0 (.iload_n 1) 1, e1 (.if_icmp .ge 21) 3 29, e0 (.iconst 3) 1, e0 (.iload_n 2) 1, e0 .imul 1, e0 (.aload_n 0) 1, e0 (.iload_n 3) 1, e0 .iaload 1, e0 .iadd 1, e0 (.sipush 251) 3, e0 .irem 1, e0 (.istore_n 2) 1, e0 (.iinc 3 1) 3, e1 (.goto (-20)) 3 6]),
  (29, [e0 (.iload_n 2) 1, e0 .ireturn 1])]

set_option maxRecDepth 100000 in
def pb_X5_reads : List (Nat × List EI) := [(0, [e0 (.iload_n 1) 1, e0 (.aload_n 2) 1, (.invokestatic 45, 3, 69, 1, 5, 0, 0, 0), e1 (.if_icmp .ne 18) 3 23, e0 (.aload_n 0) 1, e0 (.iload_n 1) 1, e0 (.iconst 1) 1, e0 .isub 1, (.invokestatic 49, 3, 70, 2, 5, 0, 0, 0), e0 (.aload_n 0) 1, e0 (.iload_n 1) 1, e0 (.iconst 1) 1, e0 .isub 1, e0 .iaload 1, e1 (.if_icmp .eq 5) 3 25]),
  (23, [e0 (.iconst 0) 1, e0 .ireturn 1]),
  (25, [e0 (.aload_n 3) 1, (.invokevirtual 53, 3, 95, 1, 9, 0, 3, 0), e0 (.aload_n 3) 1, e0 (.aload_n 0) 1, e0 (.iconst 0) 1, e0 .iaload 1, e0 (.sipush 256) 3, e0 .imul 1, e0 (.aload_n 0) 1, e0 (.iconst 1) 1, e0 .iaload 1, e0 .iadd 1, e1 (.putfield 25) 3 9]),
  (44, [e0 (.aload_n 3) 1, e0 (.aload_n 0) 1, e0 (.iconst 2) 1, e0 .iaload 1, (.ldc 56, 2, 0, 0, 0, 0, 0, 65536), e0 .imul 1, e0 (.aload_n 0) 1, e0 (.iconst 3) 1, e0 .iaload 1, e0 (.sipush 256) 3, e0 .imul 1, e0 .iadd 1, e0 (.aload_n 0) 1, e0 (.iconst 4) 1, e0 .iaload 1, e0 .iadd 1, (.ldc 24, 2, 0, 0, 0, 0, 0, 100000), e0 .isub 1, (.putfield 19, 3, 9, 1, 0, 0, 0, 0)]),
  (69, [e0 (.aload_n 3) 1, e0 (.aload_n 0) 1, e0 (.iconst 5) 1, e0 .iaload 1, e0 (.iconst 1) 1, e0 .isub 1, (.putfield 28, 3, 9, 2, 0, 0, 0, 0)]),
  (78, [e0 (.aload_n 3) 1, e1 (.getfield 25) 3 9, e0 (.sipush 999) 3, e1 (.if_icmp .gt 26) 3 111, e0 (.aload_n 3) 1, (.getfield 19, 3, 9, 1, 0, 0, 0, 0), (.invokestatic 57, 3, 303, 1, 0, 0, 0, 0), (.ldc 63, 2, 0, 0, 0, 0, 0, 99999), e1 (.if_icmp .gt 14) 3 111, e0 (.aload_n 3) 1, (.getfield 28, 3, 9, 2, 0, 0, 0, 0), e0 (.aload_n 2) 1, (.getfield 64, 3, 3, 3, 0, 0, 0, 0), e1 (.if_icmp .lt 5) 3 113]),
  (111, [e0 (.iconst 0) 1, e0 .ireturn 1]),
  (113, [e0 (.iconst 0) 1, e0 (.istore 4) 2]),
  (116, [e0 (.iload 4) 2, e0 (.aload_n 2) 1, (.getfield 31, 3, 3, 2, 0, 0, 0, 0), e1 (.if_icmp .ge 35) 3 157, e0 (.aload_n 2) 1, e0 (.aload_n 3) 1, e0 (.iload 4) 2, e0 (.aload_n 2) 1, (.getfield 67, 3, 3, 10, 30, 4, 8, 0), e0 (.iload 4) 2, e0 .iaload 1, e0 (.aload_n 0) 1, e0 (.bipush 6) 2, e0 (.iload 4) 2, e0 .iadd 1, e0 .iaload 1, (.invokestatic 70, 3, 73, 5, 5, 0, 0, 0), e1 (.ifCond .ne 5) 3 151, e0 (.iconst 0) 1, e0 .ireturn 1]),
  (151, [e0 (.iinc 4 1) 3, e1 (.goto (-38)) 3 116]),
  (157, [e0 (.aload_n 0) 1, e0 (.aload_n 2) 1, e0 (.aload_n 3) 1, (.invokestatic 74, 3, 72, 3, 5, 0, 0, 0), e0 .ireturn 1])]

set_option maxRecDepth 100000 in
def pb_X5_readsMutes : List (Nat × List EI) := [(0, [e0 (.iconst 0) 1, e0 (.istore_n 3) 1]),
  (2, [e0 (.iload_n 3) 1, e0 (.aload_n 1) 1, (.getfield 39, 3, 3, 5, 0, 0, 0, 0), e1 (.if_icmp .ge 100) 3 107, e0 (.aload_n 0) 1, e0 (.bipush 6) 2, e0 (.aload_n 1) 1, (.getfield 31, 3, 3, 2, 0, 0, 0, 0), e0 .iadd 1, e0 (.iconst 2) 1, e0 (.iload_n 3) 1, e0 .imul 1, e0 .iadd 1, e0 .iaload 1, e0 (.iconst 1) 1, e0 .isub 1, e0 (.istore 4) 2, e0 (.aload_n 0) 1, e0 (.bipush 6) 2, e0 (.aload_n 1) 1, (.getfield 31, 3, 3, 2, 0, 0, 0, 0), e0 .iadd 1, e0 (.iconst 2) 1, e0 (.iload_n 3) 1, e0 .imul 1, e0 .iadd 1, e0 (.iconst 1) 1, e0 .iadd 1, e0 .iaload 1, e0 (.istore 5) 2]),
  (44, [e0 (.iload 4) 2, e0 (.iconst (-1)) 1, e1 (.if_icmp .ne 16) 3 63, e0 (.iload 5) 2, e1 (.ifCond .ne 7) 3 59, e0 (.iconst 1) 1, e1 (.goto 36) 3 92]),
  (59, [e0 (.iconst 0) 1, e1 (.goto 32) 3 92]),
  (63, [e0 (.iload 5) 2, (.invokestatic 78, 3, 142, 1, 10, 1, 0, 0), e1 (.ifCond .eq 23) 3 91, e0 (.aload_n 1) 1, e0 (.aload_n 2) 1, e0 (.bipush 10) 2, e0 (.iload_n 3) 1, e0 .iadd 1, e0 (.iload 5) 2, e0 (.iload 4) 2, (.invokestatic 70, 3, 73, 5, 5, 0, 0, 0), e1 (.ifCond .eq 7) 3 91, e0 (.iconst 1) 1, e1 (.goto 4) 3 92]),
  (91, [e0 (.iconst 0) 1]),
  (92, [e0 (.istore 6) 2, e0 (.iload 6) 2, e1 (.ifCond .ne 5) 3 101, e0 (.iconst 0) 1, e0 .ireturn 1]),
  (101, [e0 (.iinc 3 1) 3, e1 (.goto (-102)) 3 2]),
  (107, [e0 (.iconst 1) 1, e0 .ireturn 1])]

set_option maxRecDepth 100000 in
def pb_X5_seats : List (Nat × List EI) := [(0, [e0 (.aload_n 0) 1, e0 (.iload 4) 2, (.invokevirtual 82, 3, 44, 2, 3, 0, 0, 0), e1 (.ifCond .eq 13) 3 19, e0 (.aload_n 1) 1, e0 (.iload 4) 2, (.invokevirtual 85, 3, 99, 2, 9, 0, 0, 0), e0 (.iconst (-1)) 1, e1 (.if_icmp .eq 5) 3 21]),
  (19, [e0 (.iconst 0) 1, e0 .ireturn 1]),
  (21, [e0 (.aload_n 1) 1, e0 (.iload_n 2) 1, e0 (.iload_n 3) 1, e0 (.iload 4) 2, (.invokevirtual 88, 3, 100, 4, 9, 0, 3, 0), e0 (.iconst 1) 1, e0 .ireturn 1])]

set_option maxRecDepth 100000 in
def pb_X6_init : List (Nat × List EI) := [(0, [e0 (.aload_n 0) 1, (.invokespecial 3, 3, 0, 1, 0, 9, 3, 0), e0 (.aload_n 0) 1, e0 (.bipush 20) 2, e0 (.anewarray 9) 3, (.putfield 11, 3, 6, 0, 33, 79, 20, 1), e0 (.aload_n 0) 1, e0 (.iconst 0) 1, (.putfield 17, 3, 6, 1, 0, 0, 0, 0), e0 (.aload_n 0) 1, e0 (.iconst 0) 1, (.putfield 21, 3, 6, 2, 0, 0, 0, 0), e0 (.iconst 0) 1, e0 (.istore_n 1) 1]),
  (25, [e0 (.iload_n 1) 1, e0 (.bipush 20) 2, e1 (.if_icmp .ge 22) 3 50, e0 (.aload_n 0) 1, (.getfield 11, 3, 6, 0, 33, 79, 20, 1), e0 (.iload_n 1) 1, (.new 9, 3, 9, 8, 0, 0, 0, 0), e0 .dup 1, (.invokespecial 24, 3, 94, 1, 9, 0, 3, 0), e0 .aastore 1, e0 (.iinc 1 1) 3, e1 (.goto (-22)) 3 25]),
  (50, [e0 .return_ 1])]

set_option maxRecDepth 100000 in
def pb_X6_forget : List (Nat × List EI) := [(0, [e0 (.aload_n 0) 1, e0 (.iconst 0) 1, (.putfield 21, 3, 6, 2, 0, 0, 0, 0), e0 .return_ 1])]

set_option maxRecDepth 100000 in
def pb_X6_keep : List (Nat × List EI) := [(0, [e0 (.aload_n 0) 1, (.getfield 11, 3, 6, 0, 33, 79, 20, 1), e0 (.aload_n 0) 1, (.getfield 17, 3, 6, 1, 0, 0, 0, 0), e0 .aaload 1, e0 (.aload_n 1) 1, (.invokevirtual 25, 3, 97, 2, 9, 0, 3, 0), e0 (.aload_n 0) 1, e0 (.aload_n 0) 1, (.getfield 17, 3, 6, 1, 0, 0, 0, 0), e0 (.iconst 1) 1, e0 .iadd 1, e0 (.bipush 20) 2, e0 .irem 1, (.putfield 17, 3, 6, 1, 0, 0, 0, 0)]),
  (26, [e0 (.aload_n 0) 1, e0 (.aload_n 0) 1, (.getfield 21, 3, 6, 2, 0, 0, 0, 0), e0 (.iconst 1) 1, e0 .iadd 1, e0 (.bipush 20) 2, (.invokestatic 29, 3, 306, 2, 0, 0, 0, 0), (.putfield 21, 3, 6, 2, 0, 0, 0, 0)]),
  (41, [e0 .return_ 1])]

set_option maxRecDepth 100000 in
def pb_X6_back : List (Nat × List EI) := [(0, [e0 (.aload_n 0) 1, (.getfield 21, 3, 6, 2, 0, 0, 0, 0), e1 (.ifCond .ne 5) 3 9, e0 (.iconst 0) 1, e0 .ireturn 1]),
  (9, [e0 (.aload_n 0) 1, e0 (.aload_n 0) 1, (.getfield 17, 3, 6, 1, 0, 0, 0, 0), e0 (.bipush 20) 2, e0 .iadd 1, e0 (.iconst 1) 1, e0 .isub 1, e0 (.bipush 20) 2, e0 .irem 1, (.putfield 17, 3, 6, 1, 0, 0, 0, 0)]),
  (25, [e0 (.aload_n 0) 1, e0 .dup 1, (.getfield 21, 3, 6, 2, 0, 0, 0, 0), e0 (.iconst 1) 1, e0 .isub 1, (.putfield 21, 3, 6, 2, 0, 0, 0, 0)]),
  (35, [e0 (.aload_n 1) 1, e0 (.aload_n 0) 1, (.getfield 11, 3, 6, 0, 33, 79, 20, 1), e0 (.aload_n 0) 1, (.getfield 17, 3, 6, 1, 0, 0, 0, 0), e0 .aaload 1, (.invokevirtual 25, 3, 97, 2, 9, 0, 3, 0), e0 (.iconst 1) 1, e0 .ireturn 1])]

set_option maxRecDepth 100000 in
def pb_X7_init : List (Nat × List EI) := [(0, [e0 (.aload_n 0) 1, (.invokespecial 3, 3, 0, 1, 0, 9, 3, 0), e0 (.aload_n 0) 1, (.getstatic 9, 3, 12, 34, 0, 0, 0, 0), (.putfield 15, 3, 7, 3, 22, 0, 0, 0), e0 (.aload_n 0) 1, e0 (.aload_n 1) 1, (.putfield 20, 3, 7, 0, 18, 42, 0, 1), e0 (.aload_n 0) 1, e0 (.aload_n 2) 1, (.putfield 24, 3, 7, 1, 12, 44, 0, 1), e0 (.aload_n 0) 1, e0 (.aload_n 3) 1, (.putfield 28, 3, 7, 2, 10, 180, 0, 1), e0 .return_ 1])]

set_option maxRecDepth 100000 in
def pb_X7_read : List (Nat × List EI) := [(0, [e0 (.aload_n 0) 1, (.getfield 20, 3, 7, 0, 18, 42, 0, 1), (.getfield 32, 3, 8, 7, 22, 0, 0, 0), e0 (.astore_n 1) 1, e0 (.aload_n 1) 1, e1 (.ifnull 10) 3 19, e0 (.aload_n 1) 1, (.getfield 37, 3, 12, 2, 2, 0, 0, 0), e1 (.ifCond .eq 19) 3 35]),
  (19, [e0 (.aload_n 0) 1, (.getfield 20, 3, 7, 0, 18, 42, 0, 1), e0 (.iconst 1) 1, e0 (.aload_n 0) 1, (.getfield 20, 3, 7, 0, 18, 42, 0, 1), (.getfield 41, 3, 8, 5, 0, 0, 0, 0), (.invokevirtual 45, 3, 85, 3, 8, 0, 0, 0), e0 .ireturn 1]),
  (35, [e0 (.aload_n 0) 1, e0 (.aload_n 1) 1, (.putfield 15, 3, 7, 3, 22, 0, 0, 0), e0 (.aload_n 0) 1, (.getfield 20, 3, 7, 0, 18, 42, 0, 1), (.invokevirtual 49, 3, 86, 1, 8, 0, 3, 0), e0 (.aload_n 0) 1, (.getfield 24, 3, 7, 1, 12, 44, 0, 1), e0 (.iconst 1) 1, (.invokevirtual 52, 3, 33, 2, 2, 0, 3, 0), e0 (.aload_n 0) 1, (.getfield 24, 3, 7, 1, 12, 44, 0, 1), e0 (.aload_n 0) 1, (.invokevirtual 58, 3, 80, 1, 7, 0, 0, 0), e1 (.ifCond .eq 7) 3 70, e0 (.iconst 0) 1, e1 (.goto 4) 3 71]),
  (70, [e0 (.iconst 3) 1]),
  (71, [e0 (.iconst 0) 1, (.invokevirtual 62, 3, 37, 3, 2, 0, 0, 0), e0 (.istore_n 2) 1, e0 (.iload_n 2) 1, e1 (.ifCond .eq 29) 3 106, e0 (.aload_n 0) 1, (.getfield 20, 3, 7, 0, 18, 42, 0, 1), (.getfield 65, 3, 8, 6, 0, 0, 0, 0), e1 (.ifCond .eq 19) 3 106, e0 (.aload_n 0) 1, (.getfield 20, 3, 7, 0, 18, 42, 0, 1), e0 (.iconst 1) 1, e0 (.aload_n 0) 1, (.getfield 20, 3, 7, 0, 18, 42, 0, 1), (.getfield 41, 3, 8, 5, 0, 0, 0, 0), (.invokevirtual 45, 3, 85, 3, 8, 0, 0, 0), e0 .ireturn 1]),
  (106, [e0 (.iload_n 2) 1, e0 .ireturn 1])]

set_option maxRecDepth 100000 in
def pb_X7_isOfTest : List (Nat × List EI) := [(0, [e0 (.aload_n 0) 1, (.getfield 15, 3, 7, 3, 22, 0, 0, 0), (.getstatic 68, 3, 12, 32, 0, 0, 0, 0), e1 (.if_acmp .eq 23) 3 30, e0 (.aload_n 0) 1, (.getfield 15, 3, 7, 3, 22, 0, 0, 0), (.getstatic 71, 3, 12, 33, 0, 0, 0, 0), e1 (.if_acmp .eq 13) 3 30, e0 (.aload_n 0) 1, (.getfield 15, 3, 7, 3, 22, 0, 0, 0), (.getstatic 9, 3, 12, 34, 0, 0, 0, 0), e1 (.if_acmp .ne 7) 3 34]),
  (30, [e0 (.iconst 1) 1, e1 (.goto 4) 3 35]),
  (34, [e0 (.iconst 0) 1]),
  (35, [e0 .ireturn 1])]

set_option maxRecDepth 100000 in
def pb_X7_answer : List (Nat × List EI) := [(0, [e0 (.aload_n 0) 1, (.getfield 15, 3, 7, 3, 22, 0, 0, 0), (.getstatic 68, 3, 12, 32, 0, 0, 0, 0), e1 (.if_acmp .eq 13) 3 20, e0 (.aload_n 0) 1, (.getfield 15, 3, 7, 3, 22, 0, 0, 0), (.getstatic 71, 3, 12, 33, 0, 0, 0, 0), e1 (.if_acmp .ne 9) 3 26]),
  (20, [(.ldc2_w 74, 3, 0, 0, 0, 0, 0, (-1)), e1 (.goto 4) 3 27]),
  (26, [e0 (.lconst 0) 1]),
  (27, [e0 (.lstore_n 3) 1, e0 (.iconst 1) 1, e0 (.istore 5) 2, e0 (.aload_n 0) 1, (.getfield 28, 3, 7, 2, 10, 180, 0, 1), e0 (.aload_n 1) 1, e0 (.aload_n 2) 1, (.invokevirtual 76, 3, 1, 3, 0, 0, 3, 0), e0 (.iconst 0) 1, e0 (.istore 6) 2]),
  (43, [e0 (.iload 6) 2, e0 (.bipush 16) 2, e1 (.if_icmp .ge 94) 3 141, e0 (.aload_n 2) 1, e0 (.iload 6) 2, (.invokevirtual 82, 3, 98, 2, 9, 0, 0, 0), e1 (.ifCond .eq 79) 3 135, e0 (.aload_n 0) 1, (.getfield 28, 3, 7, 2, 10, 180, 0, 1), e0 (.iload 6) 2, (.invokevirtual 88, 3, 4, 2, 0, 0, 3, 0), e0 (.aload_n 0) 1, (.getfield 28, 3, 7, 2, 10, 180, 0, 1), e0 (.aload_n 0) 1, (.getfield 24, 3, 7, 1, 12, 44, 0, 1), (.getfield 92, 3, 2, 3, 30, 45, 1600, 1), e0 (.aload_n 0) 1, (.getfield 24, 3, 7, 1, 12, 44, 0, 1), (.getfield 96, 3, 2, 4, 0, 0, 0, 0), (.invokevirtual 99, 3, 11, 3, 0, 0, 0, 0), e0 (.istore 7) 2, e0 (.iload 5) 2, e1 (.ifCond .eq 29) 3 122, e0 (.aload_n 0) 1, (.getfield 15, 3, 7, 3, 22, 0, 0, 0), (.getstatic 103, 3, 12, 36, 0, 0, 0, 0), e1 (.if_acmp .eq 13) 3 116, e0 (.aload_n 0) 1, (.getfield 15, 3, 7, 3, 22, 0, 0, 0), (.getstatic 106, 3, 12, 37, 0, 0, 0, 0), e1 (.if_acmp .ne 9) 3 122]),
  (116, [e0 (.iload 7) 2, e0 .i2l 1, e1 (.goto 12) 3 131]),
  (122, [e0 (.aload_n 0) 1, e0 (.lload_n 3) 1, e0 (.iload 7) 2, e0 (.iload 6) 2, (.invokevirtual 109, 3, 82, 4, 7, 0, 1, 0)]),
  (131, [e0 (.lstore_n 3) 1, e0 (.iconst 0) 1, e0 (.istore 5) 2]),
  (135, [e0 (.iinc 6 1) 3, e1 (.goto (-95)) 3 43]),
  (141, [e0 (.lload_n 3) 1, e0 .lreturn 1])]

set_option maxRecDepth 100000 in
def pb_X7_join : List (Nat × List EI) := [(0, [e0 (.aload_n 0) 1, (.getfield 15, 3, 7, 3, 22, 0, 0, 0), (.getstatic 68, 3, 12, 32, 0, 0, 0, 0), e1 (.if_acmp .ne 23) 3 30, e0 (.iload_n 3) 1, e1 (.ifCond .eq 17) 3 28, e0 (.lload_n 1) 1, (.ldc2_w 74, 3, 0, 0, 0, 0, 0, (-1)), e0 .lcmp 1, e1 (.ifCond .ne 9) 3 28, e0 (.iload 4) 2, e0 .i2l 1, e1 (.goto 4) 3 29]),
  (28, [e0 (.lload_n 1) 1]),
  (29, [e0 .lreturn 1]),
  (30, [e0 (.aload_n 0) 1, (.getfield 15, 3, 7, 3, 22, 0, 0, 0), (.getstatic 71, 3, 12, 33, 0, 0, 0, 0), e1 (.if_acmp .ne 15) 3 52, e0 (.iload_n 3) 1, e1 (.ifCond .eq 9) 3 50, e0 (.iload 4) 2, e0 .i2l 1, e1 (.goto 4) 3 51]),
  (50, [e0 (.lload_n 1) 1]),
  (51, [e0 .lreturn 1]),
  (52, [e0 (.aload_n 0) 1, (.getfield 15, 3, 7, 3, 22, 0, 0, 0), (.getstatic 103, 3, 12, 36, 0, 0, 0, 0), e1 (.if_acmp .ne 10) 3 69, e0 (.lload_n 1) 1, e0 (.iload_n 3) 1, e0 .i2l 1, (.invokestatic 113, 3, 305, 2, 0, 0, 1, 0), e0 .lreturn 1]),
  (69, [e0 (.aload_n 0) 1, (.getfield 15, 3, 7, 3, 22, 0, 0, 0), (.getstatic 106, 3, 12, 37, 0, 0, 0, 0), e1 (.if_acmp .ne 10) 3 86, e0 (.lload_n 1) 1, e0 (.iload_n 3) 1, e0 .i2l 1, (.invokestatic 119, 3, 307, 2, 0, 0, 1, 0), e0 .lreturn 1]),
  (86, [e0 (.lload_n 1) 1, e0 (.iload_n 3) 1, e0 .i2l 1, e0 .ladd 1, e0 .lreturn 1])]

set_option maxRecDepth 100000 in
def pb_X8_init : List (Nat × List EI) := [(0, [e0 (.aload_n 0) 1, (.invokespecial 3, 3, 0, 1, 0, 9, 3, 0), e0 (.aload_n 0) 1, e0 (.iconst 0) 1, e0 (.newarray .int) 2, (.putfield 9, 3, 8, 0, 30, 0, 0, 0), e0 (.aload_n 0) 1, e0 (.iconst 0) 1, (.putfield 15, 3, 8, 1, 0, 0, 0, 0), e0 (.aload_n 0) 1, e0 (.iconst 0) 1, (.putfield 19, 3, 8, 2, 0, 0, 0, 0), e0 (.aload_n 0) 1, e0 (.iconst 0) 1, (.putfield 22, 3, 8, 3, 0, 0, 0, 0), e0 (.aload_n 0) 1, e0 (.iconst 0) 1, (.putfield 25, 3, 8, 4, 0, 0, 0, 0), e0 (.aload_n 0) 1, e0 (.iconst 0) 1, (.putfield 28, 3, 8, 5, 0, 0, 0, 0), e0 (.aload_n 0) 1, e0 (.iconst 0) 1, (.putfield 31, 3, 8, 6, 0, 0, 0, 0), e0 (.aload_n 0) 1, e1 (.aconst_null) 1 12, (.putfield 34, 3, 8, 7, 22, 0, 0, 0), e0 (.aload_n 0) 1, e0 (.iconst 0) 1, (.putfield 38, 3, 8, 8, 0, 0, 0, 0), e0 (.aload_n 0) 1, e0 (.iconst 0) 1, (.putfield 41, 3, 8, 9, 0, 0, 0, 0), e0 (.aload_n 0) 1, e0 (.iconst 0) 1, (.putfield 44, 3, 8, 10, 0, 0, 0, 0), e0 (.aload_n 0) 1, e0 (.iconst 0) 1, (.putfield 47, 3, 8, 11, 0, 0, 0, 0), e0 (.aload_n 0) 1, e0 (.iconst (-1)) 1, (.putfield 50, 3, 8, 12, 0, 0, 0, 0), e0 .return_ 1])]

set_option maxRecDepth 100000 in
def pb_X8_begin : List (Nat × List EI) := [(0, [e0 (.aload_n 0) 1, e0 (.aload_n 1) 1, (.putfield 9, 3, 8, 0, 30, 0, 0, 0), e0 (.aload_n 0) 1, e0 (.iload_n 2) 1, e0 (.aload_n 1) 1, e0 .arraylength 1, (.invokestatic 53, 3, 306, 2, 0, 0, 0, 0), (.putfield 15, 3, 8, 1, 0, 0, 0, 0)]),
  (15, [e0 (.aload_n 0) 1, e0 (.iconst 0) 1, (.putfield 28, 3, 8, 5, 0, 0, 0, 0), e0 (.aload_n 0) 1, e0 (.iconst 0) 1, (.putfield 19, 3, 8, 2, 0, 0, 0, 0)]),
  (25, [e0 (.aload_n 0) 1, e0 (.iconst 3) 1, (.putfield 31, 3, 8, 6, 0, 0, 0, 0), e0 (.aload_n 0) 1, e0 (.iconst 0) 1, (.putfield 47, 3, 8, 11, 0, 0, 0, 0)]),
  (35, [e0 (.aload_n 0) 1, e0 (.iconst (-1)) 1, (.putfield 50, 3, 8, 12, 0, 0, 0, 0), e0 (.aload_n 0) 1, (.invokevirtual 59, 3, 86, 1, 8, 0, 3, 0), e0 .return_ 1])]

set_option maxRecDepth 100000 in
def pb_X8_fail : List (Nat × List EI) := [(0, [e0 (.aload_n 0) 1, e0 (.iload_n 1) 1, (.putfield 47, 3, 8, 11, 0, 0, 0, 0), e0 (.aload_n 0) 1, e0 (.iload_n 2) 1, (.putfield 50, 3, 8, 12, 0, 0, 0, 0)]),
  (10, [e0 (.iconst 0) 1, e0 .ireturn 1])]

set_option maxRecDepth 100000 in
def pb_X8_step : List (Nat × List EI) := [(0, [e0 (.aload_n 0) 1, (.getfield 31, 3, 8, 6, 0, 0, 0, 0), e0 (.iconst 1) 1, e1 (.if_icmp .eq 11) 3 16, e0 (.aload_n 0) 1, (.getfield 31, 3, 8, 6, 0, 0, 0, 0), e0 (.iconst 2) 1, e1 (.if_icmp .ne 7) 3 20]),
  (16, [e0 (.iconst 1) 1, e1 (.goto 4) 3 21]),
  (20, [e0 (.iconst 0) 1]),
  (21, [e0 (.istore_n 1) 1, e0 (.aload_n 0) 1, (.getfield 19, 3, 8, 2, 0, 0, 0, 0), e0 (.istore_n 2) 1, e0 (.aload_n 0) 1, e0 (.aload_n 0) 1, (.getfield 28, 3, 8, 5, 0, 0, 0, 0), (.putfield 38, 3, 8, 8, 0, 0, 0, 0)]),
  (35, [e0 (.aload_n 0) 1, e0 (.aload_n 0) 1, (.getfield 22, 3, 8, 3, 0, 0, 0, 0), (.putfield 41, 3, 8, 9, 0, 0, 0, 0), e0 (.aload_n 0) 1, e0 (.aload_n 0) 1, (.getfield 25, 3, 8, 4, 0, 0, 0, 0), (.putfield 44, 3, 8, 10, 0, 0, 0, 0)]),
  (51, [e0 (.aload_n 0) 1, e1 (.aconst_null) 1 12, (.putfield 34, 3, 8, 7, 22, 0, 0, 0), e0 (.aload_n 0) 1, e0 (.iload_n 2) 1, (.putfield 28, 3, 8, 5, 0, 0, 0, 0)]),
  (61, [e0 (.aload_n 0) 1, (.getfield 28, 3, 8, 5, 0, 0, 0, 0), e0 (.aload_n 0) 1, (.getfield 15, 3, 8, 1, 0, 0, 0, 0), e1 (.if_icmp .ge 44) 3 113, e0 (.aload_n 0) 1, (.getfield 9, 3, 8, 0, 30, 0, 0, 0), e0 (.aload_n 0) 1, (.getfield 28, 3, 8, 5, 0, 0, 0, 0), e0 .iaload 1, e0 (.bipush 32) 2, e1 (.if_icmp .eq 17) 3 100, e0 (.aload_n 0) 1, (.getfield 9, 3, 8, 0, 30, 0, 0, 0), e0 (.aload_n 0) 1, (.getfield 28, 3, 8, 5, 0, 0, 0, 0), e0 .iaload 1, e0 (.bipush 10) 2, e1 (.if_icmp .ne 16) 3 113]),
  (100, [e0 (.aload_n 0) 1, e0 .dup 1, (.getfield 28, 3, 8, 5, 0, 0, 0, 0), e0 (.iconst 1) 1, e0 .iadd 1, (.putfield 28, 3, 8, 5, 0, 0, 0, 0)]),
  (110, [e1 (.goto (-49)) 3 61]),
  (113, [e0 (.aload_n 0) 1, e0 (.aload_n 0) 1, (.getfield 28, 3, 8, 5, 0, 0, 0, 0), (.putfield 19, 3, 8, 2, 0, 0, 0, 0), e0 (.aload_n 0) 1, (.getfield 28, 3, 8, 5, 0, 0, 0, 0), e0 (.aload_n 0) 1, (.getfield 15, 3, 8, 1, 0, 0, 0, 0), e1 (.if_icmp .ge 15) 3 144, e0 (.aload_n 0) 1, (.getfield 9, 3, 8, 0, 30, 0, 0, 0), e0 (.aload_n 0) 1, (.getfield 28, 3, 8, 5, 0, 0, 0, 0), e0 .iaload 1, e1 (.goto 4) 3 145]),
  (144, [e0 (.iconst (-1)) 1]),
  (145, [e0 (.istore_n 3) 1, e0 (.iload_n 3) 1, e0 (.bipush 97) 2, e1 (.if_icmp .lt 16) 3 165, e0 (.iload_n 3) 1, e0 (.bipush 122) 2, e1 (.if_icmp .gt 10) 3 165, e0 (.aload_n 0) 1, (.invokevirtual 62, 3, 87, 1, 8, 0, 3, 0), e1 (.goto 58) 3 220]),
  (165, [e0 (.iload_n 3) 1, e0 (.bipush 48) 2, e1 (.if_icmp .lt 16) 3 184, e0 (.iload_n 3) 1, e0 (.bipush 57) 2, e1 (.if_icmp .gt 10) 3 184, e0 (.aload_n 0) 1, (.invokevirtual 65, 3, 88, 1, 8, 0, 3, 0), e1 (.goto 39) 3 220]),
  (184, [e0 (.aload_n 0) 1, e0 (.iload_n 3) 1, e0 (.iconst (-1)) 1, e1 (.if_icmp .ne 7) 3 194, e0 (.iconst 0) 1, e1 (.goto 4) 3 195]),
  (194, [e0 (.iconst 3) 1]),
  (195, [(.putfield 31, 3, 8, 6, 0, 0, 0, 0), e0 (.aload_n 0) 1, e0 (.iload_n 3) 1, e0 (.iconst (-1)) 1, e1 (.if_icmp .ne 10) 3 211, e0 (.aload_n 0) 1, (.getfield 28, 3, 8, 5, 0, 0, 0, 0), e1 (.goto 9) 3 217]),
  (211, [e0 (.aload_n 0) 1, (.getfield 28, 3, 8, 5, 0, 0, 0, 0), e0 (.iconst 1) 1, e0 .iadd 1]),
  (217, [(.putfield 19, 3, 8, 2, 0, 0, 0, 0)]),
  (220, [e0 (.iload_n 1) 1, e1 (.ifCond .eq 37) 3 258, e0 (.aload_n 0) 1, (.getfield 28, 3, 8, 5, 0, 0, 0, 0), e0 (.iload_n 2) 1, e1 (.if_icmp .ne 29) 3 258, e0 (.aload_n 0) 1, (.getfield 31, 3, 8, 6, 0, 0, 0, 0), e0 (.iconst 1) 1, e1 (.if_icmp .eq 11) 3 248, e0 (.aload_n 0) 1, (.getfield 31, 3, 8, 6, 0, 0, 0, 0), e0 (.iconst 2) 1, e1 (.if_icmp .ne 13) 3 258]),
  (248, [e0 (.aload_n 0) 1, e0 (.iconst 4) 1, (.putfield 31, 3, 8, 6, 0, 0, 0, 0), e0 (.aload_n 0) 1, e1 (.aconst_null) 1 12, (.putfield 34, 3, 8, 7, 22, 0, 0, 0)]),
  (258, [e0 .return_ 1])]

set_option maxRecDepth 100000 in
def pb_X8_readLetters : List (Nat × List EI) := [(0, [e0 (.aload_n 0) 1, e0 (.iconst 1) 1, (.putfield 31, 3, 8, 6, 0, 0, 0, 0), e0 (.aload_n 0) 1, e0 (.iconst 0) 1, (.putfield 22, 3, 8, 3, 0, 0, 0, 0)]),
  (10, [e0 (.aload_n 0) 1, (.getfield 19, 3, 8, 2, 0, 0, 0, 0), e0 (.aload_n 0) 1, (.getfield 15, 3, 8, 1, 0, 0, 0, 0), e1 (.if_icmp .ge 84) 3 102, e0 (.aload_n 0) 1, (.getfield 9, 3, 8, 0, 30, 0, 0, 0), e0 (.aload_n 0) 1, (.getfield 19, 3, 8, 2, 0, 0, 0, 0), e0 .iaload 1, e0 (.bipush 97) 2, e1 (.if_icmp .lt 70) 3 102, e0 (.aload_n 0) 1, (.getfield 9, 3, 8, 0, 30, 0, 0, 0), e0 (.aload_n 0) 1, (.getfield 19, 3, 8, 2, 0, 0, 0, 0), e0 .iaload 1, e0 (.bipush 122) 2, e1 (.if_icmp .gt 56) 3 102, e0 (.aload_n 0) 1, (.getfield 19, 3, 8, 2, 0, 0, 0, 0), e0 (.aload_n 0) 1, (.getfield 28, 3, 8, 5, 0, 0, 0, 0), e0 .isub 1, e0 (.bipush 6) 2, e1 (.if_icmp .ge 29) 3 89, e0 (.aload_n 0) 1, e0 (.aload_n 0) 1, (.getfield 22, 3, 8, 3, 0, 0, 0, 0), e0 (.bipush 27) 2, e0 .imul 1, e0 (.aload_n 0) 1, (.getfield 9, 3, 8, 0, 30, 0, 0, 0), e0 (.aload_n 0) 1, (.getfield 19, 3, 8, 2, 0, 0, 0, 0), e0 .iaload 1, e0 .iadd 1, e0 (.bipush 97) 2, e0 .isub 1, e0 (.iconst 1) 1, e0 .iadd 1, (.putfield 22, 3, 8, 3, 0, 0, 0, 0)]),
  (89, [e0 (.aload_n 0) 1, e0 .dup 1, (.getfield 19, 3, 8, 2, 0, 0, 0, 0), e0 (.iconst 1) 1, e0 .iadd 1, (.putfield 19, 3, 8, 2, 0, 0, 0, 0)]),
  (99, [e1 (.goto (-89)) 3 10]),
  (102, [e0 (.aload_n 0) 1, (.getfield 19, 3, 8, 2, 0, 0, 0, 0), e0 (.aload_n 0) 1, (.getfield 28, 3, 8, 5, 0, 0, 0, 0), e0 .isub 1, e0 (.bipush 6) 2, e1 (.if_icmp .le 4) 3 117, e0 .return_ 1]),
  (117, [e0 (.aload_n 0) 1, (.getfield 19, 3, 8, 2, 0, 0, 0, 0), e0 (.aload_n 0) 1, (.getfield 28, 3, 8, 5, 0, 0, 0, 0), e0 .isub 1, e0 (.istore_n 1) 1]),
  (127, [e0 (.iload_n 1) 1, e0 (.bipush 6) 2, e1 (.if_icmp .ge 20) 3 150, e0 (.aload_n 0) 1, e0 .dup 1, (.getfield 22, 3, 8, 3, 0, 0, 0, 0), e0 (.bipush 27) 2, e0 .imul 1, (.putfield 22, 3, 8, 3, 0, 0, 0, 0)]),
  (144, [e0 (.iinc 1 1) 3, e1 (.goto (-20)) 3 127]),
  (150, [e0 (.iconst 0) 1, e0 (.istore_n 1) 1]),
  (152, [e0 (.iload_n 1) 1, (.getstatic 68, 3, 24, 38, 37, 0, 0, 0), e0 .arraylength 1, e1 (.if_icmp .ge 33) 3 190, (.getstatic 68, 3, 24, 38, 37, 0, 0, 0), e0 (.iload_n 1) 1, e1 (.aaload) 1 1, e1 (.getfield 72) 3 12, e0 (.aload_n 0) 1, (.getfield 22, 3, 8, 3, 0, 0, 0, 0), e1 (.if_icmp .ne 12) 3 184, e0 (.aload_n 0) 1, (.getstatic 68, 3, 24, 38, 37, 0, 0, 0), e0 (.iload_n 1) 1, e1 (.aaload) 1 1, (.putfield 34, 3, 8, 7, 22, 0, 0, 0)]),
  (184, [e0 (.iinc 1 1) 3, e1 (.goto (-35)) 3 152]),
  (190, [e0 .return_ 1])]

set_option maxRecDepth 100000 in
def pb_X8_readDigits : List (Nat × List EI) := [(0, [e0 (.aload_n 0) 1, e0 (.iconst 2) 1, (.putfield 31, 3, 8, 6, 0, 0, 0, 0), e0 (.aload_n 0) 1, e0 (.iconst 0) 1, (.putfield 25, 3, 8, 4, 0, 0, 0, 0)]),
  (10, [e0 (.aload_n 0) 1, (.getfield 19, 3, 8, 2, 0, 0, 0, 0), e0 (.aload_n 0) 1, (.getfield 15, 3, 8, 1, 0, 0, 0, 0), e1 (.if_icmp .ge 81) 3 99, e0 (.aload_n 0) 1, (.getfield 9, 3, 8, 0, 30, 0, 0, 0), e0 (.aload_n 0) 1, (.getfield 19, 3, 8, 2, 0, 0, 0, 0), e0 .iaload 1, e0 (.bipush 48) 2, e1 (.if_icmp .lt 67) 3 99, e0 (.aload_n 0) 1, (.getfield 9, 3, 8, 0, 30, 0, 0, 0), e0 (.aload_n 0) 1, (.getfield 19, 3, 8, 2, 0, 0, 0, 0), e0 .iaload 1, e0 (.bipush 57) 2, e1 (.if_icmp .gt 53) 3 99, e0 (.aload_n 0) 1, (.getfield 19, 3, 8, 2, 0, 0, 0, 0), e0 (.aload_n 0) 1, (.getfield 28, 3, 8, 5, 0, 0, 0, 0), e0 .isub 1, e0 (.iconst 4) 1, e1 (.if_icmp .ge 27) 3 86, e0 (.aload_n 0) 1, e0 (.aload_n 0) 1, (.getfield 25, 3, 8, 4, 0, 0, 0, 0), e0 (.bipush 10) 2, e0 .imul 1, e0 (.aload_n 0) 1, (.getfield 9, 3, 8, 0, 30, 0, 0, 0), e0 (.aload_n 0) 1, (.getfield 19, 3, 8, 2, 0, 0, 0, 0), e0 .iaload 1, e0 .iadd 1, e0 (.bipush 48) 2, e0 .isub 1, (.putfield 25, 3, 8, 4, 0, 0, 0, 0)]),
  (86, [e0 (.aload_n 0) 1, e0 .dup 1, (.getfield 19, 3, 8, 2, 0, 0, 0, 0), e0 (.iconst 1) 1, e0 .iadd 1, (.putfield 19, 3, 8, 2, 0, 0, 0, 0)]),
  (96, [e1 (.goto (-86)) 3 10]),
  (99, [e0 .return_ 1])]

set_option maxRecDepth 100000 in
def pb_X8_isSign : List (Nat × List EI) := [(0, [e0 (.aload_n 0) 1, (.getfield 31, 3, 8, 6, 0, 0, 0, 0), e0 (.iconst 3) 1, e1 (.if_icmp .ne 20) 3 25, e0 (.aload_n 0) 1, (.getfield 9, 3, 8, 0, 30, 0, 0, 0), e0 (.aload_n 0) 1, (.getfield 28, 3, 8, 5, 0, 0, 0, 0), e0 .iaload 1, e0 (.iload_n 1) 1, e1 (.if_icmp .ne 7) 3 25, e0 (.iconst 1) 1, e1 (.goto 4) 3 26]),
  (25, [e0 (.iconst 0) 1]),
  (26, [e0 .ireturn 1])]

set_option maxRecDepth 100000 in
def pb_X8_takeSign : List (Nat × List EI) := [(0, [e0 (.aload_n 0) 1, e0 (.iload_n 1) 1, (.invokevirtual 75, 3, 89, 2, 8, 0, 0, 0), e1 (.ifCond .ne 13) 3 18, e0 (.aload_n 0) 1, e0 (.iconst 1) 1, e0 (.aload_n 0) 1, (.getfield 28, 3, 8, 5, 0, 0, 0, 0), (.invokevirtual 79, 3, 85, 3, 8, 0, 0, 0), e0 .ireturn 1]),
  (18, [e0 (.aload_n 0) 1, (.invokevirtual 59, 3, 86, 1, 8, 0, 3, 0), e0 (.iconst 1) 1, e0 .ireturn 1])]

set_option maxRecDepth 100000 in
def pb_X8_takeWord : List (Nat × List EI) := [(0, [e0 (.aload_n 0) 1, (.getfield 34, 3, 8, 7, 22, 0, 0, 0), e0 (.aload_n 1) 1, e1 (.if_acmp .eq 13) 3 18, e0 (.aload_n 0) 1, e0 (.iconst 1) 1, e0 (.aload_n 0) 1, (.getfield 28, 3, 8, 5, 0, 0, 0, 0), (.invokevirtual 79, 3, 85, 3, 8, 0, 0, 0), e0 .ireturn 1]),
  (18, [e0 (.aload_n 0) 1, (.invokevirtual 59, 3, 86, 1, 8, 0, 3, 0), e0 (.iconst 1) 1, e0 .ireturn 1])]

set_option maxRecDepth 100000 in
def pb_X8_takeNumber : List (Nat × List EI) := [(0, [e0 (.aload_n 0) 1, (.getfield 31, 3, 8, 6, 0, 0, 0, 0), e0 (.iconst 2) 1, e1 (.if_icmp .eq 13) 3 18, e0 (.aload_n 0) 1, e0 (.iconst 1) 1, e0 (.aload_n 0) 1, (.getfield 28, 3, 8, 5, 0, 0, 0, 0), (.invokevirtual 79, 3, 85, 3, 8, 0, 0, 0), e0 .ireturn 1]),
  (18, [e0 (.aload_n 0) 1, (.getfield 19, 3, 8, 2, 0, 0, 0, 0), e0 (.aload_n 0) 1, (.getfield 28, 3, 8, 5, 0, 0, 0, 0), e0 .isub 1, e0 (.iconst 4) 1, e1 (.if_icmp .le 15) 3 43, e0 (.aload_n 0) 1, e0 (.iconst 1) 1, e0 (.aload_n 0) 1, (.getfield 28, 3, 8, 5, 0, 0, 0, 0), e0 (.iconst 4) 1, e0 .iadd 1, (.invokevirtual 79, 3, 85, 3, 8, 0, 0, 0), e0 .ireturn 1]),
  (43, [e0 (.aload_n 0) 1, (.getfield 25, 3, 8, 4, 0, 0, 0, 0), e0 (.iload_n 1) 1, e1 (.if_icmp .lt 11) 3 59, e0 (.aload_n 0) 1, (.getfield 25, 3, 8, 4, 0, 0, 0, 0), e0 (.iload_n 2) 1, e1 (.if_icmp .le 13) 3 69]),
  (59, [e0 (.aload_n 0) 1, e0 (.iconst 2) 1, e0 (.aload_n 0) 1, (.getfield 28, 3, 8, 5, 0, 0, 0, 0), (.invokevirtual 79, 3, 85, 3, 8, 0, 0, 0), e0 .ireturn 1]),
  (69, [e0 (.aload_n 0) 1, (.invokevirtual 59, 3, 86, 1, 8, 0, 3, 0), e0 (.iconst 1) 1, e0 .ireturn 1])]

set_option maxRecDepth 100000 in
def pb_X8_takeName : List (Nat × List EI) := [(0, [e0 (.aload_n 0) 1, (.getfield 31, 3, 8, 6, 0, 0, 0, 0), e0 (.iconst 1) 1, e1 (.if_icmp .ne 20) 3 25, e0 (.aload_n 0) 1, (.getfield 34, 3, 8, 7, 22, 0, 0, 0), e1 (.ifnull 23) 3 35, e0 (.aload_n 0) 1, (.getfield 34, 3, 8, 7, 22, 0, 0, 0), (.getfield 83, 3, 12, 2, 2, 0, 0, 0), e1 (.ifCond .eq 13) 3 35]),
  (25, [e0 (.aload_n 0) 1, e0 (.iconst 1) 1, e0 (.aload_n 0) 1, (.getfield 28, 3, 8, 5, 0, 0, 0, 0), (.invokevirtual 79, 3, 85, 3, 8, 0, 0, 0), e0 .ireturn 1]),
  (35, [e0 (.aload_n 0) 1, (.getfield 19, 3, 8, 2, 0, 0, 0, 0), e0 (.aload_n 0) 1, (.getfield 28, 3, 8, 5, 0, 0, 0, 0), e0 .isub 1, e0 (.bipush 6) 2, e1 (.if_icmp .le 16) 3 62, e0 (.aload_n 0) 1, e0 (.iconst 1) 1, e0 (.aload_n 0) 1, (.getfield 28, 3, 8, 5, 0, 0, 0, 0), e0 (.bipush 6) 2, e0 .iadd 1, (.invokevirtual 79, 3, 85, 3, 8, 0, 0, 0), e0 .ireturn 1]),
  (62, [e0 (.aload_n 0) 1, (.invokevirtual 59, 3, 86, 1, 8, 0, 3, 0), e0 (.iconst 1) 1, e0 .ireturn 1])]

set_option maxRecDepth 100000 in
def pb_X9_init : List (Nat × List EI) := [(0, [e0 (.aload_n 0) 1, (.invokespecial 3, 3, 0, 1, 0, 9, 3, 0), e0 (.aload_n 0) 1, e0 (.iconst 0) 1, e1 (.putfield 9) 3 9, e0 (.aload_n 0) 1, e0 (.iconst 0) 1, (.putfield 15, 3, 9, 1, 0, 0, 0, 0), e0 (.aload_n 0) 1, e0 (.iconst (-1)) 1, (.putfield 18, 3, 9, 2, 0, 0, 0, 0), e0 (.aload_n 0) 1, e0 (.bipush 16) 2, e0 (.newarray .int) 2, (.putfield 21, 3, 9, 3, 30, 1, 16, 0), e0 (.aload_n 0) 1, e0 (.bipush 16) 2, e0 (.newarray .int) 2, (.putfield 25, 3, 9, 4, 30, 2, 16, 0), e0 (.aload_n 0) 1, e0 (.bipush 9) 2, e0 (.newarray .int) 2, (.putfield 28, 3, 9, 5, 30, 3, 9, 0), e0 (.aload_n 0) 1, e0 (.bipush 40) 2, e0 (.newarray .int) 2, (.putfield 31, 3, 9, 6, 30, 4, 40, 0), e0 (.aload_n 0) 1, e0 (.iconst 0) 1, (.putfield 34, 3, 9, 7, 0, 0, 0, 0), e0 (.aload_n 0) 1, (.getfield 21, 3, 9, 3, 30, 1, 16, 0), e0 (.iconst (-1)) 1, (.invokestatic 37, 3, 308, 2, 0, 0, 3, 0), e0 (.aload_n 0) 1, (.getfield 28, 3, 9, 5, 30, 3, 9, 0), e0 (.iconst (-1)) 1, (.invokestatic 37, 3, 308, 2, 0, 0, 3, 0), e0 .return_ 1])]

set_option maxRecDepth 100000 in
def pb_X9_clear : List (Nat × List EI) := [(0, [e0 (.aload_n 0) 1, e0 (.iconst 0) 1, e1 (.putfield 9) 3 9, e0 (.aload_n 0) 1, e0 (.iconst 0) 1, (.putfield 15, 3, 9, 1, 0, 0, 0, 0)]),
  (10, [e0 (.aload_n 0) 1, e0 (.iconst (-1)) 1, (.putfield 18, 3, 9, 2, 0, 0, 0, 0), e0 (.aload_n 0) 1, e0 (.iconst 0) 1, (.putfield 34, 3, 9, 7, 0, 0, 0, 0)]),
  (20, [e0 (.aload_n 0) 1, (.getfield 21, 3, 9, 3, 30, 1, 16, 0), e0 (.iconst (-1)) 1, (.invokestatic 37, 3, 308, 2, 0, 0, 3, 0), e0 (.aload_n 0) 1, (.getfield 25, 3, 9, 4, 30, 2, 16, 0), e0 (.iconst 0) 1, (.invokestatic 37, 3, 308, 2, 0, 0, 3, 0), e0 (.aload_n 0) 1, (.getfield 28, 3, 9, 5, 30, 3, 9, 0), e0 (.iconst (-1)) 1, (.invokestatic 37, 3, 308, 2, 0, 0, 3, 0), e0 .return_ 1])]

set_option maxRecDepth 100000 in
def pb_X9_begin : List (Nat × List EI) := [(0, [e0 (.aload_n 0) 1, (.invokevirtual 43, 3, 95, 1, 9, 0, 3, 0), e0 (.iconst 0) 1, e0 (.istore_n 2) 1]),
  (6, [e0 (.iload_n 2) 1, e0 (.aload_n 1) 1, (.getfield 46, 3, 3, 2, 0, 0, 0, 0), e1 (.if_icmp .ge 26) 3 37, e0 (.aload_n 0) 1, e0 (.iload_n 2) 1, e0 (.aload_n 1) 1, (.getfield 51, 3, 3, 10, 30, 4, 8, 0), e0 (.iload_n 2) 1, e0 .iaload 1, e0 (.aload_n 1) 1, (.getfield 54, 3, 3, 11, 30, 5, 8, 0), e0 (.iload_n 2) 1, e0 .iaload 1, (.invokevirtual 57, 3, 100, 4, 9, 0, 3, 0), e0 (.iinc 2 1) 3, e1 (.goto (-28)) 3 6]),
  (37, [e0 .return_ 1])]

set_option maxRecDepth 100000 in
def pb_X9_copy : List (Nat × List EI) := [(0, [e0 (.aload_n 0) 1, e0 (.aload_n 1) 1, e1 (.getfield 9) 3 9, e1 (.putfield 9) 3 9, e0 (.aload_n 0) 1, e0 (.aload_n 1) 1, (.getfield 15, 3, 9, 1, 0, 0, 0, 0), (.putfield 15, 3, 9, 1, 0, 0, 0, 0)]),
  (16, [e0 (.aload_n 0) 1, e0 (.aload_n 1) 1, (.getfield 18, 3, 9, 2, 0, 0, 0, 0), (.putfield 18, 3, 9, 2, 0, 0, 0, 0), e0 (.aload_n 0) 1, e0 (.aload_n 1) 1, (.getfield 34, 3, 9, 7, 0, 0, 0, 0), (.putfield 34, 3, 9, 7, 0, 0, 0, 0)]),
  (32, [e0 (.aload_n 1) 1, (.getfield 21, 3, 9, 3, 30, 1, 16, 0), e0 (.iconst 0) 1, e0 (.aload_n 0) 1, (.getfield 21, 3, 9, 3, 30, 1, 16, 0), e0 (.iconst 0) 1, e0 (.bipush 16) 2, (.invokestatic 61, 3, 0, 5, 0, 8, 3, 0), e0 (.aload_n 1) 1, (.getfield 25, 3, 9, 4, 30, 2, 16, 0), e0 (.iconst 0) 1, e0 (.aload_n 0) 1, (.getfield 25, 3, 9, 4, 30, 2, 16, 0), e0 (.iconst 0) 1, e0 (.bipush 16) 2, (.invokestatic 61, 3, 0, 5, 0, 8, 3, 0), e0 (.aload_n 1) 1, (.getfield 28, 3, 9, 5, 30, 3, 9, 0), e0 (.iconst 0) 1, e0 (.aload_n 0) 1, (.getfield 28, 3, 9, 5, 30, 3, 9, 0), e0 (.iconst 0) 1, e0 (.bipush 9) 2, (.invokestatic 61, 3, 0, 5, 0, 8, 3, 0)]),
  (77, [e0 (.aload_n 1) 1, (.getfield 31, 3, 9, 6, 30, 4, 40, 0), e0 (.iconst 0) 1, e0 (.aload_n 0) 1, (.getfield 31, 3, 9, 6, 30, 4, 40, 0), e0 (.iconst 0) 1, e0 (.bipush 40) 2, (.invokestatic 61, 3, 0, 5, 0, 8, 3, 0), e0 .return_ 1])]

set_option maxRecDepth 100000 in
def pb_X9_isThere : List (Nat × List EI) := [(0, [e0 (.iload_n 1) 1, e1 (.ifCond .lt 23) 3 24, e0 (.iload_n 1) 1, e0 (.bipush 16) 2, e1 (.if_icmp .ge 17) 3 24, e0 (.aload_n 0) 1, (.getfield 21, 3, 9, 3, 30, 1, 16, 0), e0 (.iload_n 1) 1, e0 .iaload 1, e0 (.iconst (-1)) 1, e1 (.if_icmp .eq 7) 3 24, e0 (.iconst 1) 1, e1 (.goto 4) 3 25]),
  (24, [e0 (.iconst 0) 1]),
  (25, [e0 .ireturn 1])]

set_option maxRecDepth 100000 in
def pb_X9_whoSits : List (Nat × List EI) := [(0, [e0 (.iload_n 1) 1, e1 (.ifCond .lt 18) 3 19, e0 (.iload_n 1) 1, e0 (.bipush 9) 2, e1 (.if_icmp .ge 12) 3 19, e0 (.aload_n 0) 1, (.getfield 28, 3, 9, 5, 30, 3, 9, 0), e0 (.iload_n 1) 1, e0 .iaload 1, e1 (.goto 4) 3 20]),
  (19, [e0 (.iconst (-1)) 1]),
  (20, [e0 .ireturn 1])]

set_option maxRecDepth 100000 in
def pb_X9_put : List (Nat × List EI) := [(0, [e0 (.aload_n 0) 1, (.getfield 21, 3, 9, 3, 30, 1, 16, 0), e0 (.iload_n 1) 1, e0 (.iload_n 3) 1, e0 .iastore 1, e0 (.aload_n 0) 1, (.getfield 25, 3, 9, 4, 30, 2, 16, 0), e0 (.iload_n 1) 1, e0 (.iload_n 2) 1, e0 .iastore 1]),
  (14, [e0 (.aload_n 0) 1, (.getfield 28, 3, 9, 5, 30, 3, 9, 0), e0 (.iload_n 3) 1, e0 (.iload_n 1) 1, e0 .iastore 1, e0 .return_ 1])]

set_option maxRecDepth 100000 in
def pb_X9_leave : List (Nat × List EI) := [(0, [e0 (.aload_n 0) 1, (.getfield 21, 3, 9, 3, 30, 1, 16, 0), e0 (.iload_n 1) 1, e0 .iaload 1, e0 (.istore_n 2) 1, e0 (.iload_n 2) 1, e1 (.ifCond .lt 10) 3 18, e0 (.aload_n 0) 1, (.getfield 28, 3, 9, 5, 30, 3, 9, 0), e0 (.iload_n 2) 1, e0 (.iconst (-1)) 1, e0 .iastore 1]),
  (18, [e0 (.aload_n 0) 1, (.getfield 21, 3, 9, 3, 30, 1, 16, 0), e0 (.iload_n 1) 1, e0 (.iconst (-1)) 1, e0 .iastore 1, e0 (.aload_n 0) 1, (.getfield 25, 3, 9, 4, 30, 2, 16, 0), e0 (.iload_n 1) 1, e0 (.iconst 0) 1, e0 .iastore 1]),
  (32, [e0 .return_ 1])]

set_option maxRecDepth 100000 in
def pb_X9_exchange : List (Nat × List EI) := [(0, [e0 (.aload_n 0) 1, (.getfield 21, 3, 9, 3, 30, 1, 16, 0), e0 (.iload_n 1) 1, e0 .iaload 1, e0 (.istore_n 3) 1, e0 (.aload_n 0) 1, e0 (.iload_n 2) 1, (.invokevirtual 67, 3, 99, 2, 9, 0, 0, 0), e0 (.istore 4) 2, e0 (.iload_n 3) 1, e1 (.ifCond .ge 4) 3 19, e0 .return_ 1]),
  (19, [e0 (.aload_n 0) 1, (.getfield 21, 3, 9, 3, 30, 1, 16, 0), e0 (.iload_n 1) 1, e0 (.iload_n 2) 1, e0 .iastore 1, e0 (.aload_n 0) 1, (.getfield 28, 3, 9, 5, 30, 3, 9, 0), e0 (.iload_n 2) 1, e0 (.iload_n 1) 1, e0 .iastore 1]),
  (33, [e0 (.aload_n 0) 1, (.getfield 28, 3, 9, 5, 30, 3, 9, 0), e0 (.iload_n 3) 1, e0 (.iload 4) 2, e0 .iastore 1, e0 (.iload 4) 2, e0 (.iconst (-1)) 1, e1 (.if_icmp .eq 11) 3 55, e0 (.aload_n 0) 1, (.getfield 21, 3, 9, 3, 30, 1, 16, 0), e0 (.iload 4) 2, e0 (.iload_n 3) 1, e0 .iastore 1]),
  (55, [e0 .return_ 1])]

set_option maxRecDepth 100000 in
def pb_X9_firstFree : List (Nat × List EI) := [(0, [e0 (.iconst 0) 1, e0 (.istore_n 2) 1]),
  (2, [e0 (.iload_n 2) 1, e0 (.iload_n 1) 1, e1 (.if_icmp .ge 20) 3 24, e0 (.aload_n 0) 1, e0 (.iload_n 2) 1, (.invokevirtual 67, 3, 99, 2, 9, 0, 0, 0), e0 (.iconst (-1)) 1, e1 (.if_icmp .ne 5) 3 18, e0 (.iload_n 2) 1, e0 .ireturn 1]),
  (18, [e0 (.iinc 2 1) 3, e1 (.goto (-19)) 3 2]),
  (24, [e0 (.iconst (-1)) 1, e0 .ireturn 1])]

set_option maxRecDepth 100000 in
def pb_X9_hiredOf : List (Nat × List EI) := [(0, [e0 (.iconst 0) 1, e0 (.istore_n 2) 1, e0 (.iconst 0) 1, e0 (.istore_n 3) 1]),
  (4, [e0 (.iload_n 3) 1, e0 (.aload_n 1) 1, (.getfield 71, 3, 3, 5, 0, 0, 0, 0), e1 (.if_icmp .ge 28) 3 37, e0 (.iload_n 2) 1, e0 (.aload_n 0) 1, e0 (.bipush 10) 2, e0 (.iload_n 3) 1, e0 .iadd 1, (.invokevirtual 74, 3, 98, 2, 9, 0, 0, 0), e1 (.ifCond .eq 7) 3 28, e0 (.iconst 1) 1, e1 (.goto 4) 3 29]),
  (28, [e0 (.iconst 0) 1]),
  (29, [e0 .iadd 1, e0 (.istore_n 2) 1, e0 (.iinc 3 1) 3, e1 (.goto (-30)) 3 4]),
  (37, [e0 (.iload_n 2) 1, e0 .ireturn 1])]

set_option maxRecDepth 100000 in
def pb_X9_keepCough : List (Nat × List EI) := [(0, [e0 (.aload_n 0) 1, (.getfield 31, 3, 9, 6, 30, 4, 40, 0), e0 (.aload_n 0) 1, (.getfield 34, 3, 9, 7, 0, 0, 0, 0), e0 (.bipush 40) 2, e0 .irem 1, e0 (.aload_n 0) 1, e1 (.getfield 9) 3 9, e0 (.bipush 16) 2, e0 .imul 1, e0 (.iload_n 1) 1, e0 .iadd 1, e0 (.sipush 1000) 3, e0 .imul 1, e0 (.iload_n 2) 1, e0 .iadd 1, e0 .iastore 1]),
  (27, [e0 (.aload_n 0) 1, e0 .dup 1, (.getfield 34, 3, 9, 7, 0, 0, 0, 0), e0 (.iconst 1) 1, e0 .iadd 1, (.putfield 34, 3, 9, 7, 0, 0, 0, 0)]),
  (37, [e0 .return_ 1])]

set_option maxRecDepth 100000 in
def pb_X9_toldCoughs : List (Nat × List EI) := [(0, [e0 (.aload_n 0) 1, (.getfield 34, 3, 9, 7, 0, 0, 0, 0), e0 (.bipush 40) 2, (.invokestatic 78, 3, 306, 2, 0, 0, 0, 0), e0 .ireturn 1])]

set_option maxRecDepth 100000 in
def pb_X9_toldOf : List (Nat × List EI) := [(0, [e0 (.aload_n 0) 1, (.invokevirtual 84, 3, 106, 1, 9, 0, 0, 0), e0 (.istore_n 3) 1, e0 (.iload_n 1) 1, e1 (.ifCond .lt 8) 3 14, e0 (.iload_n 1) 1, e0 (.iload_n 3) 1, e1 (.if_icmp .lt 5) 3 16]),
  (14, [e0 (.iconst (-1)) 1, e0 .ireturn 1]),
  (16, [e0 (.aload_n 0) 1, (.getfield 31, 3, 9, 6, 30, 4, 40, 0), e0 (.aload_n 0) 1, (.getfield 34, 3, 9, 7, 0, 0, 0, 0), e0 (.iload_n 3) 1, e0 .isub 1, e0 (.iload_n 1) 1, e0 .iadd 1, e0 (.bipush 40) 2, e0 .irem 1, e0 .iaload 1, e0 (.istore 4) 2, e0 (.iload_n 2) 1, e0 (.tableswitch 52 0 2 #[25, 35, 45]) 25]),
  (60, [e0 (.iload 4) 2, e0 (.sipush 1000) 3, e0 .idiv 1, e0 (.bipush 16) 2, e0 .idiv 1, e0 .ireturn 1]),
  (70, [e0 (.iload 4) 2, e0 (.sipush 1000) 3, e0 .idiv 1, e0 (.bipush 16) 2, e0 .irem 1, e0 .ireturn 1]),
  (80, [e0 (.iload 4) 2, e0 (.sipush 1000) 3, e0 .irem 1, e0 .ireturn 1]),
  (87, [e0 (.iconst (-1)) 1, e0 .ireturn 1])]

set_option maxRecDepth 100000 in
def pb_X11_init : List (Nat × List EI) := [(0, [e0 (.aload_n 0) 1, (.invokespecial 1, 3, 0, 1, 0, 9, 3, 0), e0 (.aload_n 0) 1, e0 (.sipush 1600) 3, e0 (.newarray .int) 2, (.putfield 9, 3, 10, 0, 30, 41, 1600, 1), e0 (.aload_n 0) 1, e0 (.iconst 0) 1, (.putfield 13, 3, 10, 1, 0, 0, 0, 0), e0 (.aload_n 0) 1, (.new 17, 3, 8, 13, 0, 0, 0, 0), e0 .dup 1, (.invokespecial 19, 3, 83, 1, 8, 1, 3, 0), (.putfield 20, 3, 10, 2, 18, 42, 0, 1), e0 (.aload_n 0) 1, (.new 24, 3, 2, 5, 0, 0, 0, 0), e0 .dup 1, e0 (.aload_n 0) 1, (.getfield 20, 3, 10, 2, 18, 42, 0, 1), (.invokespecial 26, 3, 30, 2, 2, 0, 3, 0), (.putfield 29, 3, 10, 3, 12, 44, 0, 1), e0 (.aload_n 0) 1, (.new 33, 3, 4, 4, 0, 0, 0, 0), e0 .dup 1, e0 (.aload_n 0) 1, (.getfield 20, 3, 10, 2, 18, 42, 0, 1), e0 (.aload_n 0) 1, (.getfield 29, 3, 10, 3, 12, 44, 0, 1), (.invokespecial 35, 3, 53, 3, 4, 0, 3, 0), (.putfield 38, 3, 10, 4, 14, 46, 0, 1), e0 (.aload_n 0) 1, (.new 42, 7, 3, 19, 43, 44, 0, 0), (.putfield 45, 3, 10, 5, 13, 0, 0, 0), e0 (.aload_n 0) 1, (.new 49, 3, 9, 8, 0, 0, 0, 0), e0 .dup 1, (.invokespecial 51, 3, 94, 1, 9, 0, 3, 0), (.putfield 52, 3, 10, 6, 19, 68, 0, 1), e0 (.aload_n 0) 1, (.new 49, 3, 9, 8, 0, 0, 0, 0), e0 .dup 1, (.invokespecial 51, 3, 94, 1, 9, 0, 3, 0), (.putfield 56, 3, 10, 7, 19, 73, 0, 1), e0 (.aload_n 0) 1, (.new 59, 3, 6, 3, 0, 0, 0, 0), e0 .dup 1, (.invokespecial 61, 3, 74, 1, 6, 0, 3, 0), (.putfield 62, 3, 10, 8, 16, 78, 0, 1), e0 (.aload_n 0) 1, (.new 66, 3, 0, 12, 0, 0, 0, 0), e0 .dup 1, e0 (.aload_n 0) 1, (.getfield 45, 3, 10, 5, 13, 0, 0, 0), e0 (.aload_n 0) 1, (.getfield 52, 3, 10, 6, 19, 68, 0, 1), (.invokespecial 68, 3, 0, 3, 0, 0, 3, 0), (.putfield 71, 3, 10, 9, 10, 180, 0, 1), e0 (.aload_n 0) 1, (.new 75, 3, 1, 2, 0, 0, 0, 0), e0 .dup 1, e0 (.aload_n 0) 1, (.getfield 71, 3, 10, 9, 10, 180, 0, 1), e0 (.aload_n 0) 1, (.getfield 56, 3, 10, 7, 19, 73, 0, 1), (.invokespecial 77, 3, 16, 3, 1, 0, 3, 0), (.putfield 80, 3, 10, 10, 11, 185, 0, 1), e0 (.aload_n 0) 1, (.new 84, 3, 7, 4, 0, 0, 0, 0), e0 .dup 1, e0 (.aload_n 0) 1, (.getfield 20, 3, 10, 2, 18, 42, 0, 1), e0 (.aload_n 0) 1, (.getfield 29, 3, 10, 3, 12, 44, 0, 1), e0 (.aload_n 0) 1, (.getfield 71, 3, 10, 9, 10, 180, 0, 1), (.invokespecial 86, 3, 78, 4, 7, 0, 3, 0), (.putfield 89, 3, 10, 11, 17, 186, 0, 1), e0 (.aload_n 0) 1, (.new 93, 3, 5, 2, 0, 0, 0, 0), e0 .dup 1, (.invokespecial 95, 3, 67, 1, 5, 1, 3, 0), (.putfield 96, 3, 10, 12, 15, 187, 0, 1), e0 (.aload_n 0) 1, e0 (.bipush 6) 2, e0 (.newarray .int) 2, (.putfield 100, 3, 10, 13, 30, 189, 6, 1), e0 (.aload_n 0) 1, e0 (.iconst 1) 1, (.putfield 103, 3, 10, 14, 0, 0, 0, 0), e0 .return_ 1])]

set_option maxRecDepth 100000 in
def pb_X11_feed : List (Nat × List EI) := [(0, [e0 (.aload_n 0) 1, (.getfield 13, 3, 10, 1, 0, 0, 0, 0), e0 (.bipush 20) 2, e0 .iadd 1, e0 (.sipush 1600) 3, e1 (.if_icmp .le 11) 3 21, e0 (.aload_n 0) 1, e0 (.iconst 0) 1, (.invokevirtual 106, 3, 141, 2, 10, 0, 0, 0), e0 .pop 1, e0 (.iconst (-1)) 1, e0 .ireturn 1]),
  (21, [e0 (.aload_n 0) 1, e0 (.iload_n 1) 1, (.invokevirtual 110, 3, 143, 2, 10, 0, 3, 0), e0 (.aload_n 0) 1, e0 (.iload_n 2) 1, (.invokevirtual 110, 3, 143, 2, 10, 0, 3, 0), e0 (.aload_n 0) 1, e0 (.iload_n 3) 1, (.invokevirtual 110, 3, 143, 2, 10, 0, 3, 0), e0 (.aload_n 0) 1, e0 (.iload 4) 2, (.invokevirtual 110, 3, 143, 2, 10, 0, 3, 0), e0 (.aload_n 0) 1, e0 (.iload 5) 2, (.invokevirtual 110, 3, 143, 2, 10, 0, 3, 0), e0 (.aload_n 0) 1, (.getfield 13, 3, 10, 1, 0, 0, 0, 0), e0 .ireturn 1])]

set_option maxRecDepth 100000 in
def pb_X11_end : List (Nat × List EI) := [(0, [e0 (.iload_n 1) 1, e1 (.ifCond .lt 11) 3 12, e0 (.iload_n 1) 1, e0 (.aload_n 0) 1, (.getfield 13, 3, 10, 1, 0, 0, 0, 0), e1 (.if_icmp .le 11) 3 20]),
  (12, [e0 (.aload_n 0) 1, e0 (.iconst 0) 1, (.invokevirtual 106, 3, 141, 2, 10, 0, 0, 0), e0 .pop 1, e0 (.iconst 0) 1, e0 .ireturn 1]),
  (20, [e0 (.aload_n 0) 1, e0 (.iload_n 1) 1, (.putfield 13, 3, 10, 1, 0, 0, 0, 0), e0 (.iconst 1) 1, e0 .ireturn 1])]

set_option maxRecDepth 100000 in
def pb_X11_hall : List (Nat × List EI) := [(0, [e0 (.aload_n 0) 1, (.getfield 20, 3, 10, 2, 18, 42, 0, 1), e0 (.aload_n 0) 1, (.getfield 9, 3, 10, 0, 30, 41, 1600, 1), e0 (.aload_n 0) 1, (.invokevirtual 114, 3, 144, 1, 10, 0, 0, 0), (.invokevirtual 118, 3, 84, 3, 8, 0, 3, 0), e0 (.aload_n 0) 1, (.getfield 38, 3, 10, 4, 14, 46, 0, 1), (.invokevirtual 122, 3, 54, 1, 4, 0, 13, 0), e0 (.astore_n 1) 1, e0 (.aload_n 1) 1, e1 (.ifnonnull 11) 3 35, e0 (.aload_n 0) 1, e0 (.iconst 1) 1, (.invokevirtual 106, 3, 141, 2, 10, 0, 0, 0), e0 .pop 1, e0 (.iconst (-1)) 1, e0 .ireturn 1]),
  (35, [e0 (.aload_n 0) 1, e0 (.aload_n 1) 1, (.putfield 45, 3, 10, 5, 13, 0, 0, 0), e0 (.aload_n 0) 1, (.getfield 52, 3, 10, 6, 19, 68, 0, 1), e0 (.aload_n 0) 1, (.getfield 45, 3, 10, 5, 13, 0, 0, 0), (.invokevirtual 126, 3, 96, 2, 9, 0, 3, 0), e0 (.aload_n 0) 1, (.getfield 62, 3, 10, 8, 16, 78, 0, 1), (.invokevirtual 129, 3, 75, 1, 6, 0, 3, 0), e0 (.aload_n 0) 1, (.getfield 45, 3, 10, 5, 13, 0, 0, 0), e1 (.getfield 132) 3 3, e0 .ireturn 1])]

set_option maxRecDepth 100000 in
def pb_X11_fault : List (Nat × List EI) := [(0, [e0 (.iload_n 1) 1, e1 (.ifCond .ne 11) 3 12, e0 (.aload_n 0) 1, (.getfield 20, 3, 10, 2, 18, 42, 0, 1), (.getfield 135, 3, 8, 11, 0, 0, 0, 0), e0 .ireturn 1]),
  (12, [e0 (.iload_n 1) 1, e0 (.iconst 1) 1, e1 (.if_icmp .ne 13) 3 27, e0 (.aload_n 0) 1, (.getfield 20, 3, 10, 2, 18, 42, 0, 1), (.getfield 138, 3, 8, 12, 0, 0, 0, 0), e1 (.goto 4) 3 28]),
  (27, [e0 (.iconst (-1)) 1]),
  (28, [e0 .ireturn 1])]

set_option maxRecDepth 100000 in
def pb_X11_has : List (Nat × List EI) := [(0, [e0 (.iload_n 1) 1, e0 (.tableswitch 151 0 10 #[59, 67, 75, 83, 91, 99, 111, 119, 127, 135, 143]) 59]),
  (60, [e0 (.aload_n 0) 1, (.getfield 45, 3, 10, 5, 13, 0, 0, 0), (.getfield 141, 3, 3, 1, 0, 0, 0, 0), e0 .ireturn 1]),
  (68, [e0 (.aload_n 0) 1, (.getfield 45, 3, 10, 5, 13, 0, 0, 0), (.getfield 144, 3, 3, 2, 0, 0, 0, 0), e0 .ireturn 1]),
  (76, [e0 (.aload_n 0) 1, (.getfield 45, 3, 10, 5, 13, 0, 0, 0), (.getfield 147, 3, 3, 3, 0, 0, 0, 0), e0 .ireturn 1]),
  (84, [e0 (.aload_n 0) 1, (.getfield 45, 3, 10, 5, 13, 0, 0, 0), (.getfield 150, 3, 3, 4, 0, 0, 0, 0), e0 .ireturn 1]),
  (92, [e0 (.aload_n 0) 1, (.getfield 45, 3, 10, 5, 13, 0, 0, 0), (.getfield 153, 3, 3, 5, 0, 0, 0, 0), e0 .ireturn 1]),
  (100, [e0 (.aload_n 0) 1, (.getfield 52, 3, 10, 6, 19, 68, 0, 1), e0 (.aload_n 0) 1, (.getfield 45, 3, 10, 5, 13, 0, 0, 0), (.invokevirtual 156, 3, 104, 2, 9, 0, 0, 0), e0 .ireturn 1]),
  (112, [e0 (.aload_n 0) 1, (.getfield 52, 3, 10, 6, 19, 68, 0, 1), e1 (.getfield 160) 3 9, e0 .ireturn 1]),
  (120, [e0 (.aload_n 0) 1, (.getfield 52, 3, 10, 6, 19, 68, 0, 1), (.getfield 163, 3, 9, 2, 0, 0, 0, 0), e0 .ireturn 1]),
  (128, [e0 (.aload_n 0) 1, (.getfield 45, 3, 10, 5, 13, 0, 0, 0), (.getfield 166, 3, 3, 6, 0, 0, 0, 0), e0 .ireturn 1]),
  (136, [e0 (.aload_n 0) 1, (.getfield 52, 3, 10, 6, 19, 68, 0, 1), (.invokevirtual 169, 3, 106, 1, 9, 0, 0, 0), e0 .ireturn 1]),
  (144, [e0 (.aload_n 0) 1, (.getfield 62, 3, 10, 8, 16, 78, 0, 1), (.getfield 172, 3, 6, 2, 0, 0, 0, 0), e0 .ireturn 1]),
  (152, [e0 (.iconst (-1)) 1, e0 .ireturn 1])]

set_option maxRecDepth 100000 in
def pb_X11_scale : List (Nat × List EI) := [(0, [e0 (.aload_n 0) 1, (.getfield 52, 3, 10, 6, 19, 68, 0, 1), (.getfield 175, 3, 9, 1, 0, 0, 0, 0), e0 .ireturn 1])]

set_option maxRecDepth 100000 in
def pb_X11_letter : List (Nat × List EI) := [(0, [e0 (.iload_n 3) 1, e1 (.ifCond .lt 9) 3 10, e0 (.iload_n 3) 1, e0 (.bipush 6) 2, e1 (.if_icmp .lt 5) 3 12]),
  (10, [e0 (.iconst (-1)) 1, e0 .ireturn 1]),
  (12, [e0 (.iload_n 1) 1, e0 (.tableswitch 112 0 2 #[27, 56, 84]) 27]),
  (40, [e0 (.iload_n 2) 1, e1 (.ifCond .lt 26) 3 67, e0 (.iload_n 2) 1, e0 (.aload_n 0) 1, (.getfield 45, 3, 10, 5, 13, 0, 0, 0), (.getfield 144, 3, 3, 2, 0, 0, 0, 0), e1 (.if_icmp .ge 15) 3 67, e0 (.aload_n 0) 1, (.getfield 45, 3, 10, 5, 13, 0, 0, 0), e0 (.iload_n 2) 1, e0 (.iload_n 3) 1, (.invokevirtual 178, 3, 48, 3, 3, 0, 0, 0), e1 (.goto 4) 3 68]),
  (67, [e0 (.iconst (-1)) 1]),
  (68, [e0 .ireturn 1]),
  (69, [e0 (.aload_n 0) 1, (.getfield 45, 3, 10, 5, 13, 0, 0, 0), e0 (.iload_n 2) 1, (.invokevirtual 182, 3, 45, 2, 3, 0, 0, 0), e1 (.ifCond .eq 18) 3 95, e0 (.aload_n 0) 1, (.getfield 45, 3, 10, 5, 13, 0, 0, 0), e0 (.bipush 10) 2, e0 (.iload_n 2) 1, e0 .iadd 1, e0 (.iload_n 3) 1, (.invokevirtual 178, 3, 48, 3, 3, 0, 0, 0), e1 (.goto 4) 3 96]),
  (95, [e0 (.iconst (-1)) 1]),
  (96, [e0 .ireturn 1]),
  (97, [e0 (.aload_n 0) 1, (.getfield 45, 3, 10, 5, 13, 0, 0, 0), e0 (.iload_n 2) 1, (.invokevirtual 185, 3, 46, 2, 3, 0, 0, 0), e1 (.ifCond .eq 18) 3 123, e0 (.aload_n 0) 1, (.getfield 45, 3, 10, 5, 13, 0, 0, 0), e0 (.bipush 16) 2, e0 (.iload_n 2) 1, e0 .iadd 1, e0 (.iload_n 3) 1, (.invokevirtual 178, 3, 48, 3, 3, 0, 0, 0), e1 (.goto 4) 3 124]),
  (123, [e0 (.iconst (-1)) 1]),
  (124, [e0 .ireturn 1]),
  (125, [e0 (.iconst (-1)) 1, e0 .ireturn 1])]

set_option maxRecDepth 100000 in
def pb_X11_sits : List (Nat × List EI) := [(0, [e0 (.aload_n 0) 1, (.getfield 52, 3, 10, 6, 19, 68, 0, 1), e0 (.iload_n 1) 1, (.invokevirtual 188, 3, 98, 2, 9, 0, 0, 0), e1 (.ifCond .ne 5) 3 13, e0 (.iconst (-1)) 1, e0 .ireturn 1]),
  (13, [e0 (.aload_n 0) 1, (.getfield 71, 3, 10, 9, 10, 180, 0, 1), e0 (.aload_n 0) 1, (.getfield 45, 3, 10, 5, 13, 0, 0, 0), e0 (.aload_n 0) 1, (.getfield 52, 3, 10, 6, 19, 68, 0, 1), (.invokevirtual 191, 3, 1, 3, 0, 0, 3, 0), e0 (.aload_n 0) 1, (.getfield 71, 3, 10, 9, 10, 180, 0, 1), e0 (.iload_n 1) 1, (.invokevirtual 194, 3, 4, 2, 0, 0, 3, 0), e0 (.iload_n 2) 1, e0 (.tableswitch 123 0 7 #[47, 57, 67, 77, 87, 97, 107, 115]) 47]),
  (84, [e0 (.aload_n 0) 1, (.getfield 52, 3, 10, 6, 19, 68, 0, 1), (.getfield 197, 3, 9, 3, 30, 1, 16, 0), e0 (.iload_n 1) 1, e0 .iaload 1, e0 .ireturn 1]),
  (94, [e0 (.aload_n 0) 1, (.getfield 52, 3, 10, 6, 19, 68, 0, 1), (.getfield 200, 3, 9, 4, 30, 2, 16, 0), e0 (.iload_n 1) 1, e0 .iaload 1, e0 .ireturn 1]),
  (104, [e0 (.aload_n 0) 1, (.getfield 71, 3, 10, 9, 10, 180, 0, 1), (.getfield 203, 3, 0, 7, 30, 181, 10, 1), e0 (.iconst 0) 1, e0 .iaload 1, e0 .ireturn 1]),
  (114, [e0 (.aload_n 0) 1, (.getfield 71, 3, 10, 9, 10, 180, 0, 1), (.getfield 203, 3, 0, 7, 30, 181, 10, 1), e0 (.iconst 1) 1, e0 .iaload 1, e0 .ireturn 1]),
  (124, [e0 (.aload_n 0) 1, (.getfield 71, 3, 10, 9, 10, 180, 0, 1), (.getfield 203, 3, 0, 7, 30, 181, 10, 1), e0 (.iconst 2) 1, e0 .iaload 1, e0 .ireturn 1]),
  (134, [e0 (.aload_n 0) 1, (.getfield 71, 3, 10, 9, 10, 180, 0, 1), (.getfield 203, 3, 0, 7, 30, 181, 10, 1), e0 (.iconst 3) 1, e0 .iaload 1, e0 .ireturn 1]),
  (144, [e0 (.aload_n 0) 1, (.getfield 71, 3, 10, 9, 10, 180, 0, 1), (.invokevirtual 206, 3, 5, 1, 0, 0, 0, 0), e0 .ireturn 1]),
  (152, [e0 (.aload_n 0) 1, (.getfield 71, 3, 10, 9, 10, 180, 0, 1), (.invokevirtual 209, 3, 6, 1, 0, 0, 0, 0), e0 .ireturn 1]),
  (160, [e0 (.iconst (-1)) 1, e0 .ireturn 1])]

set_option maxRecDepth 100000 in
def pb_X11_seat : List (Nat × List EI) := [(0, [e0 (.aload_n 0) 1, (.getfield 52, 3, 10, 6, 19, 68, 0, 1), e0 (.iload_n 1) 1, (.invokevirtual 212, 3, 99, 2, 9, 0, 0, 0), e0 .ireturn 1])]

set_option maxRecDepth 100000 in
def pb_X11_mute : List (Nat × List EI) := [(0, [e0 (.aload_n 0) 1, (.getfield 45, 3, 10, 5, 13, 0, 0, 0), e0 (.iload_n 1) 1, (.invokevirtual 182, 3, 45, 2, 3, 0, 0, 0), e1 (.ifCond .ne 5) 3 13, e0 (.iconst (-1)) 1, e0 .ireturn 1]),
  (13, [e0 (.bipush 10) 2, e0 (.iload_n 1) 1, e0 .iadd 1, e0 (.istore_n 3) 1, e0 (.iload_n 2) 1, e0 (.tableswitch 62 0 2 #[25, 35, 45]) 25]),
  (44, [e0 (.aload_n 0) 1, (.getfield 45, 3, 10, 5, 13, 0, 0, 0), (.getfield 216, 3, 3, 8, 30, 2, 16, 0), e0 (.iload_n 3) 1, e0 .iaload 1, e0 .ireturn 1]),
  (54, [e0 (.aload_n 0) 1, (.getfield 45, 3, 10, 5, 13, 0, 0, 0), (.getfield 219, 3, 3, 12, 30, 6, 6, 0), e0 (.iload_n 1) 1, e0 .iaload 1, e0 .ireturn 1]),
  (64, [e0 (.aload_n 0) 1, (.getfield 52, 3, 10, 6, 19, 68, 0, 1), e0 (.iload_n 3) 1, (.invokevirtual 188, 3, 98, 2, 9, 0, 0, 0), e1 (.ifCond .eq 7) 3 79, e0 (.iconst 1) 1, e1 (.goto 4) 3 80]),
  (79, [e0 (.iconst 0) 1]),
  (80, [e0 .ireturn 1]),
  (81, [e0 (.iconst (-1)) 1, e0 .ireturn 1])]

set_option maxRecDepth 100000 in
def pb_X11_noise : List (Nat × List EI) := [(0, [e0 (.aload_n 0) 1, (.getfield 45, 3, 10, 5, 13, 0, 0, 0), e0 (.iload_n 1) 1, (.invokevirtual 222, 3, 44, 2, 3, 0, 0, 0), e1 (.ifCond .eq 14) 3 22, e0 (.iload_n 2) 1, e1 (.ifCond .lt 10) 3 22, e0 (.iload_n 2) 1, e0 (.sipush 999) 3, e1 (.if_icmp .le 5) 3 24]),
  (22, [e0 (.iconst (-1)) 1, e0 .ireturn 1]),
  (24, [e0 (.aload_n 0) 1, (.getfield 45, 3, 10, 5, 13, 0, 0, 0), e0 (.iload_n 1) 1, e0 (.iload_n 2) 1, e0 (.iconst (-1)) 1, (.invokevirtual 225, 3, 49, 4, 3, 0, 0, 0), e0 .ireturn 1])]

set_option maxRecDepth 100000 in
def pb_X11_kept : List (Nat × List EI) := [(0, [e0 (.aload_n 0) 1, (.getfield 52, 3, 10, 6, 19, 68, 0, 1), e0 (.iload_n 1) 1, e0 (.iload_n 2) 1, (.invokevirtual 229, 3, 107, 3, 9, 0, 0, 0), e0 .ireturn 1])]

set_option maxRecDepth 100000 in
def pb_X11_mean : List (Nat × List EI) := [(0, [e0 (.iload_n 1) 1, e1 (.ifCond .lt 25) 3 26, e0 (.iload_n 1) 1, e0 (.sipush 200) 3, e1 (.if_icmp .gt 18) 3 26, e0 (.aload_n 0) 1, (.getfield 52, 3, 10, 6, 19, 68, 0, 1), e1 (.getfield 160) 3 9, e0 (.iload_n 1) 1, e0 .iadd 1, e0 (.sipush 999) 3, e1 (.if_icmp .le 7) 3 30]),
  (26, [(.ldc2_w 232, 3, 0, 0, 0, 0, 0, (-1000000000000000)), e0 .lreturn 1]),
  (30, [e0 (.aload_n 0) 1, (.getfield 71, 3, 10, 9, 10, 180, 0, 1), e0 (.aload_n 0) 1, (.getfield 45, 3, 10, 5, 13, 0, 0, 0), e0 (.aload_n 0) 1, (.getfield 52, 3, 10, 6, 19, 68, 0, 1), (.invokevirtual 191, 3, 1, 3, 0, 0, 3, 0), e0 (.aload_n 0) 1, (.getfield 71, 3, 10, 9, 10, 180, 0, 1), e0 (.iload_n 1) 1, (.invokevirtual 234, 3, 10, 2, 0, 0, 1, 0), e0 .lreturn 1])]

set_option maxRecDepth 100000 in
def pb_X11_odds : List (Nat × List EI) := [(0, [e0 (.iload_n 1) 1, e1 (.ifCond .lt 8) 3 9, e0 (.iload_n 1) 1, e0 (.iconst 2) 1, e1 (.if_icmp .le 5) 3 11]),
  (9, [e0 (.iconst (-1)) 1, e0 .ireturn 1]),
  (11, [e0 (.aload_n 0) 1, (.getfield 80, 3, 10, 10, 11, 185, 0, 1), e0 (.aload_n 0) 1, (.getfield 45, 3, 10, 5, 13, 0, 0, 0), e0 (.aload_n 0) 1, (.getfield 52, 3, 10, 6, 19, 68, 0, 1), e0 (.iload_n 1) 1, (.invokevirtual 238, 3, 18, 4, 1, 0, 0, 0), e0 .ireturn 1])]

set_option maxRecDepth 100000 in
def pb_X11_hire : List (Nat × List EI) := [(0, [e0 (.iload_n 1) 1, (.invokestatic 242, 3, 142, 1, 10, 0, 0, 0), e1 (.ifCond .eq 40) 3 44, e0 (.iload_n 2) 1, e0 (.iconst 1) 1, e1 (.if_icmp .lt 35) 3 44, e0 (.iload_n 2) 1, e0 (.bipush 50) 2, e1 (.if_icmp .gt 29) 3 44, e0 (.aload_n 0) 1, (.getfield 52, 3, 10, 6, 19, 68, 0, 1), e1 (.getfield 160) 3 9, e0 (.iload_n 2) 1, e0 .iadd 1, e0 (.sipush 999) 3, e1 (.if_icmp .gt 14) 3 44, e0 (.iload 4) 2, e1 (.ifCond .lt 9) 3 44, e0 (.iload 4) 2, e0 (.iconst 2) 1, e1 (.if_icmp .le 5) 3 46]),
  (44, [e0 (.iconst (-1)) 1, e0 .ireturn 1]),
  (46, [e0 (.aload_n 0) 1, (.getfield 80, 3, 10, 10, 11, 185, 0, 1), e0 (.aload_n 0) 1, (.getfield 45, 3, 10, 5, 13, 0, 0, 0), e0 (.aload_n 0) 1, (.getfield 52, 3, 10, 6, 19, 68, 0, 1), e0 (.iload_n 1) 1, e0 (.iload_n 2) 1, e0 (.iload_n 3) 1, (.invokevirtual 245, 3, 20, 6, 1, 0, 0, 0), e0 (.istore 5) 2, e0 (.iload 5) 2, e0 (.iconst (-1)) 1, e1 (.if_icmp .eq 9) 3 78, e0 (.iload 4) 2, e0 (.iconst 1) 1, e1 (.if_icmp .ne 6) 3 81]),
  (78, [e0 (.iload 5) 2, e0 .ireturn 1]),
  (81, [e0 (.iload 4) 2, e1 (.ifCond .ne 11) 3 94, e0 (.iload 5) 2, (.invokestatic 249, 3, 301, 1, 0, 0, 0, 0), e1 (.goto 12) 3 103]),
  (94, [e0 (.aload_n 0) 1, (.getfield 45, 3, 10, 5, 13, 0, 0, 0), e0 (.iload 5) 2, (.invokevirtual 254, 3, 52, 2, 3, 0, 0, 0)]),
  (103, [e0 .ireturn 1])]

set_option maxRecDepth 100000 in
def pb_X11_change : List (Nat × List EI) := [(0, [e0 (.iload_n 1) 1, (.invokestatic 242, 3, 142, 1, 10, 0, 0, 0), e1 (.ifCond .eq 12) 3 16, e0 (.iload_n 2) 1, e1 (.ifCond .lt 8) 3 16, e0 (.iload_n 2) 1, e0 (.iconst 1) 1, e1 (.if_icmp .le 5) 3 18]),
  (16, [e0 (.iconst (-1)) 1, e0 .ireturn 1]),
  (18, [e0 (.aload_n 0) 1, (.getfield 80, 3, 10, 10, 11, 185, 0, 1), e0 (.aload_n 0) 1, (.getfield 45, 3, 10, 5, 13, 0, 0, 0), e0 (.aload_n 0) 1, (.getfield 52, 3, 10, 6, 19, 68, 0, 1), e0 (.iload_n 1) 1, (.invokevirtual 257, 3, 23, 4, 1, 0, 0, 0), e0 (.istore_n 3) 1, e0 (.iload_n 3) 1, e0 (.iconst (-1)) 1, e1 (.if_icmp .ne 5) 3 42, e0 (.iconst (-1)) 1, e0 .ireturn 1]),
  (42, [e0 (.iload_n 2) 1, e1 (.ifCond .ne 10) 3 53, e0 (.iload_n 3) 1, e0 (.bipush 16) 2, e0 .idiv 1, e1 (.goto 7) 3 57]),
  (53, [e0 (.iload_n 3) 1, e0 (.bipush 16) 2, e0 .irem 1]),
  (57, [e0 .ireturn 1])]

set_option maxRecDepth 100000 in
def pb_X11_points : List (Nat × List EI) := [(0, [e0 (.aload_n 0) 1, (.getfield 45, 3, 10, 5, 13, 0, 0, 0), (.getfield 147, 3, 3, 3, 0, 0, 0, 0), e1 (.ifCond .eq 38) 3 45, e0 (.iload_n 1) 1, e0 (.iconst 1) 1, e1 (.if_icmp .lt 33) 3 45, e0 (.iload_n 1) 1, e0 (.iconst 3) 1, e1 (.if_icmp .gt 28) 3 45, e0 (.aload_n 0) 1, (.getfield 52, 3, 10, 6, 19, 68, 0, 1), e1 (.getfield 160) 3 9, e0 (.iload_n 1) 1, e0 .iadd 1, e0 (.sipush 999) 3, e1 (.if_icmp .gt 13) 3 45, e0 (.iload_n 2) 1, e0 (.iconst (-1)) 1, e1 (.if_icmp .lt 8) 3 45, e0 (.iload_n 2) 1, e0 (.iload_n 1) 1, e1 (.if_icmp .lt 7) 3 49]),
  (45, [(.ldc2_w 232, 3, 0, 0, 0, 0, 0, (-1000000000000000)), e0 .lreturn 1]),
  (49, [e0 (.iload_n 2) 1, e0 (.iconst (-1)) 1, e1 (.if_icmp .ne 22) 3 73, e0 (.aload_n 0) 1, (.getfield 80, 3, 10, 10, 11, 185, 0, 1), e0 (.aload_n 0) 1, (.getfield 45, 3, 10, 5, 13, 0, 0, 0), e0 (.aload_n 0) 1, (.getfield 52, 3, 10, 6, 19, 68, 0, 1), e0 (.iload_n 1) 1, (.invokevirtual 260, 3, 26, 4, 1, 0, 1, 0), e1 (.goto 20) 3 90]),
  (73, [e0 (.aload_n 0) 1, (.getfield 80, 3, 10, 10, 11, 185, 0, 1), e0 (.aload_n 0) 1, (.getfield 45, 3, 10, 5, 13, 0, 0, 0), e0 (.aload_n 0) 1, (.getfield 52, 3, 10, 6, 19, 68, 0, 1), e0 (.iload_n 2) 1, (.invokevirtual 264, 3, 25, 4, 1, 0, 0, 0), e0 .i2l 1]),
  (90, [e0 .lreturn 1])]

set_option maxRecDepth 100000 in
def pb_X11_fell : List (Nat × List EI) := [(0, [e0 (.iload_n 2) 1, e1 (.ifCond .lt 8) 3 9, e0 (.iload_n 2) 1, e0 (.iconst 2) 1, e1 (.if_icmp .le 5) 3 11]),
  (9, [e0 (.iconst (-1)) 1, e0 .ireturn 1]),
  (11, [e0 (.aload_n 0) 1, (.getfield 80, 3, 10, 10, 11, 185, 0, 1), e0 (.aload_n 0) 1, (.getfield 45, 3, 10, 5, 13, 0, 0, 0), e0 (.aload_n 0) 1, (.getfield 52, 3, 10, 6, 19, 68, 0, 1), e0 (.iload_n 1) 1, e0 (.iload_n 2) 1, (.invokevirtual 267, 3, 27, 5, 1, 0, 0, 0), e0 .ireturn 1])]

set_option maxRecDepth 100000 in
def pb_X11_asked : List (Nat × List EI) := [(0, [e0 (.iload_n 2) 1, e1 (.ifCond .lt 16) 3 17, e0 (.iload_n 2) 1, e0 (.iconst 1) 1, e0 (.aload_n 0) 1, (.getfield 45, 3, 10, 5, 13, 0, 0, 0), (.getfield 144, 3, 3, 2, 0, 0, 0, 0), e0 .ishl 1, e1 (.if_icmp .lt 5) 3 19]),
  (17, [e0 (.iconst (-1)) 1, e0 .ireturn 1]),
  (19, [e0 (.aload_n 0) 1, (.getfield 80, 3, 10, 10, 11, 185, 0, 1), e0 (.aload_n 0) 1, (.getfield 45, 3, 10, 5, 13, 0, 0, 0), e0 (.aload_n 0) 1, (.getfield 52, 3, 10, 6, 19, 68, 0, 1), e0 (.iload_n 1) 1, e0 (.iload_n 2) 1, (.invokevirtual 271, 3, 28, 5, 1, 0, 0, 0), e0 .ireturn 1])]

set_option maxRecDepth 100000 in
def pb_X11_loudest : List (Nat × List EI) := [(0, [e0 (.aload_n 0) 1, (.getfield 45, 3, 10, 5, 13, 0, 0, 0), (.getfield 150, 3, 3, 4, 0, 0, 0, 0), e1 (.ifCond .eq 30) 3 37, e0 (.iload_n 1) 1, e0 (.iconst 1) 1, e1 (.if_icmp .lt 25) 3 37, e0 (.iload_n 1) 1, e0 (.sipush 200) 3, e1 (.if_icmp .gt 18) 3 37, e0 (.aload_n 0) 1, (.getfield 52, 3, 10, 6, 19, 68, 0, 1), e1 (.getfield 160) 3 9, e0 (.iload_n 1) 1, e0 .iadd 1, e0 (.sipush 999) 3, e1 (.if_icmp .le 5) 3 39]),
  (37, [e0 (.iconst (-1)) 1, e0 .ireturn 1]),
  (39, [e0 (.aload_n 0) 1, (.getfield 80, 3, 10, 10, 11, 185, 0, 1), e0 (.aload_n 0) 1, (.getfield 45, 3, 10, 5, 13, 0, 0, 0), e0 (.aload_n 0) 1, (.getfield 52, 3, 10, 6, 19, 68, 0, 1), e0 (.iload_n 1) 1, (.invokevirtual 274, 3, 29, 4, 1, 0, 0, 0), e0 .ireturn 1])]

set_option maxRecDepth 100000 in
def pb_X11_minutes : List (Nat × List EI) := [(0, [e0 (.aload_n 0) 1, (.getfield 45, 3, 10, 5, 13, 0, 0, 0), (.invokevirtual 277, 3, 43, 1, 3, 0, 0, 0), e1 (.ifCond .eq 29) 3 36, e0 (.iload_n 1) 1, e0 (.iconst 1) 1, e1 (.if_icmp .lt 24) 3 36, e0 (.iload_n 1) 1, e0 (.bipush 100) 2, e1 (.if_icmp .gt 18) 3 36, e0 (.aload_n 0) 1, (.getfield 52, 3, 10, 6, 19, 68, 0, 1), e1 (.getfield 160) 3 9, e0 (.iload_n 1) 1, e0 .iadd 1, e0 (.sipush 999) 3, e1 (.if_icmp .le 11) 3 44]),
  (36, [e0 (.aload_n 0) 1, e0 (.iconst 2) 1, (.invokevirtual 106, 3, 141, 2, 10, 0, 0, 0), e0 .pop 1, e0 (.iconst (-1)) 1, e0 .ireturn 1]),
  (44, [e0 (.aload_n 0) 1, (.getfield 62, 3, 10, 8, 16, 78, 0, 1), e0 (.aload_n 0) 1, (.getfield 52, 3, 10, 6, 19, 68, 0, 1), (.invokevirtual 281, 3, 76, 2, 6, 0, 3, 0), e0 (.aload_n 0) 1, (.getfield 71, 3, 10, 9, 10, 180, 0, 1), e0 (.aload_n 0) 1, (.getfield 45, 3, 10, 5, 13, 0, 0, 0), e0 (.aload_n 0) 1, (.getfield 52, 3, 10, 6, 19, 68, 0, 1), (.invokevirtual 191, 3, 1, 3, 0, 0, 3, 0), e0 (.iconst 0) 1, e0 (.istore_n 2) 1, e0 (.iconst 0) 1, e0 (.istore_n 3) 1]),
  (74, [e0 (.iload_n 3) 1, e0 (.iload_n 1) 1, e1 (.if_icmp .ge 16) 3 92, e0 (.iload_n 2) 1, e0 (.aload_n 0) 1, (.invokevirtual 285, 3, 146, 1, 10, 0, 0, 0), e0 .iadd 1, e0 (.istore_n 2) 1, e0 (.iinc 3 1) 3, e1 (.goto (-15)) 3 74]),
  (92, [e0 (.iload_n 2) 1, e0 .ireturn 1])]

set_option maxRecDepth 100000 in
def pb_X11_point : List (Nat × List EI) := [(0, [e0 (.iload_n 1) 1, e0 (.aload_n 0) 1, (.getfield 52, 3, 10, 6, 19, 68, 0, 1), (.getfield 163, 3, 9, 2, 0, 0, 0, 0), e1 (.if_icmp .eq 19) 3 27, e0 (.iload_n 1) 1, e0 (.iconst (-1)) 1, e1 (.if_icmp .eq 20) 3 33, e0 (.aload_n 0) 1, (.getfield 45, 3, 10, 5, 13, 0, 0, 0), e0 (.iload_n 1) 1, (.invokevirtual 185, 3, 46, 2, 3, 0, 0, 0), e1 (.ifCond .ne 9) 3 33]),
  (27, [e0 (.aload_n 0) 1, e0 (.iconst 3) 1, (.invokevirtual 106, 3, 141, 2, 10, 0, 0, 0), e0 .ireturn 1]),
  (33, [e0 (.aload_n 0) 1, (.getfield 62, 3, 10, 8, 16, 78, 0, 1), e0 (.aload_n 0) 1, (.getfield 52, 3, 10, 6, 19, 68, 0, 1), (.invokevirtual 281, 3, 76, 2, 6, 0, 3, 0), e0 (.aload_n 0) 1, (.getfield 52, 3, 10, 6, 19, 68, 0, 1), e0 (.iload_n 1) 1, (.putfield 163, 3, 9, 2, 0, 0, 0, 0)]),
  (52, [e0 (.iconst 1) 1, e0 .ireturn 1])]

set_option maxRecDepth 100000 in
def pb_X11_move : List (Nat × List EI) := [(0, [e0 (.aload_n 0) 1, (.getfield 52, 3, 10, 6, 19, 68, 0, 1), e0 (.iload_n 1) 1, (.invokevirtual 188, 3, 98, 2, 9, 0, 0, 0), e1 (.ifCond .eq 27) 3 35, e0 (.aload_n 0) 1, (.getfield 45, 3, 10, 5, 13, 0, 0, 0), e0 (.iload_n 2) 1, (.invokevirtual 222, 3, 44, 2, 3, 0, 0, 0), e1 (.ifCond .eq 16) 3 35, e0 (.aload_n 0) 1, (.getfield 52, 3, 10, 6, 19, 68, 0, 1), (.getfield 197, 3, 9, 3, 30, 1, 16, 0), e0 (.iload_n 1) 1, e0 .iaload 1, e0 (.iload_n 2) 1, e1 (.if_icmp .ne 9) 3 41]),
  (35, [e0 (.aload_n 0) 1, e0 (.iconst 3) 1, (.invokevirtual 106, 3, 141, 2, 10, 0, 0, 0), e0 .ireturn 1]),
  (41, [e0 (.aload_n 0) 1, (.getfield 62, 3, 10, 8, 16, 78, 0, 1), e0 (.aload_n 0) 1, (.getfield 52, 3, 10, 6, 19, 68, 0, 1), (.invokevirtual 281, 3, 76, 2, 6, 0, 3, 0), e0 (.aload_n 0) 1, (.getfield 52, 3, 10, 6, 19, 68, 0, 1), e0 (.iload_n 1) 1, e0 (.iload_n 2) 1, (.invokevirtual 288, 3, 102, 3, 9, 0, 3, 0), e0 (.iconst 1) 1, e0 .ireturn 1])]

set_option maxRecDepth 100000 in
def pb_X11_take : List (Nat × List EI) := [(0, [e0 (.bipush 10) 2, e0 (.iload_n 1) 1, e0 .iadd 1, e0 (.istore 4) 2, e0 (.aload_n 0) 1, (.getfield 45, 3, 10, 5, 13, 0, 0, 0), e0 (.iload_n 1) 1, (.invokevirtual 182, 3, 45, 2, 3, 0, 0, 0), e1 (.ifCond .eq 45) 3 59, e0 (.aload_n 0) 1, (.getfield 52, 3, 10, 6, 19, 68, 0, 1), e0 (.iload 4) 2, (.invokevirtual 188, 3, 98, 2, 9, 0, 0, 0), e1 (.ifCond .ne 33) 3 59, e0 (.iload_n 2) 1, (.invokestatic 242, 3, 142, 1, 10, 0, 0, 0), e1 (.ifCond .eq 26) 3 59, e0 (.aload_n 0) 1, (.getfield 45, 3, 10, 5, 13, 0, 0, 0), e0 (.iload_n 3) 1, (.invokevirtual 222, 3, 44, 2, 3, 0, 0, 0), e1 (.ifCond .eq 15) 3 59, e0 (.aload_n 0) 1, (.getfield 52, 3, 10, 6, 19, 68, 0, 1), e0 (.iload_n 3) 1, (.invokevirtual 212, 3, 99, 2, 9, 0, 0, 0), e0 (.iconst (-1)) 1, e1 (.if_icmp .eq 9) 3 65]),
  (59, [e0 (.aload_n 0) 1, e0 (.iconst 3) 1, (.invokevirtual 106, 3, 141, 2, 10, 0, 0, 0), e0 .ireturn 1]),
  (65, [e0 (.aload_n 0) 1, (.getfield 62, 3, 10, 8, 16, 78, 0, 1), e0 (.aload_n 0) 1, (.getfield 52, 3, 10, 6, 19, 68, 0, 1), (.invokevirtual 281, 3, 76, 2, 6, 0, 3, 0), e0 (.aload_n 0) 1, (.getfield 52, 3, 10, 6, 19, 68, 0, 1), e0 (.iload 4) 2, e0 (.iload_n 2) 1, e0 (.iload_n 3) 1, (.invokevirtual 292, 3, 100, 4, 9, 0, 3, 0), e0 (.iconst 1) 1, e0 .ireturn 1])]

set_option maxRecDepth 100000 in
def pb_X11_dismiss : List (Nat × List EI) := [(0, [e0 (.bipush 10) 2, e0 (.iload_n 1) 1, e0 .iadd 1, e0 (.istore_n 2) 1, e0 (.aload_n 0) 1, (.getfield 45, 3, 10, 5, 13, 0, 0, 0), e0 (.iload_n 1) 1, (.invokevirtual 182, 3, 45, 2, 3, 0, 0, 0), e1 (.ifCond .eq 14) 3 27, e0 (.aload_n 0) 1, (.getfield 52, 3, 10, 6, 19, 68, 0, 1), e0 (.iload_n 2) 1, (.invokevirtual 188, 3, 98, 2, 9, 0, 0, 0), e1 (.ifCond .ne 9) 3 33]),
  (27, [e0 (.aload_n 0) 1, e0 (.iconst 3) 1, (.invokevirtual 106, 3, 141, 2, 10, 0, 0, 0), e0 .ireturn 1]),
  (33, [e0 (.aload_n 0) 1, (.getfield 62, 3, 10, 8, 16, 78, 0, 1), e0 (.aload_n 0) 1, (.getfield 52, 3, 10, 6, 19, 68, 0, 1), (.invokevirtual 281, 3, 76, 2, 6, 0, 3, 0), e0 (.aload_n 0) 1, (.getfield 52, 3, 10, 6, 19, 68, 0, 1), e0 (.iload_n 2) 1, (.invokevirtual 296, 3, 101, 2, 9, 0, 3, 0), e0 (.iconst 1) 1, e0 .ireturn 1])]

set_option maxRecDepth 100000 in
def pb_X11_undo : List (Nat × List EI) := [(0, [e0 (.aload_n 0) 1, (.getfield 62, 3, 10, 8, 16, 78, 0, 1), e0 (.aload_n 0) 1, (.getfield 52, 3, 10, 6, 19, 68, 0, 1), (.invokevirtual 299, 3, 77, 2, 6, 0, 0, 0), e1 (.ifCond .ne 11) 3 22, e0 (.aload_n 0) 1, e0 (.iconst 4) 1, (.invokevirtual 106, 3, 141, 2, 10, 0, 0, 0), e1 (.ifCond .eq 7) 3 26]),
  (22, [e0 (.iconst 1) 1, e1 (.goto 4) 3 27]),
  (26, [e0 (.iconst 0) 1]),
  (27, [e0 .ireturn 1])]

set_option maxRecDepth 100000 in
def pb_X11_seed : List (Nat × List EI) := [(0, [e0 (.iload_n 1) 1, e1 (.ifCond .ge 9) 3 10, e0 (.aload_n 0) 1, e0 (.iconst 5) 1, (.invokevirtual 106, 3, 141, 2, 10, 0, 0, 0), e0 .ireturn 1]),
  (10, [e0 (.aload_n 0) 1, e0 (.iload_n 1) 1, (.putfield 103, 3, 10, 14, 0, 0, 0, 0), e0 (.iconst 1) 1, e0 .ireturn 1])]

set_option maxRecDepth 100000 in
def pb_X11_ask : List (Nat × List EI) := [(0, [e0 (.aload_n 0) 1, (.invokevirtual 114, 3, 144, 1, 10, 0, 0, 0), e0 (.istore_n 1) 1, e0 (.aload_n 0) 1, (.getfield 45, 3, 10, 5, 13, 0, 0, 0), (.invokevirtual 277, 3, 43, 1, 3, 0, 0, 0), e1 (.ifCond .ne 7) 3 19, (.ldc2_w 232, 3, 0, 0, 0, 0, 0, (-1000000000000000)), e0 .lreturn 1]),
  (19, [e0 (.aload_n 0) 1, (.getfield 20, 3, 10, 2, 18, 42, 0, 1), e0 (.aload_n 0) 1, (.getfield 9, 3, 10, 0, 30, 41, 1600, 1), e0 (.iload_n 1) 1, (.invokevirtual 118, 3, 84, 3, 8, 0, 3, 0), e0 (.aload_n 0) 1, (.getfield 89, 3, 10, 11, 17, 186, 0, 1), (.invokevirtual 303, 3, 79, 1, 7, 0, 0, 0), e1 (.ifCond .eq 21) 3 59, e0 (.aload_n 0) 1, (.getfield 89, 3, 10, 11, 17, 186, 0, 1), e0 (.aload_n 0) 1, (.getfield 45, 3, 10, 5, 13, 0, 0, 0), e0 (.aload_n 0) 1, (.getfield 52, 3, 10, 6, 19, 68, 0, 1), (.invokevirtual 305, 3, 81, 3, 7, 0, 1, 0), e1 (.goto 6) 3 62]),
  (59, [(.ldc2_w 232, 3, 0, 0, 0, 0, 0, (-1000000000000000))]),
  (62, [e0 .lreturn 1])]

set_option maxRecDepth 100000 in
def pb_X11_image : List (Nat × List EI) := [(0, [e0 (.aload_n 0) 1, (.getfield 96, 3, 10, 12, 15, 187, 0, 1), e0 (.aload_n 0) 1, (.getfield 45, 3, 10, 5, 13, 0, 0, 0), e0 (.aload_n 0) 1, (.getfield 52, 3, 10, 6, 19, 68, 0, 1), (.invokevirtual 309, 3, 68, 3, 5, 0, 0, 0), e0 .ireturn 1])]

set_option maxRecDepth 100000 in
def pb_X11_octet : List (Nat × List EI) := [(0, [e0 (.iload_n 1) 1, e1 (.ifCond .lt 26) 3 27, e0 (.iload_n 1) 1, e0 (.aload_n 0) 1, (.getfield 96, 3, 10, 12, 15, 187, 0, 1), (.getfield 313, 3, 5, 1, 0, 0, 0, 0), e1 (.if_icmp .ge 15) 3 27, e0 (.aload_n 0) 1, (.getfield 96, 3, 10, 12, 15, 187, 0, 1), (.getfield 316, 3, 5, 0, 30, 188, 27, 1), e0 (.iload_n 1) 1, e0 .iaload 1, e1 (.goto 4) 3 28]),
  (27, [e0 (.iconst (-1)) 1]),
  (28, [e0 .ireturn 1])]

set_option maxRecDepth 100000 in
def pb_X11_on : List (Nat × List EI) := [(0, [e0 (.aload_n 0) 1, (.invokevirtual 114, 3, 144, 1, 10, 0, 0, 0), e0 (.istore_n 1) 1, e0 (.aload_n 0) 1, (.getfield 45, 3, 10, 5, 13, 0, 0, 0), (.invokevirtual 277, 3, 43, 1, 3, 0, 0, 0), e1 (.ifCond .eq 22) 3 34, e0 (.aload_n 0) 1, (.getfield 9, 3, 10, 0, 30, 41, 1600, 1), e0 (.iload_n 1) 1, e0 (.aload_n 0) 1, (.getfield 45, 3, 10, 5, 13, 0, 0, 0), e0 (.aload_n 0) 1, (.getfield 56, 3, 10, 7, 19, 73, 0, 1), (.invokestatic 319, 3, 71, 4, 5, 0, 0, 0), e1 (.ifCond .ne 9) 3 40]),
  (34, [e0 (.aload_n 0) 1, e0 (.iconst 5) 1, (.invokevirtual 106, 3, 141, 2, 10, 0, 0, 0), e0 .ireturn 1]),
  (40, [e0 (.aload_n 0) 1, (.getfield 52, 3, 10, 6, 19, 68, 0, 1), e0 (.aload_n 0) 1, (.getfield 56, 3, 10, 7, 19, 73, 0, 1), (.invokevirtual 323, 3, 97, 2, 9, 0, 3, 0), e0 (.aload_n 0) 1, (.getfield 62, 3, 10, 8, 16, 78, 0, 1), (.invokevirtual 129, 3, 75, 1, 6, 0, 3, 0), e0 (.iconst 1) 1, e0 .ireturn 1])]

set_option maxRecDepth 100000 in
def pb_X11_status : List (Nat × List EI) := [(0, [e0 (.iload_n 1) 1, e1 (.ifCond .lt 18) 3 19, e0 (.iload_n 1) 1, e0 (.bipush 6) 2, e1 (.if_icmp .ge 12) 3 19, e0 (.aload_n 0) 1, (.getfield 100, 3, 10, 13, 30, 189, 6, 1), e0 (.iload_n 1) 1, e0 .iaload 1, e1 (.goto 4) 3 20]),
  (19, [e0 (.iconst (-1)) 1]),
  (20, [e0 .ireturn 1])]

set_option maxRecDepth 100000 in
def pb_X11_refuse : List (Nat × List EI) := [(0, [e0 (.aload_n 0) 1, (.getfield 100, 3, 10, 13, 30, 189, 6, 1), e0 (.iload_n 1) 1, e0 .dup2 1, e0 .iaload 1, e0 (.iconst 1) 1, e0 .iadd 1, e0 .iastore 1]),
  (10, [e0 (.iconst 0) 1, e0 .ireturn 1])]

set_option maxRecDepth 100000 in
def pb_X11_isSide : List (Nat × List EI) := [(0, [e0 (.iload_n 0) 1, e1 (.ifCond .eq 8) 3 9, e0 (.iload_n 0) 1, e0 (.iconst 1) 1, e1 (.if_icmp .ne 7) 3 13]),
  (9, [e0 (.iconst 1) 1, e1 (.goto 4) 3 14]),
  (13, [e0 (.iconst 0) 1]),
  (14, [e0 .ireturn 1])]

set_option maxRecDepth 100000 in
def pb_X11_putBytes : List (Nat × List EI) := [(0, [e0 (.bipush 24) 2, e0 (.istore_n 2) 1]),
  (3, [e0 (.iload_n 2) 1, e1 (.ifCond .lt 45) 3 49, e0 (.aload_n 0) 1, (.getfield 13, 3, 10, 1, 0, 0, 0, 0), e0 (.sipush 1600) 3, e1 (.if_icmp .ge 35) 3 49, e0 (.aload_n 0) 1, (.getfield 9, 3, 10, 0, 30, 41, 1600, 1), e0 (.aload_n 0) 1, (.getfield 13, 3, 10, 1, 0, 0, 0, 0), e0 (.iload_n 1) 1, e0 (.iload_n 2) 1, e0 .ishr 1, e0 (.sipush 255) 3, e0 .iand 1, e0 .iastore 1]),
  (33, [e0 (.aload_n 0) 1, e0 .dup 1, (.getfield 13, 3, 10, 1, 0, 0, 0, 0), e0 (.iconst 1) 1, e0 .iadd 1, (.putfield 13, 3, 10, 1, 0, 0, 0, 0)]),
  (43, [e0 (.iinc 2 (-8)) 3, e1 (.goto (-43)) 3 3]),
  (49, [e0 .return_ 1])]

set_option maxRecDepth 100000 in
def pb_X11_takeTape : List (Nat × List EI) := [(0, [e0 (.aload_n 0) 1, (.getfield 13, 3, 10, 1, 0, 0, 0, 0), e0 (.istore_n 1) 1, e0 (.aload_n 0) 1, e0 (.iconst 0) 1, (.putfield 13, 3, 10, 1, 0, 0, 0, 0)]),
  (10, [e0 (.iload_n 1) 1, e0 .ireturn 1])]

set_option maxRecDepth 100000 in
def pb_X11_drawOfHundred : List (Nat × List EI) := [(0, [e0 (.aload_n 0) 1, (.ldc_w 326, 3, 0, 0, 0, 0, 0, 1103515245), e0 (.aload_n 0) 1, (.getfield 103, 3, 10, 14, 0, 0, 0, 0), e0 .imul 1, e0 (.sipush 12345) 3, e0 .iadd 1, (.ldc_w 327, 3, 0, 0, 0, 0, 0, 2147483647), e0 .iand 1, (.putfield 103, 3, 10, 14, 0, 0, 0, 0)]),
  (20, [e0 (.aload_n 0) 1, (.getfield 103, 3, 10, 14, 0, 0, 0, 0), e0 (.bipush 64) 2, e0 .idiv 1, e0 (.bipush 100) 2, e0 .irem 1, e0 .ireturn 1])]

set_option maxRecDepth 100000 in
def pb_X11_passMinute : List (Nat × List EI) := [(0, [e0 (.aload_n 0) 1, (.getfield 71, 3, 10, 9, 10, 180, 0, 1), e0 (.aload_n 0) 1, (.getfield 52, 3, 10, 6, 19, 68, 0, 1), e1 (.getfield 160) 3 9, (.putfield 328, 3, 0, 6, 0, 0, 0, 0)]),
  (14, [e0 (.aload_n 0) 1, (.getfield 71, 3, 10, 9, 10, 180, 0, 1), (.invokevirtual 329, 3, 3, 1, 0, 0, 3, 0), e0 (.iconst 0) 1, e0 (.istore_n 1) 1, e0 (.iconst 0) 1, e0 (.istore_n 2) 1]),
  (25, [e0 (.iload_n 2) 1, e0 (.aload_n 0) 1, (.getfield 45, 3, 10, 5, 13, 0, 0, 0), (.getfield 144, 3, 3, 2, 0, 0, 0, 0), e1 (.if_icmp .ge 60) 3 93, e0 (.aload_n 0) 1, (.getfield 45, 3, 10, 5, 13, 0, 0, 0), (.getfield 332, 3, 3, 9, 30, 3, 16, 0), e0 (.iload_n 2) 1, e0 .iaload 1, e1 (.ifCond .le 42) 3 87, e0 (.aload_n 0) 1, (.invokevirtual 335, 3, 145, 1, 10, 0, 0, 0), e0 (.aload_n 0) 1, (.getfield 45, 3, 10, 5, 13, 0, 0, 0), (.getfield 332, 3, 3, 9, 30, 3, 16, 0), e0 (.iload_n 2) 1, e0 .iaload 1, e1 (.if_icmp .ge 26) 3 87, e0 (.iload_n 1) 1, e0 (.iconst 1) 1, e0 (.iload_n 2) 1, e0 .ishl 1, e0 .ior 1, e0 (.istore_n 1) 1]),
  (70, [e0 (.aload_n 0) 1, (.getfield 52, 3, 10, 6, 19, 68, 0, 1), e0 (.iload_n 2) 1, e0 (.aload_n 0) 1, (.getfield 71, 3, 10, 9, 10, 180, 0, 1), (.getfield 338, 3, 0, 9, 30, 183, 16, 1), e0 (.iload_n 2) 1, e0 .iaload 1, (.invokevirtual 341, 3, 105, 3, 9, 0, 3, 0)]),
  (87, [e0 (.iinc 2 1) 3, e1 (.goto (-65)) 3 25]),
  (93, [e0 (.aload_n 0) 1, (.getfield 52, 3, 10, 6, 19, 68, 0, 1), e0 (.aload_n 0) 1, (.getfield 52, 3, 10, 6, 19, 68, 0, 1), (.getfield 175, 3, 9, 1, 0, 0, 0, 0), e0 (.aload_n 0) 1, (.getfield 71, 3, 10, 9, 10, 180, 0, 1), e0 (.iload_n 1) 1, (.invokevirtual 344, 3, 7, 2, 0, 0, 0, 0), e0 .iadd 1, e0 .i2l 1, (.ldc_w 347, 3, 0, 0, 0, 0, 0, (-99999)), (.ldc_w 348, 3, 0, 0, 0, 0, 0, 99999), (.invokestatic 349, 3, 147, 3, 10, 0, 0, 0), (.putfield 175, 3, 9, 1, 0, 0, 0, 0)]),
  (126, [e0 (.aload_n 0) 1, (.getfield 52, 3, 10, 6, 19, 68, 0, 1), e0 .dup 1, e1 (.getfield 160) 3 9, e0 (.iconst 1) 1, e0 .iadd 1, e1 (.putfield 160) 3 9]),
  (139, [e0 (.iload_n 1) 1, (.invokestatic 249, 3, 301, 1, 0, 0, 0, 0), e0 .ireturn 1])]

set_option maxRecDepth 100000 in
def pb_X11_cut : List (Nat × List EI) := [(0, [e0 (.lload_n 0) 1, e0 (.iload_n 2) 1, e0 .i2l 1, e0 .lcmp 1, e1 (.ifCond .ge 7) 3 11, e0 (.iload_n 2) 1, e1 (.goto 16) 3 24]),
  (11, [e0 (.lload_n 0) 1, e0 (.iload_n 3) 1, e0 .i2l 1, e0 .lcmp 1, e1 (.ifCond .le 7) 3 22, e0 (.iload_n 3) 1, e1 (.goto 5) 3 24]),
  (22, [e0 (.lload_n 0) 1, e0 .l2i 1]),
  (24, [e0 .ireturn 1])]

set_option maxRecDepth 100000 in
def pb_X12_init_b0 : List EI := [e0 (.aload_n 0) 1, (.invokespecial 1, 3, 0, 1, 0, 9, 3, 0), e0 (.aload_n 0) 1, e0 (.sipush 1600) 3, e0 (.newarray .int) 2, (.putfield 7, 3, 11, 0, 30, 191, 1600, 1), e0 (.aload_n 0) 1, e0 (.iconst (-1)) 1, (.putfield 13, 3, 11, 8, 0, 0, 0, 0), e0 (.aload_n 0) 1, e0 (.bipush 6) 2, e0 (.newarray .int) 2, (.putfield 17, 3, 11, 9, 30, 192, 6, 1), e0 (.aload_n 0) 1, e0 (.iconst 4) 1, e0 (.newarray .char) 2, e0 .dup 1, e0 (.iconst 0) 1, e0 (.bipush 104) 2, e0 .castore 1, e0 .dup 1, e0 (.iconst 1) 1, e0 (.bipush 97) 2, e0 .castore 1, e0 .dup 1, e0 (.iconst 2) 1, e0 (.bipush 108) 2, e0 .castore 1, e0 .dup 1, e0 (.iconst 3) 1, e0 (.bipush 108) 2, e0 .castore 1, (.putfield 20, 3, 11, 11, 32, 193, 4, 1), e0 (.aload_n 0) 1, e0 (.bipush 6) 2, e0 (.newarray .char) 2, e0 .dup 1, e0 (.iconst 0) 1, e0 (.bipush 112) 2, e0 .castore 1, e0 .dup 1, e0 (.iconst 1) 1, e0 (.bipush 101) 2, e0 .castore 1, e0 .dup 1, e0 (.iconst 2) 1, e0 (.bipush 114) 2, e0 .castore 1, e0 .dup 1, e0 (.iconst 3) 1, e0 (.bipush 115) 2, e0 .castore 1, e0 .dup 1, e0 (.iconst 4) 1, e0 (.bipush 111) 2, e0 .castore 1, e0 .dup 1, e0 (.iconst 5) 1, e0 (.bipush 110) 2, e0 .castore 1, (.putfield 24, 3, 11, 12, 32, 194, 6, 1)]
def pb_X12_init_b91 : List EI := [e0 (.aload_n 0) 1, e0 (.iconst 5) 1, e0 (.newarray .char) 2, e0 .dup 1, e0 (.iconst 0) 1, e0 (.bipush 107) 2, e0 .castore 1, e0 .dup 1, e0 (.iconst 1) 1, e0 (.bipush 101) 2, e0 .castore 1, e0 .dup 1, e0 (.iconst 2) 1, e0 (.bipush 101) 2, e0 .castore 1, e0 .dup 1, e0 (.iconst 3) 1, e0 (.bipush 112) 2, e0 .castore 1, e0 .dup 1, e0 (.iconst 4) 1, e0 (.bipush 115) 2, e0 .castore 1, (.putfield 27, 3, 11, 13, 32, 195, 5, 1), e0 (.aload_n 0) 1, e0 (.bipush 6) 2, e0 (.newarray .char) 2, e0 .dup 1, e0 (.iconst 0) 1, e0 (.bipush 105) 2, e0 .castore 1, e0 .dup 1, e0 (.iconst 1) 1, e0 (.bipush 116) 2, e0 .castore 1, e0 .dup 1, e0 (.iconst 2) 1, e0 (.bipush 99) 2, e0 .castore 1, e0 .dup 1, e0 (.iconst 3) 1, e0 (.bipush 104) 2, e0 .castore 1, e0 .dup 1, e0 (.iconst 4) 1, e0 (.bipush 101) 2, e0 .castore 1, e0 .dup 1, e0 (.iconst 5) 1, e0 (.bipush 115) 2, e0 .castore 1, (.putfield 30, 3, 11, 14, 32, 196, 6, 1)]
def pb_X12_init_b161 : List EI := [e0 (.aload_n 0) 1, e0 (.iconst 3) 1, e0 (.newarray .char) 2, e0 .dup 1, e0 (.iconst 0) 1, e0 (.bipush 102) 2, e0 .castore 1, e0 .dup 1, e0 (.iconst 1) 1, e0 (.bipush 111) 2, e0 .castore 1, e0 .dup 1, e0 (.iconst 2) 1, e0 (.bipush 114) 2, e0 .castore 1, (.putfield 33, 3, 11, 15, 32, 197, 3, 1), e0 (.aload_n 0) 1, e0 (.iconst 5) 1, e0 (.newarray .char) 2, e0 .dup 1, e0 (.iconst 0) 1, e0 (.bipush 106) 2, e0 .castore 1, e0 .dup 1, e0 (.iconst 1) 1, e0 (.bipush 117) 2, e0 .castore 1, e0 .dup 1, e0 (.iconst 2) 1, e0 (.bipush 100) 2, e0 .castore 1, e0 .dup 1, e0 (.iconst 3) 1, e0 (.bipush 103) 2, e0 .castore 1, e0 .dup 1, e0 (.iconst 4) 1, e0 (.bipush 101) 2, e0 .castore 1, (.putfield 36, 3, 11, 16, 32, 198, 5, 1)]
def pb_X12_init_b215 : List EI := [e0 (.aload_n 0) 1, e0 (.iconst 5) 1, e0 (.newarray .char) 2, e0 .dup 1, e0 (.iconst 0) 1, e0 (.bipush 114) 2, e0 .castore 1, e0 .dup 1, e0 (.iconst 1) 1, e0 (.bipush 111) 2, e0 .castore 1, e0 .dup 1, e0 (.iconst 2) 1, e0 (.bipush 103) 2, e0 .castore 1, e0 .dup 1, e0 (.iconst 3) 1, e0 (.bipush 117) 2, e0 .castore 1, e0 .dup 1, e0 (.iconst 4) 1, e0 (.bipush 101) 2, e0 .castore 1, (.putfield 39, 3, 11, 17, 32, 199, 5, 1), e0 (.aload_n 0) 1, e0 (.bipush 6) 2, e0 (.newarray .char) 2, e0 .dup 1, e0 (.iconst 0) 1, e0 (.bipush 110) 2, e0 .castore 1, e0 .dup 1, e0 (.iconst 1) 1, e0 (.bipush 111) 2, e0 .castore 1, e0 .dup 1, e0 (.iconst 2) 1, e0 (.bipush 98) 2, e0 .castore 1, e0 .dup 1, e0 (.iconst 3) 1, e0 (.bipush 111) 2, e0 .castore 1, e0 .dup 1, e0 (.iconst 4) 1, e0 (.bipush 100) 2, e0 .castore 1, e0 .dup 1, e0 (.iconst 5) 1, e0 (.bipush 121) 2, e0 .castore 1, (.putfield 42, 3, 11, 18, 32, 200, 6, 1)]
def pb_X12_init_b285 : List EI := [e0 (.aload_n 0) 1, e0 (.iconst 2) 1, e0 (.newarray .char) 2, e0 .dup 1, e0 (.iconst 0) 1, e0 (.bipush 97) 2, e0 .castore 1, e0 .dup 1, e0 (.iconst 1) 1, e0 (.bipush 116) 2, e0 .castore 1, (.putfield 45, 3, 11, 19, 32, 201, 2, 1), e0 (.aload_n 0) 1, e0 (.iconst 5) 1, e0 (.newarray .char) 2, e0 .dup 1, e0 (.iconst 0) 1, e0 (.bipush 104) 2, e0 .castore 1, e0 .dup 1, e0 (.iconst 1) 1, e0 (.bipush 97) 2, e0 .castore 1, e0 .dup 1, e0 (.iconst 2) 1, e0 (.bipush 116) 2, e0 .castore 1, e0 .dup 1, e0 (.iconst 3) 1, e0 (.bipush 101) 2, e0 .castore 1, e0 .dup 1, e0 (.iconst 4) 1, e0 (.bipush 115) 2, e0 .castore 1, (.putfield 48, 3, 11, 20, 32, 202, 5, 1), e0 (.aload_n 0) 1, e0 (.iconst 5) 1, e0 (.newarray .char) 2, e0 .dup 1, e0 (.iconst 0) 1, e0 (.bipush 112) 2, e0 .castore 1, e0 .dup 1, e0 (.iconst 1) 1, e0 (.bipush 111) 2, e0 .castore 1, e0 .dup 1, e0 (.iconst 2) 1, e0 (.bipush 105) 2, e0 .castore 1, e0 .dup 1, e0 (.iconst 3) 1, e0 (.bipush 110) 2, e0 .castore 1, e0 .dup 1, e0 (.iconst 4) 1, e0 (.bipush 116) 2, e0 .castore 1, (.putfield 51, 3, 11, 21, 32, 203, 5, 1)]
def pb_X12_init_b366 : List EI := [e0 (.aload_n 0) 1, e0 (.iconst 5) 1, e0 (.newarray .char) 2, e0 .dup 1, e0 (.iconst 0) 1, e0 (.bipush 110) 2, e0 .castore 1, e0 .dup 1, e0 (.iconst 1) 1, e0 (.bipush 111) 2, e0 .castore 1, e0 .dup 1, e0 (.iconst 2) 1, e0 (.bipush 105) 2, e0 .castore 1, e0 .dup 1, e0 (.iconst 3) 1, e0 (.bipush 115) 2, e0 .castore 1, e0 .dup 1, e0 (.iconst 4) 1, e0 (.bipush 101) 2, e0 .castore 1, (.putfield 54, 3, 11, 22, 32, 204, 5, 1), e0 (.aload_n 0) 1, e0 (.iconst 4) 1, e0 (.newarray .char) 2, e0 .dup 1, e0 (.iconst 0) 1, e0 (.bipush 115) 2, e0 .castore 1, e0 .dup 1, e0 (.iconst 1) 1, e0 (.bipush 101) 2, e0 .castore 1, e0 .dup 1, e0 (.iconst 2) 1, e0 (.bipush 97) 2, e0 .castore 1, e0 .dup 1, e0 (.iconst 3) 1, e0 (.bipush 116) 2, e0 .castore 1, (.putfield 57, 3, 11, 23, 32, 205, 4, 1)]
def pb_X12_init_b425 : List EI := [e0 (.aload_n 0) 1, e0 (.iconst 4) 1, e0 (.newarray .char) 2, e0 .dup 1, e0 (.iconst 0) 1, e0 (.bipush 108) 2, e0 .castore 1, e0 .dup 1, e0 (.iconst 1) 1, e0 (.bipush 111) 2, e0 .castore 1, e0 .dup 1, e0 (.iconst 2) 1, e0 (.bipush 117) 2, e0 .castore 1, e0 .dup 1, e0 (.iconst 3) 1, e0 (.bipush 100) 2, e0 .castore 1, (.putfield 60, 3, 11, 24, 32, 206, 4, 1), e0 (.aload_n 0) 1, e0 (.iconst 4) 1, e0 (.newarray .char) 2, e0 .dup 1, e0 (.iconst 0) 1, e0 (.bipush 109) 2, e0 .castore 1, e0 .dup 1, e0 (.iconst 1) 1, e0 (.bipush 117) 2, e0 .castore 1, e0 .dup 1, e0 (.iconst 2) 1, e0 (.bipush 116) 2, e0 .castore 1, e0 .dup 1, e0 (.iconst 3) 1, e0 (.bipush 101) 2, e0 .castore 1, (.putfield 63, 3, 11, 25, 32, 207, 4, 1)]
def pb_X12_init_b479 : List EI := [e0 (.aload_n 0) 1, e0 (.iconst 5) 1, e0 (.newarray .char) 2, e0 .dup 1, e0 (.iconst 0) 1, e0 (.bipush 99) 2, e0 .castore 1, e0 .dup 1, e0 (.iconst 1) 1, e0 (.bipush 111) 2, e0 .castore 1, e0 .dup 1, e0 (.iconst 2) 1, e0 (.bipush 115) 2, e0 .castore 1, e0 .dup 1, e0 (.iconst 3) 1, e0 (.bipush 116) 2, e0 .castore 1, e0 .dup 1, e0 (.iconst 4) 1, e0 (.bipush 115) 2, e0 .castore 1, (.putfield 66, 3, 11, 26, 32, 208, 5, 1), e0 (.aload_n 0) 1, e0 (.iconst 5) 1, e0 (.newarray .char) 2, e0 .dup 1, e0 (.iconst 0) 1, e0 (.bipush 119) 2, e0 .castore 1, e0 .dup 1, e0 (.iconst 1) 1, e0 (.bipush 101) 2, e0 .castore 1, e0 .dup 1, e0 (.iconst 2) 1, e0 (.bipush 105) 2, e0 .castore 1, e0 .dup 1, e0 (.iconst 3) 1, e0 (.bipush 103) 2, e0 .castore 1, e0 .dup 1, e0 (.iconst 4) 1, e0 (.bipush 104) 2, e0 .castore 1, (.putfield 69, 3, 11, 27, 32, 209, 5, 1)]
def pb_X12_init_b543 : List EI := [e0 (.aload_n 0) 1, e0 (.iconst 5) 1, e0 (.newarray .char) 2, e0 .dup 1, e0 (.iconst 0) 1, e0 (.bipush 99) 2, e0 .castore 1, e0 .dup 1, e0 (.iconst 1) 1, e0 (.bipush 111) 2, e0 .castore 1, e0 .dup 1, e0 (.iconst 2) 1, e0 (.bipush 117) 2, e0 .castore 1, e0 .dup 1, e0 (.iconst 3) 1, e0 (.bipush 103) 2, e0 .castore 1, e0 .dup 1, e0 (.iconst 4) 1, e0 (.bipush 104) 2, e0 .castore 1, (.putfield 72, 3, 11, 28, 32, 210, 5, 1), e0 (.aload_n 0) 1, e0 (.iconst 4) 1, e0 (.newarray .char) 2, e0 .dup 1, e0 (.iconst 0) 1, e0 (.bipush 110) 2, e0 .castore 1, e0 .dup 1, e0 (.iconst 1) 1, e0 (.bipush 101) 2, e0 .castore 1, e0 .dup 1, e0 (.iconst 2) 1, e0 (.bipush 97) 2, e0 .castore 1, e0 .dup 1, e0 (.iconst 3) 1, e0 (.bipush 114) 2, e0 .castore 1, (.putfield 75, 3, 11, 29, 32, 211, 4, 1)]
def pb_X12_init_b602 : List EI := [e0 (.aload_n 0) 1, e0 (.iconst 5) 1, e0 (.newarray .char) 2, e0 .dup 1, e0 (.iconst 0) 1, e0 (.bipush 104) 2, e0 .castore 1, e0 .dup 1, e0 (.iconst 1) 1, e0 (.bipush 97) 2, e0 .castore 1, e0 .dup 1, e0 (.iconst 2) 1, e0 (.bipush 116) 2, e0 .castore 1, e0 .dup 1, e0 (.iconst 3) 1, e0 (.bipush 101) 2, e0 .castore 1, e0 .dup 1, e0 (.iconst 4) 1, e0 (.bipush 100) 2, e0 .castore 1, (.putfield 78, 3, 11, 30, 32, 212, 5, 1), e0 (.aload_n 0) 1, e0 (.iconst 5) 1, e0 (.newarray .char) 2, e0 .dup 1, e0 (.iconst 0) 1, e0 (.bipush 97) 2, e0 .castore 1, e0 .dup 1, e0 (.iconst 1) 1, e0 (.bipush 115) 2, e0 .castore 1, e0 .dup 1, e0 (.iconst 2) 1, e0 (.bipush 107) 2, e0 .castore 1, e0 .dup 1, e0 (.iconst 3) 1, e0 (.bipush 101) 2, e0 .castore 1, e0 .dup 1, e0 (.iconst 4) 1, e0 (.bipush 100) 2, e0 .castore 1, (.putfield 81, 3, 11, 31, 32, 213, 5, 1)]
def pb_X12_init_b666 : List EI := [e0 (.aload_n 0) 1, e0 (.bipush 6) 2, e0 (.newarray .char) 2, e0 .dup 1, e0 (.iconst 0) 1, e0 (.bipush 109) 2, e0 .castore 1, e0 .dup 1, e0 (.iconst 1) 1, e0 (.bipush 105) 2, e0 .castore 1, e0 .dup 1, e0 (.iconst 2) 1, e0 (.bipush 110) 2, e0 .castore 1, e0 .dup 1, e0 (.iconst 3) 1, e0 (.bipush 117) 2, e0 .castore 1, e0 .dup 1, e0 (.iconst 4) 1, e0 (.bipush 116) 2, e0 .castore 1, e0 .dup 1, e0 (.iconst 5) 1, e0 (.bipush 101) 2, e0 .castore 1, (.putfield 84, 3, 11, 32, 32, 214, 6, 1), e0 (.aload_n 0) 1, e0 (.bipush 6) 2, e0 (.newarray .char) 2, e0 .dup 1, e0 (.iconst 0) 1, e0 (.bipush 110) 2, e0 .castore 1, e0 .dup 1, e0 (.iconst 1) 1, e0 (.bipush 117) 2, e0 .castore 1, e0 .dup 1, e0 (.iconst 2) 1, e0 (.bipush 109) 2, e0 .castore 1, e0 .dup 1, e0 (.iconst 3) 1, e0 (.bipush 98) 2, e0 .castore 1, e0 .dup 1, e0 (.iconst 4) 1, e0 (.bipush 101) 2, e0 .castore 1, e0 .dup 1, e0 (.iconst 5) 1, e0 (.bipush 114) 2, e0 .castore 1, (.putfield 87, 3, 11, 33, 32, 215, 6, 1)]
def pb_X12_init_b742 : List EI := [e0 (.aload_n 0) 1, e0 (.iconst 5) 1, e0 (.newarray .char) 2, e0 .dup 1, e0 (.iconst 0) 1, e0 (.bipush 112) 2, e0 .castore 1, e0 .dup 1, e0 (.iconst 1) 1, e0 (.bipush 97) 2, e0 .castore 1, e0 .dup 1, e0 (.iconst 2) 1, e0 (.bipush 114) 2, e0 .castore 1, e0 .dup 1, e0 (.iconst 3) 1, e0 (.bipush 116) 2, e0 .castore 1, e0 .dup 1, e0 (.iconst 4) 1, e0 (.bipush 121) 2, e0 .castore 1, (.putfield 90, 3, 11, 34, 32, 216, 5, 1), e0 (.aload_n 0) 1, e0 (.iconst 2) 1, e0 (.newarray .char) 2, e0 .dup 1, e0 (.iconst 0) 1, e0 (.bipush 111) 2, e0 .castore 1, e0 .dup 1, e0 (.iconst 1) 1, e0 (.bipush 114) 2, e0 .castore 1, (.putfield 93, 3, 11, 35, 32, 217, 2, 1), e0 (.aload_n 0) 1, e0 (.iconst 3) 1, e0 (.newarray .char) 2, e0 .dup 1, e0 (.iconst 0) 1, e0 (.bipush 97) 2, e0 .castore 1, e0 .dup 1, e0 (.iconst 1) 1, e0 (.bipush 110) 2, e0 .castore 1, e0 .dup 1, e0 (.iconst 2) 1, e0 (.bipush 100) 2, e0 .castore 1, (.putfield 96, 3, 11, 36, 32, 218, 3, 1)]
def pb_X12_init_b813 : List EI := [e0 (.aload_n 0) 1, e0 (.iconst 3) 1, e0 (.newarray .char) 2, e0 .dup 1, e0 (.iconst 0) 1, e0 (.bipush 110) 2, e0 .castore 1, e0 .dup 1, e0 (.iconst 1) 1, e0 (.bipush 111) 2, e0 .castore 1, e0 .dup 1, e0 (.iconst 2) 1, e0 (.bipush 116) 2, e0 .castore 1, (.putfield 99, 3, 11, 37, 32, 219, 3, 1), e0 (.aload_n 0) 1, e0 (.iconst 3) 1, e0 (.newarray .char) 2, e0 .dup 1, e0 (.iconst 0) 1, e0 (.bipush 97) 2, e0 .castore 1, e0 .dup 1, e0 (.iconst 1) 1, e0 (.bipush 108) 2, e0 .castore 1, e0 .dup 1, e0 (.iconst 2) 1, e0 (.bipush 108) 2, e0 .castore 1, (.putfield 102, 3, 11, 38, 32, 220, 3, 1), e0 (.aload_n 0) 1, e0 (.iconst 3) 1, e0 (.newarray .char) 2, e0 .dup 1, e0 (.iconst 0) 1, e0 (.bipush 109) 2, e0 .castore 1, e0 .dup 1, e0 (.iconst 1) 1, e0 (.bipush 105) 2, e0 .castore 1, e0 .dup 1, e0 (.iconst 2) 1, e0 (.bipush 110) 2, e0 .castore 1, (.putfield 105, 3, 11, 39, 32, 221, 3, 1)]
def pb_X12_init_b879 : List EI := [e0 (.aload_n 0) 1, e0 (.iconst 3) 1, e0 (.newarray .char) 2, e0 .dup 1, e0 (.iconst 0) 1, e0 (.bipush 109) 2, e0 .castore 1, e0 .dup 1, e0 (.iconst 1) 1, e0 (.bipush 97) 2, e0 .castore 1, e0 .dup 1, e0 (.iconst 2) 1, e0 (.bipush 120) 2, e0 .castore 1, (.putfield 108, 3, 11, 40, 32, 222, 3, 1), e0 (.aload_n 0) 1, e0 (.bipush 6) 2, e0 (.newarray .char) 2, e0 .dup 1, e0 (.iconst 0) 1, e0 (.bipush 98) 2, e0 .castore 1, e0 .dup 1, e0 (.iconst 1) 1, e0 (.bipush 101) 2, e0 .castore 1, e0 .dup 1, e0 (.iconst 2) 1, e0 (.bipush 115) 2, e0 .castore 1, e0 .dup 1, e0 (.iconst 3) 1, e0 (.bipush 105) 2, e0 .castore 1, e0 .dup 1, e0 (.iconst 4) 1, e0 (.bipush 100) 2, e0 .castore 1, e0 .dup 1, e0 (.iconst 5) 1, e0 (.bipush 101) 2, e0 .castore 1, (.putfield 111, 3, 11, 41, 32, 223, 6, 1)]
def pb_X12_init_b939 : List EI := [e0 (.aload_n 0) 1, e0 (.bipush 12) 2, e0 (.newarray .int) 2, (.putfield 114, 3, 11, 43, 30, 224, 12, 1), e0 (.aload_n 0) 1, e0 (.bipush 48) 2, e0 (.newarray .long) 2, (.putfield 117, 3, 11, 44, 31, 225, 48, 1), e0 (.aload_n 0) 1, e0 (.bipush 64) 2, e0 (.newarray .int) 2, (.putfield 121, 3, 11, 45, 30, 226, 64, 1), e0 (.aload_n 0) 1, e0 (.bipush 24) 2, e0 (.newarray .int) 2, (.putfield 124, 3, 11, 46, 30, 227, 24, 1), e0 (.aload_n 0) 1, e0 (.bipush 16) 2, e0 (.newarray .int) 2, (.putfield 127, 3, 11, 47, 30, 228, 16, 1), e0 (.aload_n 0) 1, e0 (.bipush 36) 2, e0 (.newarray .int) 2, (.putfield 130, 3, 11, 48, 30, 229, 36, 1), e0 (.aload_n 0) 1, e0 (.bipush 32) 2, e0 (.newarray .int) 2, (.putfield 133, 3, 11, 49, 30, 230, 32, 1), e0 (.aload_n 0) 1, e0 (.iconst 4) 1, e0 (.newarray .int) 2, e0 .dup 1, e0 (.iconst 0) 1, e0 (.iconst (-1)) 1, e0 .iastore 1, e0 .dup 1, e0 (.iconst 1) 1, e0 (.iconst (-1)) 1, e0 .iastore 1, e0 .dup 1, e0 (.iconst 2) 1, e0 (.iconst (-1)) 1, e0 .iastore 1, e0 .dup 1, e0 (.iconst 3) 1, e0 (.iconst (-1)) 1, e0 .iastore 1, (.putfield 136, 3, 11, 50, 30, 231, 4, 1)]
def pb_X12_init_b1018 : List EI := [e0 (.aload_n 0) 1, e0 (.iconst 4) 1, e0 (.newarray .int) 2, (.putfield 139, 3, 11, 51, 30, 232, 4, 1), e0 (.aload_n 0) 1, e0 (.sipush 3200) 3, e0 (.newarray .int) 2, (.putfield 142, 3, 11, 54, 30, 233, 3200, 1), e0 (.aload_n 0) 1, e0 (.sipush 1700) 3, e0 (.newarray .int) 2, (.putfield 145, 3, 11, 56, 30, 234, 1700, 1), e0 (.aload_n 0) 1, e0 (.sipush 1700) 3, e0 (.newarray .long) 2, (.putfield 148, 3, 11, 60, 31, 235, 1700, 1), e0 (.aload_n 0) 1, e0 (.bipush 8) 2, e0 (.newarray .int) 2, (.putfield 151, 3, 11, 62, 30, 236, 8, 1), e0 (.aload_n 0) 1, e0 (.sipush 146) 3, e0 (.newarray .int) 2, e0 .dup 1, e0 (.iconst 0) 1, e0 (.iconst 0) 1, e0 .iastore 1, e0 .dup 1, e0 (.iconst 1) 1, e0 (.iconst 0) 1, e0 .iastore 1, e0 .dup 1, e0 (.iconst 2) 1, e0 (.iconst (-1)) 1, e0 .iastore 1, e0 .dup 1, e0 (.iconst 3) 1, e0 (.iconst 0) 1, e0 .iastore 1, e0 .dup 1, e0 (.iconst 4) 1, e0 (.iconst 0) 1, e0 .iastore 1, e0 .dup 1, e0 (.iconst 5) 1, e0 (.iconst 0) 1, e0 .iastore 1, e0 .dup 1, e0 (.bipush 6) 2, e0 (.iconst 0) 1, e0 .iastore 1, e0 .dup 1, e0 (.bipush 7) 2, e0 (.iconst 0) 1, e0 .iastore 1, e0 .dup 1, e0 (.bipush 8) 2, e0 (.iconst 0) 1, e0 .iastore 1, e0 .dup 1, e0 (.bipush 9) 2, e0 (.iconst 0) 1, e0 .iastore 1, e0 .dup 1, e0 (.bipush 10) 2, e0 (.iconst 0) 1, e0 .iastore 1, e0 .dup 1, e0 (.bipush 11) 2, e0 (.iconst 0) 1, e0 .iastore 1, e0 .dup 1, e0 (.bipush 12) 2, e0 (.iconst 0) 1, e0 .iastore 1, e0 .dup 1, e0 (.bipush 13) 2, e0 (.iconst (-1)) 1, e0 .iastore 1, e0 .dup 1, e0 (.bipush 14) 2, e0 (.iconst (-1)) 1, e0 .iastore 1, e0 .dup 1, e0 (.bipush 15) 2, e0 (.iconst (-1)) 1, e0 .iastore 1, e0 .dup 1, e0 (.bipush 16) 2, e0 (.iconst (-1)) 1, e0 .iastore 1, e0 .dup 1, e0 (.bipush 17) 2, e0 (.iconst (-1)) 1, e0 .iastore 1, e0 .dup 1, e0 (.bipush 18) 2, e0 (.iconst (-1)) 1, e0 .iastore 1, e0 .dup 1, e0 (.bipush 19) 2, e0 (.iconst 0) 1, e0 .iastore 1, e0 .dup 1, e0 (.bipush 20) 2, e0 (.iconst 0) 1, e0 .iastore 1, e0 .dup 1, e0 (.bipush 21) 2, e0 (.iconst 0) 1, e0 .iastore 1, e0 .dup 1, e0 (.bipush 22) 2, e0 (.iconst 0) 1, e0 .iastore 1, e0 .dup 1, e0 (.bipush 23) 2, e0 (.iconst 0) 1, e0 .iastore 1, e0 .dup 1, e0 (.bipush 24) 2, e0 (.iconst 0) 1, e0 .iastore 1, e0 .dup 1, e0 (.bipush 25) 2, e0 (.iconst 0) 1, e0 .iastore 1, e0 .dup 1, e0 (.bipush 26) 2, e0 (.iconst 0) 1, e0 .iastore 1, e0 .dup 1, e0 (.bipush 27) 2, e0 (.iconst 0) 1, e0 .iastore 1, e0 .dup 1, e0 (.bipush 28) 2, e0 (.iconst 0) 1, e0 .iastore 1, e0 .dup 1, e0 (.bipush 29) 2, e0 (.iconst 0) 1, e0 .iastore 1, e0 .dup 1, e0 (.bipush 30) 2, e0 (.iconst 0) 1, e0 .iastore 1, e0 .dup 1, e0 (.bipush 31) 2, e0 (.iconst 0) 1, e0 .iastore 1, e0 .dup 1, e0 (.bipush 32) 2, e0 (.iconst 0) 1, e0 .iastore 1, e0 .dup 1, e0 (.bipush 33) 2, e0 (.iconst 0) 1, e0 .iastore 1, e0 .dup 1, e0 (.bipush 34) 2, e0 (.iconst 0) 1, e0 .iastore 1, e0 .dup 1, e0 (.bipush 35) 2, e0 (.iconst 0) 1, e0 .iastore 1, e0 .dup 1, e0 (.bipush 36) 2, e0 (.iconst 0) 1, e0 .iastore 1, e0 .dup 1, e0 (.bipush 37) 2, e0 (.iconst 0) 1, e0 .iastore 1, e0 .dup 1, e0 (.bipush 38) 2, e0 (.iconst 0) 1, e0 .iastore 1, e0 .dup 1, e0 (.bipush 39) 2, e0 (.iconst 0) 1, e0 .iastore 1, e0 .dup 1, e0 (.bipush 40) 2, e0 (.iconst 0) 1, e0 .iastore 1, e0 .dup 1, e0 (.bipush 41) 2, e0 (.iconst 0) 1, e0 .iastore 1, e0 .dup 1, e0 (.bipush 42) 2, e0 (.iconst 0) 1, e0 .iastore 1, e0 .dup 1, e0 (.bipush 43) 2, e0 (.iconst 0) 1, e0 .iastore 1, e0 .dup 1, e0 (.bipush 44) 2, e0 (.iconst 0) 1, e0 .iastore 1, e0 .dup 1, e0 (.bipush 45) 2, e0 (.iconst 0) 1, e0 .iastore 1, e0 .dup 1, e0 (.bipush 46) 2, e0 (.iconst 0) 1, e0 .iastore 1, e0 .dup 1, e0 (.bipush 47) 2, e0 (.iconst 0) 1, e0 .iastore 1, e0 .dup 1, e0 (.bipush 48) 2, e0 (.iconst 0) 1, e0 .iastore 1, e0 .dup 1, e0 (.bipush 49) 2, e0 (.iconst 0) 1, e0 .iastore 1, e0 .dup 1, e0 (.bipush 50) 2, e0 (.iconst 0) 1, e0 .iastore 1, e0 .dup 1, e0 (.bipush 51) 2, e0 (.iconst 0) 1, e0 .iastore 1, e0 .dup 1, e0 (.bipush 52) 2, e0 (.iconst 0) 1, e0 .iastore 1, e0 .dup 1, e0 (.bipush 53) 2, e0 (.iconst 0) 1, e0 .iastore 1, e0 .dup 1, e0 (.bipush 54) 2, e0 (.iconst 0) 1, e0 .iastore 1, e0 .dup 1, e0 (.bipush 55) 2, e0 (.iconst 0) 1, e0 .iastore 1, e0 .dup 1, e0 (.bipush 56) 2, e0 (.iconst 0) 1, e0 .iastore 1, e0 .dup 1, e0 (.bipush 57) 2, e0 (.iconst 0) 1, e0 .iastore 1, e0 .dup 1, e0 (.bipush 58) 2, e0 (.iconst 0) 1, e0 .iastore 1, e0 .dup 1, e0 (.bipush 59) 2, e0 (.iconst 0) 1, e0 .iastore 1, e0 .dup 1, e0 (.bipush 60) 2, e0 (.iconst 0) 1, e0 .iastore 1, e0 .dup 1, e0 (.bipush 61) 2, e0 (.iconst 0) 1, e0 .iastore 1, e0 .dup 1, e0 (.bipush 62) 2, e0 (.iconst 0) 1, e0 .iastore 1, e0 .dup 1, e0 (.bipush 63) 2, e0 (.iconst 0) 1, e0 .iastore 1, e0 .dup 1, e0 (.bipush 64) 2, e0 (.iconst 0) 1, e0 .iastore 1, e0 .dup 1, e0 (.bipush 65) 2, e0 (.iconst 0) 1, e0 .iastore 1, e0 .dup 1, e0 (.bipush 66) 2, e0 (.iconst 0) 1, e0 .iastore 1, e0 .dup 1, e0 (.bipush 67) 2, e0 (.iconst 0) 1, e0 .iastore 1, e0 .dup 1, e0 (.bipush 68) 2, e0 (.iconst 0) 1, e0 .iastore 1, e0 .dup 1, e0 (.bipush 69) 2, e0 (.iconst 0) 1, e0 .iastore 1, e0 .dup 1, e0 (.bipush 70) 2, e0 (.iconst 0) 1, e0 .iastore 1, e0 .dup 1, e0 (.bipush 71) 2, e0 (.iconst 0) 1, e0 .iastore 1, e0 .dup 1, e0 (.bipush 72) 2, e0 (.iconst 0) 1, e0 .iastore 1, e0 .dup 1, e0 (.bipush 73) 2, e0 (.iconst 0) 1, e0 .iastore 1, e0 .dup 1, e0 (.bipush 74) 2, e0 (.iconst 0) 1, e0 .iastore 1, e0 .dup 1, e0 (.bipush 75) 2, e0 (.iconst 0) 1, e0 .iastore 1, e0 .dup 1, e0 (.bipush 76) 2, e0 (.iconst 0) 1, e0 .iastore 1, e0 .dup 1, e0 (.bipush 77) 2, e0 (.iconst 0) 1, e0 .iastore 1, e0 .dup 1, e0 (.bipush 78) 2, e0 (.iconst 0) 1, e0 .iastore 1, e0 .dup 1, e0 (.bipush 79) 2, e0 (.iconst 0) 1, e0 .iastore 1, e0 .dup 1, e0 (.bipush 80) 2, e0 (.iconst 0) 1, e0 .iastore 1, e0 .dup 1, e0 (.bipush 81) 2, e0 (.iconst 0) 1, e0 .iastore 1, e0 .dup 1, e0 (.bipush 82) 2, e0 (.iconst 0) 1, e0 .iastore 1, e0 .dup 1, e0 (.bipush 83) 2, e0 (.iconst 0) 1, e0 .iastore 1, e0 .dup 1, e0 (.bipush 84) 2, e0 (.iconst 0) 1, e0 .iastore 1, e0 .dup 1, e0 (.bipush 85) 2, e0 (.iconst 0) 1, e0 .iastore 1, e0 .dup 1, e0 (.bipush 86) 2, e0 (.iconst 0) 1, e0 .iastore 1, e0 .dup 1, e0 (.bipush 87) 2, e0 (.iconst 0) 1, e0 .iastore 1, e0 .dup 1, e0 (.bipush 88) 2, e0 (.iconst 0) 1, e0 .iastore 1, e0 .dup 1, e0 (.bipush 89) 2, e0 (.iconst 0) 1, e0 .iastore 1, e0 .dup 1, e0 (.bipush 90) 2, e0 (.iconst 0) 1, e0 .iastore 1, e0 .dup 1, e0 (.bipush 91) 2, e0 (.iconst 0) 1, e0 .iastore 1, e0 .dup 1, e0 (.bipush 92) 2, e0 (.iconst 0) 1, e0 .iastore 1, e0 .dup 1, e0 (.bipush 93) 2, e0 (.iconst 0) 1, e0 .iastore 1, e0 .dup 1, e0 (.bipush 94) 2, e0 (.iconst 0) 1, e0 .iastore 1, e0 .dup 1, e0 (.bipush 95) 2, e0 (.iconst 0) 1, e0 .iastore 1, e0 .dup 1, e0 (.bipush 96) 2, e0 (.iconst 0) 1, e0 .iastore 1, e0 .dup 1, e0 (.bipush 97) 2, e0 (.iconst 0) 1, e0 .iastore 1, e0 .dup 1, e0 (.bipush 98) 2, e0 (.iconst 0) 1, e0 .iastore 1, e0 .dup 1, e0 (.bipush 99) 2, e0 (.iconst 0) 1, e0 .iastore 1, e0 .dup 1, e0 (.bipush 100) 2, e0 (.iconst 0) 1, e0 .iastore 1, e0 .dup 1, e0 (.bipush 101) 2, e0 (.iconst 0) 1, e0 .iastore 1, e0 .dup 1, e0 (.bipush 102) 2, e0 (.iconst 0) 1, e0 .iastore 1, e0 .dup 1, e0 (.bipush 103) 2, e0 (.iconst 0) 1, e0 .iastore 1, e0 .dup 1, e0 (.bipush 104) 2, e0 (.iconst 0) 1, e0 .iastore 1, e0 .dup 1, e0 (.bipush 105) 2, e0 (.iconst 0) 1, e0 .iastore 1, e0 .dup 1, e0 (.bipush 106) 2, e0 (.iconst 0) 1, e0 .iastore 1, e0 .dup 1, e0 (.bipush 107) 2, e0 (.iconst 0) 1, e0 .iastore 1, e0 .dup 1, e0 (.bipush 108) 2, e0 (.iconst 0) 1, e0 .iastore 1, e0 .dup 1, e0 (.bipush 109) 2, e0 (.iconst 0) 1, e0 .iastore 1, e0 .dup 1, e0 (.bipush 110) 2, e0 (.iconst 0) 1, e0 .iastore 1, e0 .dup 1, e0 (.bipush 111) 2, e0 (.iconst 0) 1, e0 .iastore 1, e0 .dup 1, e0 (.bipush 112) 2, e0 (.iconst 0) 1, e0 .iastore 1, e0 .dup 1, e0 (.bipush 113) 2, e0 (.iconst 0) 1, e0 .iastore 1, e0 .dup 1, e0 (.bipush 114) 2, e0 (.iconst 0) 1, e0 .iastore 1, e0 .dup 1, e0 (.bipush 115) 2, e0 (.iconst 0) 1, e0 .iastore 1, e0 .dup 1, e0 (.bipush 116) 2, e0 (.iconst 0) 1, e0 .iastore 1, e0 .dup 1, e0 (.bipush 117) 2, e0 (.iconst 0) 1, e0 .iastore 1, e0 .dup 1, e0 (.bipush 118) 2, e0 (.iconst 0) 1, e0 .iastore 1, e0 .dup 1, e0 (.bipush 119) 2, e0 (.iconst 0) 1, e0 .iastore 1, e0 .dup 1, e0 (.bipush 120) 2, e0 (.iconst 0) 1, e0 .iastore 1, e0 .dup 1, e0 (.bipush 121) 2, e0 (.iconst 0) 1, e0 .iastore 1, e0 .dup 1, e0 (.bipush 122) 2, e0 (.iconst 0) 1, e0 .iastore 1, e0 .dup 1, e0 (.bipush 123) 2, e0 (.iconst 0) 1, e0 .iastore 1, e0 .dup 1, e0 (.bipush 124) 2, e0 (.iconst 0) 1, e0 .iastore 1, e0 .dup 1, e0 (.bipush 125) 2, e0 (.iconst 0) 1, e0 .iastore 1, e0 .dup 1, e0 (.bipush 126) 2, e0 (.iconst 0) 1, e0 .iastore 1, e0 .dup 1, e0 (.bipush 127) 2, e0 (.iconst 0) 1, e0 .iastore 1, e0 .dup 1, e0 (.sipush 128) 3, e0 (.iconst 0) 1, e0 .iastore 1, e0 .dup 1, e0 (.sipush 129) 3, e0 (.iconst 0) 1, e0 .iastore 1, e0 .dup 1, e0 (.sipush 130) 3, e0 (.iconst 0) 1, e0 .iastore 1, e0 .dup 1, e0 (.sipush 131) 3, e0 (.iconst 0) 1, e0 .iastore 1, e0 .dup 1, e0 (.sipush 132) 3, e0 (.iconst 0) 1, e0 .iastore 1, e0 .dup 1, e0 (.sipush 133) 3, e0 (.iconst 0) 1, e0 .iastore 1, e0 .dup 1, e0 (.sipush 134) 3, e0 (.iconst 0) 1, e0 .iastore 1, e0 .dup 1, e0 (.sipush 135) 3, e0 (.iconst 0) 1, e0 .iastore 1, e0 .dup 1, e0 (.sipush 136) 3, e0 (.iconst 0) 1, e0 .iastore 1, e0 .dup 1, e0 (.sipush 137) 3, e0 (.iconst 0) 1, e0 .iastore 1, e0 .dup 1, e0 (.sipush 138) 3, e0 (.iconst 0) 1, e0 .iastore 1, e0 .dup 1, e0 (.sipush 139) 3, e0 (.iconst 0) 1, e0 .iastore 1, e0 .dup 1, e0 (.sipush 140) 3, e0 (.iconst 0) 1, e0 .iastore 1, e0 .dup 1, e0 (.sipush 141) 3, e0 (.iconst 0) 1, e0 .iastore 1, e0 .dup 1, e0 (.sipush 142) 3, e0 (.iconst 0) 1, e0 .iastore 1, e0 .dup 1, e0 (.sipush 143) 3, e0 (.iconst 0) 1, e0 .iastore 1, e0 .dup 1, e0 (.sipush 144) 3, e0 (.iconst 0) 1, e0 .iastore 1, e0 .dup 1, e0 (.sipush 145) 3, e0 (.iconst 0) 1, e0 .iastore 1, (.putfield 154, 3, 11, 63, 30, 237, 146, 1)]
def pb_X12_init_b1811 : List EI := [e0 (.aload_n 0) 1, e0 (.sipush 146) 3, e0 (.newarray .int) 2, (.putfield 157, 3, 11, 64, 30, 238, 146, 1), e0 (.aload_n 0) 1, e0 (.iconst (-1)) 1, (.putfield 160, 3, 11, 65, 0, 0, 0, 0), e0 (.aload_n 0) 1, e0 (.bipush 8) 2, e0 (.newarray .int) 2, (.putfield 163, 3, 11, 66, 30, 239, 8, 1), e0 (.aload_n 0) 1, e0 (.bipush 8) 2, e0 (.newarray .int) 2, (.putfield 166, 3, 11, 67, 30, 240, 8, 1), e0 (.aload_n 0) 1, e0 (.bipush 8) 2, e0 (.newarray .int) 2, (.putfield 169, 3, 11, 68, 30, 241, 8, 1), e0 (.aload_n 0) 1, e0 (.bipush 12) 2, e0 (.newarray .long) 2, (.putfield 172, 3, 11, 71, 31, 242, 12, 1), e0 (.aload_n 0) 1, e0 (.sipush 2920) 3, e0 (.newarray .int) 2, (.putfield 175, 3, 11, 72, 30, 243, 2920, 1), e0 (.aload_n 0) 1, e0 (.lconst 1) 1, (.putfield 178, 3, 11, 75, 1, 0, 0, 0), e0 (.aload_n 0) 1, e0 (.iconst 5) 1, e0 (.newarray .char) 2, e0 .dup 1, e0 (.iconst 0) 1, e0 (.bipush 102) 2, e0 .castore 1, e0 .dup 1, e0 (.iconst 1) 1, e0 (.bipush 105) 2, e0 .castore 1, e0 .dup 1, e0 (.iconst 2) 1, e0 (.bipush 114) 2, e0 .castore 1, e0 .dup 1, e0 (.iconst 3) 1, e0 (.bipush 115) 2, e0 .castore 1, e0 .dup 1, e0 (.iconst 4) 1, e0 (.bipush 116) 2, e0 .castore 1, (.putfield 182, 3, 11, 76, 32, 244, 5, 1)]
def pb_X12_init_b1903 : List EI := [e0 (.aload_n 0) 1, e0 (.iconst 4) 1, e0 (.newarray .char) 2, e0 .dup 1, e0 (.iconst 0) 1, e0 (.bipush 108) 2, e0 .castore 1, e0 .dup 1, e0 (.iconst 1) 1, e0 (.bipush 97) 2, e0 .castore 1, e0 .dup 1, e0 (.iconst 2) 1, e0 (.bipush 115) 2, e0 .castore 1, e0 .dup 1, e0 (.iconst 3) 1, e0 (.bipush 116) 2, e0 .castore 1, (.putfield 185, 3, 11, 77, 32, 245, 4, 1), e0 (.aload_n 0) 1, e0 (.iconst 5) 1, e0 (.newarray .char) 2, e0 .dup 1, e0 (.iconst 0) 1, e0 (.bipush 111) 2, e0 .castore 1, e0 .dup 1, e0 (.iconst 1) 1, e0 (.bipush 102) 2, e0 .castore 1, e0 .dup 1, e0 (.iconst 2) 1, e0 (.bipush 116) 2, e0 .castore 1, e0 .dup 1, e0 (.iconst 3) 1, e0 (.bipush 101) 2, e0 .castore 1, e0 .dup 1, e0 (.iconst 4) 1, e0 (.bipush 110) 2, e0 .castore 1, (.putfield 188, 3, 11, 78, 32, 246, 5, 1)]
def pb_X12_init_b1962 : List EI := [e0 (.aload_n 0) 1, e0 (.iconst 5) 1, e0 (.newarray .char) 2, e0 .dup 1, e0 (.iconst 0) 1, e0 (.bipush 116) 2, e0 .castore 1, e0 .dup 1, e0 (.iconst 1) 1, e0 (.bipush 111) 2, e0 .castore 1, e0 .dup 1, e0 (.iconst 2) 1, e0 (.bipush 116) 2, e0 .castore 1, e0 .dup 1, e0 (.iconst 3) 1, e0 (.bipush 97) 2, e0 .castore 1, e0 .dup 1, e0 (.iconst 4) 1, e0 (.bipush 108) 2, e0 .castore 1, (.putfield 191, 3, 11, 79, 32, 247, 5, 1), e0 (.aload_n 0) 1, e0 (.iconst 4) 1, e0 (.newarray .char) 2, e0 .dup 1, e0 (.iconst 0) 1, e0 (.bipush 109) 2, e0 .castore 1, e0 .dup 1, e0 (.iconst 1) 1, e0 (.bipush 111) 2, e0 .castore 1, e0 .dup 1, e0 (.iconst 2) 1, e0 (.bipush 115) 2, e0 .castore 1, e0 .dup 1, e0 (.iconst 3) 1, e0 (.bipush 116) 2, e0 .castore 1, (.putfield 194, 3, 11, 80, 32, 248, 4, 1)]
def pb_X12_init_b2021 : List EI := [e0 (.aload_n 0) 1, e0 (.iconst 5) 1, e0 (.newarray .char) 2, e0 .dup 1, e0 (.iconst 0) 1, e0 (.bipush 108) 2, e0 .castore 1, e0 .dup 1, e0 (.iconst 1) 1, e0 (.bipush 101) 2, e0 .castore 1, e0 .dup 1, e0 (.iconst 2) 1, e0 (.bipush 97) 2, e0 .castore 1, e0 .dup 1, e0 (.iconst 3) 1, e0 (.bipush 115) 2, e0 .castore 1, e0 .dup 1, e0 (.iconst 4) 1, e0 (.bipush 116) 2, e0 .castore 1, (.putfield 197, 3, 11, 81, 32, 249, 5, 1), e0 (.aload_n 0) 1, e0 (.iconst 3) 1, e0 (.newarray .char) 2, e0 .dup 1, e0 (.iconst 0) 1, e0 (.bipush 110) 2, e0 .castore 1, e0 .dup 1, e0 (.iconst 1) 1, e0 (.bipush 111) 2, e0 .castore 1, e0 .dup 1, e0 (.iconst 2) 1, e0 (.bipush 116) 2, e0 .castore 1, (.putfield 200, 3, 11, 82, 32, 250, 3, 1)]
def pb_X12_init_b2075 : List EI := [e0 (.aload_n 0) 1, e0 (.iconst 3) 1, e0 (.newarray .char) 2, e0 .dup 1, e0 (.iconst 0) 1, e0 (.bipush 97) 2, e0 .castore 1, e0 .dup 1, e0 (.iconst 1) 1, e0 (.bipush 110) 2, e0 .castore 1, e0 .dup 1, e0 (.iconst 2) 1, e0 (.bipush 100) 2, e0 .castore 1, (.putfield 203, 3, 11, 83, 32, 251, 3, 1), e0 (.aload_n 0) 1, e0 (.iconst 2) 1, e0 (.newarray .char) 2, e0 .dup 1, e0 (.iconst 0) 1, e0 (.bipush 111) 2, e0 .castore 1, e0 .dup 1, e0 (.iconst 1) 1, e0 (.bipush 114) 2, e0 .castore 1, (.putfield 206, 3, 11, 84, 32, 252, 2, 1), e0 (.aload_n 0) 1, e0 (.iconst 3) 1, e0 (.newarray .char) 2, e0 .dup 1, e0 (.iconst 0) 1, e0 (.bipush 97) 2, e0 .castore 1, e0 .dup 1, e0 (.iconst 1) 1, e0 (.bipush 108) 2, e0 .castore 1, e0 .dup 1, e0 (.iconst 2) 1, e0 (.bipush 108) 2, e0 .castore 1, (.putfield 209, 3, 11, 85, 32, 253, 3, 1)]
def pb_X12_init_b2136 : List EI := [e0 (.aload_n 0) 1, e0 (.iconst 3) 1, e0 (.newarray .char) 2, e0 .dup 1, e0 (.iconst 0) 1, e0 (.bipush 109) 2, e0 .castore 1, e0 .dup 1, e0 (.iconst 1) 1, e0 (.bipush 105) 2, e0 .castore 1, e0 .dup 1, e0 (.iconst 2) 1, e0 (.bipush 110) 2, e0 .castore 1, (.putfield 212, 3, 11, 86, 32, 254, 3, 1), e0 (.aload_n 0) 1, e0 (.iconst 3) 1, e0 (.newarray .char) 2, e0 .dup 1, e0 (.iconst 0) 1, e0 (.bipush 109) 2, e0 .castore 1, e0 .dup 1, e0 (.iconst 1) 1, e0 (.bipush 97) 2, e0 .castore 1, e0 .dup 1, e0 (.iconst 2) 1, e0 (.bipush 120) 2, e0 .castore 1, (.putfield 215, 3, 11, 87, 32, 255, 3, 1), e0 (.aload_n 0) 1, e0 (.iconst 5) 1, e0 (.newarray .char) 2, e0 .dup 1, e0 (.iconst 0) 1, e0 (.bipush 107) 2, e0 .castore 1, e0 .dup 1, e0 (.iconst 1) 1, e0 (.bipush 101) 2, e0 .castore 1, e0 .dup 1, e0 (.iconst 2) 1, e0 (.bipush 101) 2, e0 .castore 1, e0 .dup 1, e0 (.iconst 3) 1, e0 (.bipush 112) 2, e0 .castore 1, e0 .dup 1, e0 (.iconst 4) 1, e0 (.bipush 115) 2, e0 .castore 1, (.putfield 218, 3, 11, 88, 32, 256, 5, 1)]
def pb_X12_init_b2212 : List EI := [e0 (.aload_n 0) 1, e0 (.bipush 6) 2, e0 (.newarray .char) 2, e0 .dup 1, e0 (.iconst 0) 1, e0 (.bipush 105) 2, e0 .castore 1, e0 .dup 1, e0 (.iconst 1) 1, e0 (.bipush 116) 2, e0 .castore 1, e0 .dup 1, e0 (.iconst 2) 1, e0 (.bipush 99) 2, e0 .castore 1, e0 .dup 1, e0 (.iconst 3) 1, e0 (.bipush 104) 2, e0 .castore 1, e0 .dup 1, e0 (.iconst 4) 1, e0 (.bipush 101) 2, e0 .castore 1, e0 .dup 1, e0 (.iconst 5) 1, e0 (.bipush 115) 2, e0 .castore 1, (.putfield 221, 3, 11, 89, 32, 257, 6, 1), e0 (.aload_n 0) 1, e0 (.iconst 4) 1, e0 (.newarray .char) 2, e0 .dup 1, e0 (.iconst 0) 1, e0 (.bipush 110) 2, e0 .castore 1, e0 .dup 1, e0 (.iconst 1) 1, e0 (.bipush 101) 2, e0 .castore 1, e0 .dup 1, e0 (.iconst 2) 1, e0 (.bipush 97) 2, e0 .castore 1, e0 .dup 1, e0 (.iconst 3) 1, e0 (.bipush 114) 2, e0 .castore 1, (.putfield 224, 3, 11, 90, 32, 258, 4, 1)]
def pb_X12_init_b2277 : List EI := [e0 (.aload_n 0) 1, e0 (.iconst 5) 1, e0 (.newarray .char) 2, e0 .dup 1, e0 (.iconst 0) 1, e0 (.bipush 104) 2, e0 .castore 1, e0 .dup 1, e0 (.iconst 1) 1, e0 (.bipush 97) 2, e0 .castore 1, e0 .dup 1, e0 (.iconst 2) 1, e0 (.bipush 116) 2, e0 .castore 1, e0 .dup 1, e0 (.iconst 3) 1, e0 (.bipush 101) 2, e0 .castore 1, e0 .dup 1, e0 (.iconst 4) 1, e0 (.bipush 100) 2, e0 .castore 1, (.putfield 227, 3, 11, 91, 32, 259, 5, 1), e0 (.aload_n 0) 1, e0 (.iconst 5) 1, e0 (.newarray .char) 2, e0 .dup 1, e0 (.iconst 0) 1, e0 (.bipush 97) 2, e0 .castore 1, e0 .dup 1, e0 (.iconst 1) 1, e0 (.bipush 115) 2, e0 .castore 1, e0 .dup 1, e0 (.iconst 2) 1, e0 (.bipush 107) 2, e0 .castore 1, e0 .dup 1, e0 (.iconst 3) 1, e0 (.bipush 101) 2, e0 .castore 1, e0 .dup 1, e0 (.iconst 4) 1, e0 (.bipush 100) 2, e0 .castore 1, (.putfield 230, 3, 11, 92, 32, 260, 5, 1)]
def pb_X12_init_b2341 : List EI := [e0 (.aload_n 0) 1, e0 (.iconst 5) 1, e0 (.newarray .char) 2, e0 .dup 1, e0 (.iconst 0) 1, e0 (.bipush 110) 2, e0 .castore 1, e0 .dup 1, e0 (.iconst 1) 1, e0 (.bipush 111) 2, e0 .castore 1, e0 .dup 1, e0 (.iconst 2) 1, e0 (.bipush 105) 2, e0 .castore 1, e0 .dup 1, e0 (.iconst 3) 1, e0 (.bipush 115) 2, e0 .castore 1, e0 .dup 1, e0 (.iconst 4) 1, e0 (.bipush 101) 2, e0 .castore 1, (.putfield 233, 3, 11, 93, 32, 261, 5, 1), e0 (.aload_n 0) 1, e0 (.iconst 4) 1, e0 (.newarray .char) 2, e0 .dup 1, e0 (.iconst 0) 1, e0 (.bipush 115) 2, e0 .castore 1, e0 .dup 1, e0 (.iconst 1) 1, e0 (.bipush 101) 2, e0 .castore 1, e0 .dup 1, e0 (.iconst 2) 1, e0 (.bipush 97) 2, e0 .castore 1, e0 .dup 1, e0 (.iconst 3) 1, e0 (.bipush 116) 2, e0 .castore 1, (.putfield 236, 3, 11, 94, 32, 262, 4, 1)]
def pb_X12_init_b2400 : List EI := [e0 (.aload_n 0) 1, e0 (.bipush 6) 2, e0 (.newarray .char) 2, e0 .dup 1, e0 (.iconst 0) 1, e0 (.bipush 109) 2, e0 .castore 1, e0 .dup 1, e0 (.iconst 1) 1, e0 (.bipush 105) 2, e0 .castore 1, e0 .dup 1, e0 (.iconst 2) 1, e0 (.bipush 110) 2, e0 .castore 1, e0 .dup 1, e0 (.iconst 3) 1, e0 (.bipush 117) 2, e0 .castore 1, e0 .dup 1, e0 (.iconst 4) 1, e0 (.bipush 116) 2, e0 .castore 1, e0 .dup 1, e0 (.iconst 5) 1, e0 (.bipush 101) 2, e0 .castore 1, (.putfield 239, 3, 11, 95, 32, 263, 6, 1), e0 (.aload_n 0) 1, e0 (.bipush 6) 2, e0 (.newarray .char) 2, e0 .dup 1, e0 (.iconst 0) 1, e0 (.bipush 110) 2, e0 .castore 1, e0 .dup 1, e0 (.iconst 1) 1, e0 (.bipush 117) 2, e0 .castore 1, e0 .dup 1, e0 (.iconst 2) 1, e0 (.bipush 109) 2, e0 .castore 1, e0 .dup 1, e0 (.iconst 3) 1, e0 (.bipush 98) 2, e0 .castore 1, e0 .dup 1, e0 (.iconst 4) 1, e0 (.bipush 101) 2, e0 .castore 1, e0 .dup 1, e0 (.iconst 5) 1, e0 (.bipush 114) 2, e0 .castore 1, (.putfield 242, 3, 11, 96, 32, 264, 6, 1)]
def pb_X12_init_b2476 : List EI := [e0 (.aload_n 0) 1, e0 (.iconst 5) 1, e0 (.newarray .char) 2, e0 .dup 1, e0 (.iconst 0) 1, e0 (.bipush 112) 2, e0 .castore 1, e0 .dup 1, e0 (.iconst 1) 1, e0 (.bipush 97) 2, e0 .castore 1, e0 .dup 1, e0 (.iconst 2) 1, e0 (.bipush 114) 2, e0 .castore 1, e0 .dup 1, e0 (.iconst 3) 1, e0 (.bipush 116) 2, e0 .castore 1, e0 .dup 1, e0 (.iconst 4) 1, e0 (.bipush 121) 2, e0 .castore 1, (.putfield 245, 3, 11, 97, 32, 265, 5, 1), e0 (.aload_n 0) 1, e0 (.bipush 6) 2, e0 (.newarray .char) 2, e0 .dup 1, e0 (.iconst 0) 1, e0 (.bipush 98) 2, e0 .castore 1, e0 .dup 1, e0 (.iconst 1) 1, e0 (.bipush 101) 2, e0 .castore 1, e0 .dup 1, e0 (.iconst 2) 1, e0 (.bipush 115) 2, e0 .castore 1, e0 .dup 1, e0 (.iconst 3) 1, e0 (.bipush 105) 2, e0 .castore 1, e0 .dup 1, e0 (.iconst 4) 1, e0 (.bipush 100) 2, e0 .castore 1, e0 .dup 1, e0 (.iconst 5) 1, e0 (.bipush 101) 2, e0 .castore 1, (.putfield 248, 3, 11, 98, 32, 266, 6, 1)]
def pb_X12_init_b2546 : List EI := [e0 (.aload_n 0) 1, e0 (.sipush 1700) 3, e0 (.newarray .int) 2, (.putfield 251, 3, 11, 99, 30, 267, 1700, 1), e0 (.aload_n 0) 1, e0 (.sipush 1700) 3, e0 (.newarray .int) 2, (.putfield 254, 3, 11, 101, 30, 268, 1700, 1), e0 (.aload_n 0) 1, e0 (.sipush 1700) 3, e0 (.newarray .long) 2, (.putfield 257, 3, 11, 105, 31, 269, 1700, 1), e0 (.aload_n 0) 1, e0 (.bipush 27) 2, e0 (.newarray .int) 2, (.putfield 260, 3, 11, 109, 30, 270, 27, 1), e0 .return_ 1]
def pb_X12_init : List (Nat × List EI) := [(0, pb_X12_init_b0), (91, pb_X12_init_b91), (161, pb_X12_init_b161), (215, pb_X12_init_b215), (285, pb_X12_init_b285), (366, pb_X12_init_b366), (425, pb_X12_init_b425), (479, pb_X12_init_b479), (543, pb_X12_init_b543), (602, pb_X12_init_b602), (666, pb_X12_init_b666), (742, pb_X12_init_b742), (813, pb_X12_init_b813), (879, pb_X12_init_b879), (939, pb_X12_init_b939), (1018, pb_X12_init_b1018), (1811, pb_X12_init_b1811), (1903, pb_X12_init_b1903), (1962, pb_X12_init_b1962), (2021, pb_X12_init_b2021), (2075, pb_X12_init_b2075), (2136, pb_X12_init_b2136), (2212, pb_X12_init_b2212), (2277, pb_X12_init_b2277), (2341, pb_X12_init_b2341), (2400, pb_X12_init_b2400), (2476, pb_X12_init_b2476), (2546, pb_X12_init_b2546)]

set_option maxRecDepth 100000 in
def pb_X12_isIn : List (Nat × List EI) := [(0, [e0 (.lload_n 0) 1, e0 (.lload_n 2) 1, e0 .lcmp 1, e1 (.ifCond .lt 14) 3 17, e0 (.lload_n 0) 1, e0 (.lload 4) 2, e0 .lcmp 1, e1 (.ifCond .gt 7) 3 17, e0 (.iconst 1) 1, e1 (.goto 4) 3 18]),
  (17, [e0 (.iconst 0) 1]),
  (18, [e0 .ireturn 1])]

set_option maxRecDepth 100000 in
def pb_X12_feed : List (Nat × List EI) := [(0, [e0 (.aload_n 0) 1, (.getfield 263, 3, 11, 1, 0, 0, 0, 0), e0 (.bipush 20) 2, e0 .iadd 1, e0 (.sipush 1600) 3, e1 (.if_icmp .le 15) 3 25, e0 (.aload_n 0) 1, (.getfield 17, 3, 11, 9, 30, 192, 6, 1), e0 (.iconst 0) 1, e0 .dup2 1, e0 .iaload 1, e0 (.iconst 1) 1, e0 .iadd 1, e0 .iastore 1]),
  (23, [e0 (.iconst (-1)) 1, e0 .ireturn 1]),
  (25, [e0 (.iconst 0) 1, e0 (.istore 6) 2]),
  (28, [e0 (.iload 6) 2, e0 (.bipush 20) 2, e1 (.if_icmp .ge 92) 3 124, e0 (.iload 6) 2, e0 (.iconst 4) 1, e1 (.if_icmp .ge 7) 3 45, e0 (.iload_n 1) 1, e1 (.goto 39) 3 81]),
  (45, [e0 (.iload 6) 2, e0 (.bipush 8) 2, e1 (.if_icmp .ge 7) 3 56, e0 (.iload_n 2) 1, e1 (.goto 28) 3 81]),
  (56, [e0 (.iload 6) 2, e0 (.bipush 12) 2, e1 (.if_icmp .ge 7) 3 67, e0 (.iload_n 3) 1, e1 (.goto 17) 3 81]),
  (67, [e0 (.iload 6) 2, e0 (.bipush 16) 2, e1 (.if_icmp .ge 8) 3 79, e0 (.iload 4) 2, e1 (.goto 5) 3 81]),
  (79, [e0 (.iload 5) 2]),
  (81, [e0 (.istore 7) 2, e0 (.aload_n 0) 1, (.getfield 7, 3, 11, 0, 30, 191, 1600, 1), e0 (.aload_n 0) 1, (.getfield 263, 3, 11, 1, 0, 0, 0, 0), e0 (.iload 7) 2, e0 (.bipush 8) 2, e0 (.iconst 3) 1, e0 (.iload 6) 2, e0 (.iconst 4) 1, e0 .irem 1, e0 .isub 1, e0 .imul 1, e0 .ishr 1, e0 (.sipush 255) 3, e0 .iand 1, e0 .iastore 1]),
  (108, [e0 (.aload_n 0) 1, e0 .dup 1, (.getfield 263, 3, 11, 1, 0, 0, 0, 0), e0 (.iconst 1) 1, e0 .iadd 1, (.putfield 263, 3, 11, 1, 0, 0, 0, 0)]),
  (118, [e0 (.iinc 6 1) 3, e1 (.goto (-93)) 3 28]),
  (124, [e0 (.aload_n 0) 1, (.getfield 263, 3, 11, 1, 0, 0, 0, 0), e0 .ireturn 1])]

set_option maxRecDepth 100000 in
def pb_X12_end : List (Nat × List EI) := [(0, [e0 (.iload_n 1) 1, e1 (.ifCond .lt 11) 3 12, e0 (.iload_n 1) 1, e0 (.aload_n 0) 1, (.getfield 263, 3, 11, 1, 0, 0, 0, 0), e1 (.if_icmp .le 15) 3 24]),
  (12, [e0 (.aload_n 0) 1, (.getfield 17, 3, 11, 9, 30, 192, 6, 1), e0 (.iconst 0) 1, e0 .dup2 1, e0 .iaload 1, e0 (.iconst 1) 1, e0 .iadd 1, e0 .iastore 1]),
  (22, [e0 (.iconst 0) 1, e0 .ireturn 1]),
  (24, [e0 (.aload_n 0) 1, e0 (.iload_n 1) 1, (.putfield 263, 3, 11, 1, 0, 0, 0, 0), e0 (.iconst 1) 1, e0 .ireturn 1])]

set_option maxRecDepth 100000 in
def pb_X12_fail : List (Nat × List EI) := [(0, [e0 (.aload_n 0) 1, (.getfield 266, 3, 11, 5, 0, 0, 0, 0), e1 (.ifCond .eq 4) 3 8, e0 .return_ 1]),
  (8, [e0 (.aload_n 0) 1, e0 (.iload_n 1) 1, (.putfield 266, 3, 11, 5, 0, 0, 0, 0), e0 (.aload_n 0) 1, e0 (.iload_n 2) 1, (.putfield 269, 3, 11, 6, 0, 0, 0, 0)]),
  (18, [e0 .return_ 1])]

set_option maxRecDepth 100000 in
def pb_X12_isLetter : List (Nat × List EI) := [(0, [e0 (.iload_n 0) 1, e0 (.bipush 97) 2, e1 (.if_icmp .lt 13) 3 16, e0 (.iload_n 0) 1, e0 (.bipush 122) 2, e1 (.if_icmp .gt 7) 3 16, e0 (.iconst 1) 1, e1 (.goto 4) 3 17]),
  (16, [e0 (.iconst 0) 1]),
  (17, [e0 .ireturn 1])]

set_option maxRecDepth 100000 in
def pb_X12_isDigit : List (Nat × List EI) := [(0, [e0 (.iload_n 0) 1, e0 (.bipush 48) 2, e1 (.if_icmp .lt 13) 3 16, e0 (.iload_n 0) 1, e0 (.bipush 57) 2, e1 (.if_icmp .gt 7) 3 16, e0 (.iconst 1) 1, e1 (.goto 4) 3 17]),
  (16, [e0 (.iconst 0) 1]),
  (17, [e0 .ireturn 1])]

set_option maxRecDepth 100000 in
def pb_X12_look : List (Nat × List EI) := [(0, [e0 (.aload_n 0) 1, (.getfield 272, 3, 11, 2, 0, 0, 0, 0), e0 (.aload_n 0) 1, (.getfield 275, 3, 11, 3, 0, 0, 0, 0), e1 (.if_icmp .ge 44) 3 52, e0 (.aload_n 0) 1, (.getfield 7, 3, 11, 0, 30, 191, 1600, 1), e0 (.aload_n 0) 1, (.getfield 272, 3, 11, 2, 0, 0, 0, 0), e0 .iaload 1, e0 (.bipush 10) 2, e1 (.if_icmp .eq 17) 3 39, e0 (.aload_n 0) 1, (.getfield 7, 3, 11, 0, 30, 191, 1600, 1), e0 (.aload_n 0) 1, (.getfield 272, 3, 11, 2, 0, 0, 0, 0), e0 .iaload 1, e0 (.bipush 32) 2, e1 (.if_icmp .ne 16) 3 52]),
  (39, [e0 (.aload_n 0) 1, e0 .dup 1, (.getfield 272, 3, 11, 2, 0, 0, 0, 0), e0 (.iconst 1) 1, e0 .iadd 1, (.putfield 272, 3, 11, 2, 0, 0, 0, 0)]),
  (49, [e0 (.goto (-49)) 3]),
  (52, [e0 (.aload_n 0) 1, (.getfield 272, 3, 11, 2, 0, 0, 0, 0), e0 (.aload_n 0) 1, (.getfield 275, 3, 11, 3, 0, 0, 0, 0), e1 (.if_icmp .ge 15) 3 75, e0 (.aload_n 0) 1, (.getfield 7, 3, 11, 0, 30, 191, 1600, 1), e0 (.aload_n 0) 1, (.getfield 272, 3, 11, 2, 0, 0, 0, 0), e0 .iaload 1, e1 (.goto 4) 3 76]),
  (75, [e0 (.iconst (-1)) 1]),
  (76, [e0 .ireturn 1])]

set_option maxRecDepth 100000 in
def pb_X12_isHere : List (Nat × List EI) := [(0, [e0 (.aload_n 0) 1, (.getfield 266, 3, 11, 5, 0, 0, 0, 0), e1 (.ifCond .ne 24) 3 28, e0 (.aload_n 0) 1, (.invokevirtual 278, 3, 155, 1, 11, 0, 0, 0), (.invokestatic 282, 3, 153, 1, 11, 0, 0, 0), e1 (.ifCond .eq 14) 3 28, e0 (.aload_n 0) 1, (.getfield 272, 3, 11, 2, 0, 0, 0, 0), e0 (.aload_n 0) 1, (.getfield 286, 3, 11, 4, 0, 0, 0, 0), e1 (.if_icmp .ne 5) 3 30]),
  (28, [e0 (.iconst 0) 1, e0 .ireturn 1]),
  (30, [e0 (.aload_n 0) 1, (.getfield 272, 3, 11, 2, 0, 0, 0, 0), e0 (.istore_n 2) 1]),
  (35, [e0 (.iload_n 2) 1, e0 (.aload_n 0) 1, (.getfield 275, 3, 11, 3, 0, 0, 0, 0), e1 (.if_icmp .ge 21) 3 61, e0 (.aload_n 0) 1, (.getfield 7, 3, 11, 0, 30, 191, 1600, 1), e0 (.iload_n 2) 1, e0 .iaload 1, (.invokestatic 282, 3, 153, 1, 11, 0, 0, 0), e1 (.ifCond .eq 9) 3 61, e0 (.iinc 2 1) 3, e1 (.goto (-23)) 3 35]),
  (61, [e0 (.iload_n 2) 1, e0 (.aload_n 0) 1, (.getfield 272, 3, 11, 2, 0, 0, 0, 0), e0 .isub 1, e0 (.aload_n 1) 1, e0 .arraylength 1, e1 (.if_icmp .eq 5) 3 74, e0 (.iconst 0) 1, e0 .ireturn 1]),
  (74, [e0 (.iconst 0) 1, e0 (.istore_n 3) 1]),
  (76, [e0 (.iload_n 3) 1, e0 (.aload_n 1) 1, e0 .arraylength 1, e1 (.if_icmp .ge 28) 3 107, e0 (.aload_n 0) 1, (.getfield 7, 3, 11, 0, 30, 191, 1600, 1), e0 (.aload_n 0) 1, (.getfield 272, 3, 11, 2, 0, 0, 0, 0), e0 (.iload_n 3) 1, e0 .iadd 1, e0 .iaload 1, e0 (.aload_n 1) 1, e0 (.iload_n 3) 1, e0 .caload 1, e1 (.if_icmp .eq 5) 3 101, e0 (.iconst 0) 1, e0 .ireturn 1]),
  (101, [e0 (.iinc 3 1) 3, e1 (.goto (-28)) 3 76]),
  (107, [e0 (.iconst 1) 1, e0 .ireturn 1])]

set_option maxRecDepth 100000 in
def pb_X12_takes : List (Nat × List EI) := [(0, [e0 (.aload_n 0) 1, e0 (.aload_n 1) 1, (.invokevirtual 289, 3, 156, 2, 11, 0, 0, 0), e1 (.ifCond .ne 5) 3 10, e0 (.iconst 0) 1, e0 .ireturn 1]),
  (10, [e0 (.aload_n 0) 1, e0 .dup 1, (.getfield 272, 3, 11, 2, 0, 0, 0, 0), e0 (.aload_n 1) 1, e0 .arraylength 1, e0 .iadd 1, (.putfield 272, 3, 11, 2, 0, 0, 0, 0)]),
  (21, [e0 (.aload_n 0) 1, e0 (.aload_n 0) 1, (.getfield 272, 3, 11, 2, 0, 0, 0, 0), (.putfield 286, 3, 11, 4, 0, 0, 0, 0), e0 (.iconst 1) 1, e0 .ireturn 1])]

set_option maxRecDepth 100000 in
def pb_X12_asks : List (Nat × List EI) := [(0, [e0 (.aload_n 0) 1, (.getfield 266, 3, 11, 5, 0, 0, 0, 0), e1 (.ifCond .ne 20) 3 24, e0 (.aload_n 0) 1, e0 (.aload_n 1) 1, (.invokevirtual 293, 3, 157, 2, 11, 0, 0, 0), e1 (.ifCond .ne 12) 3 24, e0 (.aload_n 0) 1, e0 (.iconst 1) 1, e0 (.aload_n 0) 1, (.getfield 272, 3, 11, 2, 0, 0, 0, 0), (.invokevirtual 296, 3, 152, 3, 11, 0, 3, 0)]),
  (24, [e0 .return_ 1])]

set_option maxRecDepth 100000 in
def pb_X12_takesSign : List (Nat × List EI) := [(0, [e0 (.aload_n 0) 1, (.getfield 266, 3, 11, 5, 0, 0, 0, 0), e1 (.ifCond .ne 11) 3 15, e0 (.aload_n 0) 1, (.invokevirtual 278, 3, 155, 1, 11, 0, 0, 0), e0 (.iload_n 1) 1, e1 (.if_icmp .eq 5) 3 17]),
  (15, [e0 (.iconst 0) 1, e0 .ireturn 1]),
  (17, [e0 (.aload_n 0) 1, e0 .dup 1, (.getfield 272, 3, 11, 2, 0, 0, 0, 0), e0 (.iconst 1) 1, e0 .iadd 1, (.putfield 272, 3, 11, 2, 0, 0, 0, 0)]),
  (27, [e0 (.iconst 1) 1, e0 .ireturn 1])]

set_option maxRecDepth 100000 in
def pb_X12_asksSign : List (Nat × List EI) := [(0, [e0 (.aload_n 0) 1, (.getfield 266, 3, 11, 5, 0, 0, 0, 0), e1 (.ifCond .ne 20) 3 24, e0 (.aload_n 0) 1, e0 (.iload_n 1) 1, (.invokevirtual 300, 3, 159, 2, 11, 0, 0, 0), e1 (.ifCond .ne 12) 3 24, e0 (.aload_n 0) 1, e0 (.iconst 1) 1, e0 (.aload_n 0) 1, (.getfield 272, 3, 11, 2, 0, 0, 0, 0), (.invokevirtual 296, 3, 152, 3, 11, 0, 3, 0)]),
  (24, [e0 .return_ 1])]

set_option maxRecDepth 100000 in
def pb_X12_number : List (Nat × List EI) := [(0, [e0 (.aload_n 0) 1, (.getfield 266, 3, 11, 5, 0, 0, 0, 0), e1 (.ifCond .eq 5) 3 9, e0 (.iconst 0) 1, e0 .ireturn 1]),
  (9, [e0 (.aload_n 0) 1, (.invokevirtual 278, 3, 155, 1, 11, 0, 0, 0), (.invokestatic 303, 3, 154, 1, 11, 0, 0, 0), e1 (.ifCond .eq 14) 3 30, e0 (.aload_n 0) 1, (.getfield 272, 3, 11, 2, 0, 0, 0, 0), e0 (.aload_n 0) 1, (.getfield 286, 3, 11, 4, 0, 0, 0, 0), e1 (.if_icmp .ne 14) 3 41]),
  (30, [e0 (.aload_n 0) 1, e0 (.iconst 1) 1, e0 (.aload_n 0) 1, (.getfield 272, 3, 11, 2, 0, 0, 0, 0), (.invokevirtual 296, 3, 152, 3, 11, 0, 3, 0), e0 (.iconst 0) 1, e0 .ireturn 1]),
  (41, [e0 (.aload_n 0) 1, (.getfield 272, 3, 11, 2, 0, 0, 0, 0), e0 (.istore_n 3) 1, e0 (.iconst 0) 1, e0 (.istore 4) 2]),
  (49, [e0 (.aload_n 0) 1, (.getfield 272, 3, 11, 2, 0, 0, 0, 0), e0 (.aload_n 0) 1, (.getfield 275, 3, 11, 3, 0, 0, 0, 0), e1 (.if_icmp .ge 72) 3 129, e0 (.aload_n 0) 1, (.getfield 7, 3, 11, 0, 30, 191, 1600, 1), e0 (.aload_n 0) 1, (.getfield 272, 3, 11, 2, 0, 0, 0, 0), e0 .iaload 1, (.invokestatic 303, 3, 154, 1, 11, 0, 0, 0), e1 (.ifCond .eq 57) 3 129, e0 (.aload_n 0) 1, (.getfield 272, 3, 11, 2, 0, 0, 0, 0), e0 (.iload_n 3) 1, e0 .isub 1, e0 (.iconst 4) 1, e1 (.if_icmp .ne 14) 3 96, e0 (.aload_n 0) 1, e0 (.iconst 1) 1, e0 (.aload_n 0) 1, (.getfield 272, 3, 11, 2, 0, 0, 0, 0), (.invokevirtual 296, 3, 152, 3, 11, 0, 3, 0)]),
  (94, [e0 (.iconst 0) 1, e0 .ireturn 1]),
  (96, [e0 (.bipush 10) 2, e0 (.iload 4) 2, e0 .imul 1, e0 (.aload_n 0) 1, (.getfield 7, 3, 11, 0, 30, 191, 1600, 1), e0 (.aload_n 0) 1, (.getfield 272, 3, 11, 2, 0, 0, 0, 0), e0 .iaload 1, e0 .iadd 1, e0 (.bipush 48) 2, e0 .isub 1, e0 (.istore 4) 2, e0 (.aload_n 0) 1, e0 .dup 1, (.getfield 272, 3, 11, 2, 0, 0, 0, 0), e0 (.iconst 1) 1, e0 .iadd 1, (.putfield 272, 3, 11, 2, 0, 0, 0, 0)]),
  (126, [e1 (.goto (-77)) 3 49]),
  (129, [e0 (.aload_n 0) 1, e0 (.aload_n 0) 1, (.getfield 272, 3, 11, 2, 0, 0, 0, 0), (.putfield 286, 3, 11, 4, 0, 0, 0, 0), e0 (.aload_n 0) 1, e0 (.iload_n 3) 1, (.putfield 306, 3, 11, 10, 0, 0, 0, 0)]),
  (142, [e0 (.iload 4) 2, e0 .i2l 1, e0 (.iload_n 1) 1, e0 .i2l 1, e0 (.iload_n 2) 1, e0 .i2l 1, (.invokestatic 309, 3, 149, 3, 11, 0, 0, 0), e1 (.ifCond .ne 9) 3 161, e0 (.aload_n 0) 1, e0 (.iconst 2) 1, e0 (.iload_n 3) 1, (.invokevirtual 296, 3, 152, 3, 11, 0, 3, 0)]),
  (161, [e0 (.iload 4) 2, e0 .ireturn 1])]

set_option maxRecDepth 100000 in
def pb_X12_isOwnHere : List (Nat × List EI) := [(0, [e0 (.aload_n 0) 1, e0 (.aload_n 0) 1, (.getfield 20, 3, 11, 11, 32, 193, 4, 1), (.invokevirtual 289, 3, 156, 2, 11, 0, 0, 0), e1 (.ifCond .ne 58) 3 66, e0 (.aload_n 0) 1, e0 (.aload_n 0) 1, (.getfield 24, 3, 11, 12, 32, 194, 6, 1), (.invokevirtual 289, 3, 156, 2, 11, 0, 0, 0), e1 (.ifCond .ne 47) 3 66, e0 (.aload_n 0) 1, e0 (.aload_n 0) 1, (.getfield 27, 3, 11, 13, 32, 195, 5, 1), (.invokevirtual 289, 3, 156, 2, 11, 0, 0, 0), e1 (.ifCond .ne 36) 3 66, e0 (.aload_n 0) 1, e0 (.aload_n 0) 1, (.getfield 30, 3, 11, 14, 32, 196, 6, 1), (.invokevirtual 289, 3, 156, 2, 11, 0, 0, 0), e1 (.ifCond .ne 25) 3 66, e0 (.aload_n 0) 1, e0 (.aload_n 0) 1, (.getfield 33, 3, 11, 15, 32, 197, 3, 1), (.invokevirtual 289, 3, 156, 2, 11, 0, 0, 0), e1 (.ifCond .ne 14) 3 66, e0 (.aload_n 0) 1, e0 (.aload_n 0) 1, (.getfield 36, 3, 11, 16, 32, 198, 5, 1), (.invokevirtual 289, 3, 156, 2, 11, 0, 0, 0), e1 (.ifCond .eq 7) 3 70]),
  (66, [e0 (.iconst 1) 1, e1 (.goto 4) 3 71]),
  (70, [e0 (.iconst 0) 1]),
  (71, [e0 (.istore_n 1) 1, e0 (.iload_n 1) 1, e1 (.ifCond .ne 69) 3 142, e0 (.aload_n 0) 1, e0 (.aload_n 0) 1, (.getfield 39, 3, 11, 17, 32, 199, 5, 1), (.invokevirtual 289, 3, 156, 2, 11, 0, 0, 0), e1 (.ifCond .ne 58) 3 142, e0 (.aload_n 0) 1, e0 (.aload_n 0) 1, (.getfield 42, 3, 11, 18, 32, 200, 6, 1), (.invokevirtual 289, 3, 156, 2, 11, 0, 0, 0), e1 (.ifCond .ne 47) 3 142, e0 (.aload_n 0) 1, e0 (.aload_n 0) 1, (.getfield 45, 3, 11, 19, 32, 201, 2, 1), (.invokevirtual 289, 3, 156, 2, 11, 0, 0, 0), e1 (.ifCond .ne 36) 3 142, e0 (.aload_n 0) 1, e0 (.aload_n 0) 1, (.getfield 48, 3, 11, 20, 32, 202, 5, 1), (.invokevirtual 289, 3, 156, 2, 11, 0, 0, 0), e1 (.ifCond .ne 25) 3 142, e0 (.aload_n 0) 1, e0 (.aload_n 0) 1, (.getfield 51, 3, 11, 21, 32, 203, 5, 1), (.invokevirtual 289, 3, 156, 2, 11, 0, 0, 0), e1 (.ifCond .ne 14) 3 142, e0 (.aload_n 0) 1, e0 (.aload_n 0) 1, (.getfield 54, 3, 11, 22, 32, 204, 5, 1), (.invokevirtual 289, 3, 156, 2, 11, 0, 0, 0), e1 (.ifCond .eq 7) 3 146]),
  (142, [e0 (.iconst 1) 1, e1 (.goto 4) 3 147]),
  (146, [e0 (.iconst 0) 1]),
  (147, [e0 (.istore_n 1) 1, e0 (.iload_n 1) 1, e1 (.ifCond .ne 69) 3 218, e0 (.aload_n 0) 1, e0 (.aload_n 0) 1, (.getfield 57, 3, 11, 23, 32, 205, 4, 1), (.invokevirtual 289, 3, 156, 2, 11, 0, 0, 0), e1 (.ifCond .ne 58) 3 218, e0 (.aload_n 0) 1, e0 (.aload_n 0) 1, (.getfield 60, 3, 11, 24, 32, 206, 4, 1), (.invokevirtual 289, 3, 156, 2, 11, 0, 0, 0), e1 (.ifCond .ne 47) 3 218, e0 (.aload_n 0) 1, e0 (.aload_n 0) 1, (.getfield 63, 3, 11, 25, 32, 207, 4, 1), (.invokevirtual 289, 3, 156, 2, 11, 0, 0, 0), e1 (.ifCond .ne 36) 3 218, e0 (.aload_n 0) 1, e0 (.aload_n 0) 1, (.getfield 66, 3, 11, 26, 32, 208, 5, 1), (.invokevirtual 289, 3, 156, 2, 11, 0, 0, 0), e1 (.ifCond .ne 25) 3 218, e0 (.aload_n 0) 1, e0 (.aload_n 0) 1, (.getfield 69, 3, 11, 27, 32, 209, 5, 1), (.invokevirtual 289, 3, 156, 2, 11, 0, 0, 0), e1 (.ifCond .ne 14) 3 218, e0 (.aload_n 0) 1, e0 (.aload_n 0) 1, (.getfield 72, 3, 11, 28, 32, 210, 5, 1), (.invokevirtual 289, 3, 156, 2, 11, 0, 0, 0), e1 (.ifCond .eq 7) 3 222]),
  (218, [e0 (.iconst 1) 1, e1 (.goto 4) 3 223]),
  (222, [e0 (.iconst 0) 1]),
  (223, [e0 (.istore_n 1) 1, e0 (.iload_n 1) 1, e1 (.ifCond .ne 69) 3 294, e0 (.aload_n 0) 1, e0 (.aload_n 0) 1, (.getfield 75, 3, 11, 29, 32, 211, 4, 1), (.invokevirtual 289, 3, 156, 2, 11, 0, 0, 0), e1 (.ifCond .ne 58) 3 294, e0 (.aload_n 0) 1, e0 (.aload_n 0) 1, (.getfield 78, 3, 11, 30, 32, 212, 5, 1), (.invokevirtual 289, 3, 156, 2, 11, 0, 0, 0), e1 (.ifCond .ne 47) 3 294, e0 (.aload_n 0) 1, e0 (.aload_n 0) 1, (.getfield 81, 3, 11, 31, 32, 213, 5, 1), (.invokevirtual 289, 3, 156, 2, 11, 0, 0, 0), e1 (.ifCond .ne 36) 3 294, e0 (.aload_n 0) 1, e0 (.aload_n 0) 1, (.getfield 84, 3, 11, 32, 32, 214, 6, 1), (.invokevirtual 289, 3, 156, 2, 11, 0, 0, 0), e1 (.ifCond .ne 25) 3 294, e0 (.aload_n 0) 1, e0 (.aload_n 0) 1, (.getfield 87, 3, 11, 33, 32, 215, 6, 1), (.invokevirtual 289, 3, 156, 2, 11, 0, 0, 0), e1 (.ifCond .ne 14) 3 294, e0 (.aload_n 0) 1, e0 (.aload_n 0) 1, (.getfield 90, 3, 11, 34, 32, 216, 5, 1), (.invokevirtual 289, 3, 156, 2, 11, 0, 0, 0), e1 (.ifCond .eq 7) 3 298]),
  (294, [e0 (.iconst 1) 1, e1 (.goto 4) 3 299]),
  (298, [e0 (.iconst 0) 1]),
  (299, [e0 (.istore_n 1) 1, e0 (.iload_n 1) 1, e1 (.ifCond .ne 69) 3 370, e0 (.aload_n 0) 1, e0 (.aload_n 0) 1, (.getfield 93, 3, 11, 35, 32, 217, 2, 1), (.invokevirtual 289, 3, 156, 2, 11, 0, 0, 0), e1 (.ifCond .ne 58) 3 370, e0 (.aload_n 0) 1, e0 (.aload_n 0) 1, (.getfield 96, 3, 11, 36, 32, 218, 3, 1), (.invokevirtual 289, 3, 156, 2, 11, 0, 0, 0), e1 (.ifCond .ne 47) 3 370, e0 (.aload_n 0) 1, e0 (.aload_n 0) 1, (.getfield 99, 3, 11, 37, 32, 219, 3, 1), (.invokevirtual 289, 3, 156, 2, 11, 0, 0, 0), e1 (.ifCond .ne 36) 3 370, e0 (.aload_n 0) 1, e0 (.aload_n 0) 1, (.getfield 102, 3, 11, 38, 32, 220, 3, 1), (.invokevirtual 289, 3, 156, 2, 11, 0, 0, 0), e1 (.ifCond .ne 25) 3 370, e0 (.aload_n 0) 1, e0 (.aload_n 0) 1, (.getfield 105, 3, 11, 39, 32, 221, 3, 1), (.invokevirtual 289, 3, 156, 2, 11, 0, 0, 0), e1 (.ifCond .ne 14) 3 370, e0 (.aload_n 0) 1, e0 (.aload_n 0) 1, (.getfield 108, 3, 11, 40, 32, 222, 3, 1), (.invokevirtual 289, 3, 156, 2, 11, 0, 0, 0), e1 (.ifCond .eq 7) 3 374]),
  (370, [e0 (.iconst 1) 1, e1 (.goto 4) 3 375]),
  (374, [e0 (.iconst 0) 1]),
  (375, [e0 (.istore_n 1) 1, e0 (.iload_n 1) 1, e1 (.ifCond .ne 14) 3 391, e0 (.aload_n 0) 1, e0 (.aload_n 0) 1, (.getfield 111, 3, 11, 41, 32, 223, 6, 1), (.invokevirtual 289, 3, 156, 2, 11, 0, 0, 0), e1 (.ifCond .eq 7) 3 395]),
  (391, [e0 (.iconst 1) 1, e1 (.goto 4) 3 396]),
  (395, [e0 (.iconst 0) 1]),
  (396, [e0 (.istore_n 1) 1, e0 (.iload_n 1) 1, e0 .ireturn 1])]

set_option maxRecDepth 100000 in
def pb_X12_name : List (Nat × List EI) := [(0, [e0 (.aload_n 0) 1, (.getfield 266, 3, 11, 5, 0, 0, 0, 0), e1 (.ifCond .eq 5) 3 9, e0 (.lconst 0) 1, e0 .lreturn 1]),
  (9, [e0 (.aload_n 0) 1, (.invokevirtual 278, 3, 155, 1, 11, 0, 0, 0), (.invokestatic 282, 3, 153, 1, 11, 0, 0, 0), e1 (.ifCond .eq 21) 3 37, e0 (.aload_n 0) 1, (.getfield 272, 3, 11, 2, 0, 0, 0, 0), e0 (.aload_n 0) 1, (.getfield 286, 3, 11, 4, 0, 0, 0, 0), e1 (.if_icmp .eq 10) 3 37, e0 (.aload_n 0) 1, (.invokevirtual 313, 3, 162, 1, 11, 0, 0, 0), e1 (.ifCond .eq 14) 3 48]),
  (37, [e0 (.aload_n 0) 1, e0 (.iconst 1) 1, e0 (.aload_n 0) 1, (.getfield 272, 3, 11, 2, 0, 0, 0, 0), (.invokevirtual 296, 3, 152, 3, 11, 0, 3, 0), e0 (.lconst 0) 1, e0 .lreturn 1]),
  (48, [e0 (.aload_n 0) 1, e0 (.aload_n 0) 1, (.getfield 272, 3, 11, 2, 0, 0, 0, 0), (.putfield 317, 3, 11, 42, 0, 0, 0, 0), e0 (.lconst 0) 1, e0 (.lstore_n 1) 1]),
  (58, [e0 (.aload_n 0) 1, (.getfield 272, 3, 11, 2, 0, 0, 0, 0), e0 (.aload_n 0) 1, (.getfield 275, 3, 11, 3, 0, 0, 0, 0), e1 (.if_icmp .ge 79) 3 145, e0 (.aload_n 0) 1, (.getfield 7, 3, 11, 0, 30, 191, 1600, 1), e0 (.aload_n 0) 1, (.getfield 272, 3, 11, 2, 0, 0, 0, 0), e0 .iaload 1, (.invokestatic 282, 3, 153, 1, 11, 0, 0, 0), e1 (.ifCond .eq 64) 3 145, e0 (.aload_n 0) 1, (.getfield 272, 3, 11, 2, 0, 0, 0, 0), e0 (.aload_n 0) 1, (.getfield 317, 3, 11, 42, 0, 0, 0, 0), e0 .isub 1, e0 (.bipush 6) 2, e1 (.if_icmp .ne 14) 3 109, e0 (.aload_n 0) 1, e0 (.iconst 1) 1, e0 (.aload_n 0) 1, (.getfield 272, 3, 11, 2, 0, 0, 0, 0), (.invokevirtual 296, 3, 152, 3, 11, 0, 3, 0)]),
  (107, [e0 (.lconst 0) 1, e0 .lreturn 1]),
  (109, [(.ldc2_w 320, 3, 0, 0, 0, 0, 0, 27), e0 (.lload_n 1) 1, e0 .lmul 1, e0 (.aload_n 0) 1, (.getfield 7, 3, 11, 0, 30, 191, 1600, 1), e0 (.aload_n 0) 1, (.getfield 272, 3, 11, 2, 0, 0, 0, 0), e0 .iaload 1, e0 .i2l 1, e0 .ladd 1, (.ldc2_w 322, 3, 0, 0, 0, 0, 0, 97), e0 .lsub 1, e0 (.lconst 1) 1, e0 .ladd 1, e0 (.lstore_n 1) 1, e0 (.aload_n 0) 1, e0 .dup 1, (.getfield 272, 3, 11, 2, 0, 0, 0, 0), e0 (.iconst 1) 1, e0 .iadd 1, (.putfield 272, 3, 11, 2, 0, 0, 0, 0)]),
  (142, [e1 (.goto (-84)) 3 58]),
  (145, [e0 (.aload_n 0) 1, e0 (.aload_n 0) 1, (.getfield 272, 3, 11, 2, 0, 0, 0, 0), (.putfield 286, 3, 11, 4, 0, 0, 0, 0), e0 (.lload_n 1) 1, e0 .lreturn 1])]

set_option maxRecDepth 100000 in
def pb_X12_isFull : List (Nat × List EI) := [(0, [e0 (.aload_n 0) 1, (.getfield 266, 3, 11, 5, 0, 0, 0, 0), e1 (.ifCond .ne 19) 3 23, e0 (.aload_n 0) 1, (.getfield 114, 3, 11, 43, 30, 224, 12, 1), e0 (.iload_n 1) 1, e0 .iaload 1, e0 (.iload_n 2) 1, e1 (.if_icmp .ne 9) 3 23, e0 (.aload_n 0) 1, e0 (.iconst 5) 1, e0 (.iload_n 3) 1, (.invokevirtual 296, 3, 152, 3, 11, 0, 3, 0)]),
  (23, [e0 (.aload_n 0) 1, (.getfield 266, 3, 11, 5, 0, 0, 0, 0), e1 (.ifCond .eq 7) 3 34, e0 (.iconst 1) 1, e1 (.goto 4) 3 35]),
  (34, [e0 (.iconst 0) 1]),
  (35, [e0 .ireturn 1])]

set_option maxRecDepth 100000 in
def pb_X12_nameOf : List (Nat × List EI) := [(0, [e0 (.iconst 0) 1, e0 (.istore 4) 2]),
  (3, [e0 (.iload 4) 2, e0 (.aload_n 0) 1, (.getfield 114, 3, 11, 43, 30, 224, 12, 1), e0 (.iload_n 1) 1, e0 .iaload 1, e1 (.if_icmp .ge 29) 3 40, e0 (.aload_n 0) 1, (.getfield 117, 3, 11, 44, 31, 225, 48, 1), e0 (.bipush 8) 2, e0 (.iload_n 1) 1, e0 .imul 1, e0 (.iload 4) 2, e0 .iadd 1, e0 .laload 1, e0 (.lload_n 2) 1, e0 .lcmp 1, e1 (.ifCond .ne 6) 3 34, e0 (.iload 4) 2, e0 .ireturn 1]),
  (34, [e0 (.iinc 4 1) 3, e1 (.goto (-34)) 3 3]),
  (40, [e0 (.iconst (-1)) 1, e0 .ireturn 1])]

set_option maxRecDepth 100000 in
def pb_X12_newName : List (Nat × List EI) := [(0, [e0 (.aload_n 0) 1, (.invokevirtual 324, 3, 163, 1, 11, 0, 1, 0), e0 (.lstore_n 1) 1, e0 (.iconst 0) 1, e0 (.istore_n 3) 1]),
  (7, [e0 (.iload_n 3) 1, e0 (.iconst 3) 1, e1 (.if_icmp .ge 35) 3 44, e0 (.aload_n 0) 1, (.getfield 266, 3, 11, 5, 0, 0, 0, 0), e1 (.ifCond .ne 22) 3 38, e0 (.aload_n 0) 1, e0 (.iload_n 3) 1, e0 (.lload_n 1) 1, (.invokevirtual 328, 3, 165, 3, 11, 0, 0, 0), e0 (.iconst (-1)) 1, e1 (.if_icmp .eq 12) 3 38, e0 (.aload_n 0) 1, e0 (.iconst 3) 1, e0 (.aload_n 0) 1, (.getfield 317, 3, 11, 42, 0, 0, 0, 0), (.invokevirtual 296, 3, 152, 3, 11, 0, 3, 0)]),
  (38, [e0 (.iinc 3 1) 3, e1 (.goto (-34)) 3 7]),
  (44, [e0 (.lload_n 1) 1, e0 .lreturn 1])]

set_option maxRecDepth 100000 in
def pb_X12_hallTold : List (Nat × List EI) := [(0, [e0 (.aload_n 0) 1, e0 (.aload_n 0) 1, (.getfield 20, 3, 11, 11, 32, 193, 4, 1), (.invokevirtual 332, 3, 158, 2, 11, 0, 3, 0), e0 (.aload_n 0) 1, (.getfield 114, 3, 11, 43, 30, 224, 12, 1), e0 (.iconst 5) 1, e0 (.aload_n 0) 1, e0 (.iconst 2) 1, e0 (.bipush 9) 2, (.invokevirtual 336, 3, 161, 3, 11, 0, 0, 0), e0 .iastore 1]),
  (21, [e0 (.aload_n 0) 1, e0 (.bipush 59) 2, (.invokevirtual 340, 3, 160, 2, 11, 0, 3, 0), e0 .return_ 1])]

set_option maxRecDepth 100000 in
def pb_X12_partyHere : List (Nat × List EI) := [(0, [e0 (.aload_n 0) 1, e0 (.aload_n 0) 1, (.getfield 36, 3, 11, 16, 32, 198, 5, 1), (.invokevirtual 293, 3, 157, 2, 11, 0, 0, 0), e1 (.ifCond .eq 5) 3 13, e0 (.iconst 0) 1, e0 .ireturn 1]),
  (13, [e0 (.aload_n 0) 1, e0 (.aload_n 0) 1, (.getfield 39, 3, 11, 17, 32, 199, 5, 1), (.invokevirtual 293, 3, 157, 2, 11, 0, 0, 0), e1 (.ifCond .eq 5) 3 26, e0 (.iconst 1) 1, e0 .ireturn 1]),
  (26, [e0 (.aload_n 0) 1, e0 (.aload_n 0) 1, (.getfield 42, 3, 11, 18, 32, 200, 6, 1), (.invokevirtual 332, 3, 158, 2, 11, 0, 3, 0), e0 (.iconst 2) 1, e0 .ireturn 1])]

set_option maxRecDepth 100000 in
def pb_X12_personTold : List (Nat × List EI) := [(0, [e0 (.aload_n 0) 1, e0 (.iconst 0) 1, e0 (.bipush 8) 2, e0 (.iload_n 1) 1, (.invokevirtual 344, 3, 164, 4, 11, 0, 0, 0), e1 (.ifCond .eq 4) 3 12, e0 .return_ 1]),
  (12, [e0 (.aload_n 0) 1, (.invokevirtual 348, 3, 166, 1, 11, 0, 1, 0), e0 (.lstore_n 2) 1, e0 (.aload_n 0) 1, e0 (.aload_n 0) 1, (.getfield 27, 3, 11, 13, 32, 195, 5, 1), (.invokevirtual 332, 3, 158, 2, 11, 0, 3, 0), e0 (.aload_n 0) 1, e0 (.iconst 1) 1, e0 (.bipush 99) 2, (.invokevirtual 336, 3, 161, 3, 11, 0, 0, 0), e0 (.istore 4) 2, e0 (.aload_n 0) 1, e0 (.aload_n 0) 1, (.getfield 30, 3, 11, 14, 32, 196, 6, 1), (.invokevirtual 332, 3, 158, 2, 11, 0, 3, 0), e0 (.aload_n 0) 1, e0 (.iconst 0) 1, e0 (.bipush 100) 2, (.invokevirtual 336, 3, 161, 3, 11, 0, 0, 0), e0 (.istore 5) 2, e0 (.aload_n 0) 1, e0 (.aload_n 0) 1, (.getfield 33, 3, 11, 15, 32, 197, 3, 1), (.invokevirtual 332, 3, 158, 2, 11, 0, 3, 0)]),
  (59, [e0 (.aload_n 0) 1, (.invokevirtual 351, 3, 168, 1, 11, 0, 0, 0), e0 (.istore 6) 2, e0 (.aload_n 0) 1, e0 (.aload_n 0) 1, (.getfield 45, 3, 11, 19, 32, 201, 2, 1), (.invokevirtual 332, 3, 158, 2, 11, 0, 3, 0), e0 (.aload_n 0) 1, e0 (.iconst 0) 1, e0 (.aload_n 0) 1, (.getfield 114, 3, 11, 43, 30, 224, 12, 1), e0 (.iconst 5) 1, e0 .iaload 1, e0 (.iconst 1) 1, e0 .isub 1, (.invokevirtual 336, 3, 161, 3, 11, 0, 0, 0), e0 (.istore 7) 2, e0 (.iconst 0) 1, e0 (.istore 8) 2]),
  (91, [e0 (.iload 8) 2, e0 (.aload_n 0) 1, (.getfield 114, 3, 11, 43, 30, 224, 12, 1), e0 (.iconst 0) 1, e0 .iaload 1, e1 (.if_icmp .ge 41) 3 140, e0 (.aload_n 0) 1, (.getfield 266, 3, 11, 5, 0, 0, 0, 0), e1 (.ifCond .ne 28) 3 134, e0 (.aload_n 0) 1, (.getfield 121, 3, 11, 45, 30, 226, 64, 1), e0 (.iconst 4) 1, e0 (.iload 8) 2, e0 .imul 1, e0 (.iconst 3) 1, e0 .iadd 1, e0 .iaload 1, e0 (.iload 7) 2, e1 (.if_icmp .ne 12) 3 134, e0 (.aload_n 0) 1, e0 (.iconst 2) 1, e0 (.aload_n 0) 1, (.getfield 306, 3, 11, 10, 0, 0, 0, 0), (.invokevirtual 296, 3, 152, 3, 11, 0, 3, 0)]),
  (134, [e0 (.iinc 8 1) 3, e1 (.goto (-46)) 3 91]),
  (140, [e0 (.aload_n 0) 1, (.getfield 266, 3, 11, 5, 0, 0, 0, 0), e1 (.ifCond .eq 4) 3 148, e0 .return_ 1]),
  (148, [e0 (.iconst 4) 1, e0 (.aload_n 0) 1, (.getfield 114, 3, 11, 43, 30, 224, 12, 1), e0 (.iconst 0) 1, e0 .iaload 1, e0 .imul 1, e0 (.istore 8) 2, e0 (.aload_n 0) 1, (.getfield 117, 3, 11, 44, 31, 225, 48, 1), e0 (.aload_n 0) 1, (.getfield 114, 3, 11, 43, 30, 224, 12, 1), e0 (.iconst 0) 1, e0 .iaload 1, e0 (.lload_n 2) 1, e0 .lastore 1]),
  (170, [e0 (.aload_n 0) 1, (.getfield 121, 3, 11, 45, 30, 226, 64, 1), e0 (.iload 8) 2, e0 (.iload 4) 2, e0 .iastore 1, e0 (.aload_n 0) 1, (.getfield 121, 3, 11, 45, 30, 226, 64, 1), e0 (.iload 8) 2, e0 (.iconst 1) 1, e0 .iadd 1, e0 (.iload 5) 2, e0 .iastore 1]),
  (190, [e0 (.aload_n 0) 1, (.getfield 121, 3, 11, 45, 30, 226, 64, 1), e0 (.iload 8) 2, e0 (.iconst 2) 1, e0 .iadd 1, e0 (.iload 6) 2, e0 .iastore 1]),
  (201, [e0 (.aload_n 0) 1, (.getfield 121, 3, 11, 45, 30, 226, 64, 1), e0 (.iload 8) 2, e0 (.iconst 3) 1, e0 .iadd 1, e0 (.iload 7) 2, e0 .iastore 1]),
  (212, [e0 (.aload_n 0) 1, (.getfield 114, 3, 11, 43, 30, 224, 12, 1), e0 (.iconst 0) 1, e0 .dup2 1, e0 .iaload 1, e0 (.iconst 1) 1, e0 .iadd 1, e0 .iastore 1]),
  (222, [e0 .return_ 1])]

set_option maxRecDepth 100000 in
def pb_X12_sitterHere : List (Nat × List EI) := [(0, [e0 (.aload_n 0) 1, (.invokevirtual 324, 3, 163, 1, 11, 0, 1, 0), e0 (.lstore_n 1) 1, e0 (.aload_n 0) 1, e0 (.iconst 0) 1, e0 (.lload_n 1) 1, (.invokevirtual 328, 3, 165, 3, 11, 0, 0, 0), e0 (.istore_n 3) 1, e0 (.aload_n 0) 1, e0 (.iconst 1) 1, e0 (.lload_n 1) 1, (.invokevirtual 328, 3, 165, 3, 11, 0, 0, 0), e0 (.istore 4) 2, e0 (.aload_n 0) 1, (.getfield 266, 3, 11, 5, 0, 0, 0, 0), e1 (.ifCond .ne 23) 3 47, e0 (.iload_n 3) 1, e0 (.iconst (-1)) 1, e1 (.if_icmp .ne 18) 3 47, e0 (.iload 4) 2, e0 (.iconst (-1)) 1, e1 (.if_icmp .ne 12) 3 47, e0 (.aload_n 0) 1, e0 (.iconst 3) 1, e0 (.aload_n 0) 1, (.getfield 317, 3, 11, 42, 0, 0, 0, 0), (.invokevirtual 296, 3, 152, 3, 11, 0, 3, 0)]),
  (47, [e0 (.aload_n 0) 1, (.getfield 266, 3, 11, 5, 0, 0, 0, 0), e1 (.ifCond .eq 7) 3 58, e0 (.iconst 0) 1, e1 (.goto 17) 3 72]),
  (58, [e0 (.iload_n 3) 1, e0 (.iconst (-1)) 1, e1 (.if_icmp .eq 7) 3 67, e0 (.iload_n 3) 1, e1 (.goto 8) 3 72]),
  (67, [e0 (.bipush 10) 2, e0 (.iload 4) 2, e0 .iadd 1]),
  (72, [e0 .ireturn 1])]

set_option maxRecDepth 100000 in
def pb_X12_hatredTold : List (Nat × List EI) := [(0, [e0 (.aload_n 0) 1, e0 (.iconst 4) 1, e0 (.bipush 12) 2, e0 (.iload_n 1) 1, (.invokevirtual 344, 3, 164, 4, 11, 0, 0, 0), e1 (.ifCond .eq 4) 3 12, e0 .return_ 1]),
  (12, [e0 (.aload_n 0) 1, (.invokevirtual 354, 3, 170, 1, 11, 0, 0, 0), e0 (.istore_n 2) 1, e0 (.aload_n 0) 1, (.invokevirtual 354, 3, 170, 1, 11, 0, 0, 0), e0 (.istore_n 3) 1, e0 (.aload_n 0) 1, (.getfield 266, 3, 11, 5, 0, 0, 0, 0), e1 (.ifCond .ne 31) 3 57, e0 (.iload_n 2) 1, e0 (.iload_n 3) 1, e1 (.if_icmp .eq 17) 3 48, e0 (.aload_n 0) 1, (.getfield 133, 3, 11, 49, 30, 230, 32, 1), e0 (.iload_n 2) 1, e0 .iaload 1, e0 (.iload_n 3) 1, e0 .ishr 1, e0 (.iconst 1) 1, e0 .iand 1, e0 (.iconst 1) 1, e1 (.if_icmp .ne 12) 3 57]),
  (48, [e0 (.aload_n 0) 1, e0 (.iconst 3) 1, e0 (.aload_n 0) 1, (.getfield 317, 3, 11, 42, 0, 0, 0, 0), (.invokevirtual 296, 3, 152, 3, 11, 0, 3, 0)]),
  (57, [e0 (.aload_n 0) 1, (.getfield 266, 3, 11, 5, 0, 0, 0, 0), e1 (.ifCond .eq 4) 3 65, e0 .return_ 1]),
  (65, [e0 (.aload_n 0) 1, (.getfield 133, 3, 11, 49, 30, 230, 32, 1), e0 (.iload_n 2) 1, e0 .dup2 1, e0 .iaload 1, e0 (.iconst 1) 1, e0 (.iload_n 3) 1, e0 .ishl 1, e0 .ior 1, e0 .iastore 1]),
  (77, [e0 (.aload_n 0) 1, (.getfield 114, 3, 11, 43, 30, 224, 12, 1), e0 (.iconst 4) 1, e0 .dup2 1, e0 .iaload 1, e0 (.iconst 1) 1, e0 .iadd 1, e0 .iastore 1]),
  (87, [e0 .return_ 1])]

set_option maxRecDepth 100000 in
def pb_X12_pointTold : List (Nat × List EI) := [(0, [e0 (.aload_n 0) 1, e0 (.iconst 2) 1, e0 (.iconst 4) 1, e0 (.iload_n 1) 1, (.invokevirtual 344, 3, 164, 4, 11, 0, 0, 0), e1 (.ifCond .eq 4) 3 11, e0 .return_ 1]),
  (11, [e0 (.aload_n 0) 1, (.invokevirtual 348, 3, 166, 1, 11, 0, 1, 0), e0 (.lstore_n 2) 1, e0 (.aload_n 0) 1, e0 (.aload_n 0) 1, (.getfield 36, 3, 11, 16, 32, 198, 5, 1), (.invokevirtual 332, 3, 158, 2, 11, 0, 3, 0), e0 (.aload_n 0) 1, e0 (.iconst 0) 1, e0 (.bipush 99) 2, (.invokevirtual 336, 3, 161, 3, 11, 0, 0, 0), e0 (.istore 4) 2, e0 (.aload_n 0) 1, e0 (.aload_n 0) 1, (.getfield 39, 3, 11, 17, 32, 199, 5, 1), (.invokevirtual 332, 3, 158, 2, 11, 0, 3, 0), e0 (.aload_n 0) 1, e0 (.iconst 0) 1, e0 (.bipush 99) 2, (.invokevirtual 336, 3, 161, 3, 11, 0, 0, 0), e0 (.istore 5) 2, e0 (.aload_n 0) 1, (.getfield 266, 3, 11, 5, 0, 0, 0, 0), e1 (.ifCond .eq 4) 3 58, e0 .return_ 1]),
  (58, [e0 (.aload_n 0) 1, (.getfield 117, 3, 11, 44, 31, 225, 48, 1), e0 (.bipush 16) 2, e0 (.aload_n 0) 1, (.getfield 114, 3, 11, 43, 30, 224, 12, 1), e0 (.iconst 2) 1, e0 .iaload 1, e0 .iadd 1, e0 (.lload_n 2) 1, e0 .lastore 1]),
  (73, [e0 (.aload_n 0) 1, (.getfield 127, 3, 11, 47, 30, 228, 16, 1), e0 (.iconst 2) 1, e0 (.aload_n 0) 1, (.getfield 114, 3, 11, 43, 30, 224, 12, 1), e0 (.iconst 2) 1, e0 .iaload 1, e0 .imul 1, e0 (.iload 4) 2, e0 .iastore 1]),
  (88, [e0 (.aload_n 0) 1, (.getfield 127, 3, 11, 47, 30, 228, 16, 1), e0 (.iconst 2) 1, e0 (.aload_n 0) 1, (.getfield 114, 3, 11, 43, 30, 224, 12, 1), e0 (.iconst 2) 1, e0 .iaload 1, e0 .imul 1, e0 (.iconst 1) 1, e0 .iadd 1, e0 (.iload 5) 2, e0 .iastore 1]),
  (105, [e0 (.aload_n 0) 1, (.getfield 114, 3, 11, 43, 30, 224, 12, 1), e0 (.iconst 2) 1, e0 .dup2 1, e0 .iaload 1, e0 (.iconst 1) 1, e0 .iadd 1, e0 .iastore 1]),
  (115, [e0 .return_ 1])]

set_option maxRecDepth 100000 in
def pb_X12_noiseTold : List (Nat × List EI) := [(0, [e0 (.aload_n 0) 1, e0 (.iconst 3) 1, e0 (.bipush 6) 2, e0 (.iload_n 1) 1, (.invokevirtual 344, 3, 164, 4, 11, 0, 0, 0), e1 (.ifCond .eq 4) 3 12, e0 .return_ 1]),
  (12, [e0 (.aload_n 0) 1, e0 (.aload_n 0) 1, (.getfield 45, 3, 11, 19, 32, 201, 2, 1), (.invokevirtual 332, 3, 158, 2, 11, 0, 3, 0), e0 (.aload_n 0) 1, e0 (.iconst 0) 1, e0 (.bipush 99) 2, (.invokevirtual 336, 3, 161, 3, 11, 0, 0, 0), e0 (.istore_n 2) 1, e0 (.aload_n 0) 1, e0 (.aload_n 0) 1, (.getfield 57, 3, 11, 23, 32, 205, 4, 1), (.invokevirtual 332, 3, 158, 2, 11, 0, 3, 0), e0 (.aload_n 0) 1, e0 (.iconst 0) 1, e0 (.aload_n 0) 1, (.getfield 114, 3, 11, 43, 30, 224, 12, 1), e0 (.iconst 5) 1, e0 .iaload 1, e0 (.iconst 1) 1, e0 .isub 1, (.invokevirtual 336, 3, 161, 3, 11, 0, 0, 0), e0 (.istore_n 3) 1]),
  (50, [e0 (.aload_n 0) 1, e0 (.aload_n 0) 1, (.getfield 60, 3, 11, 24, 32, 206, 4, 1), (.invokevirtual 332, 3, 158, 2, 11, 0, 3, 0), e0 (.aload_n 0) 1, e0 (.iconst 1) 1, e0 (.bipush 9) 2, (.invokevirtual 336, 3, 161, 3, 11, 0, 0, 0), e0 (.istore 4) 2, e0 (.aload_n 0) 1, (.getfield 266, 3, 11, 5, 0, 0, 0, 0), e1 (.ifCond .eq 4) 3 75, e0 .return_ 1]),
  (75, [e0 (.iconst 3) 1, e0 (.aload_n 0) 1, (.getfield 114, 3, 11, 43, 30, 224, 12, 1), e0 (.iconst 3) 1, e0 .iaload 1, e0 .imul 1, e0 (.istore 5) 2, e0 (.aload_n 0) 1, (.getfield 130, 3, 11, 48, 30, 229, 36, 1), e0 (.iload 5) 2, e0 (.iload_n 2) 1, e0 .iastore 1]),
  (93, [e0 (.aload_n 0) 1, (.getfield 130, 3, 11, 48, 30, 229, 36, 1), e0 (.iload 5) 2, e0 (.iconst 1) 1, e0 .iadd 1, e0 (.iload_n 3) 1, e0 .iastore 1]),
  (103, [e0 (.aload_n 0) 1, (.getfield 130, 3, 11, 48, 30, 229, 36, 1), e0 (.iload 5) 2, e0 (.iconst 2) 1, e0 .iadd 1, e0 (.iload 4) 2, e0 .iastore 1]),
  (114, [e0 (.aload_n 0) 1, (.getfield 114, 3, 11, 43, 30, 224, 12, 1), e0 (.iconst 3) 1, e0 .dup2 1, e0 .iaload 1, e0 (.iconst 1) 1, e0 .iadd 1, e0 .iastore 1]),
  (124, [e0 .return_ 1])]

set_option maxRecDepth 100000 in
def pb_X12_muteTold : List (Nat × List EI) := [(0, [e0 (.aload_n 0) 1, e0 (.iconst 1) 1, e0 (.bipush 6) 2, e0 (.iload_n 1) 1, (.invokevirtual 344, 3, 164, 4, 11, 0, 0, 0), e1 (.ifCond .eq 4) 3 12, e0 .return_ 1]),
  (12, [e0 (.aload_n 0) 1, (.invokevirtual 348, 3, 166, 1, 11, 0, 1, 0), e0 (.lstore_n 2) 1, e0 (.aload_n 0) 1, e0 (.aload_n 0) 1, (.getfield 27, 3, 11, 13, 32, 195, 5, 1), (.invokevirtual 332, 3, 158, 2, 11, 0, 3, 0), e0 (.aload_n 0) 1, e0 (.iconst 1) 1, e0 (.bipush 99) 2, (.invokevirtual 336, 3, 161, 3, 11, 0, 0, 0), e0 (.istore 4) 2, e0 (.aload_n 0) 1, e0 (.aload_n 0) 1, (.getfield 66, 3, 11, 26, 32, 208, 5, 1), (.invokevirtual 332, 3, 158, 2, 11, 0, 3, 0), e0 (.aload_n 0) 1, e0 (.iconst 0) 1, e0 (.bipush 99) 2, (.invokevirtual 336, 3, 161, 3, 11, 0, 0, 0), e0 (.istore 5) 2, e0 (.aload_n 0) 1, (.getfield 266, 3, 11, 5, 0, 0, 0, 0), e1 (.ifCond .eq 4) 3 59, e0 .return_ 1]),
  (59, [e0 (.aload_n 0) 1, (.getfield 117, 3, 11, 44, 31, 225, 48, 1), e0 (.bipush 8) 2, e0 (.aload_n 0) 1, (.getfield 114, 3, 11, 43, 30, 224, 12, 1), e0 (.iconst 1) 1, e0 .iaload 1, e0 .iadd 1, e0 (.lload_n 2) 1, e0 .lastore 1]),
  (74, [e0 (.aload_n 0) 1, (.getfield 124, 3, 11, 46, 30, 227, 24, 1), e0 (.iconst 2) 1, e0 (.aload_n 0) 1, (.getfield 114, 3, 11, 43, 30, 224, 12, 1), e0 (.iconst 1) 1, e0 .iaload 1, e0 .imul 1, e0 (.iload 4) 2, e0 .iastore 1]),
  (89, [e0 (.aload_n 0) 1, (.getfield 124, 3, 11, 46, 30, 227, 24, 1), e0 (.iconst 2) 1, e0 (.aload_n 0) 1, (.getfield 114, 3, 11, 43, 30, 224, 12, 1), e0 (.iconst 1) 1, e0 .iaload 1, e0 .imul 1, e0 (.iconst 1) 1, e0 .iadd 1, e0 (.iload 5) 2, e0 .iastore 1]),
  (106, [e0 (.aload_n 0) 1, (.getfield 114, 3, 11, 43, 30, 224, 12, 1), e0 (.iconst 1) 1, e0 .dup2 1, e0 .iaload 1, e0 (.iconst 1) 1, e0 .iadd 1, e0 .iastore 1]),
  (116, [e0 .return_ 1])]

set_option maxRecDepth 100000 in
def pb_X12_sumIsTold : List (Nat × List EI) := [(0, [e0 (.aload_n 0) 1, (.getfield 266, 3, 11, 5, 0, 0, 0, 0), e1 (.ifCond .ne 19) 3 23, e0 (.aload_n 0) 1, (.getfield 136, 3, 11, 50, 30, 231, 4, 1), e0 (.iload_n 1) 1, e0 .iaload 1, e0 (.iconst (-1)) 1, e1 (.if_icmp .eq 9) 3 23, e0 (.aload_n 0) 1, e0 (.iconst 5) 1, e0 (.iload_n 2) 1, (.invokevirtual 296, 3, 152, 3, 11, 0, 3, 0)]),
  (23, [e0 (.aload_n 0) 1, (.getfield 266, 3, 11, 5, 0, 0, 0, 0), e1 (.ifCond .eq 4) 3 31, e0 .return_ 1]),
  (31, [e0 (.aload_n 0) 1, (.getfield 136, 3, 11, 50, 30, 231, 4, 1), e0 (.iload_n 1) 1, e0 (.aload_n 0) 1, (.getfield 357, 3, 11, 55, 0, 0, 0, 0), e0 .iastore 1]),
  (41, [e0 (.aload_n 0) 1, e0 (.iconst 0) 1, (.putfield 360, 3, 11, 57, 0, 0, 0, 0), e0 (.aload_n 0) 1, e0 (.iconst 0) 1, (.putfield 363, 3, 11, 58, 0, 0, 0, 0)]),
  (51, [e0 (.aload_n 0) 1, e0 (.iconst 0) 1, (.putfield 366, 3, 11, 59, 0, 0, 0, 0), e0 (.aload_n 0) 1, (.invokevirtual 369, 3, 188, 1, 11, 0, 3, 0), e0 (.aload_n 0) 1, (.getfield 139, 3, 11, 51, 30, 232, 4, 1), e0 (.iload_n 1) 1, e0 (.aload_n 0) 1, (.getfield 357, 3, 11, 55, 0, 0, 0, 0), e0 .iastore 1]),
  (70, [e0 .return_ 1])]

set_option maxRecDepth 100000 in
def pb_X12_statementTold : List (Nat × List EI) := [(0, [e0 (.aload_n 0) 1, (.getfield 272, 3, 11, 2, 0, 0, 0, 0), e0 (.istore_n 1) 1, e0 (.aload_n 0) 1, (.getfield 372, 3, 11, 52, 0, 0, 0, 0), e0 (.bipush 60) 2, e1 (.if_icmp .ne 10) 3 21, e0 (.aload_n 0) 1, e0 (.iconst 5) 1, e0 (.iload_n 1) 1, (.invokevirtual 296, 3, 152, 3, 11, 0, 3, 0), e0 .return_ 1]),
  (21, [e0 (.aload_n 0) 1, e0 (.aload_n 0) 1, (.getfield 24, 3, 11, 12, 32, 194, 6, 1), (.invokevirtual 293, 3, 157, 2, 11, 0, 0, 0), e1 (.ifCond .eq 11) 3 40, e0 (.aload_n 0) 1, e0 (.iload_n 1) 1, (.invokevirtual 375, 3, 169, 2, 11, 0, 3, 0), e1 (.goto 113) 3 150]),
  (40, [e0 (.aload_n 0) 1, e0 (.aload_n 0) 1, (.getfield 48, 3, 11, 20, 32, 202, 5, 1), (.invokevirtual 293, 3, 157, 2, 11, 0, 0, 0), e1 (.ifCond .eq 11) 3 59, e0 (.aload_n 0) 1, e0 (.iload_n 1) 1, (.invokevirtual 378, 3, 171, 2, 11, 0, 3, 0), e1 (.goto 94) 3 150]),
  (59, [e0 (.aload_n 0) 1, e0 (.aload_n 0) 1, (.getfield 51, 3, 11, 21, 32, 203, 5, 1), (.invokevirtual 293, 3, 157, 2, 11, 0, 0, 0), e1 (.ifCond .eq 11) 3 78, e0 (.aload_n 0) 1, e0 (.iload_n 1) 1, (.invokevirtual 381, 3, 172, 2, 11, 0, 3, 0), e1 (.goto 75) 3 150]),
  (78, [e0 (.aload_n 0) 1, e0 (.aload_n 0) 1, (.getfield 54, 3, 11, 22, 32, 204, 5, 1), (.invokevirtual 293, 3, 157, 2, 11, 0, 0, 0), e1 (.ifCond .eq 11) 3 97, e0 (.aload_n 0) 1, e0 (.iload_n 1) 1, (.invokevirtual 384, 3, 173, 2, 11, 0, 3, 0), e1 (.goto 56) 3 150]),
  (97, [e0 (.aload_n 0) 1, e0 (.aload_n 0) 1, (.getfield 63, 3, 11, 25, 32, 207, 4, 1), (.invokevirtual 293, 3, 157, 2, 11, 0, 0, 0), e1 (.ifCond .eq 11) 3 116, e0 (.aload_n 0) 1, e0 (.iload_n 1) 1, (.invokevirtual 387, 3, 174, 2, 11, 0, 3, 0), e1 (.goto 37) 3 150]),
  (116, [e0 (.aload_n 0) 1, e0 (.aload_n 0) 1, (.getfield 69, 3, 11, 27, 32, 209, 5, 1), (.invokevirtual 293, 3, 157, 2, 11, 0, 0, 0), e1 (.ifCond .eq 12) 3 136, e0 (.aload_n 0) 1, e0 (.iconst 0) 1, e0 (.iload_n 1) 1, (.invokevirtual 390, 3, 175, 3, 11, 0, 3, 0), e1 (.goto 17) 3 150]),
  (136, [e0 (.aload_n 0) 1, e0 (.aload_n 0) 1, (.getfield 72, 3, 11, 28, 32, 210, 5, 1), (.invokevirtual 332, 3, 158, 2, 11, 0, 3, 0), e0 (.aload_n 0) 1, e0 (.iconst 1) 1, e0 (.iload_n 1) 1, (.invokevirtual 390, 3, 175, 3, 11, 0, 3, 0)]),
  (150, [e0 (.aload_n 0) 1, e0 (.bipush 59) 2, (.invokevirtual 340, 3, 160, 2, 11, 0, 3, 0), e0 (.aload_n 0) 1, e0 .dup 1, (.getfield 372, 3, 11, 52, 0, 0, 0, 0), e0 (.iconst 1) 1, e0 .iadd 1, (.putfield 372, 3, 11, 52, 0, 0, 0, 0)]),
  (166, [e0 .return_ 1])]

set_option maxRecDepth 100000 in
def pb_X12_hall : List (Nat × List EI) := [(0, [e0 (.aload_n 0) 1, e0 (.aload_n 0) 1, (.getfield 263, 3, 11, 1, 0, 0, 0, 0), (.putfield 275, 3, 11, 3, 0, 0, 0, 0), e0 (.aload_n 0) 1, e0 (.iconst 0) 1, (.putfield 263, 3, 11, 1, 0, 0, 0, 0)]),
  (13, [e0 (.aload_n 0) 1, e0 (.iconst 0) 1, (.putfield 272, 3, 11, 2, 0, 0, 0, 0), e0 (.aload_n 0) 1, e0 (.iconst (-1)) 1, (.putfield 286, 3, 11, 4, 0, 0, 0, 0)]),
  (23, [e0 (.aload_n 0) 1, e0 (.iconst 0) 1, (.putfield 266, 3, 11, 5, 0, 0, 0, 0), e0 (.aload_n 0) 1, e0 (.iconst (-1)) 1, (.putfield 269, 3, 11, 6, 0, 0, 0, 0)]),
  (33, [e0 (.aload_n 0) 1, e0 (.iconst 0) 1, (.putfield 357, 3, 11, 55, 0, 0, 0, 0), e0 (.iconst 0) 1, e0 (.istore_n 1) 1]),
  (40, [e0 (.iload_n 1) 1, e0 (.bipush 6) 2, e1 (.if_icmp .ge 16) 3 59, e0 (.aload_n 0) 1, (.getfield 114, 3, 11, 43, 30, 224, 12, 1), e0 (.iload_n 1) 1, e0 (.iconst 0) 1, e0 .iastore 1]),
  (53, [e0 (.iinc 1 1) 3, e1 (.goto (-16)) 3 40]),
  (59, [e0 (.iconst 0) 1, e0 (.istore_n 1) 1]),
  (61, [e0 (.iload_n 1) 1, e0 (.bipush 16) 2, e1 (.if_icmp .ge 16) 3 80, e0 (.aload_n 0) 1, (.getfield 133, 3, 11, 49, 30, 230, 32, 1), e0 (.iload_n 1) 1, e0 (.iconst 0) 1, e0 .iastore 1]),
  (74, [e0 (.iinc 1 1) 3, e1 (.goto (-16)) 3 61]),
  (80, [e0 (.aload_n 0) 1, (.getfield 136, 3, 11, 50, 30, 231, 4, 1), e0 (.iconst 0) 1, e0 (.iconst (-1)) 1, e0 .iastore 1, e0 (.aload_n 0) 1, (.getfield 136, 3, 11, 50, 30, 231, 4, 1), e0 (.iconst 1) 1, e0 (.iconst (-1)) 1, e0 .iastore 1]),
  (94, [e0 (.aload_n 0) 1, (.invokevirtual 393, 3, 167, 1, 11, 0, 3, 0), e0 (.aload_n 0) 1, e0 (.iconst 1) 1, (.putfield 372, 3, 11, 52, 0, 0, 0, 0)]),
  (103, [e0 (.aload_n 0) 1, (.getfield 266, 3, 11, 5, 0, 0, 0, 0), e1 (.ifCond .ne 18) 3 125, e0 (.aload_n 0) 1, (.invokevirtual 278, 3, 155, 1, 11, 0, 0, 0), e0 (.iconst (-1)) 1, e1 (.if_icmp .eq 10) 3 125, e0 (.aload_n 0) 1, (.invokevirtual 396, 3, 176, 1, 11, 0, 3, 0), e1 (.goto (-19)) 3 103]),
  (125, [e0 (.aload_n 0) 1, e0 (.aload_n 0) 1, (.getfield 266, 3, 11, 5, 0, 0, 0, 0), (.putfield 399, 3, 11, 7, 0, 0, 0, 0), e0 (.aload_n 0) 1, e0 (.aload_n 0) 1, (.getfield 269, 3, 11, 6, 0, 0, 0, 0), (.putfield 13, 3, 11, 8, 0, 0, 0, 0)]),
  (141, [e0 (.aload_n 0) 1, (.getfield 266, 3, 11, 5, 0, 0, 0, 0), e1 (.ifCond .eq 15) 3 160, e0 (.aload_n 0) 1, (.getfield 17, 3, 11, 9, 30, 192, 6, 1), e0 (.iconst 1) 1, e0 .dup2 1, e0 .iaload 1, e0 (.iconst 1) 1, e0 .iadd 1, e0 .iastore 1]),
  (158, [e0 (.iconst (-1)) 1, e0 .ireturn 1]),
  (160, [e0 (.aload_n 0) 1, (.invokevirtual 402, 3, 178, 1, 11, 0, 3, 0), e0 (.aload_n 0) 1, (.getfield 372, 3, 11, 52, 0, 0, 0, 0), e0 .ireturn 1])]

set_option maxRecDepth 100000 in
def pb_X12_stands : List (Nat × List EI) := [(0, [e0 (.aload_n 0) 1, e0 (.iconst 1) 1, (.putfield 405, 3, 11, 53, 2, 0, 0, 0), e0 (.iconst 0) 1, e0 (.istore_n 1) 1]),
  (7, [e0 (.iload_n 1) 1, e0 (.bipush 6) 2, e1 (.if_icmp .ge 24) 3 34, e0 (.aload_n 0) 1, (.getfield 114, 3, 11, 43, 30, 224, 12, 1), e0 (.bipush 6) 2, e0 (.iload_n 1) 1, e0 .iadd 1, e0 (.aload_n 0) 1, (.getfield 114, 3, 11, 43, 30, 224, 12, 1), e0 (.iload_n 1) 1, e0 .iaload 1, e0 .iastore 1]),
  (28, [e0 (.iinc 1 1) 3, e1 (.goto (-24)) 3 7]),
  (34, [e0 (.iconst 0) 1, e0 (.istore_n 1) 1]),
  (36, [e0 (.iload_n 1) 1, e0 (.bipush 24) 2, e1 (.if_icmp .ge 24) 3 63, e0 (.aload_n 0) 1, (.getfield 117, 3, 11, 44, 31, 225, 48, 1), e0 (.bipush 24) 2, e0 (.iload_n 1) 1, e0 .iadd 1, e0 (.aload_n 0) 1, (.getfield 117, 3, 11, 44, 31, 225, 48, 1), e0 (.iload_n 1) 1, e0 .laload 1, e0 .lastore 1]),
  (57, [e0 (.iinc 1 1) 3, e1 (.goto (-24)) 3 36]),
  (63, [e0 (.iconst 0) 1, e0 (.istore_n 1) 1]),
  (65, [e0 (.iload_n 1) 1, e0 (.bipush 32) 2, e1 (.if_icmp .ge 24) 3 92, e0 (.aload_n 0) 1, (.getfield 121, 3, 11, 45, 30, 226, 64, 1), e0 (.bipush 32) 2, e0 (.iload_n 1) 1, e0 .iadd 1, e0 (.aload_n 0) 1, (.getfield 121, 3, 11, 45, 30, 226, 64, 1), e0 (.iload_n 1) 1, e0 .iaload 1, e0 .iastore 1]),
  (86, [e0 (.iinc 1 1) 3, e1 (.goto (-24)) 3 65]),
  (92, [e0 (.iconst 0) 1, e0 (.istore_n 1) 1]),
  (94, [e0 (.iload_n 1) 1, e0 (.bipush 12) 2, e1 (.if_icmp .ge 24) 3 121, e0 (.aload_n 0) 1, (.getfield 124, 3, 11, 46, 30, 227, 24, 1), e0 (.bipush 12) 2, e0 (.iload_n 1) 1, e0 .iadd 1, e0 (.aload_n 0) 1, (.getfield 124, 3, 11, 46, 30, 227, 24, 1), e0 (.iload_n 1) 1, e0 .iaload 1, e0 .iastore 1]),
  (115, [e0 (.iinc 1 1) 3, e1 (.goto (-24)) 3 94]),
  (121, [e0 (.iconst 0) 1, e0 (.istore_n 1) 1]),
  (123, [e0 (.iload_n 1) 1, e0 (.bipush 8) 2, e1 (.if_icmp .ge 24) 3 150, e0 (.aload_n 0) 1, (.getfield 127, 3, 11, 47, 30, 228, 16, 1), e0 (.bipush 8) 2, e0 (.iload_n 1) 1, e0 .iadd 1, e0 (.aload_n 0) 1, (.getfield 127, 3, 11, 47, 30, 228, 16, 1), e0 (.iload_n 1) 1, e0 .iaload 1, e0 .iastore 1]),
  (144, [e0 (.iinc 1 1) 3, e1 (.goto (-24)) 3 123]),
  (150, [e0 (.iconst 0) 1, e0 (.istore_n 1) 1]),
  (152, [e0 (.iload_n 1) 1, e0 (.bipush 18) 2, e1 (.if_icmp .ge 24) 3 179, e0 (.aload_n 0) 1, (.getfield 130, 3, 11, 48, 30, 229, 36, 1), e0 (.bipush 18) 2, e0 (.iload_n 1) 1, e0 .iadd 1, e0 (.aload_n 0) 1, (.getfield 130, 3, 11, 48, 30, 229, 36, 1), e0 (.iload_n 1) 1, e0 .iaload 1, e0 .iastore 1]),
  (173, [e0 (.iinc 1 1) 3, e1 (.goto (-24)) 3 152]),
  (179, [e0 (.iconst 0) 1, e0 (.istore_n 1) 1]),
  (181, [e0 (.iload_n 1) 1, e0 (.bipush 16) 2, e1 (.if_icmp .ge 24) 3 208, e0 (.aload_n 0) 1, (.getfield 133, 3, 11, 49, 30, 230, 32, 1), e0 (.bipush 16) 2, e0 (.iload_n 1) 1, e0 .iadd 1, e0 (.aload_n 0) 1, (.getfield 133, 3, 11, 49, 30, 230, 32, 1), e0 (.iload_n 1) 1, e0 .iaload 1, e0 .iastore 1]),
  (202, [e0 (.iinc 1 1) 3, e1 (.goto (-24)) 3 181]),
  (208, [e0 (.iconst 0) 1, e0 (.istore_n 1) 1]),
  (210, [e0 (.iload_n 1) 1, e0 (.iconst 2) 1, e1 (.if_icmp .ge 37) 3 249, e0 (.aload_n 0) 1, (.getfield 136, 3, 11, 50, 30, 231, 4, 1), e0 (.iconst 2) 1, e0 (.iload_n 1) 1, e0 .iadd 1, e0 (.aload_n 0) 1, (.getfield 136, 3, 11, 50, 30, 231, 4, 1), e0 (.iload_n 1) 1, e0 .iaload 1, e0 .iastore 1]),
  (229, [e0 (.aload_n 0) 1, (.getfield 139, 3, 11, 51, 30, 232, 4, 1), e0 (.iconst 2) 1, e0 (.iload_n 1) 1, e0 .iadd 1, e0 (.aload_n 0) 1, (.getfield 139, 3, 11, 51, 30, 232, 4, 1), e0 (.iload_n 1) 1, e0 .iaload 1, e0 .iastore 1]),
  (243, [e0 (.iinc 1 1) 3, e1 (.goto (-36)) 3 210]),
  (249, [e0 (.iconst 0) 1, e0 (.istore_n 1) 1]),
  (251, [e0 (.iload_n 1) 1, e0 (.aload_n 0) 1, (.getfield 357, 3, 11, 55, 0, 0, 0, 0), e1 (.if_icmp .ge 25) 3 281, e0 (.aload_n 0) 1, (.getfield 142, 3, 11, 54, 30, 233, 3200, 1), e0 (.sipush 1600) 3, e0 (.iload_n 1) 1, e0 .iadd 1, e0 (.aload_n 0) 1, (.getfield 142, 3, 11, 54, 30, 233, 3200, 1), e0 (.iload_n 1) 1, e0 .iaload 1, e0 .iastore 1]),
  (275, [e0 (.iinc 1 1) 3, e1 (.goto (-27)) 3 251]),
  (281, [e0 (.iconst 0) 1, e0 (.istore_n 1) 1]),
  (283, [e0 (.iload_n 1) 1, e0 (.sipush 146) 3, e1 (.if_icmp .ge 16) 3 303, e0 (.aload_n 0) 1, (.getfield 154, 3, 11, 63, 30, 237, 146, 1), e0 (.iload_n 1) 1, e0 (.iconst 0) 1, e0 .iastore 1]),
  (297, [e0 (.iinc 1 1) 3, e1 (.goto (-17)) 3 283]),
  (303, [e0 (.aload_n 0) 1, (.getfield 154, 3, 11, 63, 30, 237, 146, 1), e0 (.iconst 2) 1, e0 (.iconst (-1)) 1, e0 .iastore 1, e0 (.iconst 0) 1, e0 (.istore_n 1) 1]),
  (312, [e0 (.iload_n 1) 1, e0 (.aload_n 0) 1, (.getfield 114, 3, 11, 43, 30, 224, 12, 1), e0 (.iconst 0) 1, e0 .iaload 1, e1 (.if_icmp .ge 27) 3 346, e0 (.aload_n 0) 1, (.getfield 154, 3, 11, 63, 30, 237, 146, 1), e0 (.iconst 3) 1, e0 (.iload_n 1) 1, e0 .iadd 1, e0 (.aload_n 0) 1, (.getfield 121, 3, 11, 45, 30, 226, 64, 1), e0 (.iconst 4) 1, e0 (.iload_n 1) 1, e0 .imul 1, e0 (.iconst 3) 1, e0 .iadd 1, e0 .iaload 1, e0 .iastore 1]),
  (340, [e0 (.iinc 1 1) 3, e1 (.goto (-31)) 3 312]),
  (346, [e0 (.iconst 0) 1, e0 (.istore_n 1) 1]),
  (348, [e0 (.iload_n 1) 1, e0 (.bipush 6) 2, e1 (.if_icmp .ge 19) 3 370, e0 (.aload_n 0) 1, (.getfield 154, 3, 11, 63, 30, 237, 146, 1), e0 (.bipush 13) 2, e0 (.iload_n 1) 1, e0 .iadd 1, e0 (.iconst (-1)) 1, e0 .iastore 1]),
  (364, [e0 (.iinc 1 1) 3, e1 (.goto (-19)) 3 348]),
  (370, [e0 (.aload_n 0) 1, e0 (.iconst 0) 1, (.putfield 409, 3, 11, 73, 0, 0, 0, 0), e0 .return_ 1])]

set_option maxRecDepth 100000 in
def pb_X12_code : List (Nat × List EI) := [(0, [e0 (.aload_n 0) 1, (.getfield 142, 3, 11, 54, 30, 233, 3200, 1), e0 (.iconst 0) 1, e0 (.aload_n 0) 1, (.getfield 357, 3, 11, 55, 0, 0, 0, 0), e0 .iadd 1, e0 (.iload_n 1) 1, e0 .iastore 1]),
  (12, [e0 (.aload_n 0) 1, e0 .dup 1, (.getfield 357, 3, 11, 55, 0, 0, 0, 0), e0 (.iconst 1) 1, e0 .iadd 1, (.putfield 357, 3, 11, 55, 0, 0, 0, 0)]),
  (22, [e0 .return_ 1])]

set_option maxRecDepth 100000 in
def pb_X12_opens : List (Nat × List EI) := [(0, [e0 (.aload_n 0) 1, (.getfield 363, 3, 11, 58, 0, 0, 0, 0), e0 (.bipush 6) 2, e1 (.if_icmp .ne 10) 3 16, e0 (.aload_n 0) 1, e0 (.iconst 4) 1, e0 (.iload_n 2) 1, (.invokevirtual 296, 3, 152, 3, 11, 0, 3, 0), e0 .return_ 1]),
  (16, [e0 (.aload_n 0) 1, e0 .dup 1, (.getfield 363, 3, 11, 58, 0, 0, 0, 0), e0 (.iconst 1) 1, e0 .iadd 1, (.putfield 363, 3, 11, 58, 0, 0, 0, 0)]),
  (26, [e0 (.aload_n 0) 1, (.getfield 145, 3, 11, 56, 30, 234, 1700, 1), e0 (.aload_n 0) 1, (.getfield 360, 3, 11, 57, 0, 0, 0, 0), e0 (.iload_n 1) 1, e0 .iastore 1]),
  (36, [e0 (.aload_n 0) 1, e0 .dup 1, (.getfield 360, 3, 11, 57, 0, 0, 0, 0), e0 (.iconst 1) 1, e0 .iadd 1, (.putfield 360, 3, 11, 57, 0, 0, 0, 0)]),
  (46, [e0 .return_ 1])]

set_option maxRecDepth 100000 in
def pb_X12_isOn : List (Nat × List EI) := [(0, [e0 (.aload_n 0) 1, (.getfield 360, 3, 11, 57, 0, 0, 0, 0), e1 (.ifCond .le 22) 3 26, e0 (.aload_n 0) 1, (.getfield 145, 3, 11, 56, 30, 234, 1700, 1), e0 (.aload_n 0) 1, (.getfield 360, 3, 11, 57, 0, 0, 0, 0), e0 (.iconst 1) 1, e0 .isub 1, e0 .iaload 1, e0 (.iload_n 1) 1, e1 (.if_icmp .ne 7) 3 26, e0 (.iconst 1) 1, e1 (.goto 4) 3 27]),
  (26, [e0 (.iconst 0) 1]),
  (27, [e0 .ireturn 1])]

set_option maxRecDepth 100000 in
def pb_X12_drops : List (Nat × List EI) := [(0, [e0 (.aload_n 0) 1, e0 .dup 1, (.getfield 360, 3, 11, 57, 0, 0, 0, 0), e0 (.iconst 1) 1, e0 .isub 1, (.putfield 360, 3, 11, 57, 0, 0, 0, 0)]),
  (10, [e0 (.aload_n 0) 1, e0 (.aload_n 0) 1, (.getfield 145, 3, 11, 56, 30, 234, 1700, 1), e0 (.aload_n 0) 1, (.getfield 360, 3, 11, 57, 0, 0, 0, 0), e0 .iaload 1, (.invokevirtual 412, 3, 179, 2, 11, 0, 3, 0), e0 .return_ 1])]

set_option maxRecDepth 100000 in
def pb_X12_isMark : List (Nat × List EI) := [(0, [e0 (.iload_n 1) 1, e0 (.bipush 20) 2, e1 (.if_icmp .lt 13) 3 16, e0 (.iload_n 1) 1, e0 (.bipush 24) 2, e1 (.if_icmp .gt 7) 3 16, e0 (.iconst 1) 1, e1 (.goto 4) 3 17]),
  (16, [e0 (.iconst 0) 1]),
  (17, [e0 .ireturn 1])]

set_option maxRecDepth 100000 in
def pb_X12_waitsLast : List (Nat × List EI) := [(0, [e0 (.aload_n 0) 1, (.getfield 360, 3, 11, 57, 0, 0, 0, 0), e0 (.iconst 1) 1, e0 .isub 1, e0 (.istore_n 1) 1]),
  (7, [e0 (.iload_n 1) 1, e0 (.aload_n 0) 1, (.getfield 366, 3, 11, 59, 0, 0, 0, 0), e1 (.if_icmp .lt 22) 3 34, e0 (.aload_n 0) 1, e0 (.aload_n 0) 1, (.getfield 145, 3, 11, 56, 30, 234, 1700, 1), e0 (.iload_n 1) 1, e0 .iaload 1, (.invokevirtual 415, 3, 183, 2, 11, 0, 0, 0), e1 (.ifCond .ne 9) 3 34, e0 (.iinc 1 (-1)) 3, e1 (.goto (-24)) 3 7]),
  (34, [e0 (.iload_n 1) 1, e0 (.aload_n 0) 1, (.getfield 366, 3, 11, 59, 0, 0, 0, 0), e1 (.if_icmp .lt 12) 3 51, e0 (.aload_n 0) 1, (.getfield 145, 3, 11, 56, 30, 234, 1700, 1), e0 (.iload_n 1) 1, e0 .iaload 1, e1 (.goto 4) 3 52]),
  (51, [e0 (.iconst (-1)) 1]),
  (52, [e0 .ireturn 1])]

set_option maxRecDepth 100000 in
def pb_X12_dropsToMark : List (Nat × List EI) := [(0, [e0 (.aload_n 0) 1, (.getfield 360, 3, 11, 57, 0, 0, 0, 0), e0 (.aload_n 0) 1, (.getfield 366, 3, 11, 59, 0, 0, 0, 0), e1 (.if_icmp .le 28) 3 36, e0 (.aload_n 0) 1, e0 (.aload_n 0) 1, (.getfield 145, 3, 11, 56, 30, 234, 1700, 1), e0 (.aload_n 0) 1, (.getfield 360, 3, 11, 57, 0, 0, 0, 0), e0 (.iconst 1) 1, e0 .isub 1, e0 .iaload 1, (.invokevirtual 415, 3, 183, 2, 11, 0, 0, 0), e1 (.ifCond .ne 10) 3 36, e0 (.aload_n 0) 1, (.invokevirtual 418, 3, 182, 1, 11, 0, 3, 0), e0 (.goto (-33)) 3]),
  (36, [e0 .return_ 1])]

set_option maxRecDepth 100000 in
def pb_X12_onePart : List (Nat × List EI) := [(0, [e0 (.iconst 1) 1, e0 (.istore_n 1) 1]),
  (2, [e0 (.iload_n 1) 1, e1 (.ifCond .eq 143) 3 146, e0 (.aload_n 0) 1, (.getfield 266, 3, 11, 5, 0, 0, 0, 0), e1 (.ifCond .ne 136) 3 146, e0 (.aload_n 0) 1, (.invokevirtual 278, 3, 155, 1, 11, 0, 0, 0), e0 (.istore_n 2) 1, e0 (.iload_n 2) 1, e0 (.bipush 40) 2, e1 (.if_icmp .ne 26) 3 47, e0 (.aload_n 0) 1, e0 (.bipush 20) 2, e0 (.aload_n 0) 1, (.getfield 272, 3, 11, 2, 0, 0, 0, 0), (.invokevirtual 421, 3, 180, 3, 11, 0, 3, 0), e0 (.aload_n 0) 1, e0 .dup 1, (.getfield 272, 3, 11, 2, 0, 0, 0, 0), e0 (.iconst 1) 1, e0 .iadd 1, (.putfield 272, 3, 11, 2, 0, 0, 0, 0)]),
  (44, [e1 (.goto 99) 3 143]),
  (47, [e0 (.aload_n 0) 1, e0 (.aload_n 0) 1, (.getfield 105, 3, 11, 39, 32, 221, 3, 1), (.invokevirtual 289, 3, 156, 2, 11, 0, 0, 0), e1 (.ifCond .ne 14) 3 69, e0 (.aload_n 0) 1, e0 (.aload_n 0) 1, (.getfield 108, 3, 11, 40, 32, 222, 3, 1), (.invokevirtual 289, 3, 156, 2, 11, 0, 0, 0), e1 (.ifCond .eq 75) 3 141]),
  (69, [e0 (.aload_n 0) 1, e0 (.aload_n 0) 1, (.getfield 105, 3, 11, 39, 32, 221, 3, 1), (.invokevirtual 293, 3, 157, 2, 11, 0, 0, 0), e0 (.istore_n 3) 1, e0 (.iload_n 3) 1, e1 (.ifCond .ne 11) 3 90, e0 (.aload_n 0) 1, e0 (.aload_n 0) 1, (.getfield 108, 3, 11, 40, 32, 222, 3, 1), (.invokevirtual 332, 3, 158, 2, 11, 0, 3, 0)]),
  (90, [e0 (.aload_n 0) 1, (.invokevirtual 278, 3, 155, 1, 11, 0, 0, 0), e0 (.bipush 40) 2, e1 (.if_icmp .ne 10) 3 106, e0 (.aload_n 0) 1, (.getfield 272, 3, 11, 2, 0, 0, 0, 0), e1 (.goto 4) 3 107]),
  (106, [e0 (.iconst (-1)) 1]),
  (107, [e0 (.istore 4) 2, e0 (.iload 4) 2, e0 (.iconst (-1)) 1, e1 (.if_icmp .eq 20) 3 132, e0 (.aload_n 0) 1, e0 (.iload_n 3) 1, e1 (.ifCond .eq 8) 3 125, e0 (.bipush 21) 2, e1 (.goto 5) 3 127]),
  (125, [e0 (.bipush 22) 2]),
  (127, [e0 (.iload 4) 2, (.invokevirtual 421, 3, 180, 3, 11, 0, 3, 0)]),
  (132, [e0 (.aload_n 0) 1, e0 (.bipush 40) 2, (.invokevirtual 340, 3, 160, 2, 11, 0, 3, 0), e1 (.goto 5) 3 143]),
  (141, [e0 (.iconst 0) 1, e0 (.istore_n 1) 1]),
  (143, [e1 (.goto (-141)) 3 2]),
  (146, [e0 (.aload_n 0) 1, (.getfield 266, 3, 11, 5, 0, 0, 0, 0), e1 (.ifCond .eq 4) 3 154, e0 .return_ 1]),
  (154, [e0 (.aload_n 0) 1, e0 (.aload_n 0) 1, (.getfield 27, 3, 11, 13, 32, 195, 5, 1), (.invokevirtual 293, 3, 157, 2, 11, 0, 0, 0), e1 (.ifCond .eq 8) 3 170, e0 (.bipush 7) 2, e1 (.goto 116) 3 283]),
  (170, [e0 (.aload_n 0) 1, e0 (.aload_n 0) 1, (.getfield 30, 3, 11, 14, 32, 196, 6, 1), (.invokevirtual 293, 3, 157, 2, 11, 0, 0, 0), e1 (.ifCond .eq 8) 3 186, e0 (.bipush 8) 2, e1 (.goto 100) 3 283]),
  (186, [e0 (.aload_n 0) 1, e0 (.aload_n 0) 1, (.getfield 75, 3, 11, 29, 32, 211, 4, 1), (.invokevirtual 293, 3, 157, 2, 11, 0, 0, 0), e1 (.ifCond .eq 8) 3 202, e0 (.bipush 9) 2, e1 (.goto 84) 3 283]),
  (202, [e0 (.aload_n 0) 1, e0 (.aload_n 0) 1, (.getfield 78, 3, 11, 30, 32, 212, 5, 1), (.invokevirtual 293, 3, 157, 2, 11, 0, 0, 0), e1 (.ifCond .eq 8) 3 218, e0 (.bipush 10) 2, e1 (.goto 68) 3 283]),
  (218, [e0 (.aload_n 0) 1, e0 (.aload_n 0) 1, (.getfield 81, 3, 11, 31, 32, 213, 5, 1), (.invokevirtual 293, 3, 157, 2, 11, 0, 0, 0), e1 (.ifCond .eq 8) 3 234, e0 (.bipush 11) 2, e1 (.goto 52) 3 283]),
  (234, [e0 (.aload_n 0) 1, e0 (.aload_n 0) 1, (.getfield 54, 3, 11, 22, 32, 204, 5, 1), (.invokevirtual 293, 3, 157, 2, 11, 0, 0, 0), e1 (.ifCond .eq 8) 3 250, e0 (.bipush 12) 2, e1 (.goto 36) 3 283]),
  (250, [e0 (.aload_n 0) 1, e0 (.aload_n 0) 1, (.getfield 57, 3, 11, 23, 32, 205, 4, 1), (.invokevirtual 293, 3, 157, 2, 11, 0, 0, 0), e1 (.ifCond .eq 8) 3 266, e0 (.bipush 13) 2, e1 (.goto 20) 3 283]),
  (266, [e0 (.aload_n 0) 1, e0 (.aload_n 0) 1, (.getfield 84, 3, 11, 32, 32, 214, 6, 1), (.invokevirtual 293, 3, 157, 2, 11, 0, 0, 0), e1 (.ifCond .eq 8) 3 282, e0 (.bipush 14) 2, e1 (.goto 4) 3 283]),
  (282, [e0 (.iconst (-1)) 1]),
  (283, [e0 (.istore_n 2) 1, e0 (.aload_n 0) 1, e0 (.iload_n 2) 1, e0 (.iconst (-1)) 1, e1 (.if_icmp .eq 7) 3 294, e0 (.iload_n 2) 1, e1 (.goto 15) 3 306]),
  (294, [e0 (.sipush 1000) 3, e0 (.aload_n 0) 1, e0 (.iconst 0) 1, e0 (.sipush 9999) 3, (.invokevirtual 336, 3, 161, 3, 11, 0, 0, 0), e0 .iadd 1]),
  (306, [(.invokevirtual 412, 3, 179, 2, 11, 0, 3, 0), e0 .return_ 1])]

set_option maxRecDepth 100000 in
def pb_X12_goesOn : List (Nat × List EI) := [(0, [e0 (.aload_n 0) 1, (.getfield 266, 3, 11, 5, 0, 0, 0, 0), e1 (.ifCond .ne 114) 3 118, e0 (.aload_n 0) 1, (.invokevirtual 278, 3, 155, 1, 11, 0, 0, 0), e0 (.bipush 41) 2, e1 (.if_icmp .ne 105) 3 118, e0 (.aload_n 0) 1, (.invokevirtual 424, 3, 184, 1, 11, 0, 0, 0), e0 (.bipush 20) 2, e1 (.if_icmp .eq 21) 3 43, e0 (.aload_n 0) 1, (.invokevirtual 424, 3, 184, 1, 11, 0, 0, 0), e0 (.bipush 23) 2, e1 (.if_icmp .eq 12) 3 43, e0 (.aload_n 0) 1, (.invokevirtual 424, 3, 184, 1, 11, 0, 0, 0), e0 (.bipush 24) 2, e1 (.if_icmp .ne 78) 3 118]),
  (43, [e0 (.aload_n 0) 1, e0 .dup 1, (.getfield 272, 3, 11, 2, 0, 0, 0, 0), e0 (.iconst 1) 1, e0 .iadd 1, (.putfield 272, 3, 11, 2, 0, 0, 0, 0)]),
  (53, [e0 (.aload_n 0) 1, (.invokevirtual 427, 3, 185, 1, 11, 0, 3, 0), e0 (.aload_n 0) 1, e0 .dup 1, (.getfield 360, 3, 11, 57, 0, 0, 0, 0), e0 (.iconst 1) 1, e0 .isub 1, (.putfield 360, 3, 11, 57, 0, 0, 0, 0)]),
  (67, [e0 (.aload_n 0) 1, e0 .dup 1, (.getfield 363, 3, 11, 58, 0, 0, 0, 0), e0 (.iconst 1) 1, e0 .isub 1, (.putfield 363, 3, 11, 58, 0, 0, 0, 0)]),
  (77, [e0 (.aload_n 0) 1, (.getfield 145, 3, 11, 56, 30, 234, 1700, 1), e0 (.aload_n 0) 1, (.getfield 360, 3, 11, 57, 0, 0, 0, 0), e0 .iaload 1, e0 (.bipush 20) 2, e0 (.if_icmp .eq (-88)) 3, e0 (.aload_n 0) 1, e0 (.aload_n 0) 1, (.getfield 145, 3, 11, 56, 30, 234, 1700, 1), e0 (.aload_n 0) 1, (.getfield 360, 3, 11, 57, 0, 0, 0, 0), e0 .iaload 1, e0 (.bipush 23) 2, e1 (.if_icmp .ne 7) 3 110, e0 (.iconst 5) 1, e1 (.goto 5) 3 112]),
  (110, [e0 (.bipush 6) 2]),
  (112, [(.invokevirtual 412, 3, 179, 2, 11, 0, 3, 0), e0 (.goto (-115)) 3]),
  (118, [e0 (.aload_n 0) 1, e0 (.bipush 42) 2, (.invokevirtual 300, 3, 159, 2, 11, 0, 0, 0), e1 (.ifCond .ne 12) 3 136, e0 (.aload_n 0) 1, e0 (.bipush 47) 2, (.invokevirtual 300, 3, 159, 2, 11, 0, 0, 0), e1 (.ifCond .eq 70) 3 203]),
  (136, [e0 (.aload_n 0) 1, (.getfield 7, 3, 11, 0, 30, 191, 1600, 1), e0 (.aload_n 0) 1, (.getfield 272, 3, 11, 2, 0, 0, 0, 0), e0 (.iconst 1) 1, e0 .isub 1, e0 .iaload 1, e0 (.bipush 42) 2, e1 (.if_icmp .ne 7) 3 156, e0 (.iconst 3) 1, e1 (.goto 4) 3 157]),
  (156, [e0 (.iconst 4) 1]),
  (157, [e0 (.istore_n 1) 1]),
  (158, [e0 (.aload_n 0) 1, e0 (.iconst 3) 1, (.invokevirtual 430, 3, 181, 2, 11, 0, 0, 0), e1 (.ifCond .ne 11) 3 174, e0 (.aload_n 0) 1, e0 (.iconst 4) 1, (.invokevirtual 430, 3, 181, 2, 11, 0, 0, 0), e1 (.ifCond .eq 10) 3 181]),
  (174, [e0 (.aload_n 0) 1, (.invokevirtual 418, 3, 182, 1, 11, 0, 3, 0), e1 (.goto (-20)) 3 158]),
  (181, [e0 (.aload_n 0) 1, (.getfield 145, 3, 11, 56, 30, 234, 1700, 1), e0 (.aload_n 0) 1, (.getfield 360, 3, 11, 57, 0, 0, 0, 0), e0 (.iload_n 1) 1, e0 .iastore 1]),
  (191, [e0 (.aload_n 0) 1, e0 .dup 1, (.getfield 360, 3, 11, 57, 0, 0, 0, 0), e0 (.iconst 1) 1, e0 .iadd 1, (.putfield 360, 3, 11, 57, 0, 0, 0, 0)]),
  (201, [e0 (.iconst 1) 1, e0 .ireturn 1]),
  (203, [e0 (.aload_n 0) 1, e0 (.bipush 43) 2, (.invokevirtual 300, 3, 159, 2, 11, 0, 0, 0), e1 (.ifCond .ne 12) 3 221, e0 (.aload_n 0) 1, e0 (.bipush 45) 2, (.invokevirtual 300, 3, 159, 2, 11, 0, 0, 0), e1 (.ifCond .eq 86) 3 304]),
  (221, [e0 (.aload_n 0) 1, (.getfield 7, 3, 11, 0, 30, 191, 1600, 1), e0 (.aload_n 0) 1, (.getfield 272, 3, 11, 2, 0, 0, 0, 0), e0 (.iconst 1) 1, e0 .isub 1, e0 .iaload 1, e0 (.bipush 43) 2, e1 (.if_icmp .ne 7) 3 241, e0 (.iconst 1) 1, e1 (.goto 4) 3 242]),
  (241, [e0 (.iconst 2) 1]),
  (242, [e0 (.istore_n 1) 1]),
  (243, [e0 (.aload_n 0) 1, e0 (.iconst 3) 1, (.invokevirtual 430, 3, 181, 2, 11, 0, 0, 0), e1 (.ifCond .ne 27) 3 275, e0 (.aload_n 0) 1, e0 (.iconst 4) 1, (.invokevirtual 430, 3, 181, 2, 11, 0, 0, 0), e1 (.ifCond .ne 19) 3 275, e0 (.aload_n 0) 1, e0 (.iconst 1) 1, (.invokevirtual 430, 3, 181, 2, 11, 0, 0, 0), e1 (.ifCond .ne 11) 3 275, e0 (.aload_n 0) 1, e0 (.iconst 2) 1, (.invokevirtual 430, 3, 181, 2, 11, 0, 0, 0), e1 (.ifCond .eq 10) 3 282]),
  (275, [e0 (.aload_n 0) 1, (.invokevirtual 418, 3, 182, 1, 11, 0, 3, 0), e1 (.goto (-36)) 3 243]),
  (282, [e0 (.aload_n 0) 1, (.getfield 145, 3, 11, 56, 30, 234, 1700, 1), e0 (.aload_n 0) 1, (.getfield 360, 3, 11, 57, 0, 0, 0, 0), e0 (.iload_n 1) 1, e0 .iastore 1]),
  (292, [e0 (.aload_n 0) 1, e0 .dup 1, (.getfield 360, 3, 11, 57, 0, 0, 0, 0), e0 (.iconst 1) 1, e0 .iadd 1, (.putfield 360, 3, 11, 57, 0, 0, 0, 0)]),
  (302, [e0 (.iconst 1) 1, e0 .ireturn 1]),
  (304, [e0 (.aload_n 0) 1, (.invokevirtual 424, 3, 184, 1, 11, 0, 0, 0), e0 (.bipush 21) 2, e1 (.if_icmp .eq 12) 3 322, e0 (.aload_n 0) 1, (.invokevirtual 424, 3, 184, 1, 11, 0, 0, 0), e0 (.bipush 22) 2, e1 (.if_icmp .ne 39) 3 358]),
  (322, [e0 (.aload_n 0) 1, e0 (.bipush 44) 2, (.invokevirtual 340, 3, 160, 2, 11, 0, 3, 0), e0 (.aload_n 0) 1, (.getfield 266, 3, 11, 5, 0, 0, 0, 0), e1 (.ifCond .eq 5) 3 337, e0 (.iconst 0) 1, e0 .ireturn 1]),
  (337, [e0 (.aload_n 0) 1, (.invokevirtual 427, 3, 185, 1, 11, 0, 3, 0), e0 (.aload_n 0) 1, (.getfield 145, 3, 11, 56, 30, 234, 1700, 1), e0 (.aload_n 0) 1, (.getfield 360, 3, 11, 57, 0, 0, 0, 0), e0 (.iconst 1) 1, e0 .isub 1, e0 .dup2 1, e0 .iaload 1, e0 (.iconst 2) 1, e0 .iadd 1, e0 .iastore 1]),
  (356, [e0 (.iconst 1) 1, e0 .ireturn 1]),
  (358, [e0 (.aload_n 0) 1, (.invokevirtual 424, 3, 184, 1, 11, 0, 0, 0), e0 (.iconst (-1)) 1, e1 (.if_icmp .eq 19) 3 382, e0 (.aload_n 0) 1, (.getfield 266, 3, 11, 5, 0, 0, 0, 0), e1 (.ifCond .ne 12) 3 382, e0 (.aload_n 0) 1, e0 (.iconst 1) 1, e0 (.aload_n 0) 1, (.getfield 272, 3, 11, 2, 0, 0, 0, 0), (.invokevirtual 296, 3, 152, 3, 11, 0, 3, 0)]),
  (382, [e0 (.iconst 0) 1, e0 .ireturn 1])]

set_option maxRecDepth 100000 in
def pb_X12_sumsTold : List (Nat × List EI) := [(0, [e0 (.aload_n 0) 1, (.getfield 366, 3, 11, 59, 0, 0, 0, 0), e0 (.istore_n 1) 1, e0 (.aload_n 0) 1, e0 (.aload_n 0) 1, (.getfield 360, 3, 11, 57, 0, 0, 0, 0), (.putfield 366, 3, 11, 59, 0, 0, 0, 0)]),
  (13, [e0 (.iconst 1) 1, e0 (.istore_n 2) 1]),
  (15, [e0 (.iload_n 2) 1, e1 (.ifCond .eq 37) 3 53, e0 (.aload_n 0) 1, (.getfield 266, 3, 11, 5, 0, 0, 0, 0), e1 (.ifCond .ne 30) 3 53, e0 (.aload_n 0) 1, (.invokevirtual 433, 3, 186, 1, 11, 0, 3, 0), e0 (.aload_n 0) 1, (.getfield 266, 3, 11, 5, 0, 0, 0, 0), e1 (.ifCond .ne 14) 3 48, e0 (.aload_n 0) 1, (.invokevirtual 436, 3, 187, 1, 11, 0, 0, 0), e1 (.ifCond .eq 7) 3 48, e0 (.iconst 1) 1, e1 (.goto 4) 3 49]),
  (48, [e0 (.iconst 0) 1]),
  (49, [e0 (.istore_n 2) 1, e1 (.goto (-35)) 3 15]),
  (53, [e0 (.aload_n 0) 1, (.getfield 266, 3, 11, 5, 0, 0, 0, 0), e1 (.ifCond .ne 21) 3 78, e0 (.aload_n 0) 1, (.getfield 360, 3, 11, 57, 0, 0, 0, 0), e0 (.aload_n 0) 1, (.getfield 366, 3, 11, 59, 0, 0, 0, 0), e1 (.if_icmp .le 10) 3 78, e0 (.aload_n 0) 1, (.invokevirtual 418, 3, 182, 1, 11, 0, 3, 0), e1 (.goto (-22)) 3 53]),
  (78, [e0 (.aload_n 0) 1, e0 (.iload_n 1) 1, (.putfield 366, 3, 11, 59, 0, 0, 0, 0), e0 .return_ 1])]

set_option maxRecDepth 100000 in
def pb_X12_fault : List (Nat × List EI) := [(0, [e0 (.iload_n 1) 1, e1 (.ifCond .ne 10) 3 11, e0 (.aload_n 0) 1, (.getfield 399, 3, 11, 7, 0, 0, 0, 0), e1 (.goto 16) 3 24]),
  (11, [e0 (.iload_n 1) 1, e0 (.iconst 1) 1, e1 (.if_icmp .ne 10) 3 23, e0 (.aload_n 0) 1, (.getfield 13, 3, 11, 8, 0, 0, 0, 0), e1 (.goto 4) 3 24]),
  (23, [e0 (.iconst (-1)) 1]),
  (24, [e0 .ireturn 1])]

set_option maxRecDepth 100000 in
def pb_X12_clip : List (Nat × List EI) := [(0, [e0 (.lload_n 0) 1, (.ldc2_w 439, 3, 0, 0, 0, 0, 0, 1000000), e0 .lcmp 1, e1 (.ifCond .le 9) 3 14, (.ldc2_w 439, 3, 0, 0, 0, 0, 0, 1000000), e1 (.goto 18) 3 29]),
  (14, [e0 (.lload_n 0) 1, (.ldc2_w 441, 3, 0, 0, 0, 0, 0, (-1000000)), e0 .lcmp 1, e1 (.ifCond .ge 9) 3 28, (.ldc2_w 441, 3, 0, 0, 0, 0, 0, (-1000000)), e1 (.goto 4) 3 29]),
  (28, [e0 (.lload_n 0) 1]),
  (29, [e0 .lreturn 1])]

set_option maxRecDepth 100000 in
def pb_X12_floor : List (Nat × List EI) := [(0, [e0 (.lload_n 2) 1, e0 (.lconst 0) 1, e0 .lcmp 1, e1 (.ifCond .ne 5) 3 8, e0 (.lconst 0) 1, e0 .lreturn 1]),
  (8, [e0 (.lload_n 0) 1, e0 (.lload_n 2) 1, e0 .ldiv 1, e0 (.lstore 4) 2, e0 (.lload_n 0) 1, e0 (.lload_n 2) 1, e0 .lrem 1, e0 (.lconst 0) 1, e0 .lcmp 1, e1 (.ifCond .eq 35) 3 53, e0 (.lload_n 0) 1, e0 (.lconst 0) 1, e0 .lcmp 1, e1 (.ifCond .ge 7) 3 31, e0 (.iconst 1) 1, e1 (.goto 4) 3 32]),
  (31, [e0 (.iconst 0) 1]),
  (32, [e0 (.lload_n 2) 1, e0 (.lconst 0) 1, e0 .lcmp 1, e1 (.ifCond .ge 7) 3 42, e0 (.iconst 1) 1, e1 (.goto 4) 3 43]),
  (42, [e0 (.iconst 0) 1]),
  (43, [e1 (.if_icmp .eq 10) 3 53, e0 (.lload 4) 2, e0 (.lconst 1) 1, e0 .lsub 1, e1 (.goto 5) 3 55]),
  (53, [e0 (.lload 4) 2]),
  (55, [e0 .lreturn 1])]

set_option maxRecDepth 100000 in
def pb_X12_puts : List (Nat × List EI) := [(0, [e0 (.aload_n 0) 1, (.getfield 148, 3, 11, 60, 31, 235, 1700, 1), e0 (.aload_n 0) 1, (.getfield 443, 3, 11, 61, 0, 0, 0, 0), e0 (.lload_n 1) 1, e0 .lastore 1]),
  (10, [e0 (.aload_n 0) 1, e0 .dup 1, (.getfield 443, 3, 11, 61, 0, 0, 0, 0), e0 (.iconst 1) 1, e0 .iadd 1, (.putfield 443, 3, 11, 61, 0, 0, 0, 0)]),
  (20, [e0 .return_ 1])]

set_option maxRecDepth 100000 in
def pb_X12_joins : List (Nat × List EI) := [(0, [e0 (.aload_n 0) 1, (.getfield 148, 3, 11, 60, 31, 235, 1700, 1), e0 (.aload_n 0) 1, (.getfield 443, 3, 11, 61, 0, 0, 0, 0), e0 (.iconst 1) 1, e0 .isub 1, e0 .laload 1, e0 (.lstore_n 2) 1, e0 (.aload_n 0) 1, (.getfield 148, 3, 11, 60, 31, 235, 1700, 1), e0 (.aload_n 0) 1, (.getfield 443, 3, 11, 61, 0, 0, 0, 0), e0 (.iconst 2) 1, e0 .isub 1, e0 .laload 1, e0 (.lstore 4) 2, e0 (.aload_n 0) 1, e0 .dup 1, (.getfield 443, 3, 11, 61, 0, 0, 0, 0), e0 (.iconst 2) 1, e0 .isub 1, (.putfield 443, 3, 11, 61, 0, 0, 0, 0)]),
  (35, [e0 (.iload_n 1) 1, e0 (.tableswitch 111 1 5 #[36, 50, 64, 78, 91]) 36]),
  (72, [e0 (.aload_n 0) 1, e0 (.lload 4) 2, e0 (.lload_n 2) 1, e0 .ladd 1, (.invokestatic 446, 3, 190, 1, 11, 0, 1, 0), (.invokevirtual 450, 3, 192, 2, 11, 0, 3, 0), e1 (.goto 81) 3 164]),
  (86, [e0 (.aload_n 0) 1, e0 (.lload 4) 2, e0 (.lload_n 2) 1, e0 .lsub 1, (.invokestatic 446, 3, 190, 1, 11, 0, 1, 0), (.invokevirtual 450, 3, 192, 2, 11, 0, 3, 0), e1 (.goto 67) 3 164]),
  (100, [e0 (.aload_n 0) 1, e0 (.lload 4) 2, e0 (.lload_n 2) 1, e0 .lmul 1, (.invokestatic 446, 3, 190, 1, 11, 0, 1, 0), (.invokevirtual 450, 3, 192, 2, 11, 0, 3, 0), e1 (.goto 53) 3 164]),
  (114, [e0 (.aload_n 0) 1, e0 (.lload 4) 2, e0 (.lload_n 2) 1, (.invokestatic 454, 3, 191, 2, 11, 0, 1, 0), (.invokevirtual 450, 3, 192, 2, 11, 0, 3, 0), e1 (.goto 40) 3 164]),
  (127, [e0 (.aload_n 0) 1, e0 (.lload 4) 2, e0 (.lload_n 2) 1, e0 .lcmp 1, e1 (.ifCond .ge 8) 3 140, e0 (.lload 4) 2, e1 (.goto 4) 3 141]),
  (140, [e0 (.lload_n 2) 1]),
  (141, [(.invokevirtual 450, 3, 192, 2, 11, 0, 3, 0), e1 (.goto 20) 3 164]),
  (147, [e0 (.aload_n 0) 1, e0 (.lload 4) 2, e0 (.lload_n 2) 1, e0 .lcmp 1, e1 (.ifCond .le 8) 3 160, e0 (.lload 4) 2, e1 (.goto 4) 3 161]),
  (160, [e0 (.lload_n 2) 1]),
  (161, [(.invokevirtual 450, 3, 192, 2, 11, 0, 3, 0)]),
  (164, [e0 .return_ 1])]

set_option maxRecDepth 100000 in
def pb_X12_seatMany : List (Nat × List EI) := [(0, [e0 (.aload_n 0) 1, (.getfield 114, 3, 11, 43, 30, 224, 12, 1), e0 (.bipush 11) 2, e0 .iaload 1, e0 .ireturn 1])]

set_option maxRecDepth 100000 in
def pb_X12_peopleMany : List (Nat × List EI) := [(0, [e0 (.aload_n 0) 1, (.getfield 114, 3, 11, 43, 30, 224, 12, 1), e0 (.bipush 6) 2, e0 .iaload 1, e0 .ireturn 1])]

set_option maxRecDepth 100000 in
def pb_X12_muteMany : List (Nat × List EI) := [(0, [e0 (.aload_n 0) 1, (.getfield 114, 3, 11, 43, 30, 224, 12, 1), e0 (.bipush 7) 2, e0 .iaload 1, e0 .ireturn 1])]

set_option maxRecDepth 100000 in
def pb_X12_pointMany : List (Nat × List EI) := [(0, [e0 (.aload_n 0) 1, (.getfield 114, 3, 11, 43, 30, 224, 12, 1), e0 (.bipush 8) 2, e0 .iaload 1, e0 .ireturn 1])]

set_option maxRecDepth 100000 in
def pb_X12_isSeat : List (Nat × List EI) := [(0, [e0 (.iload_n 1) 1, e0 .i2l 1, e0 (.lconst 0) 1, e0 (.aload_n 0) 1, (.invokevirtual 458, 3, 194, 1, 11, 0, 0, 0), e0 (.iconst 1) 1, e0 .isub 1, e0 .i2l 1, (.invokestatic 309, 3, 149, 3, 11, 0, 0, 0), e0 .ireturn 1])]

set_option maxRecDepth 100000 in
def pb_X12_seatOf : List (Nat × List EI) := [(0, [e0 (.aload_n 0) 1, (.getfield 154, 3, 11, 63, 30, 237, 146, 1), e0 (.iconst 3) 1, e0 (.iload_n 1) 1, e0 .iadd 1, e0 .iaload 1, e0 .ireturn 1])]

set_option maxRecDepth 100000 in
def pb_X12_doesSit : List (Nat × List EI) := [(0, [e0 (.iload_n 1) 1, e0 .i2l 1, e0 (.lconst 0) 1, e0 (.aload_n 0) 1, (.invokevirtual 461, 3, 195, 1, 11, 0, 0, 0), e0 (.iconst 1) 1, e0 .isub 1, e0 .i2l 1, (.invokestatic 309, 3, 149, 3, 11, 0, 0, 0), e1 (.ifCond .ne 33) 3 46, e0 (.iload_n 1) 1, e0 .i2l 1, (.ldc2_w 464, 3, 0, 0, 0, 0, 0, 10), e0 (.bipush 10) 2, e0 (.aload_n 0) 1, (.invokevirtual 466, 3, 196, 1, 11, 0, 0, 0), e0 .iadd 1, e0 (.iconst 1) 1, e0 .isub 1, e0 .i2l 1, (.invokestatic 309, 3, 149, 3, 11, 0, 0, 0), e1 (.ifCond .eq 16) 3 50, e0 (.aload_n 0) 1, e0 (.iload_n 1) 1, (.invokevirtual 469, 3, 199, 2, 11, 0, 0, 0), e0 (.iconst (-1)) 1, e1 (.if_icmp .eq 7) 3 50]),
  (46, [e0 (.iconst 1) 1, e1 (.goto 4) 3 51]),
  (50, [e0 (.iconst 0) 1]),
  (51, [e0 .ireturn 1])]

set_option maxRecDepth 100000 in
def pb_X12_sitterAt : List (Nat × List EI) := [(0, [e0 (.iconst 0) 1, e0 (.istore_n 2) 1]),
  (2, [e0 (.iload_n 2) 1, e0 (.bipush 16) 2, e1 (.if_icmp .ge 28) 3 33, e0 (.aload_n 0) 1, e0 (.iload_n 2) 1, (.invokevirtual 473, 3, 200, 2, 11, 0, 0, 0), e1 (.ifCond .eq 14) 3 27, e0 (.aload_n 0) 1, e0 (.iload_n 2) 1, (.invokevirtual 469, 3, 199, 2, 11, 0, 0, 0), e0 (.iload_n 1) 1, e1 (.if_icmp .ne 5) 3 27, e0 (.iload_n 2) 1, e0 .ireturn 1]),
  (27, [e0 (.iinc 2 1) 3, e1 (.goto (-28)) 3 2]),
  (33, [e0 (.iconst (-1)) 1, e0 .ireturn 1])]

set_option maxRecDepth 100000 in
def pb_X12_isMute : List (Nat × List EI) := [(0, [e0 (.iload_n 1) 1, e0 (.bipush 10) 2, e1 (.if_icmp .lt 7) 3 10, e0 (.iconst 1) 1, e1 (.goto 4) 3 11]),
  (10, [e0 (.iconst 0) 1]),
  (11, [e0 .ireturn 1])]

set_option maxRecDepth 100000 in
def pb_X12_keepsOf : List (Nat × List EI) := [(0, [e0 (.aload_n 0) 1, e0 (.iload_n 1) 1, (.invokevirtual 476, 3, 202, 2, 11, 0, 0, 0), e1 (.ifCond .eq 20) 3 25, e0 (.aload_n 0) 1, (.getfield 124, 3, 11, 46, 30, 227, 24, 1), e0 (.bipush 12) 2, e0 (.iconst 2) 1, e0 (.iload_n 1) 1, e0 (.bipush 10) 2, e0 .isub 1, e0 .imul 1, e0 .iadd 1, e0 .iaload 1, e1 (.goto 14) 3 36]),
  (25, [e0 (.aload_n 0) 1, (.getfield 121, 3, 11, 45, 30, 226, 64, 1), e0 (.bipush 32) 2, e0 (.iconst 4) 1, e0 (.iload_n 1) 1, e0 .imul 1, e0 .iadd 1, e0 .iaload 1]),
  (36, [e0 .ireturn 1])]

set_option maxRecDepth 100000 in
def pb_X12_itchesOf : List (Nat × List EI) := [(0, [e0 (.aload_n 0) 1, e0 (.iload_n 1) 1, (.invokevirtual 476, 3, 202, 2, 11, 0, 0, 0), e1 (.ifCond .eq 7) 3 12, e0 (.iconst 0) 1, e1 (.goto 14) 3 23]),
  (12, [e0 (.aload_n 0) 1, (.getfield 121, 3, 11, 45, 30, 226, 64, 1), e0 (.bipush 33) 2, e0 (.iconst 4) 1, e0 (.iload_n 1) 1, e0 .imul 1, e0 .iadd 1, e0 .iaload 1]),
  (23, [e0 .ireturn 1])]

set_option maxRecDepth 100000 in
def pb_X12_partyOf : List (Nat × List EI) := [(0, [e0 (.aload_n 0) 1, e0 (.iload_n 1) 1, (.invokevirtual 476, 3, 202, 2, 11, 0, 0, 0), e1 (.ifCond .eq 18) 3 23, e0 (.aload_n 0) 1, (.getfield 154, 3, 11, 63, 30, 237, 146, 1), e0 (.bipush 19) 2, e0 (.iload_n 1) 1, e0 .iadd 1, e0 (.bipush 10) 2, e0 .isub 1, e0 .iaload 1, e1 (.goto 14) 3 34]),
  (23, [e0 (.aload_n 0) 1, (.getfield 121, 3, 11, 45, 30, 226, 64, 1), e0 (.bipush 34) 2, e0 (.iconst 4) 1, e0 (.iload_n 1) 1, e0 .imul 1, e0 .iadd 1, e0 .iaload 1]),
  (34, [e0 .ireturn 1])]

set_option maxRecDepth 100000 in
def pb_X12_isBeside : List (Nat × List EI) := [(0, [e0 (.aload_n 0) 1, e0 (.iload_n 1) 1, (.invokevirtual 469, 3, 199, 2, 11, 0, 0, 0), e0 (.aload_n 0) 1, e0 (.iload_n 2) 1, (.invokevirtual 469, 3, 199, 2, 11, 0, 0, 0), e0 .isub 1, e0 (.iconst 1) 1, e1 (.if_icmp .eq 18) 3 30, e0 (.aload_n 0) 1, e0 (.iload_n 2) 1, (.invokevirtual 469, 3, 199, 2, 11, 0, 0, 0), e0 (.aload_n 0) 1, e0 (.iload_n 1) 1, (.invokevirtual 469, 3, 199, 2, 11, 0, 0, 0), e0 .isub 1, e0 (.iconst 1) 1, e1 (.if_icmp .ne 7) 3 34]),
  (30, [e0 (.iconst 1) 1, e1 (.goto 4) 3 35]),
  (34, [e0 (.iconst 0) 1]),
  (35, [e0 .ireturn 1])]

set_option maxRecDepth 100000 in
def pb_X12_nearOf : List (Nat × List EI) := [(0, [e0 (.iconst 0) 1, e0 (.istore_n 2) 1, e0 (.iconst 0) 1, e0 (.istore_n 3) 1]),
  (4, [e0 (.iload_n 3) 1, e0 (.bipush 16) 2, e1 (.if_icmp .ge 29) 3 36, e0 (.aload_n 0) 1, e0 (.iload_n 3) 1, (.invokevirtual 473, 3, 200, 2, 11, 0, 0, 0), e1 (.ifCond .eq 15) 3 30, e0 (.aload_n 0) 1, e0 (.iload_n 3) 1, e0 (.iload_n 1) 1, (.invokevirtual 479, 3, 206, 3, 11, 0, 0, 0), e1 (.ifCond .eq 6) 3 30, e0 (.iinc 2 1) 3]),
  (30, [e0 (.iinc 3 1) 3, e1 (.goto (-29)) 3 4]),
  (36, [e0 (.iload_n 2) 1, e0 .ireturn 1])]

set_option maxRecDepth 100000 in
def pb_X12_hatedOf : List (Nat × List EI) := [(0, [e0 (.iconst 0) 1, e0 (.istore_n 2) 1, e0 (.iconst 0) 1, e0 (.istore_n 3) 1]),
  (4, [e0 (.iload_n 3) 1, e0 (.bipush 16) 2, e1 (.if_icmp .ge 58) 3 65, e0 (.aload_n 0) 1, e0 (.iload_n 3) 1, (.invokevirtual 473, 3, 200, 2, 11, 0, 0, 0), e1 (.ifCond .eq 44) 3 59, e0 (.aload_n 0) 1, e0 (.iload_n 3) 1, e0 (.iload_n 1) 1, (.invokevirtual 479, 3, 206, 3, 11, 0, 0, 0), e1 (.ifCond .eq 35) 3 59, e0 (.aload_n 0) 1, (.getfield 133, 3, 11, 49, 30, 230, 32, 1), e0 (.bipush 16) 2, e0 (.iload_n 3) 1, e0 .iadd 1, e0 .iaload 1, e0 (.iload_n 1) 1, e0 .ishr 1, e0 (.aload_n 0) 1, (.getfield 133, 3, 11, 49, 30, 230, 32, 1), e0 (.bipush 16) 2, e0 (.iload_n 1) 1, e0 .iadd 1, e0 .iaload 1, e0 (.iload_n 3) 1, e0 .ishr 1, e0 .ior 1, e0 (.iconst 1) 1, e0 .iand 1, e0 (.iconst 1) 1, e1 (.if_icmp .ne 6) 3 59, e0 (.iinc 2 1) 3]),
  (59, [e0 (.iinc 3 1) 3, e1 (.goto (-58)) 3 4]),
  (65, [e0 (.iload_n 2) 1, e0 .ireturn 1])]

set_option maxRecDepth 100000 in
def pb_X12_askedOf : List (Nat × List EI) := [(0, [e0 (.aload_n 0) 1, e0 (.iload_n 1) 1, (.invokevirtual 483, 3, 205, 2, 11, 0, 0, 0), e0 (.istore_n 2) 1, e0 (.aload_n 0) 1, (.getfield 154, 3, 11, 63, 30, 237, 146, 1), e0 (.iconst 2) 1, e0 .iaload 1, e0 (.iconst (-1)) 1, e1 (.if_icmp .eq 8) 3 21, e0 (.iload_n 2) 1, e0 (.iconst 2) 1, e1 (.if_icmp .ne 7) 3 25]),
  (21, [e0 (.iconst 0) 1, e1 (.goto 21) 3 43]),
  (25, [e0 (.aload_n 0) 1, (.getfield 127, 3, 11, 47, 30, 228, 16, 1), e0 (.bipush 8) 2, e0 (.iconst 2) 1, e0 (.aload_n 0) 1, (.getfield 154, 3, 11, 63, 30, 237, 146, 1), e0 (.iconst 2) 1, e0 .iaload 1, e0 .imul 1, e0 .iadd 1, e0 (.iload_n 2) 1, e0 .iadd 1, e0 .iaload 1]),
  (43, [e0 .ireturn 1])]

set_option maxRecDepth 100000 in
def pb_X12_noiseAt : List (Nat × List EI) := [(0, [e0 (.iconst 0) 1, e0 (.istore_n 3) 1, e0 (.iconst 0) 1, e0 (.istore 4) 2]),
  (5, [e0 (.iload 4) 2, e0 (.aload_n 0) 1, (.getfield 114, 3, 11, 43, 30, 224, 12, 1), e0 (.bipush 9) 2, e0 .iaload 1, e1 (.if_icmp .ge 91) 3 105, e0 (.iload 4) 2, e0 (.aload_n 0) 1, (.getfield 160, 3, 11, 65, 0, 0, 0, 0), e1 (.if_icmp .eq 76) 3 99, e0 (.aload_n 0) 1, (.getfield 130, 3, 11, 48, 30, 229, 36, 1), e0 (.bipush 18) 2, e0 (.iconst 3) 1, e0 (.iload 4) 2, e0 .imul 1, e0 .iadd 1, e0 .iaload 1, e0 (.iload_n 2) 1, e1 (.if_icmp .eq 6) 3 45, e1 (.goto 57) 3 99]),
  (45, [e0 (.aload_n 0) 1, (.getfield 130, 3, 11, 48, 30, 229, 36, 1), e0 (.bipush 19) 2, e0 (.iconst 3) 1, e0 (.iload 4) 2, e0 .imul 1, e0 .iadd 1, e0 .iaload 1, e0 (.iload_n 1) 1, e0 .isub 1, e0 (.istore 5) 2, e0 (.aload_n 0) 1, (.getfield 130, 3, 11, 48, 30, 229, 36, 1), e0 (.bipush 20) 2, e0 (.iconst 3) 1, e0 (.iload 4) 2, e0 .imul 1, e0 .iadd 1, e0 .iaload 1, e0 (.iload 5) 2, e1 (.ifCond .ge 9) 3 84, e0 (.iload 5) 2, e0 .ineg 1, e1 (.goto 5) 3 86]),
  (84, [e0 (.iload 5) 2]),
  (86, [e0 .isub 1, e0 (.istore 6) 2, e0 (.iload 6) 2, e1 (.ifCond .le 8) 3 99, e0 (.iload_n 3) 1, e0 (.iload 6) 2, e0 .iadd 1, e0 (.istore_n 3) 1]),
  (99, [e0 (.iinc 4 1) 3, e1 (.goto (-97)) 3 5]),
  (105, [e0 (.iload_n 3) 1, e0 .ireturn 1])]

set_option maxRecDepth 100000 in
def pb_X12_told : List (Nat × List EI) := [(0, [e0 (.aload_n 0) 1, (.getfield 151, 3, 11, 62, 30, 236, 8, 1), e0 (.iconst 0) 1, e0 (.aload_n 0) 1, e0 (.iload_n 2) 1, (.invokevirtual 486, 3, 203, 2, 11, 0, 0, 0), e0 .iastore 1]),
  (11, [e0 (.aload_n 0) 1, (.getfield 151, 3, 11, 62, 30, 236, 8, 1), e0 (.iconst 1) 1, e0 (.aload_n 0) 1, e0 (.iload_n 2) 1, (.invokevirtual 489, 3, 204, 2, 11, 0, 0, 0), e0 .iastore 1]),
  (22, [e0 (.aload_n 0) 1, (.getfield 151, 3, 11, 62, 30, 236, 8, 1), e0 (.iconst 2) 1, e0 (.aload_n 0) 1, e0 (.iload_n 2) 1, (.invokevirtual 492, 3, 207, 2, 11, 0, 0, 0), e0 .iastore 1]),
  (33, [e0 (.aload_n 0) 1, (.getfield 151, 3, 11, 62, 30, 236, 8, 1), e0 (.iconst 3) 1, e0 (.aload_n 0) 1, e0 (.iload_n 2) 1, (.invokevirtual 495, 3, 208, 2, 11, 0, 0, 0), e0 .iastore 1]),
  (44, [e0 (.aload_n 0) 1, (.getfield 151, 3, 11, 62, 30, 236, 8, 1), e0 (.iconst 4) 1, e0 (.aload_n 0) 1, e0 (.iload_n 2) 1, (.invokevirtual 498, 3, 209, 2, 11, 0, 0, 0), e0 .iastore 1]),
  (55, [e0 (.aload_n 0) 1, (.getfield 151, 3, 11, 62, 30, 236, 8, 1), e0 (.iconst 5) 1, e0 (.aload_n 0) 1, e0 (.aload_n 0) 1, e0 (.iload_n 2) 1, (.invokevirtual 469, 3, 199, 2, 11, 0, 0, 0), e0 (.aload_n 0) 1, (.getfield 154, 3, 11, 63, 30, 237, 146, 1), e0 (.iconst 0) 1, e0 .iaload 1, (.invokevirtual 501, 3, 210, 3, 11, 0, 0, 0), e0 .iastore 1]),
  (76, [e0 (.aload_n 0) 1, (.getfield 151, 3, 11, 62, 30, 236, 8, 1), e0 (.bipush 6) 2, e0 (.aload_n 0) 1, e0 (.iload_n 2) 1, (.invokevirtual 469, 3, 199, 2, 11, 0, 0, 0), e0 .iastore 1]),
  (88, [e0 (.aload_n 0) 1, (.getfield 151, 3, 11, 62, 30, 236, 8, 1), e0 (.bipush 7) 2, e0 (.aload_n 0) 1, (.getfield 154, 3, 11, 63, 30, 237, 146, 1), e0 (.iconst 0) 1, e0 .iaload 1, e0 .iastore 1]),
  (101, [e0 (.aload_n 0) 1, e0 (.iconst 0) 1, (.putfield 443, 3, 11, 61, 0, 0, 0, 0), e0 (.aload_n 0) 1, (.getfield 136, 3, 11, 50, 30, 231, 4, 1), e0 (.iconst 2) 1, e0 (.iload_n 1) 1, e0 .iadd 1, e0 .iaload 1, e0 (.istore_n 3) 1]),
  (115, [e0 (.iload_n 3) 1, e0 (.aload_n 0) 1, (.getfield 139, 3, 11, 51, 30, 232, 4, 1), e0 (.iconst 2) 1, e0 (.iload_n 1) 1, e0 .iadd 1, e0 .iaload 1, e1 (.if_icmp .ge 82) 3 206, e0 (.aload_n 0) 1, (.getfield 142, 3, 11, 54, 30, 233, 3200, 1), e0 (.sipush 1600) 3, e0 (.iload_n 3) 1, e0 .iadd 1, e0 .iaload 1, e0 (.istore 4) 2, e0 (.iload 4) 2, e0 (.sipush 1000) 3, e1 (.if_icmp .lt 17) 3 161, e0 (.aload_n 0) 1, e0 (.iload 4) 2, e0 (.sipush 1000) 3, e0 .isub 1, e0 .i2l 1, (.invokevirtual 450, 3, 192, 2, 11, 0, 3, 0)]),
  (158, [e1 (.goto 42) 3 200]),
  (161, [e0 (.iload 4) 2, e0 .i2l 1, (.ldc2_w 504, 3, 0, 0, 0, 0, 0, 7), (.ldc2_w 506, 3, 0, 0, 0, 0, 0, 14), (.invokestatic 309, 3, 149, 3, 11, 0, 0, 0), e1 (.ifCond .eq 21) 3 194, e0 (.aload_n 0) 1, e0 (.aload_n 0) 1, (.getfield 151, 3, 11, 62, 30, 236, 8, 1), e0 (.iload 4) 2, e0 (.bipush 7) 2, e0 .isub 1, e0 .iaload 1, e0 .i2l 1, (.invokevirtual 450, 3, 192, 2, 11, 0, 3, 0), e1 (.goto 9) 3 200]),
  (194, [e0 (.aload_n 0) 1, e0 (.iload 4) 2, (.invokevirtual 508, 3, 193, 2, 11, 0, 3, 0)]),
  (200, [e0 (.iinc 3 1) 3, e1 (.goto (-88)) 3 115]),
  (206, [e0 (.aload_n 0) 1, (.getfield 148, 3, 11, 60, 31, 235, 1700, 1), e0 (.iconst 0) 1, e0 .laload 1, e0 (.lconst 0) 1, e0 .lcmp 1, e1 (.ifCond .ge 7) 3 221, e0 (.iconst 0) 1, e1 (.goto 29) 3 247]),
  (221, [e0 (.aload_n 0) 1, (.getfield 148, 3, 11, 60, 31, 235, 1700, 1), e0 (.iconst 0) 1, e0 .laload 1, (.ldc2_w 511, 3, 0, 0, 0, 0, 0, 999), e0 .lcmp 1, e1 (.ifCond .le 9) 3 240, e0 (.sipush 999) 3, e1 (.goto 10) 3 247]),
  (240, [e0 (.aload_n 0) 1, (.getfield 148, 3, 11, 60, 31, 235, 1700, 1), e0 (.iconst 0) 1, e0 .laload 1, e0 .l2i 1]),
  (247, [e0 .ireturn 1])]

set_option maxRecDepth 100000 in
def pb_X12_weightOf : List (Nat × List EI) := [(0, [e0 (.aload_n 0) 1, (.getfield 136, 3, 11, 50, 30, 231, 4, 1), e0 (.iconst 2) 1, e0 .iaload 1, e0 (.iconst (-1)) 1, e1 (.if_icmp .ne 11) 3 18, e0 (.aload_n 0) 1, e0 (.iload_n 1) 1, (.invokevirtual 486, 3, 203, 2, 11, 0, 0, 0), e1 (.goto 9) 3 24]),
  (18, [e0 (.aload_n 0) 1, e0 (.iconst 0) 1, e0 (.iload_n 1) 1, (.invokevirtual 513, 3, 211, 3, 11, 0, 0, 0)]),
  (24, [e0 .ireturn 1])]

set_option maxRecDepth 100000 in
def pb_X12_coughOf : List (Nat × List EI) := [(0, [e0 (.aload_n 0) 1, (.getfield 136, 3, 11, 50, 30, 231, 4, 1), e0 (.iconst 3) 1, e0 .iaload 1, e0 (.iconst (-1)) 1, e1 (.if_icmp .ne 7) 3 14, e0 (.iconst 5) 1, e1 (.goto 9) 3 20]),
  (14, [e0 (.aload_n 0) 1, e0 (.iconst 1) 1, e0 (.iload_n 1) 1, (.invokevirtual 513, 3, 211, 3, 11, 0, 0, 0)]),
  (20, [e0 .ireturn 1])]

set_option maxRecDepth 100000 in
def pb_X12_signOf : List (Nat × List EI) := [(0, [e0 (.aload_n 0) 1, e0 (.iload_n 1) 1, (.invokevirtual 483, 3, 205, 2, 11, 0, 0, 0), e0 (.istore_n 2) 1, e0 (.iload_n 2) 1, e1 (.ifCond .ne 7) 3 14, e0 (.iconst 1) 1, e1 (.goto 13) 3 24]),
  (14, [e0 (.iload_n 2) 1, e0 (.iconst 1) 1, e1 (.if_icmp .ne 7) 3 23, e0 (.iconst (-1)) 1, e1 (.goto 4) 3 24]),
  (23, [e0 (.iconst 0) 1]),
  (24, [e0 .ireturn 1])]

set_option maxRecDepth 100000 in
def pb_X12_moves : List (Nat × List EI) := [(0, [e0 (.aload_n 0) 1, e0 (.iload_n 1) 1, (.invokevirtual 516, 3, 214, 2, 11, 0, 0, 0), e0 (.iload_n 2) 1, e1 (.ifCond .eq 12) 3 18, e0 (.aload_n 0) 1, e0 (.iload_n 1) 1, (.invokevirtual 519, 3, 213, 2, 11, 0, 0, 0), e0 .ineg 1, e1 (.goto 8) 3 23]),
  (18, [e0 (.aload_n 0) 1, e0 (.iload_n 1) 1, (.invokevirtual 522, 3, 212, 2, 11, 0, 0, 0)]),
  (23, [e0 .imul 1, e0 .ireturn 1])]

set_option maxRecDepth 100000 in
def pb_X12_hiredMany : List (Nat × List EI) := [(0, [e0 (.iconst 0) 1, e0 (.istore_n 1) 1, e0 (.iconst 0) 1, e0 (.istore_n 2) 1]),
  (4, [e0 (.iload_n 2) 1, e0 (.aload_n 0) 1, (.invokevirtual 466, 3, 196, 1, 11, 0, 0, 0), e1 (.if_icmp .ge 23) 3 32, e0 (.aload_n 0) 1, e0 (.bipush 10) 2, e0 (.iload_n 2) 1, e0 .iadd 1, (.invokevirtual 473, 3, 200, 2, 11, 0, 0, 0), e1 (.ifCond .eq 6) 3 26, e0 (.iinc 1 1) 3]),
  (26, [e0 (.iinc 2 1) 3, e1 (.goto (-25)) 3 4]),
  (32, [e0 (.iload_n 1) 1, e0 .ireturn 1])]

set_option maxRecDepth 100000 in
def pb_X12_has : List (Nat × List EI) := [(0, [e0 (.iload_n 1) 1, e0 (.tableswitch 127 0 10 #[59, 64, 69, 74, 82, 87, 92, 99, 106, 114, 122]) 59]),
  (60, [e0 (.aload_n 0) 1, (.invokevirtual 458, 3, 194, 1, 11, 0, 0, 0), e0 .ireturn 1]),
  (65, [e0 (.aload_n 0) 1, (.invokevirtual 461, 3, 195, 1, 11, 0, 0, 0), e0 .ireturn 1]),
  (70, [e0 (.aload_n 0) 1, (.invokevirtual 525, 3, 197, 1, 11, 0, 0, 0), e0 .ireturn 1]),
  (75, [e0 (.aload_n 0) 1, (.getfield 114, 3, 11, 43, 30, 224, 12, 1), e0 (.bipush 9) 2, e0 .iaload 1, e0 .ireturn 1]),
  (83, [e0 (.aload_n 0) 1, (.invokevirtual 466, 3, 196, 1, 11, 0, 0, 0), e0 .ireturn 1]),
  (88, [e0 (.aload_n 0) 1, (.invokevirtual 528, 3, 216, 1, 11, 0, 0, 0), e0 .ireturn 1]),
  (93, [e0 (.aload_n 0) 1, (.getfield 154, 3, 11, 63, 30, 237, 146, 1), e0 (.iconst 0) 1, e0 .iaload 1, e0 .ireturn 1]),
  (100, [e0 (.aload_n 0) 1, (.getfield 154, 3, 11, 63, 30, 237, 146, 1), e0 (.iconst 2) 1, e0 .iaload 1, e0 .ireturn 1]),
  (107, [e0 (.aload_n 0) 1, (.getfield 114, 3, 11, 43, 30, 224, 12, 1), e0 (.bipush 10) 2, e0 .iaload 1, e0 .ireturn 1]),
  (115, [e0 (.aload_n 0) 1, (.getfield 154, 3, 11, 63, 30, 237, 146, 1), e0 (.bipush 25) 2, e0 .iaload 1, e0 .ireturn 1]),
  (123, [e0 (.aload_n 0) 1, (.getfield 409, 3, 11, 73, 0, 0, 0, 0), e0 .ireturn 1]),
  (128, [e0 (.iconst (-1)) 1, e0 .ireturn 1])]

set_option maxRecDepth 100000 in
def pb_X12_scale : List (Nat × List EI) := [(0, [e0 (.aload_n 0) 1, (.getfield 154, 3, 11, 63, 30, 237, 146, 1), e0 (.iconst 1) 1, e0 .iaload 1, e0 .ireturn 1])]

set_option maxRecDepth 100000 in
def pb_X12_letter : List (Nat × List EI) := [(0, [e0 (.iload_n 1) 1, e0 .i2l 1, e0 (.lconst 0) 1, (.ldc2_w 531, 3, 0, 0, 0, 0, 0, 2), (.invokestatic 309, 3, 149, 3, 11, 0, 0, 0), e1 (.ifCond .eq 36) 3 45, e0 (.iload_n 2) 1, e0 .i2l 1, e0 (.lconst 0) 1, e0 (.aload_n 0) 1, (.getfield 114, 3, 11, 43, 30, 224, 12, 1), e0 (.bipush 6) 2, e0 (.iload_n 1) 1, e0 .iadd 1, e0 .iaload 1, e0 (.iconst 1) 1, e0 .isub 1, e0 .i2l 1, (.invokestatic 309, 3, 149, 3, 11, 0, 0, 0), e1 (.ifCond .eq 15) 3 45, e0 (.iload_n 3) 1, e0 .i2l 1, e0 (.lconst 0) 1, (.ldc2_w 533, 3, 0, 0, 0, 0, 0, 5), (.invokestatic 309, 3, 149, 3, 11, 0, 0, 0), e1 (.ifCond .ne 5) 3 47]),
  (45, [e0 (.iconst (-1)) 1, e0 .ireturn 1]),
  (47, [e0 (.aload_n 0) 1, (.getfield 117, 3, 11, 44, 31, 225, 48, 1), e0 (.bipush 24) 2, e0 (.bipush 8) 2, e0 (.iload_n 1) 1, e0 .imul 1, e0 .iadd 1, e0 (.iload_n 2) 1, e0 .iadd 1, e0 .laload 1, e0 (.lstore 4) 2, e0 (.iconst 0) 1, e0 (.istore 6) 2, e0 (.lload 4) 2, e0 (.lstore 7) 2]),
  (70, [e0 (.lload 7) 2, e0 (.lconst 0) 1, e0 .lcmp 1, e1 (.ifCond .le 17) 3 91, e0 (.iinc 6 1) 3, e0 (.lload 7) 2, (.ldc2_w 320, 3, 0, 0, 0, 0, 0, 27), e0 .ldiv 1, e0 (.lstore 7) 2, e1 (.goto (-18)) 3 70]),
  (91, [e0 (.iload_n 3) 1, e0 (.iload 6) 2, e1 (.if_icmp .lt 5) 3 99, e0 (.iconst 0) 1, e0 .ireturn 1]),
  (99, [e0 (.iload 6) 2, e0 (.iconst 1) 1, e0 .isub 1, e0 (.istore 7) 2]),
  (105, [e0 (.iload 7) 2, e0 (.iload_n 3) 1, e1 (.if_icmp .le 17) 3 125, e0 (.lload 4) 2, (.ldc2_w 320, 3, 0, 0, 0, 0, 0, 27), e0 .ldiv 1, e0 (.lstore 4) 2, e0 (.iinc 7 (-1)) 3, e1 (.goto (-17)) 3 105]),
  (125, [e0 (.lload 4) 2, (.ldc2_w 320, 3, 0, 0, 0, 0, 0, 27), e0 .lrem 1, e0 .l2i 1, e0 .ireturn 1])]

set_option maxRecDepth 100000 in
def pb_X12_sits : List (Nat × List EI) := [(0, [e0 (.iload_n 1) 1, e0 .i2l 1, e0 (.lconst 0) 1, (.ldc2_w 535, 3, 0, 0, 0, 0, 0, 15), (.invokestatic 309, 3, 149, 3, 11, 0, 0, 0), e1 (.ifCond .eq 11) 3 20, e0 (.aload_n 0) 1, e0 (.iload_n 1) 1, (.invokevirtual 473, 3, 200, 2, 11, 0, 0, 0), e1 (.ifCond .ne 5) 3 22]),
  (20, [e0 (.iconst (-1)) 1, e0 .ireturn 1]),
  (22, [e0 (.iload_n 2) 1, e0 (.tableswitch 93 0 7 #[45, 51, 57, 63, 69, 75, 81, 87]) 45]),
  (68, [e0 (.aload_n 0) 1, e0 (.iload_n 1) 1, (.invokevirtual 469, 3, 199, 2, 11, 0, 0, 0), e0 .ireturn 1]),
  (74, [e0 (.aload_n 0) 1, e0 (.iload_n 1) 1, (.invokevirtual 483, 3, 205, 2, 11, 0, 0, 0), e0 .ireturn 1]),
  (80, [e0 (.aload_n 0) 1, e0 (.iload_n 1) 1, (.invokevirtual 486, 3, 203, 2, 11, 0, 0, 0), e0 .ireturn 1]),
  (86, [e0 (.aload_n 0) 1, e0 (.iload_n 1) 1, (.invokevirtual 489, 3, 204, 2, 11, 0, 0, 0), e0 .ireturn 1]),
  (92, [e0 (.aload_n 0) 1, e0 (.iload_n 1) 1, (.invokevirtual 492, 3, 207, 2, 11, 0, 0, 0), e0 .ireturn 1]),
  (98, [e0 (.aload_n 0) 1, e0 (.iload_n 1) 1, (.invokevirtual 495, 3, 208, 2, 11, 0, 0, 0), e0 .ireturn 1]),
  (104, [e0 (.aload_n 0) 1, e0 (.iload_n 1) 1, (.invokevirtual 522, 3, 212, 2, 11, 0, 0, 0), e0 .ireturn 1]),
  (110, [e0 (.aload_n 0) 1, e0 (.iload_n 1) 1, (.invokevirtual 519, 3, 213, 2, 11, 0, 0, 0), e0 .ireturn 1]),
  (116, [e0 (.iconst (-1)) 1, e0 .ireturn 1])]

set_option maxRecDepth 100000 in
def pb_X12_seat : List (Nat × List EI) := [(0, [e0 (.aload_n 0) 1, e0 (.iload_n 1) 1, (.invokevirtual 537, 3, 198, 2, 11, 0, 0, 0), e1 (.ifCond .eq 11) 3 16, e0 (.aload_n 0) 1, e0 (.iload_n 1) 1, (.invokevirtual 540, 3, 201, 2, 11, 0, 0, 0), e1 (.goto 4) 3 17]),
  (16, [e0 (.iconst (-1)) 1]),
  (17, [e0 .ireturn 1])]

set_option maxRecDepth 100000 in
def pb_X12_mute : List (Nat × List EI) := [(0, [e0 (.iload_n 1) 1, e0 .i2l 1, e0 (.lconst 0) 1, e0 (.aload_n 0) 1, (.invokevirtual 466, 3, 196, 1, 11, 0, 0, 0), e0 (.iconst 1) 1, e0 .isub 1, e0 .i2l 1, (.invokestatic 309, 3, 149, 3, 11, 0, 0, 0), e1 (.ifCond .ne 5) 3 18, e0 (.iconst (-1)) 1, e0 .ireturn 1]),
  (18, [e0 (.iload_n 2) 1, e1 (.ifCond .eq 8) 3 27, e0 (.iload_n 2) 1, e0 (.iconst 1) 1, e1 (.if_icmp .ne 19) 3 43]),
  (27, [e0 (.aload_n 0) 1, (.getfield 124, 3, 11, 46, 30, 227, 24, 1), e0 (.bipush 12) 2, e0 (.iconst 2) 1, e0 (.iload_n 1) 1, e0 .imul 1, e0 .iadd 1, e0 (.iload_n 2) 1, e0 .iadd 1, e0 .iaload 1, e1 (.goto 28) 3 68]),
  (43, [e0 (.iload_n 2) 1, e0 (.iconst 2) 1, e1 (.if_icmp .ne 22) 3 67, e0 (.aload_n 0) 1, e0 (.bipush 10) 2, e0 (.iload_n 1) 1, e0 .iadd 1, (.invokevirtual 473, 3, 200, 2, 11, 0, 0, 0), e1 (.ifCond .eq 7) 3 63, e0 (.iconst 1) 1, e1 (.goto 8) 3 68]),
  (63, [e0 (.iconst 0) 1, e1 (.goto 4) 3 68]),
  (67, [e0 (.iconst (-1)) 1]),
  (68, [e0 .ireturn 1])]

set_option maxRecDepth 100000 in
def pb_X12_noise : List (Nat × List EI) := [(0, [e0 (.aload_n 0) 1, e0 (.iload_n 1) 1, (.invokevirtual 537, 3, 198, 2, 11, 0, 0, 0), e1 (.ifCond .eq 24) 3 29, e0 (.iload_n 2) 1, e0 .i2l 1, e0 (.lconst 0) 1, (.ldc2_w 511, 3, 0, 0, 0, 0, 0, 999), (.invokestatic 309, 3, 149, 3, 11, 0, 0, 0), e1 (.ifCond .eq 12) 3 29, e0 (.aload_n 0) 1, e0 (.iload_n 1) 1, e0 (.iload_n 2) 1, (.invokevirtual 501, 3, 210, 3, 11, 0, 0, 0), e1 (.goto 4) 3 30]),
  (29, [e0 (.iconst (-1)) 1]),
  (30, [e0 .ireturn 1])]

set_option maxRecDepth 100000 in
def pb_X12_kept : List (Nat × List EI) := [(0, [e0 (.iload_n 1) 1, e0 .i2l 1, e0 (.lconst 0) 1, e0 (.aload_n 0) 1, (.getfield 154, 3, 11, 63, 30, 237, 146, 1), e0 (.bipush 25) 2, e0 .iaload 1, e0 (.iconst 1) 1, e0 .isub 1, e0 .i2l 1, (.invokestatic 309, 3, 149, 3, 11, 0, 0, 0), e1 (.ifCond .eq 31) 3 47, e0 (.iload_n 2) 1, e0 .i2l 1, e0 (.lconst 0) 1, (.ldc2_w 531, 3, 0, 0, 0, 0, 0, 2), (.invokestatic 309, 3, 149, 3, 11, 0, 0, 0), e1 (.ifCond .eq 19) 3 47, e0 (.aload_n 0) 1, (.getfield 154, 3, 11, 63, 30, 237, 146, 1), e0 (.bipush 26) 2, e0 (.iconst 3) 1, e0 (.iload_n 1) 1, e0 .imul 1, e0 .iadd 1, e0 (.iload_n 2) 1, e0 .iadd 1, e0 .iaload 1, e1 (.goto 4) 3 48]),
  (47, [e0 (.iconst (-1)) 1]),
  (48, [e0 .ireturn 1])]

set_option maxRecDepth 100000 in
def pb_X12_putsAside : List (Nat × List EI) := [(0, [e0 (.iconst 0) 1, e0 (.istore_n 1) 1]),
  (2, [e0 (.iload_n 1) 1, e0 (.sipush 146) 3, e1 (.if_icmp .ge 21) 3 27, e0 (.aload_n 0) 1, (.getfield 157, 3, 11, 64, 30, 238, 146, 1), e0 (.iload_n 1) 1, e0 (.aload_n 0) 1, (.getfield 154, 3, 11, 63, 30, 237, 146, 1), e0 (.iload_n 1) 1, e0 .iaload 1, e0 .iastore 1]),
  (21, [e0 (.iinc 1 1) 3, e1 (.goto (-22)) 3 2]),
  (27, [e0 .return_ 1])]

set_option maxRecDepth 100000 in
def pb_X12_takesBack : List (Nat × List EI) := [(0, [e0 (.iconst 0) 1, e0 (.istore_n 1) 1]),
  (2, [e0 (.iload_n 1) 1, e0 (.sipush 146) 3, e1 (.if_icmp .ge 21) 3 27, e0 (.aload_n 0) 1, (.getfield 154, 3, 11, 63, 30, 237, 146, 1), e0 (.iload_n 1) 1, e0 (.aload_n 0) 1, (.getfield 157, 3, 11, 64, 30, 238, 146, 1), e0 (.iload_n 1) 1, e0 .iaload 1, e0 .iastore 1]),
  (21, [e0 (.iinc 1 1) 3, e1 (.goto (-22)) 3 2]),
  (27, [e0 .return_ 1])]

set_option maxRecDepth 100000 in
def pb_X12_meanMove : List (Nat × List EI) := [(0, [e0 (.lconst 0) 1, e0 (.lstore_n 1) 1, e0 (.iconst 0) 1, e0 (.istore_n 3) 1]),
  (4, [e0 (.iload_n 3) 1, e0 (.bipush 16) 2, e1 (.if_icmp .ge 49) 3 56, e0 (.aload_n 0) 1, e0 (.iload_n 3) 1, (.invokevirtual 473, 3, 200, 2, 11, 0, 0, 0), e1 (.ifCond .eq 35) 3 50, e0 (.lload_n 1) 1, e0 (.bipush 100) 2, e0 (.aload_n 0) 1, e0 (.iload_n 3) 1, (.invokevirtual 489, 3, 204, 2, 11, 0, 0, 0), e0 .isub 1, e0 (.aload_n 0) 1, e0 (.iload_n 3) 1, e0 (.iconst 0) 1, (.invokevirtual 543, 3, 215, 3, 11, 0, 0, 0), e0 .imul 1, e0 (.aload_n 0) 1, e0 (.iload_n 3) 1, (.invokevirtual 489, 3, 204, 2, 11, 0, 0, 0), e0 (.aload_n 0) 1, e0 (.iload_n 3) 1, e0 (.iconst 1) 1, (.invokevirtual 543, 3, 215, 3, 11, 0, 0, 0), e0 .imul 1, e0 .iadd 1, e0 .i2l 1, e0 .ladd 1, e0 (.lstore_n 1) 1]),
  (50, [e0 (.iinc 3 1) 3, e1 (.goto (-49)) 3 4]),
  (56, [e0 (.lload_n 1) 1, e0 .lreturn 1])]

set_option maxRecDepth 100000 in
def pb_X12_meanOf : List (Nat × List EI) := [(0, [e0 (.aload_n 0) 1, (.getfield 154, 3, 11, 63, 30, 237, 146, 1), e0 (.iconst 0) 1, e0 .iaload 1, e0 (.istore_n 2) 1, (.ldc2_w 547, 3, 0, 0, 0, 0, 0, 100), e0 (.aload_n 0) 1, (.getfield 154, 3, 11, 63, 30, 237, 146, 1), e0 (.iconst 1) 1, e0 .iaload 1, e0 .i2l 1, e0 .lmul 1, e0 (.lstore_n 3) 1, e0 (.iconst 0) 1, e0 (.istore 5) 2]),
  (22, [e0 (.iload 5) 2, e0 (.iload_n 1) 1, e1 (.if_icmp .ge 26) 3 51, e0 (.lload_n 3) 1, e0 (.aload_n 0) 1, (.invokevirtual 549, 3, 227, 1, 11, 0, 1, 0), e0 .ladd 1, e0 (.lstore_n 3) 1, e0 (.aload_n 0) 1, (.getfield 154, 3, 11, 63, 30, 237, 146, 1), e0 (.iconst 0) 1, e0 .dup2 1, e0 .iaload 1, e0 (.iconst 1) 1, e0 .iadd 1, e0 .iastore 1]),
  (45, [e0 (.iinc 5 1) 3, e1 (.goto (-26)) 3 22]),
  (51, [e0 (.aload_n 0) 1, (.getfield 154, 3, 11, 63, 30, 237, 146, 1), e0 (.iconst 0) 1, e0 (.iload_n 2) 1, e0 .iastore 1, e0 (.lload_n 3) 1, e0 .lreturn 1])]

set_option maxRecDepth 100000 in
def pb_X12_isAhead : List (Nat × List EI) := [(0, [e0 (.iload_n 1) 1, e0 .i2l 1, e0 (.iload_n 2) 1, e0 .i2l 1, e0 (.iload_n 3) 1, e0 .i2l 1, (.invokestatic 309, 3, 149, 3, 11, 0, 0, 0), e1 (.ifCond .eq 21) 3 30, e0 (.aload_n 0) 1, (.getfield 154, 3, 11, 63, 30, 237, 146, 1), e0 (.iconst 0) 1, e0 .iaload 1, e0 (.iload_n 1) 1, e0 .iadd 1, e0 (.sipush 999) 3, e1 (.if_icmp .gt 7) 3 30, e0 (.iconst 1) 1, e1 (.goto 4) 3 31]),
  (30, [e0 (.iconst 0) 1]),
  (31, [e0 .ireturn 1])]

set_option maxRecDepth 100000 in
def pb_X12_mean : List (Nat × List EI) := [(0, [e0 (.aload_n 0) 1, e0 (.iload_n 1) 1, e0 (.iconst 0) 1, e0 (.sipush 200) 3, (.invokevirtual 552, 3, 229, 4, 11, 0, 0, 0), e1 (.ifCond .eq 11) 3 20, e0 (.aload_n 0) 1, e0 (.iload_n 1) 1, (.invokevirtual 555, 3, 228, 2, 11, 0, 1, 0), e1 (.goto 6) 3 23]),
  (20, [(.ldc2_w 559, 3, 0, 0, 0, 0, 0, (-1000000000000000))]),
  (23, [e0 .lreturn 1])]

set_option maxRecDepth 100000 in
def pb_X12_laysItchers : List (Nat × List EI) := [(0, [e0 (.aload_n 0) 1, e0 (.iconst 0) 1, (.putfield 561, 3, 11, 69, 0, 0, 0, 0), e0 (.aload_n 0) 1, e0 (.iconst 0) 1, (.putfield 564, 3, 11, 70, 0, 0, 0, 0)]),
  (10, [e0 (.iconst 0) 1, e0 (.istore_n 1) 1]),
  (12, [e0 (.iload_n 1) 1, e0 (.bipush 16) 2, e1 (.if_icmp .ge 96) 3 111, e0 (.aload_n 0) 1, e0 (.iload_n 1) 1, (.invokevirtual 473, 3, 200, 2, 11, 0, 0, 0), e1 (.ifCond .ne 6) 3 29, e1 (.goto 79) 3 105]),
  (29, [e0 (.aload_n 0) 1, e0 (.iload_n 1) 1, (.invokevirtual 489, 3, 204, 2, 11, 0, 0, 0), e1 (.ifCond .ne 21) 3 55, e0 (.aload_n 0) 1, e0 .dup 1, (.getfield 564, 3, 11, 70, 0, 0, 0, 0), e0 (.aload_n 0) 1, e0 (.iload_n 1) 1, e0 (.iconst 0) 1, (.invokevirtual 543, 3, 215, 3, 11, 0, 0, 0), e0 .iadd 1, (.putfield 564, 3, 11, 70, 0, 0, 0, 0)]),
  (52, [e1 (.goto 53) 3 105]),
  (55, [e0 (.aload_n 0) 1, (.getfield 163, 3, 11, 66, 30, 239, 8, 1), e0 (.aload_n 0) 1, (.getfield 561, 3, 11, 69, 0, 0, 0, 0), e0 (.iload_n 1) 1, e0 .iastore 1]),
  (65, [e0 (.aload_n 0) 1, (.getfield 166, 3, 11, 67, 30, 240, 8, 1), e0 (.aload_n 0) 1, (.getfield 561, 3, 11, 69, 0, 0, 0, 0), e0 (.aload_n 0) 1, e0 (.iload_n 1) 1, e0 (.iconst 0) 1, (.invokevirtual 543, 3, 215, 3, 11, 0, 0, 0), e0 .iastore 1]),
  (80, [e0 (.aload_n 0) 1, (.getfield 169, 3, 11, 68, 30, 241, 8, 1), e0 (.aload_n 0) 1, (.getfield 561, 3, 11, 69, 0, 0, 0, 0), e0 (.aload_n 0) 1, e0 (.iload_n 1) 1, e0 (.iconst 1) 1, (.invokevirtual 543, 3, 215, 3, 11, 0, 0, 0), e0 .iastore 1]),
  (95, [e0 (.aload_n 0) 1, e0 .dup 1, (.getfield 561, 3, 11, 69, 0, 0, 0, 0), e0 (.iconst 1) 1, e0 .iadd 1, (.putfield 561, 3, 11, 69, 0, 0, 0, 0)]),
  (105, [e0 (.iinc 1 1) 3, e1 (.goto (-96)) 3 12]),
  (111, [e0 .return_ 1])]

set_option maxRecDepth 100000 in
def pb_X12_movedBy : List (Nat × List EI) := [(0, [e0 (.aload_n 0) 1, (.getfield 564, 3, 11, 70, 0, 0, 0, 0), e0 (.istore_n 2) 1, e0 (.iconst 0) 1, e0 (.istore_n 3) 1]),
  (7, [e0 (.iload_n 3) 1, e0 (.aload_n 0) 1, (.getfield 561, 3, 11, 69, 0, 0, 0, 0), e1 (.if_icmp .ge 36) 3 48, e0 (.iload_n 2) 1, e0 (.iload_n 1) 1, e0 (.iload_n 3) 1, e0 .ishr 1, e0 (.iconst 1) 1, e0 .iand 1, e0 (.iconst 1) 1, e1 (.if_icmp .ne 12) 3 34, e0 (.aload_n 0) 1, (.getfield 169, 3, 11, 68, 30, 241, 8, 1), e0 (.iload_n 3) 1, e0 .iaload 1, e1 (.goto 9) 3 40]),
  (34, [e0 (.aload_n 0) 1, (.getfield 166, 3, 11, 67, 30, 240, 8, 1), e0 (.iload_n 3) 1, e0 .iaload 1]),
  (40, [e0 .iadd 1, e0 (.istore_n 2) 1, e0 (.iinc 3 1) 3, e1 (.goto (-38)) 3 7]),
  (48, [e0 (.iload_n 2) 1, e0 .ireturn 1])]

set_option maxRecDepth 100000 in
def pb_X12_waysOf : List (Nat × List EI) := [(0, [e0 (.lconst 1) 1, e0 (.lstore_n 2) 1, e0 (.iconst 0) 1, e0 (.istore 4) 2]),
  (5, [e0 (.iload 4) 2, e0 (.aload_n 0) 1, (.getfield 561, 3, 11, 69, 0, 0, 0, 0), e1 (.if_icmp .ge 52) 3 63, e0 (.lload_n 2) 1, e0 (.iload_n 1) 1, e0 (.iload 4) 2, e0 .ishr 1, e0 (.iconst 1) 1, e0 .iand 1, e0 (.iconst 1) 1, e1 (.if_icmp .ne 18) 3 40, e0 (.aload_n 0) 1, e0 (.aload_n 0) 1, (.getfield 163, 3, 11, 66, 30, 239, 8, 1), e0 (.iload 4) 2, e0 .iaload 1, (.invokevirtual 489, 3, 204, 2, 11, 0, 0, 0), e0 .i2l 1, e1 (.goto 18) 3 55]),
  (40, [e0 (.bipush 100) 2, e0 (.aload_n 0) 1, e0 (.aload_n 0) 1, (.getfield 163, 3, 11, 66, 30, 239, 8, 1), e0 (.iload 4) 2, e0 .iaload 1, (.invokevirtual 489, 3, 204, 2, 11, 0, 0, 0), e0 .isub 1, e0 .i2l 1]),
  (55, [e0 .lmul 1, e0 (.lstore_n 2) 1, e0 (.iinc 4 1) 3, e1 (.goto (-55)) 3 5]),
  (63, [e0 (.lload_n 2) 1, e0 .lreturn 1])]

set_option maxRecDepth 100000 in
def pb_X12_odds : List (Nat × List EI) := [(0, [e0 (.iload_n 1) 1, e0 .i2l 1, e0 (.lconst 0) 1, (.ldc2_w 531, 3, 0, 0, 0, 0, 0, 2), (.invokestatic 309, 3, 149, 3, 11, 0, 0, 0), e1 (.ifCond .ne 5) 3 14, e0 (.iconst (-1)) 1, e0 .ireturn 1]),
  (14, [e0 (.aload_n 0) 1, (.invokevirtual 567, 3, 231, 1, 11, 0, 3, 0), e0 (.lconst 0) 1, e0 (.lstore_n 2) 1, e0 (.iconst 0) 1, e0 (.istore 4) 2]),
  (23, [e0 (.iload 4) 2, e0 (.iconst 1) 1, e0 (.aload_n 0) 1, (.getfield 561, 3, 11, 69, 0, 0, 0, 0), e0 .ishl 1, e1 (.if_icmp .ge 49) 3 80, e0 (.aload_n 0) 1, e0 (.iload 4) 2, (.invokevirtual 570, 3, 232, 2, 11, 0, 0, 0), e0 (.istore 5) 2, e0 (.iload_n 1) 1, e0 (.iload 5) 2, e1 (.ifCond .le 7) 3 52, e0 (.iconst 0) 1, e1 (.goto 13) 3 62]),
  (52, [e0 (.iload 5) 2, e1 (.ifCond .ge 7) 3 61, e0 (.iconst 1) 1, e1 (.goto 4) 3 62]),
  (61, [e0 (.iconst 2) 1]),
  (62, [e1 (.if_icmp .ne 12) 3 74, e0 (.lload_n 2) 1, e0 (.aload_n 0) 1, e0 (.iload 4) 2, (.invokevirtual 573, 3, 233, 2, 11, 0, 1, 0), e0 .ladd 1, e0 (.lstore_n 2) 1]),
  (74, [e0 (.iinc 4 1) 3, e1 (.goto (-54)) 3 23]),
  (80, [e0 (.aload_n 0) 1, (.getfield 561, 3, 11, 69, 0, 0, 0, 0), e0 (.istore 4) 2]),
  (86, [e0 (.iload 4) 2, e0 (.iconst 3) 1, e1 (.if_icmp .ge 15) 3 104, e0 (.lload_n 2) 1, (.ldc2_w 547, 3, 0, 0, 0, 0, 0, 100), e0 .lmul 1, e0 (.lstore_n 2) 1, e0 (.iinc 4 1) 3, e1 (.goto (-15)) 3 86]),
  (104, [e0 (.iconst 3) 1, e0 (.istore 4) 2]),
  (107, [e0 (.iload 4) 2, e0 (.aload_n 0) 1, (.getfield 561, 3, 11, 69, 0, 0, 0, 0), e1 (.if_icmp .ge 15) 3 128, e0 (.lload_n 2) 1, (.ldc2_w 547, 3, 0, 0, 0, 0, 0, 100), e0 .ldiv 1, e0 (.lstore_n 2) 1, e0 (.iinc 4 1) 3, e1 (.goto (-18)) 3 107]),
  (128, [e0 (.lload_n 2) 1, e0 .l2i 1, e0 .ireturn 1])]

set_option maxRecDepth 100000 in
def pb_X12_freeSeat : List (Nat × List EI) := [(0, [e0 (.iconst 0) 1, e0 (.istore_n 1) 1]),
  (2, [e0 (.iload_n 1) 1, e0 (.aload_n 0) 1, (.invokevirtual 458, 3, 194, 1, 11, 0, 0, 0), e1 (.if_icmp .ge 20) 3 27, e0 (.aload_n 0) 1, e0 (.iload_n 1) 1, (.invokevirtual 540, 3, 201, 2, 11, 0, 0, 0), e0 (.iconst (-1)) 1, e1 (.if_icmp .ne 5) 3 21, e0 (.iload_n 1) 1, e0 .ireturn 1]),
  (21, [e0 (.iinc 1 1) 3, e1 (.goto (-22)) 3 2]),
  (27, [e0 (.iconst (-1)) 1, e0 .ireturn 1])]

set_option maxRecDepth 100000 in
def pb_X12_areSeated : List (Nat × List EI) := [(0, [e0 (.iconst 0) 1, e0 (.istore_n 3) 1]),
  (2, [e0 (.iload_n 3) 1, e0 (.aload_n 0) 1, (.invokevirtual 466, 3, 196, 1, 11, 0, 0, 0), e1 (.if_icmp .ge 55) 3 62, e0 (.iload_n 1) 1, e0 (.iload_n 3) 1, e0 .ishr 1, e0 (.iconst 1) 1, e0 .iand 1, e1 (.ifCond .ne 6) 3 21, e1 (.goto 38) 3 56]),
  (21, [e0 (.aload_n 0) 1, (.invokevirtual 576, 3, 235, 1, 11, 0, 0, 0), e0 (.istore 4) 2, e0 (.iload 4) 2, e0 (.iconst (-1)) 1, e1 (.if_icmp .ne 5) 3 35, e0 (.iconst 0) 1, e0 .ireturn 1]),
  (35, [e0 (.aload_n 0) 1, (.getfield 154, 3, 11, 63, 30, 237, 146, 1), e0 (.bipush 13) 2, e0 (.iload_n 3) 1, e0 .iadd 1, e0 (.iload 4) 2, e0 .iastore 1]),
  (46, [e0 (.aload_n 0) 1, (.getfield 154, 3, 11, 63, 30, 237, 146, 1), e0 (.bipush 19) 2, e0 (.iload_n 3) 1, e0 .iadd 1, e0 (.iload_n 2) 1, e0 .iastore 1]),
  (56, [e0 (.iinc 3 1) 3, e1 (.goto (-57)) 3 2]),
  (62, [e0 (.iconst 1) 1, e0 .ireturn 1])]

set_option maxRecDepth 100000 in
def pb_X12_bits : List (Nat × List EI) := [(0, [e0 (.iconst 0) 1, e0 (.istore_n 1) 1, e0 (.iload_n 0) 1, e0 (.istore_n 2) 1]),
  (4, [e0 (.iload_n 2) 1, e1 (.ifCond .eq 15) 3 20, e0 (.iinc 1 1) 3, e0 (.iload_n 2) 1, e0 (.iload_n 2) 1, e0 (.iconst 1) 1, e0 .isub 1, e0 .iand 1, e0 (.istore_n 2) 1, e1 (.goto (-13)) 3 4]),
  (20, [e0 (.iload_n 1) 1, e0 .ireturn 1])]

set_option maxRecDepth 100000 in
def pb_X12_costsOf : List (Nat × List EI) := [(0, [e0 (.iconst 0) 1, e0 (.istore_n 2) 1, e0 (.iconst 0) 1, e0 (.istore_n 3) 1]),
  (4, [e0 (.iload_n 3) 1, e0 (.aload_n 0) 1, (.invokevirtual 466, 3, 196, 1, 11, 0, 0, 0), e1 (.if_icmp .ge 32) 3 41, e0 (.iload_n 1) 1, e0 (.iload_n 3) 1, e0 .ishr 1, e0 (.iconst 1) 1, e0 .iand 1, e0 (.iconst 1) 1, e1 (.if_icmp .ne 17) 3 35, e0 (.iload_n 2) 1, e0 (.aload_n 0) 1, (.getfield 124, 3, 11, 46, 30, 227, 24, 1), e0 (.bipush 13) 2, e0 (.iconst 2) 1, e0 (.iload_n 3) 1, e0 .imul 1, e0 .iadd 1, e0 .iaload 1, e0 .iadd 1, e0 (.istore_n 2) 1]),
  (35, [e0 (.iinc 3 1) 3, e1 (.goto (-34)) 3 4]),
  (41, [e0 (.iload_n 2) 1, e0 .ireturn 1])]

set_option maxRecDepth 100000 in
def pb_X12_isEnough : List (Nat × List EI) := [(0, [e0 (.aload_n 0) 1, e0 (.iload_n 1) 1, e0 (.iload_n 2) 1, (.invokevirtual 579, 3, 236, 3, 11, 0, 0, 0), e1 (.ifCond .eq 32) 3 38, e0 (.iload_n 2) 1, e1 (.ifCond .ne 11) 3 21, e0 (.aload_n 0) 1, e0 (.iload_n 3) 1, (.invokevirtual 555, 3, 228, 2, 11, 0, 1, 0), e1 (.goto 9) 3 27]),
  (21, [e0 (.aload_n 0) 1, e0 (.iload_n 3) 1, (.invokevirtual 555, 3, 228, 2, 11, 0, 1, 0), e0 .lneg 1]),
  (27, [e0 (.iload 4) 2, e0 .i2l 1, e0 .lcmp 1, e1 (.ifCond .lt 7) 3 38, e0 (.iconst 1) 1, e1 (.goto 4) 3 39]),
  (38, [e0 (.iconst 0) 1]),
  (39, [e0 (.istore 5) 2, e0 (.aload_n 0) 1, (.invokevirtual 582, 3, 226, 1, 11, 0, 3, 0), e0 (.iload 5) 2, e0 .ireturn 1])]

set_option maxRecDepth 100000 in
def pb_X12_hire : List (Nat × List EI) := [(0, [e0 (.iload_n 1) 1, e0 .i2l 1, e0 (.lconst 0) 1, e0 (.lconst 1) 1, (.invokestatic 309, 3, 149, 3, 11, 0, 0, 0), e1 (.ifCond .eq 27) 3 34, e0 (.aload_n 0) 1, e0 (.iload_n 2) 1, e0 (.iconst 1) 1, e0 (.bipush 50) 2, (.invokevirtual 552, 3, 229, 4, 11, 0, 0, 0), e1 (.ifCond .eq 16) 3 34, e0 (.iload 4) 2, e0 .i2l 1, e0 (.lconst 0) 1, (.ldc2_w 531, 3, 0, 0, 0, 0, 0, 2), (.invokestatic 309, 3, 149, 3, 11, 0, 0, 0), e1 (.ifCond .ne 5) 3 36]),
  (34, [e0 (.iconst (-1)) 1, e0 .ireturn 1]),
  (36, [e0 (.aload_n 0) 1, (.invokevirtual 585, 3, 225, 1, 11, 0, 3, 0), e0 (.iconst 0) 1, e0 (.istore 5) 2, e0 (.iconst 0) 1, e0 (.istore 6) 2]),
  (46, [e0 (.iload 6) 2, e0 (.aload_n 0) 1, (.invokevirtual 466, 3, 196, 1, 11, 0, 0, 0), e1 (.if_icmp .ge 30) 3 82, e0 (.aload_n 0) 1, e0 (.bipush 10) 2, e0 (.iload 6) 2, e0 .iadd 1, (.invokevirtual 473, 3, 200, 2, 11, 0, 0, 0), e1 (.ifCond .eq 12) 3 76, e0 (.iload 5) 2, e0 (.iconst 1) 1, e0 (.iload 6) 2, e0 .ishl 1, e0 .ior 1, e0 (.istore 5) 2]),
  (76, [e0 (.iinc 6 1) 3, e1 (.goto (-33)) 3 46]),
  (82, [e0 (.iconst (-1)) 1, e0 (.istore 6) 2, e0 (.iconst 0) 1, e0 (.istore 7) 2]),
  (88, [e0 (.iload 7) 2, e0 (.iconst 1) 1, e0 (.aload_n 0) 1, (.invokevirtual 466, 3, 196, 1, 11, 0, 0, 0), e0 .ishl 1, e1 (.if_icmp .ge 83) 3 179, e0 (.iload 7) 2, e0 (.iload 5) 2, e0 .iand 1, e1 (.ifCond .ne 69) 3 173, e0 (.iload 6) 2, e0 (.iconst (-1)) 1, e1 (.if_icmp .eq 47) 3 157, e0 (.iload 7) 2, (.invokestatic 588, 3, 237, 1, 11, 0, 0, 0), e0 (.iload 6) 2, (.invokestatic 588, 3, 237, 1, 11, 0, 0, 0), e1 (.if_icmp .gt 50) 3 173, e0 (.iload 7) 2, (.invokestatic 588, 3, 237, 1, 11, 0, 0, 0), e0 (.iload 6) 2, (.invokestatic 588, 3, 237, 1, 11, 0, 0, 0), e1 (.if_icmp .ne 21) 3 157, e0 (.aload_n 0) 1, e0 (.iload 7) 2, (.invokevirtual 591, 3, 238, 2, 11, 0, 0, 0), e0 (.aload_n 0) 1, e0 (.iload 6) 2, (.invokevirtual 591, 3, 238, 2, 11, 0, 0, 0), e1 (.if_icmp .lt 6) 3 157, e1 (.goto 19) 3 173]),
  (157, [e0 (.aload_n 0) 1, e0 (.iload 7) 2, e0 (.iload_n 1) 1, e0 (.iload_n 2) 1, e0 (.iload_n 3) 1, (.invokevirtual 594, 3, 239, 5, 11, 0, 0, 0), e1 (.ifCond .eq 7) 3 173, e0 (.iload 7) 2, e0 (.istore 6) 2]),
  (173, [e0 (.iinc 7 1) 3, e1 (.goto (-88)) 3 88]),
  (179, [e0 (.iload 6) 2, e0 (.iconst (-1)) 1, e1 (.if_icmp .ne 7) 3 189, e0 (.iconst (-1)) 1, e1 (.goto 33) 3 219]),
  (189, [e0 (.iload 4) 2, e1 (.ifCond .ne 11) 3 202, e0 (.iload 6) 2, (.invokestatic 588, 3, 237, 1, 11, 0, 0, 0), e1 (.goto 20) 3 219]),
  (202, [e0 (.iload 4) 2, e0 (.iconst 1) 1, e1 (.if_icmp .ne 8) 3 213, e0 (.iload 6) 2, e1 (.goto 9) 3 219]),
  (213, [e0 (.aload_n 0) 1, e0 (.iload 6) 2, (.invokevirtual 591, 3, 238, 2, 11, 0, 0, 0)]),
  (219, [e0 .ireturn 1])]

set_option maxRecDepth 100000 in
def pb_X12_changes : List (Nat × List EI) := [(0, [e0 (.aload_n 0) 1, e0 (.iload_n 1) 1, (.invokevirtual 469, 3, 199, 2, 11, 0, 0, 0), e0 (.istore_n 3) 1, e0 (.aload_n 0) 1, (.getfield 154, 3, 11, 63, 30, 237, 146, 1), e0 (.iconst 3) 1, e0 (.iload_n 1) 1, e0 .iadd 1, e0 (.aload_n 0) 1, e0 (.iload_n 2) 1, (.invokevirtual 469, 3, 199, 2, 11, 0, 0, 0), e0 .iastore 1]),
  (19, [e0 (.aload_n 0) 1, (.getfield 154, 3, 11, 63, 30, 237, 146, 1), e0 (.iconst 3) 1, e0 (.iload_n 2) 1, e0 .iadd 1, e0 (.iload_n 3) 1, e0 .iastore 1]),
  (28, [e0 .return_ 1])]

set_option maxRecDepth 100000 in
def pb_X12_change : List (Nat × List EI) := [(0, [e0 (.iload_n 1) 1, e0 .i2l 1, e0 (.lconst 0) 1, e0 (.lconst 1) 1, (.invokestatic 309, 3, 149, 3, 11, 0, 0, 0), e1 (.ifCond .eq 13) 3 20, e0 (.iload_n 2) 1, e0 .i2l 1, e0 (.lconst 0) 1, e0 (.lconst 1) 1, (.invokestatic 309, 3, 149, 3, 11, 0, 0, 0), e1 (.ifCond .ne 5) 3 22]),
  (20, [e0 (.iconst (-1)) 1, e0 .ireturn 1]),
  (22, [e0 (.iload_n 1) 1, e1 (.ifCond .ne 7) 3 30, e0 (.iconst 1) 1, e1 (.goto 4) 3 31]),
  (30, [e0 (.iconst (-1)) 1]),
  (31, [e0 (.istore_n 3) 1, e0 (.iload_n 3) 1, e0 .i2l 1, e0 (.aload_n 0) 1, (.invokevirtual 549, 3, 227, 1, 11, 0, 1, 0), e0 .lmul 1, e0 (.lstore 4) 2, e0 (.iconst (-1)) 1, e0 (.istore 6) 2, e0 (.iconst (-1)) 1, e0 (.istore 7) 2, e0 (.iconst 0) 1, e0 (.istore 8) 2]),
  (50, [e0 (.iload 8) 2, e0 (.bipush 16) 2, e1 (.if_icmp .ge 97) 3 151, e0 (.iload 8) 2, e0 (.iconst 1) 1, e0 .iadd 1, e0 (.istore 9) 2]),
  (63, [e0 (.iload 9) 2, e0 (.bipush 16) 2, e1 (.if_icmp .ge 78) 3 145, e0 (.aload_n 0) 1, e0 (.iload 8) 2, (.invokevirtual 473, 3, 200, 2, 11, 0, 0, 0), e1 (.ifCond .eq 63) 3 139, e0 (.aload_n 0) 1, e0 (.iload 9) 2, (.invokevirtual 473, 3, 200, 2, 11, 0, 0, 0), e1 (.ifCond .ne 6) 3 91, e1 (.goto 51) 3 139]),
  (91, [e0 (.aload_n 0) 1, e0 (.iload 8) 2, e0 (.iload 9) 2, (.invokevirtual 598, 3, 241, 3, 11, 0, 3, 0), e0 (.iload_n 3) 1, e0 .i2l 1, e0 (.aload_n 0) 1, (.invokevirtual 549, 3, 227, 1, 11, 0, 1, 0), e0 .lmul 1, e0 (.lstore 10) 2, e0 (.aload_n 0) 1, e0 (.iload 8) 2, e0 (.iload 9) 2, (.invokevirtual 598, 3, 241, 3, 11, 0, 3, 0), e0 (.lload 10) 2, e0 (.lload 4) 2, e0 .lcmp 1, e1 (.ifCond .gt 6) 3 127, e1 (.goto 15) 3 139]),
  (127, [e0 (.lload 10) 2, e0 (.lstore 4) 2, e0 (.iload 8) 2, e0 (.istore 6) 2, e0 (.iload 9) 2, e0 (.istore 7) 2]),
  (139, [e0 (.iinc 9 1) 3, e1 (.goto (-79)) 3 63]),
  (145, [e0 (.iinc 8 1) 3, e1 (.goto (-98)) 3 50]),
  (151, [e0 (.iload_n 2) 1, e1 (.ifCond .ne 8) 3 160, e0 (.iload 6) 2, e1 (.goto 5) 3 162]),
  (160, [e0 (.iload 7) 2]),
  (162, [e0 .ireturn 1])]

set_option maxRecDepth 100000 in
def pb_X12_laysPointMoves : List (Nat × List EI) := [(0, [e0 (.aload_n 0) 1, (.getfield 154, 3, 11, 63, 30, 237, 146, 1), e0 (.iconst 0) 1, e0 .iaload 1, e0 (.istore_n 2) 1, e0 (.aload_n 0) 1, (.getfield 154, 3, 11, 63, 30, 237, 146, 1), e0 (.iconst 2) 1, e0 .iaload 1, e0 (.istore_n 3) 1, e0 (.iconst 0) 1, e0 (.istore 4) 2]),
  (17, [e0 (.iload 4) 2, e0 (.iload_n 1) 1, e1 (.if_icmp .ge 61) 3 81, e0 (.iconst 0) 1, e0 (.istore 5) 2]),
  (26, [e0 (.iload 5) 2, e0 (.aload_n 0) 1, (.invokevirtual 525, 3, 197, 1, 11, 0, 0, 0), e1 (.if_icmp .ge 33) 3 65, e0 (.aload_n 0) 1, (.getfield 154, 3, 11, 63, 30, 237, 146, 1), e0 (.iconst 2) 1, e0 (.iload 5) 2, e0 .iastore 1]),
  (43, [e0 (.aload_n 0) 1, (.getfield 172, 3, 11, 71, 31, 242, 12, 1), e0 (.iconst 4) 1, e0 (.iload 4) 2, e0 .imul 1, e0 (.iload 5) 2, e0 .iadd 1, e0 (.aload_n 0) 1, (.invokevirtual 549, 3, 227, 1, 11, 0, 1, 0), e0 .lastore 1]),
  (59, [e0 (.iinc 5 1) 3, e1 (.goto (-36)) 3 26]),
  (65, [e0 (.aload_n 0) 1, (.getfield 154, 3, 11, 63, 30, 237, 146, 1), e0 (.iconst 0) 1, e0 .dup2 1, e0 .iaload 1, e0 (.iconst 1) 1, e0 .iadd 1, e0 .iastore 1]),
  (75, [e0 (.iinc 4 1) 3, e1 (.goto (-61)) 3 17]),
  (81, [e0 (.aload_n 0) 1, (.getfield 154, 3, 11, 63, 30, 237, 146, 1), e0 (.iconst 0) 1, e0 (.iload_n 2) 1, e0 .iastore 1, e0 (.aload_n 0) 1, (.getfield 154, 3, 11, 63, 30, 237, 146, 1), e0 (.iconst 2) 1, e0 (.iload_n 3) 1, e0 .iastore 1]),
  (95, [e0 .return_ 1])]

set_option maxRecDepth 100000 in
def pb_X12_bestPoint : List (Nat × List EI) := [(0, [e0 (.iconst 0) 1, e0 (.istore_n 2) 1, e0 (.iconst 1) 1, e0 (.istore_n 3) 1]),
  (4, [e0 (.iload_n 3) 1, e0 (.aload_n 0) 1, (.invokevirtual 525, 3, 197, 1, 11, 0, 0, 0), e1 (.if_icmp .ge 57) 3 66, e0 (.aload_n 0) 1, (.getfield 172, 3, 11, 71, 31, 242, 12, 1), e0 (.iconst 4) 1, e0 (.iload_n 1) 1, e0 .imul 1, e0 (.iload_n 3) 1, e0 .iadd 1, e0 .laload 1, e0 (.aload_n 0) 1, (.getfield 172, 3, 11, 71, 31, 242, 12, 1), e0 (.iconst 4) 1, e0 (.iload_n 1) 1, e0 .imul 1, e0 (.iload_n 2) 1, e0 .iadd 1, e0 .laload 1, e0 .lsub 1, e0 (.lstore 4) 2]),
  (35, [e0 (.iload_n 1) 1, e0 (.iconst 2) 1, e0 .irem 1, e1 (.ifCond .ne 13) 3 51, e0 (.lload 4) 2, e0 (.lconst 0) 1, e0 .lcmp 1, e1 (.ifCond .le 15) 3 60, e1 (.goto 10) 3 58]),
  (51, [e0 (.lload 4) 2, e0 (.lconst 0) 1, e0 .lcmp 1, e1 (.ifCond .ge 5) 3 60]),
  (58, [e0 (.iload_n 3) 1, e0 (.istore_n 2) 1]),
  (60, [e0 (.iinc 3 1) 3, e1 (.goto (-59)) 3 4]),
  (66, [e0 (.iload_n 2) 1, e0 .ireturn 1])]

set_option maxRecDepth 100000 in
def pb_X12_points : List (Nat × List EI) := [(0, [e0 (.aload_n 0) 1, (.invokevirtual 525, 3, 197, 1, 11, 0, 0, 0), e1 (.ifCond .eq 31) 3 35, e0 (.aload_n 0) 1, e0 (.iload_n 1) 1, e0 (.iconst 1) 1, e0 (.iconst 3) 1, (.invokevirtual 552, 3, 229, 4, 11, 0, 0, 0), e1 (.ifCond .eq 21) 3 35, e0 (.iload_n 2) 1, e0 (.iconst (-1)) 1, e1 (.if_icmp .eq 20) 3 39, e0 (.iload_n 2) 1, e0 .i2l 1, e0 (.lconst 0) 1, e0 (.iload_n 1) 1, e0 (.iconst 1) 1, e0 .isub 1, e0 .i2l 1, (.invokestatic 309, 3, 149, 3, 11, 0, 0, 0), e1 (.ifCond .ne 7) 3 39]),
  (35, [(.ldc2_w 559, 3, 0, 0, 0, 0, 0, (-1000000000000000)), e0 .lreturn 1]),
  (39, [e0 (.aload_n 0) 1, e0 (.iload_n 1) 1, (.invokevirtual 601, 3, 243, 2, 11, 0, 3, 0), e0 (.iload_n 2) 1, e0 (.iconst (-1)) 1, e1 (.if_icmp .eq 10) 3 56, e0 (.aload_n 0) 1, e0 (.iload_n 2) 1, (.invokevirtual 604, 3, 244, 2, 11, 0, 0, 0), e0 .i2l 1, e0 .lreturn 1]),
  (56, [(.ldc2_w 547, 3, 0, 0, 0, 0, 0, 100), e0 (.aload_n 0) 1, (.getfield 154, 3, 11, 63, 30, 237, 146, 1), e0 (.iconst 1) 1, e0 .iaload 1, e0 .i2l 1, e0 .lmul 1, e0 (.lstore_n 3) 1, e0 (.iconst 0) 1, e0 (.istore 5) 2]),
  (71, [e0 (.iload 5) 2, e0 (.iload_n 1) 1, e1 (.if_icmp .ge 28) 3 102, e0 (.lload_n 3) 1, e0 (.aload_n 0) 1, (.getfield 172, 3, 11, 71, 31, 242, 12, 1), e0 (.iconst 4) 1, e0 (.iload 5) 2, e0 .imul 1, e0 (.aload_n 0) 1, e0 (.iload 5) 2, (.invokevirtual 604, 3, 244, 2, 11, 0, 0, 0), e0 .iadd 1, e0 .laload 1, e0 .ladd 1, e0 (.lstore_n 3) 1, e0 (.iinc 5 1) 3, e1 (.goto (-28)) 3 71]),
  (102, [e0 (.lload_n 3) 1, e0 .lreturn 1])]

set_option maxRecDepth 100000 in
def pb_X12_peopleIn : List (Nat × List EI) := [(0, [e0 (.iconst 0) 1, e0 (.istore_n 2) 1, e0 (.iconst 0) 1, e0 (.istore_n 3) 1]),
  (4, [e0 (.iload_n 3) 1, e0 (.aload_n 0) 1, (.getfield 561, 3, 11, 69, 0, 0, 0, 0), e1 (.if_icmp .ge 29) 3 38, e0 (.iload_n 1) 1, e0 (.iload_n 3) 1, e0 .ishr 1, e0 (.iconst 1) 1, e0 .iand 1, e0 (.iconst 1) 1, e1 (.if_icmp .ne 14) 3 32, e0 (.iload_n 2) 1, e0 (.iconst 1) 1, e0 (.aload_n 0) 1, (.getfield 163, 3, 11, 66, 30, 239, 8, 1), e0 (.iload_n 3) 1, e0 .iaload 1, e0 .ishl 1, e0 .ior 1, e0 (.istore_n 2) 1]),
  (32, [e0 (.iinc 3 1) 3, e1 (.goto (-31)) 3 4]),
  (38, [e0 (.iload_n 2) 1, e0 .ireturn 1])]

set_option maxRecDepth 100000 in
def pb_X12_fell : List (Nat × List EI) := [(0, [e0 (.iload_n 2) 1, e0 .i2l 1, e0 (.lconst 0) 1, (.ldc2_w 531, 3, 0, 0, 0, 0, 0, 2), (.invokestatic 309, 3, 149, 3, 11, 0, 0, 0), e1 (.ifCond .ne 5) 3 14, e0 (.iconst (-1)) 1, e0 .ireturn 1]),
  (14, [e0 (.aload_n 0) 1, (.invokevirtual 567, 3, 231, 1, 11, 0, 3, 0), e0 (.iconst 0) 1, e0 (.istore_n 3) 1, e0 (.iconst 1) 1, e0 (.aload_n 0) 1, (.invokevirtual 461, 3, 195, 1, 11, 0, 0, 0), e0 .ishl 1, e0 (.iconst 1) 1, e0 .isub 1, e0 (.istore 4) 2, e0 (.iconst 0) 1, e0 (.istore 5) 2, e0 (.iconst 0) 1, e0 (.istore 6) 2]),
  (36, [e0 (.iload 6) 2, e0 (.iconst 1) 1, e0 (.aload_n 0) 1, (.getfield 561, 3, 11, 69, 0, 0, 0, 0), e0 .ishl 1, e1 (.if_icmp .ge 47) 3 91, e0 (.aload_n 0) 1, e0 (.iload 6) 2, (.invokevirtual 570, 3, 232, 2, 11, 0, 0, 0), e0 (.iload_n 1) 1, e1 (.if_icmp .eq 6) 3 60, e1 (.goto 28) 3 85]),
  (60, [e0 (.iinc 3 1) 3, e0 (.iload 4) 2, e0 (.aload_n 0) 1, e0 (.iload 6) 2, (.invokevirtual 607, 3, 246, 2, 11, 0, 0, 0), e0 .iand 1, e0 (.istore 4) 2, e0 (.iload 5) 2, e0 (.aload_n 0) 1, e0 (.iload 6) 2, (.invokevirtual 607, 3, 246, 2, 11, 0, 0, 0), e0 .ior 1, e0 (.istore 5) 2]),
  (85, [e0 (.iinc 6 1) 3, e1 (.goto (-52)) 3 36]),
  (91, [e0 (.iload_n 2) 1, e1 (.ifCond .ne 7) 3 99, e0 (.iload_n 3) 1, e1 (.goto 23) 3 119]),
  (99, [e0 (.iload_n 2) 1, e0 (.iconst 1) 1, e1 (.if_icmp .ne 16) 3 117, e0 (.iload_n 3) 1, e1 (.ifCond .ne 7) 3 112, e0 (.iconst 0) 1, e1 (.goto 10) 3 119]),
  (112, [e0 (.iload 4) 2, e1 (.goto 5) 3 119]),
  (117, [e0 (.iload 5) 2]),
  (119, [e0 .ireturn 1])]

set_option maxRecDepth 100000 in
def pb_X12_asked : List (Nat × List EI) := [(0, [e0 (.iload_n 2) 1, e0 .i2l 1, e0 (.lconst 0) 1, e0 (.iconst 1) 1, e0 (.aload_n 0) 1, (.invokevirtual 461, 3, 195, 1, 11, 0, 0, 0), e0 .ishl 1, e0 (.iconst 1) 1, e0 .isub 1, e0 .i2l 1, (.invokestatic 309, 3, 149, 3, 11, 0, 0, 0), e1 (.ifCond .ne 5) 3 20, e0 (.iconst (-1)) 1, e0 .ireturn 1]),
  (20, [e0 (.aload_n 0) 1, (.getfield 154, 3, 11, 63, 30, 237, 146, 1), e0 (.iconst 2) 1, e0 .iaload 1, e0 (.istore_n 3) 1, e0 (.iconst 0) 1, e0 (.istore 4) 2, e0 (.iconst 0) 1, e0 (.istore 5) 2]),
  (33, [e0 (.iload 5) 2, e0 (.aload_n 0) 1, (.invokevirtual 525, 3, 197, 1, 11, 0, 0, 0), e1 (.if_icmp .ge 95) 3 134, e0 (.aload_n 0) 1, (.getfield 154, 3, 11, 63, 30, 237, 146, 1), e0 (.iconst 2) 1, e0 (.iload 5) 2, e0 .iastore 1]),
  (50, [e0 (.iconst 0) 1, e0 (.istore 6) 2, e0 (.iconst 0) 1, e0 (.istore 7) 2]),
  (56, [e0 (.iload 7) 2, e0 (.bipush 16) 2, e1 (.if_icmp .ge 53) 3 113, e0 (.aload_n 0) 1, e0 (.iload 7) 2, (.invokevirtual 473, 3, 200, 2, 11, 0, 0, 0), e1 (.ifCond .eq 38) 3 107, e0 (.iload 6) 2, e0 (.aload_n 0) 1, e0 (.iload 7) 2, e0 (.aload_n 0) 1, e0 (.iload 7) 2, (.invokevirtual 476, 3, 202, 2, 11, 0, 0, 0), e1 (.ifCond .ne 17) 3 100, e0 (.iload_n 2) 1, e0 (.iload 7) 2, e0 .ishr 1, e0 (.iconst 1) 1, e0 .iand 1, e0 (.iconst 1) 1, e1 (.if_icmp .ne 7) 3 100, e0 (.iconst 1) 1, e1 (.goto 4) 3 101]),
  (100, [e0 (.iconst 0) 1]),
  (101, [(.invokevirtual 543, 3, 215, 3, 11, 0, 0, 0), e0 .iadd 1, e0 (.istore 6) 2]),
  (107, [e0 (.iinc 7 1) 3, e1 (.goto (-54)) 3 56]),
  (113, [e0 (.iload 6) 2, e0 (.iload_n 1) 1, e1 (.if_icmp .ne 12) 3 128, e0 (.iload 4) 2, e0 (.iconst 1) 1, e0 (.iload 5) 2, e0 .ishl 1, e0 .ior 1, e0 (.istore 4) 2]),
  (128, [e0 (.iinc 5 1) 3, e1 (.goto (-98)) 3 33]),
  (134, [e0 (.aload_n 0) 1, (.getfield 154, 3, 11, 63, 30, 237, 146, 1), e0 (.iconst 2) 1, e0 (.iload_n 3) 1, e0 .iastore 1, e0 (.iload 4) 2, e0 .ireturn 1])]

set_option maxRecDepth 100000 in
def pb_X12_loudest : List (Nat × List EI) := [(0, [e0 (.aload_n 0) 1, e0 (.iload_n 1) 1, e0 (.iconst 1) 1, e0 (.sipush 200) 3, (.invokevirtual 552, 3, 229, 4, 11, 0, 0, 0), e1 (.ifCond .ne 5) 3 14, e0 (.iconst (-1)) 1, e0 .ireturn 1]),
  (14, [e0 (.aload_n 0) 1, e0 (.iload_n 1) 1, (.invokevirtual 555, 3, 228, 2, 11, 0, 1, 0), e0 (.lstore_n 2) 1, e0 (.iconst (-1)) 1, e0 (.istore 4) 2, (.ldc2_w 610, 3, 0, 0, 0, 0, 0, (-1)), e0 (.lstore 5) 2, e0 (.iconst 0) 1, e0 (.istore 7) 2]),
  (31, [e0 (.iload 7) 2, e0 (.aload_n 0) 1, (.getfield 114, 3, 11, 43, 30, 224, 12, 1), e0 (.bipush 9) 2, e0 .iaload 1, e1 (.if_icmp .ge 55) 3 95, e0 (.aload_n 0) 1, e0 (.iload 7) 2, (.putfield 160, 3, 11, 65, 0, 0, 0, 0)]),
  (49, [e0 (.aload_n 0) 1, e0 (.iload_n 1) 1, (.invokevirtual 555, 3, 228, 2, 11, 0, 1, 0), e0 (.lload_n 2) 1, e0 .lsub 1, e0 (.lstore 8) 2, e0 (.lload 8) 2, e0 (.lconst 0) 1, e0 .lcmp 1, e1 (.ifCond .ge 8) 3 70, e0 (.lload 8) 2, e0 .lneg 1, e0 (.lstore 8) 2]),
  (70, [e0 (.lload 8) 2, e0 (.lload 5) 2, e0 .lcmp 1, e1 (.ifCond .gt 6) 3 81, e1 (.goto 11) 3 89]),
  (81, [e0 (.lload 8) 2, e0 (.lstore 5) 2, e0 (.iload 7) 2, e0 (.istore 4) 2]),
  (89, [e0 (.iinc 7 1) 3, e1 (.goto (-61)) 3 31]),
  (95, [e0 (.aload_n 0) 1, e0 (.iconst (-1)) 1, (.putfield 160, 3, 11, 65, 0, 0, 0, 0), e0 (.iload 4) 2, e0 .ireturn 1])]

set_option maxRecDepth 100000 in
def pb_X12_keeps : List (Nat × List EI) := [(0, [e0 (.aload_n 0) 1, e0 (.aload_n 0) 1, (.getfield 612, 3, 11, 74, 0, 0, 0, 0), e0 (.iconst 1) 1, e0 .iadd 1, e0 (.bipush 20) 2, e0 .irem 1, (.putfield 612, 3, 11, 74, 0, 0, 0, 0)]),
  (13, [e0 (.iconst 0) 1, e0 (.istore_n 1) 1]),
  (15, [e0 (.iload_n 1) 1, e0 (.sipush 146) 3, e1 (.if_icmp .ge 30) 3 49, e0 (.aload_n 0) 1, (.getfield 175, 3, 11, 72, 30, 243, 2920, 1), e0 (.sipush 146) 3, e0 (.aload_n 0) 1, (.getfield 612, 3, 11, 74, 0, 0, 0, 0), e0 .imul 1, e0 (.iload_n 1) 1, e0 .iadd 1, e0 (.aload_n 0) 1, (.getfield 154, 3, 11, 63, 30, 237, 146, 1), e0 (.iload_n 1) 1, e0 .iaload 1, e0 .iastore 1]),
  (43, [e0 (.iinc 1 1) 3, e1 (.goto (-31)) 3 15]),
  (49, [e0 (.aload_n 0) 1, (.getfield 409, 3, 11, 73, 0, 0, 0, 0), e0 (.bipush 20) 2, e1 (.if_icmp .ge 13) 3 68, e0 (.aload_n 0) 1, e0 .dup 1, (.getfield 409, 3, 11, 73, 0, 0, 0, 0), e0 (.iconst 1) 1, e0 .iadd 1, (.putfield 409, 3, 11, 73, 0, 0, 0, 0)]),
  (68, [e0 .return_ 1])]

set_option maxRecDepth 100000 in
def pb_X12_undo : List (Nat × List EI) := [(0, [e0 (.aload_n 0) 1, (.getfield 409, 3, 11, 73, 0, 0, 0, 0), e1 (.ifCond .ne 15) 3 19, e0 (.aload_n 0) 1, (.getfield 17, 3, 11, 9, 30, 192, 6, 1), e0 (.iconst 4) 1, e0 .dup2 1, e0 .iaload 1, e0 (.iconst 1) 1, e0 .iadd 1, e0 .iastore 1]),
  (17, [e0 (.iconst 0) 1, e0 .ireturn 1]),
  (19, [e0 (.iconst 0) 1, e0 (.istore_n 1) 1]),
  (21, [e0 (.iload_n 1) 1, e0 (.sipush 146) 3, e1 (.if_icmp .ge 30) 3 55, e0 (.aload_n 0) 1, (.getfield 154, 3, 11, 63, 30, 237, 146, 1), e0 (.iload_n 1) 1, e0 (.aload_n 0) 1, (.getfield 175, 3, 11, 72, 30, 243, 2920, 1), e0 (.sipush 146) 3, e0 (.aload_n 0) 1, (.getfield 612, 3, 11, 74, 0, 0, 0, 0), e0 .imul 1, e0 (.iload_n 1) 1, e0 .iadd 1, e0 .iaload 1, e0 .iastore 1]),
  (49, [e0 (.iinc 1 1) 3, e1 (.goto (-31)) 3 21]),
  (55, [e0 (.aload_n 0) 1, e0 (.aload_n 0) 1, (.getfield 612, 3, 11, 74, 0, 0, 0, 0), e0 (.bipush 20) 2, e0 .iadd 1, e0 (.iconst 1) 1, e0 .isub 1, e0 (.bipush 20) 2, e0 .irem 1, (.putfield 612, 3, 11, 74, 0, 0, 0, 0)]),
  (71, [e0 (.aload_n 0) 1, e0 .dup 1, (.getfield 409, 3, 11, 73, 0, 0, 0, 0), e0 (.iconst 1) 1, e0 .isub 1, (.putfield 409, 3, 11, 73, 0, 0, 0, 0)]),
  (81, [e0 (.iconst 1) 1, e0 .ireturn 1])]

set_option maxRecDepth 100000 in
def pb_X12_seed : List (Nat × List EI) := [(0, [e0 (.iload_n 1) 1, e1 (.ifCond .ge 15) 3 16, e0 (.aload_n 0) 1, (.getfield 17, 3, 11, 9, 30, 192, 6, 1), e0 (.iconst 5) 1, e0 .dup2 1, e0 .iaload 1, e0 (.iconst 1) 1, e0 .iadd 1, e0 .iastore 1]),
  (14, [e0 (.iconst 0) 1, e0 .ireturn 1]),
  (16, [e0 (.aload_n 0) 1, e0 (.iload_n 1) 1, e0 .i2l 1, (.putfield 178, 3, 11, 75, 1, 0, 0, 0), e0 (.iconst 1) 1, e0 .ireturn 1])]

set_option maxRecDepth 100000 in
def pb_X12_drawOf : List (Nat × List EI) := [(0, [e0 (.aload_n 0) 1, (.ldc2_w 615, 3, 0, 0, 0, 0, 0, 1103515245), e0 (.aload_n 0) 1, (.getfield 178, 3, 11, 75, 1, 0, 0, 0), e0 .lmul 1, (.ldc2_w 617, 3, 0, 0, 0, 0, 0, 12345), e0 .ladd 1, (.ldc2_w 619, 3, 0, 0, 0, 0, 0, 2147483648), e0 .lrem 1, (.putfield 178, 3, 11, 75, 1, 0, 0, 0)]),
  (20, [e0 (.aload_n 0) 1, (.getfield 178, 3, 11, 75, 1, 0, 0, 0), (.ldc2_w 621, 3, 0, 0, 0, 0, 0, 64), e0 .ldiv 1, e0 (.iload_n 1) 1, e0 .i2l 1, e0 .lrem 1, e0 .l2i 1, e0 .ireturn 1])]

set_option maxRecDepth 100000 in
def pb_X12_isKept : List (Nat × List EI) := [(0, [e0 (.aload_n 0) 1, (.getfield 154, 3, 11, 63, 30, 237, 146, 1), e0 (.bipush 25) 2, e0 .iaload 1, e0 (.bipush 40) 2, e1 (.if_icmp .ne 36) 3 45, e0 (.bipush 26) 2, e0 (.istore_n 3) 1]),
  (15, [e0 (.iload_n 3) 1, e0 (.sipush 143) 3, e1 (.if_icmp .ge 23) 3 42, e0 (.aload_n 0) 1, (.getfield 154, 3, 11, 63, 30, 237, 146, 1), e0 (.iload_n 3) 1, e0 (.aload_n 0) 1, (.getfield 154, 3, 11, 63, 30, 237, 146, 1), e0 (.iload_n 3) 1, e0 (.iconst 3) 1, e0 .iadd 1, e0 .iaload 1, e0 .iastore 1]),
  (36, [e0 (.iinc 3 1) 3, e1 (.goto (-24)) 3 15]),
  (42, [e1 (.goto 14) 3 56]),
  (45, [e0 (.aload_n 0) 1, (.getfield 154, 3, 11, 63, 30, 237, 146, 1), e0 (.bipush 25) 2, e0 .dup2 1, e0 .iaload 1, e0 (.iconst 1) 1, e0 .iadd 1, e0 .iastore 1]),
  (56, [e0 (.bipush 26) 2, e0 (.iconst 3) 1, e0 (.aload_n 0) 1, (.getfield 154, 3, 11, 63, 30, 237, 146, 1), e0 (.bipush 25) 2, e0 .iaload 1, e0 .imul 1, e0 .iadd 1, e0 (.iconst 3) 1, e0 .isub 1, e0 (.istore_n 3) 1, e0 (.aload_n 0) 1, (.getfield 154, 3, 11, 63, 30, 237, 146, 1), e0 (.iload_n 3) 1, e0 (.aload_n 0) 1, (.getfield 154, 3, 11, 63, 30, 237, 146, 1), e0 (.iconst 0) 1, e0 .iaload 1, e0 .iastore 1]),
  (83, [e0 (.aload_n 0) 1, (.getfield 154, 3, 11, 63, 30, 237, 146, 1), e0 (.iload_n 3) 1, e0 (.iconst 1) 1, e0 .iadd 1, e0 (.iload_n 1) 1, e0 .iastore 1]),
  (92, [e0 (.aload_n 0) 1, (.getfield 154, 3, 11, 63, 30, 237, 146, 1), e0 (.iload_n 3) 1, e0 (.iconst 2) 1, e0 .iadd 1, e0 (.iload_n 2) 1, e0 .iastore 1]),
  (101, [e0 .return_ 1])]

set_option maxRecDepth 100000 in
def pb_X12_minuteGoes : List (Nat × List EI) := [(0, [e0 (.aload_n 0) 1, (.getfield 154, 3, 11, 63, 30, 237, 146, 1), e0 (.iconst 1) 1, e0 .iaload 1, e0 (.istore_n 1) 1, e0 (.iconst 0) 1, e0 (.istore_n 2) 1, e0 (.iconst 0) 1, e0 (.istore_n 3) 1]),
  (11, [e0 (.iload_n 3) 1, e0 (.bipush 16) 2, e1 (.if_icmp .ge 80) 3 94, e0 (.aload_n 0) 1, e0 (.iload_n 3) 1, (.invokevirtual 473, 3, 200, 2, 11, 0, 0, 0), e1 (.ifCond .ne 6) 3 28, e1 (.goto 63) 3 88]),
  (28, [e0 (.aload_n 0) 1, e0 (.iload_n 3) 1, (.invokevirtual 489, 3, 204, 2, 11, 0, 0, 0), e1 (.ifCond .le 21) 3 54, e0 (.aload_n 0) 1, e0 (.bipush 100) 2, (.invokevirtual 623, 3, 253, 2, 11, 0, 0, 0), e0 (.aload_n 0) 1, e0 (.iload_n 3) 1, (.invokevirtual 489, 3, 204, 2, 11, 0, 0, 0), e1 (.if_icmp .ge 7) 3 54, e0 (.iconst 1) 1, e1 (.goto 4) 3 55]),
  (54, [e0 (.iconst 0) 1]),
  (55, [e0 (.istore 4) 2, e0 (.iload_n 1) 1, e0 (.aload_n 0) 1, e0 (.iload_n 3) 1, e0 (.iload 4) 2, (.invokevirtual 543, 3, 215, 3, 11, 0, 0, 0), e0 .iadd 1, e0 (.istore_n 1) 1, e0 (.iload 4) 2, e1 (.ifCond .ne 6) 3 75, e1 (.goto 16) 3 88]),
  (75, [e0 (.iinc 2 1) 3, e0 (.aload_n 0) 1, e0 (.iload_n 3) 1, e0 (.aload_n 0) 1, e0 (.iload_n 3) 1, (.invokevirtual 519, 3, 213, 2, 11, 0, 0, 0), (.invokevirtual 626, 3, 254, 3, 11, 0, 3, 0)]),
  (88, [e0 (.iinc 3 1) 3, e1 (.goto (-80)) 3 11]),
  (94, [e0 (.aload_n 0) 1, (.getfield 154, 3, 11, 63, 30, 237, 146, 1), e0 (.iconst 1) 1, e0 (.iload_n 1) 1, (.ldc_w 629, 3, 0, 0, 0, 0, 0, 99999), e1 (.if_icmp .le 9) 3 112, (.ldc_w 629, 3, 0, 0, 0, 0, 0, 99999), e1 (.goto 17) 3 126]),
  (112, [e0 (.iload_n 1) 1, (.ldc_w 630, 3, 0, 0, 0, 0, 0, (-99999)), e1 (.if_icmp .ge 9) 3 125, (.ldc_w 630, 3, 0, 0, 0, 0, 0, (-99999)), e1 (.goto 4) 3 126]),
  (125, [e0 (.iload_n 1) 1]),
  (126, [e0 .iastore 1, e0 (.aload_n 0) 1, (.getfield 154, 3, 11, 63, 30, 237, 146, 1), e0 (.iconst 0) 1, e0 .dup2 1, e0 .iaload 1, e0 (.iconst 1) 1, e0 .iadd 1, e0 .iastore 1]),
  (137, [e0 (.iload_n 2) 1, e0 .ireturn 1])]

set_option maxRecDepth 100000 in
def pb_X12_minutes : List (Nat × List EI) := [(0, [e0 (.aload_n 0) 1, (.getfield 405, 3, 11, 53, 2, 0, 0, 0), e1 (.ifCond .eq 14) 3 18, e0 (.aload_n 0) 1, e0 (.iload_n 1) 1, e0 (.iconst 1) 1, e0 (.bipush 100) 2, (.invokevirtual 552, 3, 229, 4, 11, 0, 0, 0), e1 (.ifCond .ne 15) 3 30]),
  (18, [e0 (.aload_n 0) 1, (.getfield 17, 3, 11, 9, 30, 192, 6, 1), e0 (.iconst 2) 1, e0 .dup2 1, e0 .iaload 1, e0 (.iconst 1) 1, e0 .iadd 1, e0 .iastore 1]),
  (28, [e0 (.iconst (-1)) 1, e0 .ireturn 1]),
  (30, [e0 (.aload_n 0) 1, (.invokevirtual 631, 3, 250, 1, 11, 0, 3, 0), e0 (.iconst 0) 1, e0 (.istore_n 2) 1, e0 (.iconst 0) 1, e0 (.istore_n 3) 1]),
  (38, [e0 (.iload_n 3) 1, e0 (.iload_n 1) 1, e1 (.if_icmp .ge 16) 3 56, e0 (.iload_n 2) 1, e0 (.aload_n 0) 1, (.invokevirtual 634, 3, 255, 1, 11, 0, 0, 0), e0 .iadd 1, e0 (.istore_n 2) 1, e0 (.iinc 3 1) 3, e1 (.goto (-15)) 3 38]),
  (56, [e0 (.iload_n 2) 1, e0 .ireturn 1])]

set_option maxRecDepth 100000 in
def pb_X12_refuses : List (Nat × List EI) := [(0, [e0 (.aload_n 0) 1, (.getfield 17, 3, 11, 9, 30, 192, 6, 1), e0 (.iconst 3) 1, e0 .dup2 1, e0 .iaload 1, e0 (.iconst 1) 1, e0 .iadd 1, e0 .iastore 1]),
  (10, [e0 (.iconst 0) 1, e0 .ireturn 1])]

set_option maxRecDepth 100000 in
def pb_X12_point : List (Nat × List EI) := [(0, [e0 (.iload_n 1) 1, e0 .i2l 1, (.ldc2_w 610, 3, 0, 0, 0, 0, 0, (-1)), e0 (.aload_n 0) 1, (.invokevirtual 525, 3, 197, 1, 11, 0, 0, 0), e0 (.iconst 1) 1, e0 .isub 1, e0 .i2l 1, (.invokestatic 309, 3, 149, 3, 11, 0, 0, 0), e1 (.ifCond .eq 13) 3 28, e0 (.aload_n 0) 1, (.getfield 154, 3, 11, 63, 30, 237, 146, 1), e0 (.iconst 2) 1, e0 .iaload 1, e0 (.iload_n 1) 1, e1 (.if_icmp .ne 8) 3 33]),
  (28, [e0 (.aload_n 0) 1, (.invokevirtual 637, 3, 257, 1, 11, 0, 0, 0), e0 .ireturn 1]),
  (33, [e0 (.aload_n 0) 1, (.invokevirtual 631, 3, 250, 1, 11, 0, 3, 0), e0 (.aload_n 0) 1, (.getfield 154, 3, 11, 63, 30, 237, 146, 1), e0 (.iconst 2) 1, e0 (.iload_n 1) 1, e0 .iastore 1]),
  (44, [e0 (.iconst 1) 1, e0 .ireturn 1])]

set_option maxRecDepth 100000 in
def pb_X12_move : List (Nat × List EI) := [(0, [e0 (.iload_n 1) 1, e0 .i2l 1, e0 (.lconst 0) 1, (.ldc2_w 535, 3, 0, 0, 0, 0, 0, 15), (.invokestatic 309, 3, 149, 3, 11, 0, 0, 0), e1 (.ifCond .eq 28) 3 37, e0 (.aload_n 0) 1, e0 (.iload_n 1) 1, (.invokevirtual 473, 3, 200, 2, 11, 0, 0, 0), e1 (.ifCond .eq 20) 3 37, e0 (.aload_n 0) 1, e0 (.iload_n 2) 1, (.invokevirtual 537, 3, 198, 2, 11, 0, 0, 0), e1 (.ifCond .eq 12) 3 37, e0 (.aload_n 0) 1, e0 (.iload_n 1) 1, (.invokevirtual 469, 3, 199, 2, 11, 0, 0, 0), e0 (.iload_n 2) 1, e1 (.if_icmp .ne 8) 3 42]),
  (37, [e0 (.aload_n 0) 1, (.invokevirtual 637, 3, 257, 1, 11, 0, 0, 0), e0 .ireturn 1]),
  (42, [e0 (.aload_n 0) 1, (.invokevirtual 631, 3, 250, 1, 11, 0, 3, 0), e0 (.aload_n 0) 1, e0 (.iload_n 2) 1, (.invokevirtual 540, 3, 201, 2, 11, 0, 0, 0), e0 (.istore_n 3) 1, e0 (.iload_n 3) 1, e0 (.iconst (-1)) 1, e1 (.if_icmp .eq 16) 3 70, e0 (.aload_n 0) 1, (.getfield 154, 3, 11, 63, 30, 237, 146, 1), e0 (.iconst 3) 1, e0 (.iload_n 3) 1, e0 .iadd 1, e0 (.aload_n 0) 1, e0 (.iload_n 1) 1, (.invokevirtual 469, 3, 199, 2, 11, 0, 0, 0), e0 .iastore 1]),
  (70, [e0 (.aload_n 0) 1, (.getfield 154, 3, 11, 63, 30, 237, 146, 1), e0 (.iconst 3) 1, e0 (.iload_n 1) 1, e0 .iadd 1, e0 (.iload_n 2) 1, e0 .iastore 1]),
  (79, [e0 (.iconst 1) 1, e0 .ireturn 1])]

set_option maxRecDepth 100000 in
def pb_X12_take : List (Nat × List EI) := [(0, [e0 (.iload_n 1) 1, e0 .i2l 1, e0 (.lconst 0) 1, e0 (.aload_n 0) 1, (.invokevirtual 466, 3, 196, 1, 11, 0, 0, 0), e0 (.iconst 1) 1, e0 .isub 1, e0 .i2l 1, (.invokestatic 309, 3, 149, 3, 11, 0, 0, 0), e1 (.ifCond .eq 41) 3 54, e0 (.aload_n 0) 1, e0 (.bipush 10) 2, e0 (.iload_n 1) 1, e0 .iadd 1, (.invokevirtual 473, 3, 200, 2, 11, 0, 0, 0), e1 (.ifCond .ne 30) 3 54, e0 (.iload_n 2) 1, e0 .i2l 1, e0 (.lconst 0) 1, e0 (.lconst 1) 1, (.invokestatic 309, 3, 149, 3, 11, 0, 0, 0), e1 (.ifCond .eq 20) 3 54, e0 (.aload_n 0) 1, e0 (.iload_n 3) 1, (.invokevirtual 537, 3, 198, 2, 11, 0, 0, 0), e1 (.ifCond .eq 12) 3 54, e0 (.aload_n 0) 1, e0 (.iload_n 3) 1, (.invokevirtual 540, 3, 201, 2, 11, 0, 0, 0), e0 (.iconst (-1)) 1, e1 (.if_icmp .eq 8) 3 59]),
  (54, [e0 (.aload_n 0) 1, (.invokevirtual 637, 3, 257, 1, 11, 0, 0, 0), e0 .ireturn 1]),
  (59, [e0 (.aload_n 0) 1, (.invokevirtual 631, 3, 250, 1, 11, 0, 3, 0), e0 (.aload_n 0) 1, (.getfield 154, 3, 11, 63, 30, 237, 146, 1), e0 (.bipush 13) 2, e0 (.iload_n 1) 1, e0 .iadd 1, e0 (.iload_n 3) 1, e0 .iastore 1]),
  (73, [e0 (.aload_n 0) 1, (.getfield 154, 3, 11, 63, 30, 237, 146, 1), e0 (.bipush 19) 2, e0 (.iload_n 1) 1, e0 .iadd 1, e0 (.iload_n 2) 1, e0 .iastore 1]),
  (83, [e0 (.iconst 1) 1, e0 .ireturn 1])]

set_option maxRecDepth 100000 in
def pb_X12_dismiss : List (Nat × List EI) := [(0, [e0 (.iload_n 1) 1, e0 .i2l 1, e0 (.lconst 0) 1, e0 (.aload_n 0) 1, (.invokevirtual 466, 3, 196, 1, 11, 0, 0, 0), e0 (.iconst 1) 1, e0 .isub 1, e0 .i2l 1, (.invokestatic 309, 3, 149, 3, 11, 0, 0, 0), e1 (.ifCond .eq 14) 3 27, e0 (.aload_n 0) 1, e0 (.bipush 10) 2, e0 (.iload_n 1) 1, e0 .iadd 1, (.invokevirtual 473, 3, 200, 2, 11, 0, 0, 0), e1 (.ifCond .ne 8) 3 32]),
  (27, [e0 (.aload_n 0) 1, (.invokevirtual 637, 3, 257, 1, 11, 0, 0, 0), e0 .ireturn 1]),
  (32, [e0 (.aload_n 0) 1, (.invokevirtual 631, 3, 250, 1, 11, 0, 3, 0), e0 (.aload_n 0) 1, (.getfield 154, 3, 11, 63, 30, 237, 146, 1), e0 (.bipush 13) 2, e0 (.iload_n 1) 1, e0 .iadd 1, e0 (.iconst (-1)) 1, e0 .iastore 1]),
  (46, [e0 (.aload_n 0) 1, (.getfield 154, 3, 11, 63, 30, 237, 146, 1), e0 (.bipush 19) 2, e0 (.iload_n 1) 1, e0 .iadd 1, e0 (.iconst 0) 1, e0 .iastore 1]),
  (56, [e0 (.iconst 1) 1, e0 .ireturn 1])]

set_option maxRecDepth 100000 in
def pb_X12_qCode : List (Nat × List EI) := [(0, [e0 (.aload_n 0) 1, (.getfield 251, 3, 11, 99, 30, 267, 1700, 1), e0 (.aload_n 0) 1, (.getfield 640, 3, 11, 100, 0, 0, 0, 0), e0 (.iload_n 1) 1, e0 .iastore 1]),
  (10, [e0 (.aload_n 0) 1, e0 .dup 1, (.getfield 640, 3, 11, 100, 0, 0, 0, 0), e0 (.iconst 1) 1, e0 .iadd 1, (.putfield 640, 3, 11, 100, 0, 0, 0, 0)]),
  (20, [e0 .return_ 1])]

set_option maxRecDepth 100000 in
def pb_X12_qOpens : List (Nat × List EI) := [(0, [e0 (.aload_n 0) 1, (.getfield 266, 3, 11, 5, 0, 0, 0, 0), e1 (.ifCond .eq 4) 3 8, e0 .return_ 1]),
  (8, [e0 (.aload_n 0) 1, (.getfield 643, 3, 11, 103, 0, 0, 0, 0), e0 (.bipush 6) 2, e1 (.if_icmp .ne 10) 3 24, e0 (.aload_n 0) 1, e0 (.iconst 4) 1, e0 (.iload_n 2) 1, (.invokevirtual 296, 3, 152, 3, 11, 0, 3, 0), e0 .return_ 1]),
  (24, [e0 (.aload_n 0) 1, e0 .dup 1, (.getfield 643, 3, 11, 103, 0, 0, 0, 0), e0 (.iconst 1) 1, e0 .iadd 1, (.putfield 643, 3, 11, 103, 0, 0, 0, 0)]),
  (34, [e0 (.aload_n 0) 1, (.getfield 254, 3, 11, 101, 30, 268, 1700, 1), e0 (.aload_n 0) 1, (.getfield 646, 3, 11, 102, 0, 0, 0, 0), e0 (.iload_n 1) 1, e0 .iastore 1]),
  (44, [e0 (.aload_n 0) 1, e0 .dup 1, (.getfield 646, 3, 11, 102, 0, 0, 0, 0), e0 (.iconst 1) 1, e0 .iadd 1, (.putfield 646, 3, 11, 102, 0, 0, 0, 0)]),
  (54, [e0 .return_ 1])]

set_option maxRecDepth 100000 in
def pb_X12_qIsOn : List (Nat × List EI) := [(0, [e0 (.aload_n 0) 1, (.getfield 646, 3, 11, 102, 0, 0, 0, 0), e1 (.ifCond .le 22) 3 26, e0 (.aload_n 0) 1, (.getfield 254, 3, 11, 101, 30, 268, 1700, 1), e0 (.aload_n 0) 1, (.getfield 646, 3, 11, 102, 0, 0, 0, 0), e0 (.iconst 1) 1, e0 .isub 1, e0 .iaload 1, e0 (.iload_n 1) 1, e1 (.if_icmp .ne 7) 3 26, e0 (.iconst 1) 1, e1 (.goto 4) 3 27]),
  (26, [e0 (.iconst 0) 1]),
  (27, [e0 .ireturn 1])]

set_option maxRecDepth 100000 in
def pb_X12_qDrops : List (Nat × List EI) := [(0, [e0 (.aload_n 0) 1, e0 .dup 1, (.getfield 646, 3, 11, 102, 0, 0, 0, 0), e0 (.iconst 1) 1, e0 .isub 1, (.putfield 646, 3, 11, 102, 0, 0, 0, 0)]),
  (10, [e0 (.aload_n 0) 1, e0 (.aload_n 0) 1, (.getfield 254, 3, 11, 101, 30, 268, 1700, 1), e0 (.aload_n 0) 1, (.getfield 646, 3, 11, 102, 0, 0, 0, 0), e0 .iaload 1, (.invokevirtual 649, 3, 262, 2, 11, 0, 3, 0), e0 .return_ 1])]

set_option maxRecDepth 100000 in
def pb_X12_qIsBracket : List (Nat × List EI) := [(0, [e0 (.iload_n 0) 1, e0 (.bipush 20) 2, e1 (.if_icmp .lt 13) 3 16, e0 (.iload_n 0) 1, e0 (.bipush 24) 2, e1 (.if_icmp .gt 7) 3 16, e0 (.iconst 1) 1, e1 (.goto 4) 3 17]),
  (16, [e0 (.iconst 0) 1]),
  (17, [e0 .ireturn 1])]

set_option maxRecDepth 100000 in
def pb_X12_qBracket : List (Nat × List EI) := [(0, [e0 (.aload_n 0) 1, (.getfield 646, 3, 11, 102, 0, 0, 0, 0), e0 (.iconst 1) 1, e0 .isub 1, e0 (.istore_n 1) 1]),
  (7, [e0 (.iload_n 1) 1, e0 (.aload_n 0) 1, (.getfield 652, 3, 11, 104, 0, 0, 0, 0), e1 (.if_icmp .lt 21) 3 33, e0 (.aload_n 0) 1, (.getfield 254, 3, 11, 101, 30, 268, 1700, 1), e0 (.iload_n 1) 1, e0 .iaload 1, (.invokestatic 655, 3, 266, 1, 11, 0, 0, 0), e1 (.ifCond .ne 9) 3 33, e0 (.iinc 1 (-1)) 3, e1 (.goto (-23)) 3 7]),
  (33, [e0 (.iload_n 1) 1, e0 (.aload_n 0) 1, (.getfield 652, 3, 11, 104, 0, 0, 0, 0), e1 (.if_icmp .lt 12) 3 50, e0 (.aload_n 0) 1, (.getfield 254, 3, 11, 101, 30, 268, 1700, 1), e0 (.iload_n 1) 1, e0 .iaload 1, e1 (.goto 4) 3 51]),
  (50, [e0 (.iconst (-1)) 1]),
  (51, [e0 .ireturn 1])]

set_option maxRecDepth 100000 in
def pb_X12_qDropsToBracket : List (Nat × List EI) := [(0, [e0 (.aload_n 0) 1, (.getfield 646, 3, 11, 102, 0, 0, 0, 0), e0 (.aload_n 0) 1, (.getfield 652, 3, 11, 104, 0, 0, 0, 0), e1 (.if_icmp .le 27) 3 35, e0 (.aload_n 0) 1, (.getfield 254, 3, 11, 101, 30, 268, 1700, 1), e0 (.aload_n 0) 1, (.getfield 646, 3, 11, 102, 0, 0, 0, 0), e0 (.iconst 1) 1, e0 .isub 1, e0 .iaload 1, (.invokestatic 655, 3, 266, 1, 11, 0, 0, 0), e1 (.ifCond .ne 10) 3 35, e0 (.aload_n 0) 1, (.invokevirtual 658, 3, 265, 1, 11, 0, 3, 0), e0 (.goto (-32)) 3]),
  (35, [e0 .return_ 1])]

set_option maxRecDepth 100000 in
def pb_X12_qWordHere : List (Nat × List EI) := [(0, [e0 (.aload_n 0) 1, e0 (.aload_n 0) 1, (.getfield 218, 3, 11, 88, 32, 256, 5, 1), (.invokevirtual 289, 3, 156, 2, 11, 0, 0, 0), e1 (.ifCond .eq 5) 3 13, e0 (.iconst 0) 1, e0 .ireturn 1]),
  (13, [e0 (.aload_n 0) 1, e0 (.aload_n 0) 1, (.getfield 221, 3, 11, 89, 32, 257, 6, 1), (.invokevirtual 289, 3, 156, 2, 11, 0, 0, 0), e1 (.ifCond .eq 5) 3 26, e0 (.iconst 1) 1, e0 .ireturn 1]),
  (26, [e0 (.aload_n 0) 1, e0 (.aload_n 0) 1, (.getfield 224, 3, 11, 90, 32, 258, 4, 1), (.invokevirtual 289, 3, 156, 2, 11, 0, 0, 0), e1 (.ifCond .eq 5) 3 39, e0 (.iconst 2) 1, e0 .ireturn 1]),
  (39, [e0 (.aload_n 0) 1, e0 (.aload_n 0) 1, (.getfield 227, 3, 11, 91, 32, 259, 5, 1), (.invokevirtual 289, 3, 156, 2, 11, 0, 0, 0), e1 (.ifCond .eq 5) 3 52, e0 (.iconst 3) 1, e0 .ireturn 1]),
  (52, [e0 (.aload_n 0) 1, e0 (.aload_n 0) 1, (.getfield 230, 3, 11, 92, 32, 260, 5, 1), (.invokevirtual 289, 3, 156, 2, 11, 0, 0, 0), e1 (.ifCond .eq 5) 3 65, e0 (.iconst 4) 1, e0 .ireturn 1]),
  (65, [e0 (.aload_n 0) 1, e0 (.aload_n 0) 1, (.getfield 233, 3, 11, 93, 32, 261, 5, 1), (.invokevirtual 289, 3, 156, 2, 11, 0, 0, 0), e1 (.ifCond .eq 5) 3 78, e0 (.iconst 5) 1, e0 .ireturn 1]),
  (78, [e0 (.aload_n 0) 1, e0 (.aload_n 0) 1, (.getfield 236, 3, 11, 94, 32, 262, 4, 1), (.invokevirtual 289, 3, 156, 2, 11, 0, 0, 0), e1 (.ifCond .eq 6) 3 92, e0 (.bipush 6) 2, e0 .ireturn 1]),
  (92, [e0 (.aload_n 0) 1, e0 (.aload_n 0) 1, (.getfield 239, 3, 11, 95, 32, 263, 6, 1), (.invokevirtual 289, 3, 156, 2, 11, 0, 0, 0), e1 (.ifCond .eq 6) 3 106, e0 (.bipush 7) 2, e0 .ireturn 1]),
  (106, [e0 (.aload_n 0) 1, e0 (.aload_n 0) 1, (.getfield 242, 3, 11, 96, 32, 264, 6, 1), (.invokevirtual 289, 3, 156, 2, 11, 0, 0, 0), e1 (.ifCond .eq 6) 3 120, e0 (.bipush 8) 2, e0 .ireturn 1]),
  (120, [e0 (.aload_n 0) 1, e0 (.aload_n 0) 1, (.getfield 245, 3, 11, 97, 32, 265, 5, 1), (.invokevirtual 289, 3, 156, 2, 11, 0, 0, 0), e1 (.ifCond .eq 6) 3 134, e0 (.bipush 9) 2, e0 .ireturn 1]),
  (134, [e0 (.aload_n 0) 1, e0 (.aload_n 0) 1, (.getfield 248, 3, 11, 98, 32, 266, 6, 1), (.invokevirtual 289, 3, 156, 2, 11, 0, 0, 0), e1 (.ifCond .eq 6) 3 148, e0 (.bipush 10) 2, e0 .ireturn 1]),
  (148, [e0 (.iconst (-1)) 1, e0 .ireturn 1])]

set_option maxRecDepth 100000 in
def pb_X12_qWordOf : List (Nat × List EI) := [(0, [e0 (.aload_n 0) 1, (.invokevirtual 661, 3, 269, 1, 11, 0, 0, 0), e0 (.istore_n 3) 1, e0 (.iload_n 3) 1, e0 (.iload_n 1) 1, e1 (.if_icmp .lt 12) 3 19, e0 (.iload_n 3) 1, e0 (.iload_n 2) 1, e1 (.if_icmp .ge 7) 3 19, e0 (.iload_n 3) 1, e1 (.goto 4) 3 20]),
  (19, [e0 (.iconst (-1)) 1]),
  (20, [e0 .ireturn 1])]

set_option maxRecDepth 100000 in
def pb_X12_qAsksWord : List (Nat × List EI) := [(0, [e0 (.iload_n 1) 1, e0 (.tableswitch 165 0 9 #[55, 66, 77, 88, 99, 110, 121, 132, 143, 154]) 55]),
  (56, [e0 (.aload_n 0) 1, e0 (.aload_n 0) 1, (.getfield 218, 3, 11, 88, 32, 256, 5, 1), (.invokevirtual 332, 3, 158, 2, 11, 0, 3, 0), e1 (.goto 110) 3 174]),
  (67, [e0 (.aload_n 0) 1, e0 (.aload_n 0) 1, (.getfield 221, 3, 11, 89, 32, 257, 6, 1), (.invokevirtual 332, 3, 158, 2, 11, 0, 3, 0), e1 (.goto 99) 3 174]),
  (78, [e0 (.aload_n 0) 1, e0 (.aload_n 0) 1, (.getfield 224, 3, 11, 90, 32, 258, 4, 1), (.invokevirtual 332, 3, 158, 2, 11, 0, 3, 0), e1 (.goto 88) 3 174]),
  (89, [e0 (.aload_n 0) 1, e0 (.aload_n 0) 1, (.getfield 227, 3, 11, 91, 32, 259, 5, 1), (.invokevirtual 332, 3, 158, 2, 11, 0, 3, 0), e1 (.goto 77) 3 174]),
  (100, [e0 (.aload_n 0) 1, e0 (.aload_n 0) 1, (.getfield 230, 3, 11, 92, 32, 260, 5, 1), (.invokevirtual 332, 3, 158, 2, 11, 0, 3, 0), e1 (.goto 66) 3 174]),
  (111, [e0 (.aload_n 0) 1, e0 (.aload_n 0) 1, (.getfield 233, 3, 11, 93, 32, 261, 5, 1), (.invokevirtual 332, 3, 158, 2, 11, 0, 3, 0), e1 (.goto 55) 3 174]),
  (122, [e0 (.aload_n 0) 1, e0 (.aload_n 0) 1, (.getfield 236, 3, 11, 94, 32, 262, 4, 1), (.invokevirtual 332, 3, 158, 2, 11, 0, 3, 0), e1 (.goto 44) 3 174]),
  (133, [e0 (.aload_n 0) 1, e0 (.aload_n 0) 1, (.getfield 239, 3, 11, 95, 32, 263, 6, 1), (.invokevirtual 332, 3, 158, 2, 11, 0, 3, 0), e1 (.goto 33) 3 174]),
  (144, [e0 (.aload_n 0) 1, e0 (.aload_n 0) 1, (.getfield 242, 3, 11, 96, 32, 264, 6, 1), (.invokevirtual 332, 3, 158, 2, 11, 0, 3, 0), e1 (.goto 22) 3 174]),
  (155, [e0 (.aload_n 0) 1, e0 (.aload_n 0) 1, (.getfield 245, 3, 11, 97, 32, 265, 5, 1), (.invokevirtual 332, 3, 158, 2, 11, 0, 3, 0), e1 (.goto 11) 3 174]),
  (166, [e0 (.aload_n 0) 1, e0 (.aload_n 0) 1, (.getfield 248, 3, 11, 98, 32, 266, 6, 1), (.invokevirtual 332, 3, 158, 2, 11, 0, 3, 0)]),
  (174, [e0 .return_ 1])]

set_option maxRecDepth 100000 in
def pb_X12_qEndsPart : List (Nat × List EI) := [(0, [e0 (.aload_n 0) 1, (.getfield 266, 3, 11, 5, 0, 0, 0, 0), e1 (.ifCond .ne 47) 3 51, e0 (.aload_n 0) 1, (.getfield 646, 3, 11, 102, 0, 0, 0, 0), e0 (.aload_n 0) 1, (.getfield 652, 3, 11, 104, 0, 0, 0, 0), e1 (.if_icmp .le 36) 3 51, e0 (.aload_n 0) 1, (.getfield 254, 3, 11, 101, 30, 268, 1700, 1), e0 (.aload_n 0) 1, (.getfield 646, 3, 11, 102, 0, 0, 0, 0), e0 (.iconst 1) 1, e0 .isub 1, e0 .iaload 1, e0 (.bipush 60) 2, e1 (.if_icmp .lt 20) 3 51, e0 (.aload_n 0) 1, e0 .dup 1, (.getfield 643, 3, 11, 103, 0, 0, 0, 0), e0 (.iconst 1) 1, e0 .isub 1, (.putfield 643, 3, 11, 103, 0, 0, 0, 0)]),
  (44, [e0 (.aload_n 0) 1, (.invokevirtual 658, 3, 265, 1, 11, 0, 3, 0), e0 (.goto (-48)) 3]),
  (51, [e0 .return_ 1])]

set_option maxRecDepth 100000 in
def pb_X12_qPartTold : List (Nat × List EI) := [(0, [e0 (.iconst 1) 1, e0 (.istore_n 1) 1]),
  (2, [e0 (.iload_n 1) 1, e1 (.ifCond .eq 183) 3 186, e0 (.aload_n 0) 1, (.getfield 266, 3, 11, 5, 0, 0, 0, 0), e1 (.ifCond .ne 176) 3 186, e0 (.aload_n 0) 1, (.invokevirtual 278, 3, 155, 1, 11, 0, 0, 0), e0 (.istore_n 2) 1, e0 (.aload_n 0) 1, e0 (.bipush 10) 2, e0 (.bipush 11) 2, (.invokevirtual 664, 3, 270, 3, 11, 0, 0, 0), e0 (.istore_n 3) 1, e0 (.iload_n 2) 1, e0 (.bipush 40) 2, e1 (.if_icmp .ne 26) 3 56, e0 (.aload_n 0) 1, e0 (.bipush 20) 2, e0 (.aload_n 0) 1, (.getfield 272, 3, 11, 2, 0, 0, 0, 0), (.invokevirtual 667, 3, 263, 3, 11, 0, 3, 0), e0 (.aload_n 0) 1, e0 .dup 1, (.getfield 272, 3, 11, 2, 0, 0, 0, 0), e0 (.iconst 1) 1, e0 .iadd 1, (.putfield 272, 3, 11, 2, 0, 0, 0, 0)]),
  (53, [e1 (.goto 130) 3 183]),
  (56, [e0 (.aload_n 0) 1, e0 (.aload_n 0) 1, (.getfield 212, 3, 11, 86, 32, 254, 3, 1), (.invokevirtual 289, 3, 156, 2, 11, 0, 0, 0), e1 (.ifCond .ne 14) 3 78, e0 (.aload_n 0) 1, e0 (.aload_n 0) 1, (.getfield 215, 3, 11, 87, 32, 255, 3, 1), (.invokevirtual 289, 3, 156, 2, 11, 0, 0, 0), e1 (.ifCond .eq 78) 3 153]),
  (78, [e0 (.aload_n 0) 1, e0 (.aload_n 0) 1, (.getfield 212, 3, 11, 86, 32, 254, 3, 1), (.invokevirtual 293, 3, 157, 2, 11, 0, 0, 0), e0 (.istore 4) 2, e0 (.iload 4) 2, e1 (.ifCond .ne 11) 3 101, e0 (.aload_n 0) 1, e0 (.aload_n 0) 1, (.getfield 215, 3, 11, 87, 32, 255, 3, 1), (.invokevirtual 332, 3, 158, 2, 11, 0, 3, 0)]),
  (101, [e0 (.aload_n 0) 1, (.invokevirtual 278, 3, 155, 1, 11, 0, 0, 0), e0 (.bipush 40) 2, e1 (.if_icmp .ne 10) 3 117, e0 (.aload_n 0) 1, (.getfield 272, 3, 11, 2, 0, 0, 0, 0), e1 (.goto 4) 3 118]),
  (117, [e0 (.iconst (-1)) 1]),
  (118, [e0 (.istore 5) 2, e0 (.iload 5) 2, e0 (.iconst (-1)) 1, e1 (.if_icmp .eq 21) 3 144, e0 (.aload_n 0) 1, e0 (.iload 4) 2, e1 (.ifCond .eq 8) 3 137, e0 (.bipush 21) 2, e1 (.goto 5) 3 139]),
  (137, [e0 (.bipush 22) 2]),
  (139, [e0 (.iload 5) 2, (.invokevirtual 667, 3, 263, 3, 11, 0, 3, 0)]),
  (144, [e0 (.aload_n 0) 1, e0 (.bipush 40) 2, (.invokevirtual 340, 3, 160, 2, 11, 0, 3, 0), e1 (.goto 33) 3 183]),
  (153, [e0 (.iload_n 3) 1, e0 (.iconst (-1)) 1, e1 (.if_icmp .eq 26) 3 181, e0 (.aload_n 0) 1, e0 (.bipush 60) 2, e0 (.iload_n 3) 1, e0 .iadd 1, e0 (.bipush 10) 2, e0 .isub 1, e0 (.aload_n 0) 1, (.getfield 272, 3, 11, 2, 0, 0, 0, 0), (.invokevirtual 667, 3, 263, 3, 11, 0, 3, 0), e0 (.aload_n 0) 1, e0 (.iload_n 3) 1, (.invokevirtual 670, 3, 271, 2, 11, 0, 3, 0), e1 (.goto 5) 3 183]),
  (181, [e0 (.iconst 0) 1, e0 (.istore_n 1) 1]),
  (183, [e1 (.goto (-181)) 3 2]),
  (186, [e0 (.aload_n 0) 1, (.getfield 266, 3, 11, 5, 0, 0, 0, 0), e1 (.ifCond .eq 4) 3 194, e0 .return_ 1]),
  (194, [e0 (.aload_n 0) 1, e0 (.iconst 0) 1, e0 (.bipush 10) 2, (.invokevirtual 664, 3, 270, 3, 11, 0, 0, 0), e0 (.istore_n 2) 1, e0 (.iload_n 2) 1, e0 (.iconst (-1)) 1, e1 (.if_icmp .eq 8) 3 212, e0 (.aload_n 0) 1, e0 (.iload_n 2) 1, (.invokevirtual 670, 3, 271, 2, 11, 0, 3, 0)]),
  (212, [e0 (.aload_n 0) 1, e0 (.iload_n 2) 1, e0 (.iconst (-1)) 1, e1 (.if_icmp .eq 10) 3 225, e0 (.bipush 40) 2, e0 (.iload_n 2) 1, e0 .iadd 1, e1 (.goto 15) 3 237]),
  (225, [e0 (.sipush 1000) 3, e0 (.aload_n 0) 1, e0 (.iconst 0) 1, e0 (.sipush 9999) 3, (.invokevirtual 336, 3, 161, 3, 11, 0, 0, 0), e0 .iadd 1]),
  (237, [(.invokevirtual 649, 3, 262, 2, 11, 0, 3, 0), e0 (.aload_n 0) 1, (.invokevirtual 673, 3, 272, 1, 11, 0, 3, 0), e0 .return_ 1])]

set_option maxRecDepth 100000 in
def pb_X12_qGoesOn : List (Nat × List EI) := [(0, [e0 (.aload_n 0) 1, (.getfield 266, 3, 11, 5, 0, 0, 0, 0), e1 (.ifCond .ne 118) 3 122, e0 (.aload_n 0) 1, (.invokevirtual 278, 3, 155, 1, 11, 0, 0, 0), e0 (.bipush 41) 2, e1 (.if_icmp .ne 109) 3 122, e0 (.aload_n 0) 1, (.invokevirtual 676, 3, 267, 1, 11, 0, 0, 0), e0 (.bipush 20) 2, e1 (.if_icmp .eq 21) 3 43, e0 (.aload_n 0) 1, (.invokevirtual 676, 3, 267, 1, 11, 0, 0, 0), e0 (.bipush 23) 2, e1 (.if_icmp .eq 12) 3 43, e0 (.aload_n 0) 1, (.invokevirtual 676, 3, 267, 1, 11, 0, 0, 0), e0 (.bipush 24) 2, e1 (.if_icmp .ne 82) 3 122]),
  (43, [e0 (.aload_n 0) 1, e0 .dup 1, (.getfield 272, 3, 11, 2, 0, 0, 0, 0), e0 (.iconst 1) 1, e0 .iadd 1, (.putfield 272, 3, 11, 2, 0, 0, 0, 0)]),
  (53, [e0 (.aload_n 0) 1, (.invokevirtual 679, 3, 268, 1, 11, 0, 3, 0), e0 (.aload_n 0) 1, e0 .dup 1, (.getfield 646, 3, 11, 102, 0, 0, 0, 0), e0 (.iconst 1) 1, e0 .isub 1, (.putfield 646, 3, 11, 102, 0, 0, 0, 0)]),
  (67, [e0 (.aload_n 0) 1, e0 .dup 1, (.getfield 643, 3, 11, 103, 0, 0, 0, 0), e0 (.iconst 1) 1, e0 .isub 1, (.putfield 643, 3, 11, 103, 0, 0, 0, 0)]),
  (77, [e0 (.aload_n 0) 1, (.getfield 254, 3, 11, 101, 30, 268, 1700, 1), e0 (.aload_n 0) 1, (.getfield 646, 3, 11, 102, 0, 0, 0, 0), e0 .iaload 1, e0 (.bipush 20) 2, e1 (.if_icmp .eq 27) 3 115, e0 (.aload_n 0) 1, e0 (.aload_n 0) 1, (.getfield 254, 3, 11, 101, 30, 268, 1700, 1), e0 (.aload_n 0) 1, (.getfield 646, 3, 11, 102, 0, 0, 0, 0), e0 .iaload 1, e0 (.bipush 23) 2, e1 (.if_icmp .ne 7) 3 110, e0 (.iconst 5) 1, e1 (.goto 5) 3 112]),
  (110, [e0 (.bipush 6) 2]),
  (112, [(.invokevirtual 649, 3, 262, 2, 11, 0, 3, 0)]),
  (115, [e0 (.aload_n 0) 1, (.invokevirtual 673, 3, 272, 1, 11, 0, 3, 0), e0 (.goto (-119)) 3]),
  (122, [e0 (.aload_n 0) 1, e0 (.bipush 42) 2, (.invokevirtual 300, 3, 159, 2, 11, 0, 0, 0), e1 (.ifCond .ne 12) 3 140, e0 (.aload_n 0) 1, e0 (.bipush 47) 2, (.invokevirtual 300, 3, 159, 2, 11, 0, 0, 0), e1 (.ifCond .eq 70) 3 207]),
  (140, [e0 (.aload_n 0) 1, (.getfield 7, 3, 11, 0, 30, 191, 1600, 1), e0 (.aload_n 0) 1, (.getfield 272, 3, 11, 2, 0, 0, 0, 0), e0 (.iconst 1) 1, e0 .isub 1, e0 .iaload 1, e0 (.bipush 42) 2, e1 (.if_icmp .ne 7) 3 160, e0 (.iconst 3) 1, e1 (.goto 4) 3 161]),
  (160, [e0 (.iconst 4) 1]),
  (161, [e0 (.istore_n 1) 1]),
  (162, [e0 (.aload_n 0) 1, e0 (.iconst 3) 1, (.invokevirtual 682, 3, 264, 2, 11, 0, 0, 0), e1 (.ifCond .ne 11) 3 178, e0 (.aload_n 0) 1, e0 (.iconst 4) 1, (.invokevirtual 682, 3, 264, 2, 11, 0, 0, 0), e1 (.ifCond .eq 10) 3 185]),
  (178, [e0 (.aload_n 0) 1, (.invokevirtual 658, 3, 265, 1, 11, 0, 3, 0), e1 (.goto (-20)) 3 162]),
  (185, [e0 (.aload_n 0) 1, (.getfield 254, 3, 11, 101, 30, 268, 1700, 1), e0 (.aload_n 0) 1, (.getfield 646, 3, 11, 102, 0, 0, 0, 0), e0 (.iload_n 1) 1, e0 .iastore 1]),
  (195, [e0 (.aload_n 0) 1, e0 .dup 1, (.getfield 646, 3, 11, 102, 0, 0, 0, 0), e0 (.iconst 1) 1, e0 .iadd 1, (.putfield 646, 3, 11, 102, 0, 0, 0, 0)]),
  (205, [e0 (.iconst 1) 1, e0 .ireturn 1]),
  (207, [e0 (.aload_n 0) 1, e0 (.bipush 43) 2, (.invokevirtual 300, 3, 159, 2, 11, 0, 0, 0), e1 (.ifCond .ne 12) 3 225, e0 (.aload_n 0) 1, e0 (.bipush 45) 2, (.invokevirtual 300, 3, 159, 2, 11, 0, 0, 0), e1 (.ifCond .eq 86) 3 308]),
  (225, [e0 (.aload_n 0) 1, (.getfield 7, 3, 11, 0, 30, 191, 1600, 1), e0 (.aload_n 0) 1, (.getfield 272, 3, 11, 2, 0, 0, 0, 0), e0 (.iconst 1) 1, e0 .isub 1, e0 .iaload 1, e0 (.bipush 43) 2, e1 (.if_icmp .ne 7) 3 245, e0 (.iconst 1) 1, e1 (.goto 4) 3 246]),
  (245, [e0 (.iconst 2) 1]),
  (246, [e0 (.istore_n 1) 1]),
  (247, [e0 (.aload_n 0) 1, e0 (.iconst 3) 1, (.invokevirtual 682, 3, 264, 2, 11, 0, 0, 0), e1 (.ifCond .ne 27) 3 279, e0 (.aload_n 0) 1, e0 (.iconst 4) 1, (.invokevirtual 682, 3, 264, 2, 11, 0, 0, 0), e1 (.ifCond .ne 19) 3 279, e0 (.aload_n 0) 1, e0 (.iconst 1) 1, (.invokevirtual 682, 3, 264, 2, 11, 0, 0, 0), e1 (.ifCond .ne 11) 3 279, e0 (.aload_n 0) 1, e0 (.iconst 2) 1, (.invokevirtual 682, 3, 264, 2, 11, 0, 0, 0), e1 (.ifCond .eq 10) 3 286]),
  (279, [e0 (.aload_n 0) 1, (.invokevirtual 658, 3, 265, 1, 11, 0, 3, 0), e1 (.goto (-36)) 3 247]),
  (286, [e0 (.aload_n 0) 1, (.getfield 254, 3, 11, 101, 30, 268, 1700, 1), e0 (.aload_n 0) 1, (.getfield 646, 3, 11, 102, 0, 0, 0, 0), e0 (.iload_n 1) 1, e0 .iastore 1]),
  (296, [e0 (.aload_n 0) 1, e0 .dup 1, (.getfield 646, 3, 11, 102, 0, 0, 0, 0), e0 (.iconst 1) 1, e0 .iadd 1, (.putfield 646, 3, 11, 102, 0, 0, 0, 0)]),
  (306, [e0 (.iconst 1) 1, e0 .ireturn 1]),
  (308, [e0 (.aload_n 0) 1, (.invokevirtual 676, 3, 267, 1, 11, 0, 0, 0), e0 (.bipush 21) 2, e1 (.if_icmp .eq 12) 3 326, e0 (.aload_n 0) 1, (.invokevirtual 676, 3, 267, 1, 11, 0, 0, 0), e0 (.bipush 22) 2, e1 (.if_icmp .ne 39) 3 362]),
  (326, [e0 (.aload_n 0) 1, e0 (.bipush 44) 2, (.invokevirtual 340, 3, 160, 2, 11, 0, 3, 0), e0 (.aload_n 0) 1, (.getfield 266, 3, 11, 5, 0, 0, 0, 0), e1 (.ifCond .eq 5) 3 341, e0 (.iconst 0) 1, e0 .ireturn 1]),
  (341, [e0 (.aload_n 0) 1, (.invokevirtual 679, 3, 268, 1, 11, 0, 3, 0), e0 (.aload_n 0) 1, (.getfield 254, 3, 11, 101, 30, 268, 1700, 1), e0 (.aload_n 0) 1, (.getfield 646, 3, 11, 102, 0, 0, 0, 0), e0 (.iconst 1) 1, e0 .isub 1, e0 .dup2 1, e0 .iaload 1, e0 (.iconst 2) 1, e0 .iadd 1, e0 .iastore 1]),
  (360, [e0 (.iconst 1) 1, e0 .ireturn 1]),
  (362, [e0 (.aload_n 0) 1, (.invokevirtual 676, 3, 267, 1, 11, 0, 0, 0), e0 (.iconst (-1)) 1, e1 (.if_icmp .eq 19) 3 386, e0 (.aload_n 0) 1, (.getfield 266, 3, 11, 5, 0, 0, 0, 0), e1 (.ifCond .ne 12) 3 386, e0 (.aload_n 0) 1, e0 (.iconst 1) 1, e0 (.aload_n 0) 1, (.getfield 272, 3, 11, 2, 0, 0, 0, 0), (.invokevirtual 296, 3, 152, 3, 11, 0, 3, 0)]),
  (386, [e0 (.iconst 0) 1, e0 .ireturn 1])]

set_option maxRecDepth 100000 in
def pb_X12_qSums : List (Nat × List EI) := [(0, [e0 (.aload_n 0) 1, (.getfield 652, 3, 11, 104, 0, 0, 0, 0), e0 (.istore_n 1) 1, e0 (.aload_n 0) 1, e0 (.aload_n 0) 1, (.getfield 646, 3, 11, 102, 0, 0, 0, 0), (.putfield 652, 3, 11, 104, 0, 0, 0, 0)]),
  (13, [e0 (.iconst 1) 1, e0 (.istore_n 2) 1]),
  (15, [e0 (.iload_n 2) 1, e1 (.ifCond .eq 37) 3 53, e0 (.aload_n 0) 1, (.getfield 266, 3, 11, 5, 0, 0, 0, 0), e1 (.ifCond .ne 30) 3 53, e0 (.aload_n 0) 1, (.invokevirtual 685, 3, 273, 1, 11, 0, 3, 0), e0 (.aload_n 0) 1, (.getfield 266, 3, 11, 5, 0, 0, 0, 0), e1 (.ifCond .ne 14) 3 48, e0 (.aload_n 0) 1, (.invokevirtual 688, 3, 274, 1, 11, 0, 0, 0), e1 (.ifCond .eq 7) 3 48, e0 (.iconst 1) 1, e1 (.goto 4) 3 49]),
  (48, [e0 (.iconst 0) 1]),
  (49, [e0 (.istore_n 2) 1, e1 (.goto (-35)) 3 15]),
  (53, [e0 (.aload_n 0) 1, (.getfield 266, 3, 11, 5, 0, 0, 0, 0), e1 (.ifCond .ne 21) 3 78, e0 (.aload_n 0) 1, (.getfield 646, 3, 11, 102, 0, 0, 0, 0), e0 (.aload_n 0) 1, (.getfield 652, 3, 11, 104, 0, 0, 0, 0), e1 (.if_icmp .le 10) 3 78, e0 (.aload_n 0) 1, (.invokevirtual 658, 3, 265, 1, 11, 0, 3, 0), e1 (.goto (-22)) 3 53]),
  (78, [e0 (.aload_n 0) 1, e0 (.iload_n 1) 1, (.putfield 652, 3, 11, 104, 0, 0, 0, 0), e0 .return_ 1])]

set_option maxRecDepth 100000 in
def pb_X12_qFact : List (Nat × List EI) := [(0, [e0 (.aload_n 0) 1, e0 (.aload_n 0) 1, (.getfield 209, 3, 11, 85, 32, 253, 3, 1), (.invokevirtual 293, 3, 157, 2, 11, 0, 0, 0), e1 (.ifCond .eq 10) 3 18, e0 (.aload_n 0) 1, e0 (.bipush 13) 2, (.invokevirtual 649, 3, 262, 2, 11, 0, 3, 0), e0 .return_ 1]),
  (18, [e0 (.aload_n 0) 1, (.invokevirtual 691, 3, 275, 1, 11, 0, 3, 0), e0 (.aload_n 0) 1, (.getfield 266, 3, 11, 5, 0, 0, 0, 0), e1 (.ifCond .eq 4) 3 30, e0 .return_ 1]),
  (30, [e0 (.aload_n 0) 1, (.invokevirtual 278, 3, 155, 1, 11, 0, 0, 0), e0 (.istore_n 1) 1, e0 (.iload_n 1) 1, e0 (.bipush 60) 2, e1 (.if_icmp .eq 25) 3 63, e0 (.iload_n 1) 1, e0 (.bipush 62) 2, e1 (.if_icmp .eq 19) 3 63, e0 (.iload_n 1) 1, e0 (.bipush 61) 2, e1 (.if_icmp .eq 13) 3 63, e0 (.aload_n 0) 1, e0 (.iconst 1) 1, e0 (.aload_n 0) 1, (.getfield 272, 3, 11, 2, 0, 0, 0, 0), (.invokevirtual 296, 3, 152, 3, 11, 0, 3, 0), e0 .return_ 1]),
  (63, [e0 (.aload_n 0) 1, e0 .dup 1, (.getfield 272, 3, 11, 2, 0, 0, 0, 0), e0 (.iconst 1) 1, e0 .iadd 1, (.putfield 272, 3, 11, 2, 0, 0, 0, 0)]),
  (73, [e0 (.aload_n 0) 1, (.invokevirtual 691, 3, 275, 1, 11, 0, 3, 0), e0 (.aload_n 0) 1, e0 (.iload_n 1) 1, e0 (.bipush 60) 2, e1 (.if_icmp .ne 8) 3 89, e0 (.bipush 7) 2, e1 (.goto 16) 3 102]),
  (89, [e0 (.iload_n 1) 1, e0 (.bipush 62) 2, e1 (.if_icmp .ne 8) 3 100, e0 (.bipush 8) 2, e1 (.goto 5) 3 102]),
  (100, [e0 (.bipush 9) 2]),
  (102, [(.invokevirtual 649, 3, 262, 2, 11, 0, 3, 0), e0 .return_ 1])]

set_option maxRecDepth 100000 in
def pb_X12_qHasSquare : List (Nat × List EI) := [(0, [e0 (.iconst 0) 1, e0 (.istore_n 1) 1]),
  (2, [e0 (.iload_n 1) 1, e0 (.aload_n 0) 1, (.getfield 646, 3, 11, 102, 0, 0, 0, 0), e1 (.if_icmp .ge 22) 3 29, e0 (.aload_n 0) 1, (.getfield 254, 3, 11, 101, 30, 268, 1700, 1), e0 (.iload_n 1) 1, e0 .iaload 1, e0 (.bipush 25) 2, e1 (.if_icmp .ne 5) 3 23, e0 (.iconst 1) 1, e0 .ireturn 1]),
  (23, [e0 (.iinc 1 1) 3, e1 (.goto (-24)) 3 2]),
  (29, [e0 (.iconst 0) 1, e0 .ireturn 1])]

set_option maxRecDepth 100000 in
def pb_X12_qDropsNots : List (Nat × List EI) := [(0, [e0 (.aload_n 0) 1, (.getfield 266, 3, 11, 5, 0, 0, 0, 0), e1 (.ifCond .ne 29) 3 33, e0 (.aload_n 0) 1, e0 (.bipush 12) 2, (.invokevirtual 682, 3, 264, 2, 11, 0, 0, 0), e1 (.ifCond .eq 20) 3 33, e0 (.aload_n 0) 1, e0 .dup 1, (.getfield 643, 3, 11, 103, 0, 0, 0, 0), e0 (.iconst 1) 1, e0 .isub 1, (.putfield 643, 3, 11, 103, 0, 0, 0, 0)]),
  (26, [e0 (.aload_n 0) 1, (.invokevirtual 658, 3, 265, 1, 11, 0, 3, 0), e0 (.goto (-30)) 3]),
  (33, [e0 .return_ 1])]

set_option maxRecDepth 100000 in
def pb_X12_qTest : List (Nat × List EI) := [(0, [e0 (.iconst 1) 1, e0 (.istore_n 1) 1]),
  (2, [e0 (.iload_n 1) 1, e1 (.ifCond .eq 107) 3 110, e0 (.aload_n 0) 1, (.getfield 266, 3, 11, 5, 0, 0, 0, 0), e1 (.ifCond .ne 100) 3 110, e0 (.aload_n 0) 1, (.invokevirtual 278, 3, 155, 1, 11, 0, 0, 0), e0 (.istore_n 2) 1, e0 (.iload_n 2) 1, e0 (.bipush 91) 2, e1 (.if_icmp .ne 26) 3 47, e0 (.aload_n 0) 1, e0 (.bipush 25) 2, e0 (.aload_n 0) 1, (.getfield 272, 3, 11, 2, 0, 0, 0, 0), (.invokevirtual 667, 3, 263, 3, 11, 0, 3, 0), e0 (.aload_n 0) 1, e0 .dup 1, (.getfield 272, 3, 11, 2, 0, 0, 0, 0), e0 (.iconst 1) 1, e0 .iadd 1, (.putfield 272, 3, 11, 2, 0, 0, 0, 0)]),
  (44, [e1 (.goto (-42)) 3 2]),
  (47, [e0 (.aload_n 0) 1, e0 (.aload_n 0) 1, (.getfield 200, 3, 11, 82, 32, 250, 3, 1), (.invokevirtual 289, 3, 156, 2, 11, 0, 0, 0), e1 (.ifCond .eq 24) 3 79, e0 (.aload_n 0) 1, e0 (.bipush 12) 2, e0 (.aload_n 0) 1, (.getfield 272, 3, 11, 2, 0, 0, 0, 0), (.invokevirtual 667, 3, 263, 3, 11, 0, 3, 0), e0 (.aload_n 0) 1, e0 (.aload_n 0) 1, (.getfield 200, 3, 11, 82, 32, 250, 3, 1), (.invokevirtual 332, 3, 158, 2, 11, 0, 3, 0), e1 (.goto (-74)) 3 2]),
  (79, [e0 (.aload_n 0) 1, (.invokevirtual 694, 3, 276, 1, 11, 0, 3, 0), e0 (.aload_n 0) 1, (.invokevirtual 697, 3, 278, 1, 11, 0, 3, 0), e0 (.aload_n 0) 1, (.getfield 266, 3, 11, 5, 0, 0, 0, 0), e1 (.ifCond .ne 14) 3 105, e0 (.aload_n 0) 1, (.invokevirtual 700, 3, 280, 1, 11, 0, 0, 0), e1 (.ifCond .eq 7) 3 105, e0 (.iconst 1) 1, e1 (.goto 4) 3 106]),
  (105, [e0 (.iconst 0) 1]),
  (106, [e0 (.istore_n 1) 1, e1 (.goto (-105)) 3 2]),
  (110, [e0 (.aload_n 0) 1, (.getfield 266, 3, 11, 5, 0, 0, 0, 0), e1 (.ifCond .ne 17) 3 131, e0 (.aload_n 0) 1, (.getfield 646, 3, 11, 102, 0, 0, 0, 0), e1 (.ifCond .le 10) 3 131, e0 (.aload_n 0) 1, (.invokevirtual 658, 3, 265, 1, 11, 0, 3, 0), e1 (.goto (-18)) 3 110]),
  (131, [e0 .return_ 1])]

set_option maxRecDepth 100000 in
def pb_X12_qGoesOnTest : List (Nat × List EI) := [(0, [e0 (.aload_n 0) 1, (.getfield 266, 3, 11, 5, 0, 0, 0, 0), e1 (.ifCond .ne 72) 3 76, e0 (.aload_n 0) 1, (.invokevirtual 278, 3, 155, 1, 11, 0, 0, 0), e0 (.bipush 93) 2, e1 (.if_icmp .ne 63) 3 76, e0 (.aload_n 0) 1, (.invokevirtual 703, 3, 277, 1, 11, 0, 0, 0), e1 (.ifCond .eq 56) 3 76, e0 (.aload_n 0) 1, e0 .dup 1, (.getfield 272, 3, 11, 2, 0, 0, 0, 0), e0 (.iconst 1) 1, e0 .iadd 1, (.putfield 272, 3, 11, 2, 0, 0, 0, 0)]),
  (33, [e0 (.aload_n 0) 1, e0 (.bipush 25) 2, (.invokevirtual 682, 3, 264, 2, 11, 0, 0, 0), e1 (.ifCond .ne 10) 3 49, e0 (.aload_n 0) 1, (.invokevirtual 658, 3, 265, 1, 11, 0, 3, 0), e1 (.goto (-13)) 3 33]),
  (49, [e0 (.aload_n 0) 1, e0 .dup 1, (.getfield 646, 3, 11, 102, 0, 0, 0, 0), e0 (.iconst 1) 1, e0 .isub 1, (.putfield 646, 3, 11, 102, 0, 0, 0, 0)]),
  (59, [e0 (.aload_n 0) 1, e0 .dup 1, (.getfield 643, 3, 11, 103, 0, 0, 0, 0), e0 (.iconst 1) 1, e0 .isub 1, (.putfield 643, 3, 11, 103, 0, 0, 0, 0)]),
  (69, [e0 (.aload_n 0) 1, (.invokevirtual 697, 3, 278, 1, 11, 0, 3, 0), e0 (.goto (-73)) 3]),
  (76, [e0 (.aload_n 0) 1, e0 (.aload_n 0) 1, (.getfield 203, 3, 11, 83, 32, 251, 3, 1), (.invokevirtual 293, 3, 157, 2, 11, 0, 0, 0), e1 (.ifCond .eq 42) 3 126]),
  (87, [e0 (.aload_n 0) 1, e0 (.bipush 10) 2, (.invokevirtual 682, 3, 264, 2, 11, 0, 0, 0), e1 (.ifCond .eq 10) 3 103, e0 (.aload_n 0) 1, (.invokevirtual 658, 3, 265, 1, 11, 0, 3, 0), e1 (.goto (-13)) 3 87]),
  (103, [e0 (.aload_n 0) 1, (.getfield 254, 3, 11, 101, 30, 268, 1700, 1), e0 (.aload_n 0) 1, (.getfield 646, 3, 11, 102, 0, 0, 0, 0), e0 (.bipush 10) 2, e0 .iastore 1]),
  (114, [e0 (.aload_n 0) 1, e0 .dup 1, (.getfield 646, 3, 11, 102, 0, 0, 0, 0), e0 (.iconst 1) 1, e0 .iadd 1, (.putfield 646, 3, 11, 102, 0, 0, 0, 0)]),
  (124, [e0 (.iconst 1) 1, e0 .ireturn 1]),
  (126, [e0 (.aload_n 0) 1, e0 (.aload_n 0) 1, (.getfield 206, 3, 11, 84, 32, 252, 2, 1), (.invokevirtual 293, 3, 157, 2, 11, 0, 0, 0), e1 (.ifCond .eq 51) 3 185]),
  (137, [e0 (.aload_n 0) 1, e0 (.bipush 10) 2, (.invokevirtual 682, 3, 264, 2, 11, 0, 0, 0), e1 (.ifCond .ne 12) 3 155, e0 (.aload_n 0) 1, e0 (.bipush 11) 2, (.invokevirtual 682, 3, 264, 2, 11, 0, 0, 0), e1 (.ifCond .eq 10) 3 162]),
  (155, [e0 (.aload_n 0) 1, (.invokevirtual 658, 3, 265, 1, 11, 0, 3, 0), e1 (.goto (-22)) 3 137]),
  (162, [e0 (.aload_n 0) 1, (.getfield 254, 3, 11, 101, 30, 268, 1700, 1), e0 (.aload_n 0) 1, (.getfield 646, 3, 11, 102, 0, 0, 0, 0), e0 (.bipush 11) 2, e0 .iastore 1]),
  (173, [e0 (.aload_n 0) 1, e0 .dup 1, (.getfield 646, 3, 11, 102, 0, 0, 0, 0), e0 (.iconst 1) 1, e0 .iadd 1, (.putfield 646, 3, 11, 102, 0, 0, 0, 0)]),
  (183, [e0 (.iconst 1) 1, e0 .ireturn 1]),
  (185, [e0 (.aload_n 0) 1, (.getfield 266, 3, 11, 5, 0, 0, 0, 0), e1 (.ifCond .ne 19) 3 208, e0 (.aload_n 0) 1, (.invokevirtual 703, 3, 277, 1, 11, 0, 0, 0), e1 (.ifCond .eq 12) 3 208, e0 (.aload_n 0) 1, e0 (.iconst 1) 1, e0 (.aload_n 0) 1, (.getfield 272, 3, 11, 2, 0, 0, 0, 0), (.invokevirtual 296, 3, 152, 3, 11, 0, 3, 0)]),
  (208, [e0 (.iconst 0) 1, e0 .ireturn 1])]

set_option maxRecDepth 100000 in
def pb_X12_qClip : List (Nat × List EI) := [(0, [e0 (.lload_n 0) 1, (.ldc2_w 439, 3, 0, 0, 0, 0, 0, 1000000), e0 .lcmp 1, e1 (.ifCond .le 9) 3 14, (.ldc2_w 439, 3, 0, 0, 0, 0, 0, 1000000), e1 (.goto 18) 3 29]),
  (14, [e0 (.lload_n 0) 1, (.ldc2_w 441, 3, 0, 0, 0, 0, 0, (-1000000)), e0 .lcmp 1, e1 (.ifCond .ge 9) 3 28, (.ldc2_w 441, 3, 0, 0, 0, 0, 0, (-1000000)), e1 (.goto 4) 3 29]),
  (28, [e0 (.lload_n 0) 1]),
  (29, [e0 .lreturn 1])]

set_option maxRecDepth 100000 in
def pb_X12_qFloor : List (Nat × List EI) := [(0, [e0 (.lload_n 2) 1, e0 (.lconst 0) 1, e0 .lcmp 1, e1 (.ifCond .ne 5) 3 8, e0 (.lconst 0) 1, e0 .lreturn 1]),
  (8, [e0 (.lload_n 0) 1, e0 (.lload_n 2) 1, e0 .ldiv 1, e0 (.lstore 4) 2, e0 (.lload_n 0) 1, e0 (.lload_n 2) 1, e0 .lrem 1, e0 (.lconst 0) 1, e0 .lcmp 1, e1 (.ifCond .eq 35) 3 53, e0 (.lload_n 0) 1, e0 (.lconst 0) 1, e0 .lcmp 1, e1 (.ifCond .ge 7) 3 31, e0 (.iconst 1) 1, e1 (.goto 4) 3 32]),
  (31, [e0 (.iconst 0) 1]),
  (32, [e0 (.lload_n 2) 1, e0 (.lconst 0) 1, e0 .lcmp 1, e1 (.ifCond .ge 7) 3 42, e0 (.iconst 1) 1, e1 (.goto 4) 3 43]),
  (42, [e0 (.iconst 0) 1]),
  (43, [e1 (.if_icmp .eq 10) 3 53, e0 (.lload 4) 2, e0 (.lconst 1) 1, e0 .lsub 1, e1 (.goto 5) 3 55]),
  (53, [e0 (.lload 4) 2]),
  (55, [e0 .lreturn 1])]

set_option maxRecDepth 100000 in
def pb_X12_qPuts : List (Nat × List EI) := [(0, [e0 (.aload_n 0) 1, (.getfield 257, 3, 11, 105, 31, 269, 1700, 1), e0 (.aload_n 0) 1, (.getfield 706, 3, 11, 106, 0, 0, 0, 0), e0 (.lload_n 1) 1, e0 .lastore 1]),
  (10, [e0 (.aload_n 0) 1, e0 .dup 1, (.getfield 706, 3, 11, 106, 0, 0, 0, 0), e0 (.iconst 1) 1, e0 .iadd 1, (.putfield 706, 3, 11, 106, 0, 0, 0, 0)]),
  (20, [e0 .return_ 1])]

set_option maxRecDepth 100000 in
def pb_X12_qJoins : List (Nat × List EI) := [(0, [e0 (.aload_n 0) 1, (.getfield 257, 3, 11, 105, 31, 269, 1700, 1), e0 (.aload_n 0) 1, (.getfield 706, 3, 11, 106, 0, 0, 0, 0), e0 (.iconst 1) 1, e0 .isub 1, e0 .laload 1, e0 (.lstore_n 2) 1, e0 (.aload_n 0) 1, (.getfield 257, 3, 11, 105, 31, 269, 1700, 1), e0 (.aload_n 0) 1, (.getfield 706, 3, 11, 106, 0, 0, 0, 0), e0 (.iconst 2) 1, e0 .isub 1, e0 .laload 1, e0 (.lstore 4) 2, e0 (.aload_n 0) 1, e0 .dup 1, (.getfield 706, 3, 11, 106, 0, 0, 0, 0), e0 (.iconst 2) 1, e0 .isub 1, (.putfield 706, 3, 11, 106, 0, 0, 0, 0)]),
  (35, [e0 (.iload_n 1) 1, e0 (.tableswitch 219 1 10 #[56, 70, 84, 98, 111, 131, 151, 170, 189, 208]) 56]),
  (92, [e0 (.aload_n 0) 1, e0 (.lload 4) 2, e0 (.lload_n 2) 1, e0 .ladd 1, (.invokestatic 709, 3, 281, 1, 11, 0, 1, 0), (.invokevirtual 712, 3, 283, 2, 11, 0, 3, 0), e1 (.goto 170) 3 273]),
  (106, [e0 (.aload_n 0) 1, e0 (.lload 4) 2, e0 (.lload_n 2) 1, e0 .lsub 1, (.invokestatic 709, 3, 281, 1, 11, 0, 1, 0), (.invokevirtual 712, 3, 283, 2, 11, 0, 3, 0), e1 (.goto 156) 3 273]),
  (120, [e0 (.aload_n 0) 1, e0 (.lload 4) 2, e0 (.lload_n 2) 1, e0 .lmul 1, (.invokestatic 709, 3, 281, 1, 11, 0, 1, 0), (.invokevirtual 712, 3, 283, 2, 11, 0, 3, 0), e1 (.goto 142) 3 273]),
  (134, [e0 (.aload_n 0) 1, e0 (.lload 4) 2, e0 (.lload_n 2) 1, (.invokestatic 715, 3, 282, 2, 11, 0, 1, 0), (.invokevirtual 712, 3, 283, 2, 11, 0, 3, 0), e1 (.goto 129) 3 273]),
  (147, [e0 (.aload_n 0) 1, e0 (.lload 4) 2, e0 (.lload_n 2) 1, e0 .lcmp 1, e1 (.ifCond .ge 8) 3 160, e0 (.lload 4) 2, e1 (.goto 4) 3 161]),
  (160, [e0 (.lload_n 2) 1]),
  (161, [(.invokevirtual 712, 3, 283, 2, 11, 0, 3, 0), e1 (.goto 109) 3 273]),
  (167, [e0 (.aload_n 0) 1, e0 (.lload 4) 2, e0 (.lload_n 2) 1, e0 .lcmp 1, e1 (.ifCond .le 8) 3 180, e0 (.lload 4) 2, e1 (.goto 4) 3 181]),
  (180, [e0 (.lload_n 2) 1]),
  (181, [(.invokevirtual 712, 3, 283, 2, 11, 0, 3, 0), e1 (.goto 89) 3 273]),
  (187, [e0 (.aload_n 0) 1, e0 (.lload 4) 2, e0 (.lload_n 2) 1, e0 .lcmp 1, e1 (.ifCond .ge 7) 3 199, e0 (.lconst 1) 1, e1 (.goto 4) 3 200]),
  (199, [e0 (.lconst 0) 1]),
  (200, [(.invokevirtual 712, 3, 283, 2, 11, 0, 3, 0), e1 (.goto 70) 3 273]),
  (206, [e0 (.aload_n 0) 1, e0 (.lload 4) 2, e0 (.lload_n 2) 1, e0 .lcmp 1, e1 (.ifCond .le 7) 3 218, e0 (.lconst 1) 1, e1 (.goto 4) 3 219]),
  (218, [e0 (.lconst 0) 1]),
  (219, [(.invokevirtual 712, 3, 283, 2, 11, 0, 3, 0), e1 (.goto 51) 3 273]),
  (225, [e0 (.aload_n 0) 1, e0 (.lload 4) 2, e0 (.lload_n 2) 1, e0 .lcmp 1, e1 (.ifCond .ne 7) 3 237, e0 (.lconst 1) 1, e1 (.goto 4) 3 238]),
  (237, [e0 (.lconst 0) 1]),
  (238, [(.invokevirtual 712, 3, 283, 2, 11, 0, 3, 0), e1 (.goto 32) 3 273]),
  (244, [e0 (.aload_n 0) 1, e0 (.lload 4) 2, e0 (.lload_n 2) 1, e0 .lmul 1, (.invokevirtual 712, 3, 283, 2, 11, 0, 3, 0), e1 (.goto 21) 3 273]),
  (255, [e0 (.aload_n 0) 1, e0 (.lload 4) 2, e0 (.lload_n 2) 1, e0 .ladd 1, e0 (.lconst 0) 1, e0 .lcmp 1, e1 (.ifCond .le 7) 3 269, e0 (.lconst 1) 1, e1 (.goto 4) 3 270]),
  (269, [e0 (.lconst 0) 1]),
  (270, [(.invokevirtual 712, 3, 283, 2, 11, 0, 3, 0)]),
  (273, [e0 .return_ 1])]

set_option maxRecDepth 100000 in
def pb_X12_qPartOf : List (Nat × List EI) := [(0, [e0 (.iload_n 1) 1, e0 (.tableswitch 121 0 8 #[51, 58, 65, 72, 79, 86, 103, 110, 118]) 51]),
  (52, [e0 (.aload_n 0) 1, e0 (.iload_n 2) 1, (.invokevirtual 486, 3, 203, 2, 11, 0, 0, 0), e0 .i2l 1, e0 .lreturn 1]),
  (59, [e0 (.aload_n 0) 1, e0 (.iload_n 2) 1, (.invokevirtual 489, 3, 204, 2, 11, 0, 0, 0), e0 .i2l 1, e0 .lreturn 1]),
  (66, [e0 (.aload_n 0) 1, e0 (.iload_n 2) 1, (.invokevirtual 492, 3, 207, 2, 11, 0, 0, 0), e0 .i2l 1, e0 .lreturn 1]),
  (73, [e0 (.aload_n 0) 1, e0 (.iload_n 2) 1, (.invokevirtual 495, 3, 208, 2, 11, 0, 0, 0), e0 .i2l 1, e0 .lreturn 1]),
  (80, [e0 (.aload_n 0) 1, e0 (.iload_n 2) 1, (.invokevirtual 498, 3, 209, 2, 11, 0, 0, 0), e0 .i2l 1, e0 .lreturn 1]),
  (87, [e0 (.aload_n 0) 1, e0 (.aload_n 0) 1, e0 (.iload_n 2) 1, (.invokevirtual 469, 3, 199, 2, 11, 0, 0, 0), e0 (.aload_n 0) 1, (.getfield 154, 3, 11, 63, 30, 237, 146, 1), e0 (.iconst 0) 1, e0 .iaload 1, (.invokevirtual 501, 3, 210, 3, 11, 0, 0, 0), e0 .i2l 1, e0 .lreturn 1]),
  (104, [e0 (.aload_n 0) 1, e0 (.iload_n 2) 1, (.invokevirtual 469, 3, 199, 2, 11, 0, 0, 0), e0 .i2l 1, e0 .lreturn 1]),
  (111, [e0 (.aload_n 0) 1, (.getfield 154, 3, 11, 63, 30, 237, 146, 1), e0 (.iconst 0) 1, e0 .iaload 1, e0 .i2l 1, e0 .lreturn 1]),
  (119, [e0 (.iload_n 2) 1, e0 .i2l 1, e0 .lreturn 1]),
  (122, [e0 (.aload_n 0) 1, e0 (.iload_n 2) 1, (.invokevirtual 483, 3, 205, 2, 11, 0, 0, 0), e0 .i2l 1, e0 .lreturn 1])]

set_option maxRecDepth 100000 in
def pb_X12_qOf : List (Nat × List EI) := [(0, [e0 (.iload_n 1) 1, e0 (.lookupswitch 11 #[]) 11]),
  (12, [e0 (.lload_n 2) 1, e0 (.lconst 0) 1, (.ldc2_w 535, 3, 0, 0, 0, 0, 0, 15), (.invokestatic 309, 3, 149, 3, 11, 0, 0, 0), e1 (.ifCond .eq 27) 3 47, e0 (.aload_n 0) 1, e0 (.lload_n 2) 1, e0 .l2i 1, (.invokevirtual 473, 3, 200, 2, 11, 0, 0, 0), e1 (.ifCond .eq 18) 3 47, e0 (.aload_n 0) 1, e0 (.iload 4) 2, e0 (.lload_n 2) 1, e0 .l2i 1, (.invokevirtual 479, 3, 206, 3, 11, 0, 0, 0), e1 (.ifCond .eq 7) 3 47, e0 (.lconst 1) 1, e1 (.goto 4) 3 48]),
  (47, [e0 (.lconst 0) 1]),
  (48, [e0 .lreturn 1])]

set_option maxRecDepth 100000 in
def pb_X12_qTold : List (Nat × List EI) := [(0, [e0 (.aload_n 0) 1, e0 (.iconst 0) 1, (.putfield 706, 3, 11, 106, 0, 0, 0, 0), e0 (.iconst 0) 1, e0 (.istore_n 2) 1]),
  (7, [e0 (.iload_n 2) 1, e0 (.aload_n 0) 1, (.getfield 640, 3, 11, 100, 0, 0, 0, 0), e1 (.if_icmp .ge 156) 3 168, e0 (.aload_n 0) 1, (.getfield 251, 3, 11, 99, 30, 267, 1700, 1), e0 (.iload_n 2) 1, e0 .iaload 1, e0 (.istore_n 3) 1, e0 (.iload_n 3) 1, e0 (.sipush 1000) 3, e1 (.if_icmp .lt 16) 3 42, e0 (.aload_n 0) 1, e0 (.iload_n 3) 1, e0 (.sipush 1000) 3, e0 .isub 1, e0 .i2l 1, (.invokevirtual 712, 3, 283, 2, 11, 0, 3, 0), e1 (.goto 123) 3 162]),
  (42, [e0 (.iload_n 3) 1, e0 (.bipush 60) 2, e1 (.if_icmp .lt 40) 3 85, e0 (.aload_n 0) 1, (.getfield 257, 3, 11, 105, 31, 269, 1700, 1), e0 (.aload_n 0) 1, (.getfield 706, 3, 11, 106, 0, 0, 0, 0), e0 (.iconst 1) 1, e0 .isub 1, e0 (.aload_n 0) 1, e0 (.iload_n 3) 1, e0 (.bipush 60) 2, e0 .isub 1, e0 (.aload_n 0) 1, (.getfield 257, 3, 11, 105, 31, 269, 1700, 1), e0 (.aload_n 0) 1, (.getfield 706, 3, 11, 106, 0, 0, 0, 0), e0 (.iconst 1) 1, e0 .isub 1, e0 .laload 1, e0 (.iload_n 1) 1, (.invokevirtual 718, 3, 286, 4, 11, 0, 1, 0), (.invokestatic 709, 3, 281, 1, 11, 0, 1, 0), e0 .lastore 1]),
  (82, [e1 (.goto 80) 3 162]),
  (85, [e0 (.iload_n 3) 1, e0 (.bipush 40) 2, e1 (.if_icmp .lt 22) 3 110, e0 (.aload_n 0) 1, e0 (.aload_n 0) 1, e0 (.iload_n 3) 1, e0 (.bipush 40) 2, e0 .isub 1, e0 (.iload_n 1) 1, (.invokevirtual 722, 3, 285, 3, 11, 0, 1, 0), (.invokestatic 709, 3, 281, 1, 11, 0, 1, 0), (.invokevirtual 712, 3, 283, 2, 11, 0, 3, 0), e1 (.goto 55) 3 162]),
  (110, [e0 (.iload_n 3) 1, e0 (.bipush 13) 2, e1 (.if_icmp .ne 11) 3 124, e0 (.aload_n 0) 1, e0 (.lconst 1) 1, (.invokevirtual 712, 3, 283, 2, 11, 0, 3, 0), e1 (.goto 41) 3 162]),
  (124, [e0 (.iload_n 3) 1, e0 (.bipush 12) 2, e1 (.if_icmp .ne 30) 3 157, e0 (.aload_n 0) 1, (.getfield 257, 3, 11, 105, 31, 269, 1700, 1), e0 (.aload_n 0) 1, (.getfield 706, 3, 11, 106, 0, 0, 0, 0), e0 (.iconst 1) 1, e0 .isub 1, e0 (.lconst 1) 1, e0 (.aload_n 0) 1, (.getfield 257, 3, 11, 105, 31, 269, 1700, 1), e0 (.aload_n 0) 1, (.getfield 706, 3, 11, 106, 0, 0, 0, 0), e0 (.iconst 1) 1, e0 .isub 1, e0 .laload 1, e0 .lsub 1, e0 .lastore 1]),
  (154, [e1 (.goto 8) 3 162]),
  (157, [e0 (.aload_n 0) 1, e0 (.iload_n 3) 1, (.invokevirtual 726, 3, 284, 2, 11, 0, 3, 0)]),
  (162, [e0 (.iinc 2 1) 3, e1 (.goto (-158)) 3 7]),
  (168, [e0 (.aload_n 0) 1, (.getfield 257, 3, 11, 105, 31, 269, 1700, 1), e0 (.iconst 0) 1, e0 .laload 1, e0 .lreturn 1])]

set_option maxRecDepth 100000 in
def pb_X12_qKind : List (Nat × List EI) := [(0, [e0 (.aload_n 0) 1, e0 (.aload_n 0) 1, (.getfield 182, 3, 11, 76, 32, 244, 5, 1), (.invokevirtual 293, 3, 157, 2, 11, 0, 0, 0), e1 (.ifCond .eq 7) 3 15, e0 (.iconst 0) 1, e1 (.goto 64) 3 76]),
  (15, [e0 (.aload_n 0) 1, e0 (.aload_n 0) 1, (.getfield 185, 3, 11, 77, 32, 245, 4, 1), (.invokevirtual 293, 3, 157, 2, 11, 0, 0, 0), e1 (.ifCond .eq 7) 3 30, e0 (.iconst 1) 1, e1 (.goto 49) 3 76]),
  (30, [e0 (.aload_n 0) 1, e0 (.aload_n 0) 1, (.getfield 188, 3, 11, 78, 32, 246, 5, 1), (.invokevirtual 293, 3, 157, 2, 11, 0, 0, 0), e1 (.ifCond .eq 7) 3 45, e0 (.iconst 2) 1, e1 (.goto 34) 3 76]),
  (45, [e0 (.aload_n 0) 1, e0 (.aload_n 0) 1, (.getfield 191, 3, 11, 79, 32, 247, 5, 1), (.invokevirtual 293, 3, 157, 2, 11, 0, 0, 0), e1 (.ifCond .eq 7) 3 60, e0 (.iconst 3) 1, e1 (.goto 19) 3 76]),
  (60, [e0 (.aload_n 0) 1, e0 (.aload_n 0) 1, (.getfield 194, 3, 11, 80, 32, 248, 4, 1), (.invokevirtual 293, 3, 157, 2, 11, 0, 0, 0), e1 (.ifCond .eq 7) 3 75, e0 (.iconst 4) 1, e1 (.goto 4) 3 76]),
  (75, [e0 (.iconst 5) 1]),
  (76, [e0 (.istore_n 1) 1, e0 (.iload_n 1) 1, e0 (.iconst 5) 1, e1 (.if_icmp .ne 11) 3 90, e0 (.aload_n 0) 1, e0 (.aload_n 0) 1, (.getfield 197, 3, 11, 81, 32, 249, 5, 1), (.invokevirtual 332, 3, 158, 2, 11, 0, 3, 0)]),
  (90, [e0 (.iload_n 1) 1, e0 .ireturn 1])]

set_option maxRecDepth 100000 in
def pb_X12_qTakes : List (Nat × List EI) := [(0, [e0 (.iload_n 1) 1, e0 (.iconst 3) 1, e1 (.if_icmp .ge 13) 3 15, e0 (.lload_n 2) 1, e0 (.lconst 1) 1, e0 .lcmp 1, e1 (.ifCond .ne 7) 3 15, e0 (.iconst 1) 1, e1 (.goto 4) 3 16]),
  (15, [e0 (.iconst 0) 1]),
  (16, [e0 (.istore 5) 2, e0 (.iload_n 1) 1, e1 (.ifCond .ne 19) 3 38, e0 (.iload 5) 2, e1 (.ifCond .eq 14) 3 38, e0 (.aload_n 0) 1, (.getfield 729, 3, 11, 107, 1, 0, 0, 0), (.ldc2_w 610, 3, 0, 0, 0, 0, 0, (-1)), e0 .lcmp 1, e1 (.ifCond .eq 13) 3 48]),
  (38, [e0 (.iload_n 1) 1, e0 (.iconst 1) 1, e1 (.if_icmp .ne 15) 3 55, e0 (.iload 5) 2, e1 (.ifCond .eq 10) 3 55]),
  (48, [e0 (.aload_n 0) 1, e0 (.iload 4) 2, e0 .i2l 1, (.putfield 729, 3, 11, 107, 1, 0, 0, 0)]),
  (55, [e0 (.iload_n 1) 1, e0 (.iconst 2) 1, e1 (.if_icmp .ne 18) 3 75, e0 (.iload 5) 2, e1 (.ifCond .eq 13) 3 75, e0 (.aload_n 0) 1, e0 .dup 1, (.getfield 729, 3, 11, 107, 1, 0, 0, 0), e0 (.lconst 1) 1, e0 .ladd 1, (.putfield 729, 3, 11, 107, 1, 0, 0, 0)]),
  (75, [e0 (.iload_n 1) 1, e0 (.iconst 3) 1, e1 (.if_icmp .ne 13) 3 90, e0 (.aload_n 0) 1, e0 .dup 1, (.getfield 729, 3, 11, 107, 1, 0, 0, 0), e0 (.lload_n 2) 1, e0 .ladd 1, (.putfield 729, 3, 11, 107, 1, 0, 0, 0)]),
  (90, [e0 (.iload_n 1) 1, e0 (.iconst 3) 1, e1 (.if_icmp .le 41) 3 133, e0 (.aload_n 0) 1, (.getfield 732, 3, 11, 108, 2, 0, 0, 0), e1 (.ifCond .ne 29) 3 128, e0 (.iload_n 1) 1, e0 (.iconst 4) 1, e1 (.if_icmp .ne 15) 3 119, e0 (.lload_n 2) 1, e0 (.aload_n 0) 1, (.getfield 729, 3, 11, 107, 1, 0, 0, 0), e0 .lcmp 1, e1 (.ifCond .le 20) 3 133, e1 (.goto 12) 3 128]),
  (119, [e0 (.lload_n 2) 1, e0 (.aload_n 0) 1, (.getfield 729, 3, 11, 107, 1, 0, 0, 0), e0 .lcmp 1, e1 (.ifCond .ge 8) 3 133]),
  (128, [e0 (.aload_n 0) 1, e0 (.lload_n 2) 1, (.putfield 729, 3, 11, 107, 1, 0, 0, 0)]),
  (133, [e0 (.aload_n 0) 1, e0 (.iconst 0) 1, (.putfield 732, 3, 11, 108, 2, 0, 0, 0), e0 .return_ 1])]

set_option maxRecDepth 100000 in
def pb_X12_ask : List (Nat × List EI) := [(0, [e0 (.aload_n 0) 1, (.getfield 405, 3, 11, 53, 2, 0, 0, 0), e1 (.ifCond .ne 12) 3 16, e0 (.aload_n 0) 1, e0 (.iconst 0) 1, (.putfield 263, 3, 11, 1, 0, 0, 0, 0)]),
  (12, [(.ldc2_w 559, 3, 0, 0, 0, 0, 0, (-1000000000000000)), e0 .lreturn 1]),
  (16, [e0 (.aload_n 0) 1, e0 (.aload_n 0) 1, (.getfield 263, 3, 11, 1, 0, 0, 0, 0), (.putfield 275, 3, 11, 3, 0, 0, 0, 0), e0 (.aload_n 0) 1, e0 (.iconst 0) 1, (.putfield 263, 3, 11, 1, 0, 0, 0, 0)]),
  (29, [e0 (.aload_n 0) 1, e0 (.iconst 0) 1, (.putfield 272, 3, 11, 2, 0, 0, 0, 0), e0 (.aload_n 0) 1, e0 (.iconst (-1)) 1, (.putfield 286, 3, 11, 4, 0, 0, 0, 0)]),
  (39, [e0 (.aload_n 0) 1, e0 (.iconst 0) 1, (.putfield 266, 3, 11, 5, 0, 0, 0, 0), e0 (.aload_n 0) 1, e0 (.iconst (-1)) 1, (.putfield 269, 3, 11, 6, 0, 0, 0, 0)]),
  (49, [e0 (.aload_n 0) 1, e0 (.iconst 0) 1, (.putfield 640, 3, 11, 100, 0, 0, 0, 0), e0 (.aload_n 0) 1, e0 (.iconst 0) 1, (.putfield 646, 3, 11, 102, 0, 0, 0, 0)]),
  (59, [e0 (.aload_n 0) 1, e0 (.iconst 0) 1, (.putfield 643, 3, 11, 103, 0, 0, 0, 0), e0 (.aload_n 0) 1, e0 (.iconst 0) 1, (.putfield 652, 3, 11, 104, 0, 0, 0, 0)]),
  (69, [e0 (.aload_n 0) 1, (.invokevirtual 735, 3, 288, 1, 11, 0, 0, 0), e0 (.istore_n 1) 1, e0 (.aload_n 0) 1, (.getfield 266, 3, 11, 5, 0, 0, 0, 0), e1 (.ifCond .ne 15) 3 93, e0 (.iload_n 1) 1, e0 (.iconst 3) 1, e1 (.if_icmp .ge 10) 3 93, e0 (.aload_n 0) 1, (.invokevirtual 738, 3, 279, 1, 11, 0, 3, 0), e1 (.goto 14) 3 104]),
  (93, [e0 (.aload_n 0) 1, (.getfield 266, 3, 11, 5, 0, 0, 0, 0), e1 (.ifCond .ne 7) 3 104, e0 (.aload_n 0) 1, (.invokevirtual 691, 3, 275, 1, 11, 0, 3, 0)]),
  (104, [e0 (.aload_n 0) 1, (.getfield 266, 3, 11, 5, 0, 0, 0, 0), e1 (.ifCond .ne 20) 3 128, e0 (.aload_n 0) 1, (.invokevirtual 278, 3, 155, 1, 11, 0, 0, 0), e0 (.iconst (-1)) 1, e1 (.if_icmp .eq 12) 3 128, e0 (.aload_n 0) 1, e0 (.iconst 1) 1, e0 (.aload_n 0) 1, (.getfield 272, 3, 11, 2, 0, 0, 0, 0), (.invokevirtual 296, 3, 152, 3, 11, 0, 3, 0)]),
  (128, [e0 (.aload_n 0) 1, e0 (.aload_n 0) 1, (.getfield 266, 3, 11, 5, 0, 0, 0, 0), (.putfield 399, 3, 11, 7, 0, 0, 0, 0), e0 (.aload_n 0) 1, e0 (.aload_n 0) 1, (.getfield 269, 3, 11, 6, 0, 0, 0, 0), (.putfield 13, 3, 11, 8, 0, 0, 0, 0)]),
  (144, [e0 (.aload_n 0) 1, (.getfield 266, 3, 11, 5, 0, 0, 0, 0), e1 (.ifCond .eq 7) 3 155, (.ldc2_w 559, 3, 0, 0, 0, 0, 0, (-1000000000000000)), e0 .lreturn 1]),
  (155, [e0 (.aload_n 0) 1, e0 (.iload_n 1) 1, e0 (.iconst 2) 1, e1 (.if_icmp .ge 9) 3 167, (.ldc2_w 610, 3, 0, 0, 0, 0, 0, (-1)), e1 (.goto 4) 3 168]),
  (167, [e0 (.lconst 0) 1]),
  (168, [(.putfield 729, 3, 11, 107, 1, 0, 0, 0), e0 (.aload_n 0) 1, e0 (.iconst 1) 1, (.putfield 732, 3, 11, 108, 2, 0, 0, 0), e0 (.iconst 0) 1, e0 (.istore_n 2) 1]),
  (178, [e0 (.iload_n 2) 1, e0 (.bipush 16) 2, e1 (.if_icmp .ge 28) 3 209, e0 (.aload_n 0) 1, e0 (.iload_n 2) 1, (.invokevirtual 473, 3, 200, 2, 11, 0, 0, 0), e1 (.ifCond .eq 14) 3 203, e0 (.aload_n 0) 1, e0 (.iload_n 1) 1, e0 (.aload_n 0) 1, e0 (.iload_n 2) 1, (.invokevirtual 741, 3, 287, 2, 11, 0, 1, 0), e0 (.iload_n 2) 1, (.invokevirtual 744, 3, 289, 4, 11, 0, 3, 0)]),
  (203, [e0 (.iinc 2 1) 3, e1 (.goto (-28)) 3 178]),
  (209, [e0 (.aload_n 0) 1, (.getfield 729, 3, 11, 107, 1, 0, 0, 0), e0 .lreturn 1])]

set_option maxRecDepth 100000 in
def pb_X12_checked : List (Nat × List EI) := [(0, [e0 (.sipush 229) 3, e0 (.istore_n 2) 1, e0 (.iconst 0) 1, e0 (.istore_n 3) 1]),
  (6, [e0 (.iload_n 3) 1, e0 (.iload_n 1) 1, e1 (.if_icmp .ge 21) 3 29, e0 (.iconst 3) 1, e0 (.iload_n 2) 1, e0 .imul 1, e0 (.aload_n 0) 1, e0 (.iload_n 3) 1, e0 .iaload 1, e0 .iadd 1, e0 (.sipush 251) 3, e0 .irem 1, e0 (.istore_n 2) 1, e0 (.iinc 3 1) 3, e1 (.goto (-20)) 3 6]),
  (29, [e0 (.iload_n 2) 1, e0 .ireturn 1])]

set_option maxRecDepth 100000 in
def pb_X12_writes : List (Nat × List EI) := [(0, [e0 (.aload_n 0) 1, (.getfield 260, 3, 11, 109, 30, 270, 27, 1), e0 (.aload_n 0) 1, (.getfield 748, 3, 11, 110, 0, 0, 0, 0), e0 (.iload_n 1) 1, e0 .iastore 1]),
  (10, [e0 (.aload_n 0) 1, e0 .dup 1, (.getfield 748, 3, 11, 110, 0, 0, 0, 0), e0 (.iconst 1) 1, e0 .iadd 1, (.putfield 748, 3, 11, 110, 0, 0, 0, 0)]),
  (20, [e0 .return_ 1])]

set_option maxRecDepth 100000 in
def pb_X12_image : List (Nat × List EI) := [(0, [e0 (.aload_n 0) 1, e0 (.iconst 0) 1, (.putfield 748, 3, 11, 110, 0, 0, 0, 0), e0 (.aload_n 0) 1, (.getfield 154, 3, 11, 63, 30, 237, 146, 1), e0 (.iconst 1) 1, e0 .iaload 1, (.ldc_w 629, 3, 0, 0, 0, 0, 0, 99999), e0 .iadd 1, e0 (.iconst 1) 1, e0 .iadd 1, e0 (.istore_n 1) 1, e0 (.aload_n 0) 1, e0 (.aload_n 0) 1, (.getfield 154, 3, 11, 63, 30, 237, 146, 1), e0 (.iconst 0) 1, e0 .iaload 1, e0 (.sipush 256) 3, e0 .idiv 1, (.invokevirtual 751, 3, 292, 2, 11, 0, 3, 0), e0 (.aload_n 0) 1, e0 (.aload_n 0) 1, (.getfield 154, 3, 11, 63, 30, 237, 146, 1), e0 (.iconst 0) 1, e0 .iaload 1, e0 (.sipush 256) 3, e0 .irem 1, (.invokevirtual 751, 3, 292, 2, 11, 0, 3, 0)]),
  (46, [e0 (.aload_n 0) 1, e0 (.iload_n 1) 1, (.ldc_w 754, 3, 0, 0, 0, 0, 0, 65536), e0 .idiv 1, (.invokevirtual 751, 3, 292, 2, 11, 0, 3, 0), e0 (.aload_n 0) 1, e0 (.iload_n 1) 1, e0 (.sipush 256) 3, e0 .idiv 1, e0 (.sipush 256) 3, e0 .irem 1, (.invokevirtual 751, 3, 292, 2, 11, 0, 3, 0), e0 (.aload_n 0) 1, e0 (.iload_n 1) 1, e0 (.sipush 256) 3, e0 .irem 1, (.invokevirtual 751, 3, 292, 2, 11, 0, 3, 0), e0 (.aload_n 0) 1, e0 (.aload_n 0) 1, (.getfield 154, 3, 11, 63, 30, 237, 146, 1), e0 (.iconst 2) 1, e0 .iaload 1, e0 (.iconst 1) 1, e0 .iadd 1, (.invokevirtual 751, 3, 292, 2, 11, 0, 3, 0)]),
  (89, [e0 (.iconst 0) 1, e0 (.istore_n 2) 1]),
  (91, [e0 (.iload_n 2) 1, e0 (.aload_n 0) 1, (.invokevirtual 461, 3, 195, 1, 11, 0, 0, 0), e1 (.if_icmp .ge 18) 3 114, e0 (.aload_n 0) 1, e0 (.aload_n 0) 1, e0 (.iload_n 2) 1, (.invokevirtual 469, 3, 199, 2, 11, 0, 0, 0), (.invokevirtual 751, 3, 292, 2, 11, 0, 3, 0), e0 (.iinc 2 1) 3, e1 (.goto (-20)) 3 91]),
  (114, [e0 (.iconst 0) 1, e0 (.istore_n 2) 1]),
  (116, [e0 (.iload_n 2) 1, e0 (.aload_n 0) 1, (.invokevirtual 466, 3, 196, 1, 11, 0, 0, 0), e1 (.if_icmp .ge 36) 3 157, e0 (.aload_n 0) 1, e0 (.aload_n 0) 1, e0 (.bipush 10) 2, e0 (.iload_n 2) 1, e0 .iadd 1, (.invokevirtual 469, 3, 199, 2, 11, 0, 0, 0), e0 (.iconst 1) 1, e0 .iadd 1, (.invokevirtual 751, 3, 292, 2, 11, 0, 3, 0), e0 (.aload_n 0) 1, e0 (.aload_n 0) 1, (.getfield 154, 3, 11, 63, 30, 237, 146, 1), e0 (.bipush 19) 2, e0 (.iload_n 2) 1, e0 .iadd 1, e0 .iaload 1, (.invokevirtual 751, 3, 292, 2, 11, 0, 3, 0), e0 (.iinc 2 1) 3]),
  (154, [e1 (.goto (-38)) 3 116]),
  (157, [e0 (.aload_n 0) 1, e0 (.aload_n 0) 1, (.getfield 260, 3, 11, 109, 30, 270, 27, 1), e0 (.aload_n 0) 1, (.getfield 748, 3, 11, 110, 0, 0, 0, 0), (.invokestatic 755, 3, 291, 2, 11, 0, 0, 0), (.invokevirtual 751, 3, 292, 2, 11, 0, 3, 0), e0 (.aload_n 0) 1, (.getfield 748, 3, 11, 110, 0, 0, 0, 0), e0 .ireturn 1])]

set_option maxRecDepth 100000 in
def pb_X12_octet : List (Nat × List EI) := [(0, [e0 (.iload_n 1) 1, e1 (.ifCond .lt 20) 3 21, e0 (.iload_n 1) 1, e0 (.aload_n 0) 1, (.getfield 748, 3, 11, 110, 0, 0, 0, 0), e1 (.if_icmp .ge 12) 3 21, e0 (.aload_n 0) 1, (.getfield 260, 3, 11, 109, 30, 270, 27, 1), e0 (.iload_n 1) 1, e0 .iaload 1, e1 (.goto 4) 3 22]),
  (21, [e0 (.iconst (-1)) 1]),
  (22, [e0 .ireturn 1])]

set_option maxRecDepth 100000 in
def pb_X12_scaleTold : List (Nat × List EI) := [(0, [(.ldc_w 754, 3, 0, 0, 0, 0, 0, 65536), e0 (.aload_n 0) 1, (.getfield 7, 3, 11, 0, 30, 191, 1600, 1), e0 (.iconst 2) 1, e0 .iaload 1, e0 .imul 1, e0 (.sipush 256) 3, e0 (.aload_n 0) 1, (.getfield 7, 3, 11, 0, 30, 191, 1600, 1), e0 (.iconst 3) 1, e0 .iaload 1, e0 .imul 1, e0 .iadd 1, e0 (.aload_n 0) 1, (.getfield 7, 3, 11, 0, 30, 191, 1600, 1), e0 (.iconst 4) 1, e0 .iaload 1, e0 .iadd 1, (.ldc_w 629, 3, 0, 0, 0, 0, 0, 99999), e0 .isub 1, e0 (.iconst 1) 1, e0 .isub 1, e0 .ireturn 1])]

set_option maxRecDepth 100000 in
def pb_X12_seatTold : List (Nat × List EI) := [(0, [e0 (.aload_n 0) 1, (.invokevirtual 461, 3, 195, 1, 11, 0, 0, 0), e0 (.istore_n 2) 1, e0 (.iload_n 1) 1, e0 (.iload_n 2) 1, e1 (.if_icmp .ge 15) 3 22, e0 (.aload_n 0) 1, (.getfield 7, 3, 11, 0, 30, 191, 1600, 1), e0 (.bipush 6) 2, e0 (.iload_n 1) 1, e0 .iadd 1, e0 .iaload 1, e1 (.goto 20) 3 39]),
  (22, [e0 (.aload_n 0) 1, (.getfield 7, 3, 11, 0, 30, 191, 1600, 1), e0 (.bipush 6) 2, e0 (.iload_n 2) 1, e0 .iadd 1, e0 (.iconst 2) 1, e0 (.iload_n 1) 1, e0 (.iload_n 2) 1, e0 .isub 1, e0 .imul 1, e0 .iadd 1, e0 .iaload 1, e0 (.iconst 1) 1, e0 .isub 1]),
  (39, [e0 .ireturn 1])]

set_option maxRecDepth 100000 in
def pb_X12_areSeatsTold : List (Nat × List EI) := [(0, [e0 (.aload_n 0) 1, (.invokevirtual 461, 3, 195, 1, 11, 0, 0, 0), e0 (.aload_n 0) 1, (.invokevirtual 466, 3, 196, 1, 11, 0, 0, 0), e0 .iadd 1, e0 (.istore_n 1) 1, e0 (.iconst 0) 1, e0 (.istore_n 2) 1]),
  (12, [e0 (.iload_n 2) 1, e0 (.iload_n 1) 1, e1 (.if_icmp .ge 60) 3 74, e0 (.aload_n 0) 1, e0 (.iload_n 2) 1, (.invokevirtual 759, 3, 296, 2, 11, 0, 0, 0), e0 (.aload_n 0) 1, (.invokevirtual 458, 3, 194, 1, 11, 0, 0, 0), e1 (.if_icmp .lt 5) 3 31, e0 (.iconst 0) 1, e0 .ireturn 1]),
  (31, [e0 (.iconst 0) 1, e0 (.istore_n 3) 1]),
  (33, [e0 (.iload_n 3) 1, e0 (.iload_n 2) 1, e1 (.if_icmp .ge 33) 3 68, e0 (.aload_n 0) 1, e0 (.iload_n 2) 1, (.invokevirtual 759, 3, 296, 2, 11, 0, 0, 0), e0 (.iconst (-1)) 1, e1 (.if_icmp .eq 18) 3 62, e0 (.aload_n 0) 1, e0 (.iload_n 3) 1, (.invokevirtual 759, 3, 296, 2, 11, 0, 0, 0), e0 (.aload_n 0) 1, e0 (.iload_n 2) 1, (.invokevirtual 759, 3, 296, 2, 11, 0, 0, 0), e1 (.if_icmp .ne 5) 3 62, e0 (.iconst 0) 1, e0 .ireturn 1]),
  (62, [e0 (.iinc 3 1) 3, e1 (.goto (-32)) 3 33]),
  (68, [e0 (.iinc 2 1) 3, e1 (.goto (-59)) 3 12]),
  (74, [e0 (.iconst 0) 1, e0 (.istore_n 2) 1]),
  (76, [e0 (.iload_n 2) 1, e0 (.aload_n 0) 1, (.invokevirtual 466, 3, 196, 1, 11, 0, 0, 0), e1 (.if_icmp .ge 49) 3 130, e0 (.aload_n 0) 1, (.getfield 7, 3, 11, 0, 30, 191, 1600, 1), e0 (.bipush 7) 2, e0 (.aload_n 0) 1, (.invokevirtual 461, 3, 195, 1, 11, 0, 0, 0), e0 .iadd 1, e0 (.iconst 2) 1, e0 (.iload_n 2) 1, e0 .imul 1, e0 .iadd 1, e0 .iaload 1, e0 (.aload_n 0) 1, e0 (.aload_n 0) 1, (.invokevirtual 461, 3, 195, 1, 11, 0, 0, 0), e0 (.iload_n 2) 1, e0 .iadd 1, (.invokevirtual 759, 3, 296, 2, 11, 0, 0, 0), e0 (.iconst (-1)) 1, e1 (.if_icmp .ne 7) 3 118, e0 (.iconst 0) 1, e1 (.goto 4) 3 119]),
  (118, [e0 (.iconst 1) 1]),
  (119, [e1 (.if_icmp .le 5) 3 124, e0 (.iconst 0) 1, e0 .ireturn 1]),
  (124, [e0 (.iinc 2 1) 3, e1 (.goto (-51)) 3 76]),
  (130, [e0 (.iconst 1) 1, e0 .ireturn 1])]

set_option maxRecDepth 100000 in
def pb_X12_isTold : List (Nat × List EI) := [(0, [e0 (.aload_n 0) 1, (.getfield 405, 3, 11, 53, 2, 0, 0, 0), e1 (.ifCond .eq 42) 3 46, e0 (.iload_n 1) 1, e0 (.bipush 7) 2, e0 (.aload_n 0) 1, (.invokevirtual 461, 3, 195, 1, 11, 0, 0, 0), e0 .iadd 1, e0 (.iconst 2) 1, e0 (.aload_n 0) 1, (.invokevirtual 466, 3, 196, 1, 11, 0, 0, 0), e0 .imul 1, e0 .iadd 1, e1 (.if_icmp .ne 24) 3 46, e0 (.aload_n 0) 1, (.getfield 7, 3, 11, 0, 30, 191, 1600, 1), e0 (.iload_n 1) 1, e0 (.iconst 1) 1, e0 .isub 1, e0 .iaload 1, e0 (.aload_n 0) 1, (.getfield 7, 3, 11, 0, 30, 191, 1600, 1), e0 (.iload_n 1) 1, e0 (.iconst 1) 1, e0 .isub 1, (.invokestatic 755, 3, 291, 2, 11, 0, 0, 0), e1 (.if_icmp .eq 5) 3 48]),
  (46, [e0 (.iconst 0) 1, e0 .ireturn 1]),
  (48, [e0 (.sipush 256) 3, e0 (.aload_n 0) 1, (.getfield 7, 3, 11, 0, 30, 191, 1600, 1), e0 (.iconst 0) 1, e0 .iaload 1, e0 .imul 1, e0 (.aload_n 0) 1, (.getfield 7, 3, 11, 0, 30, 191, 1600, 1), e0 (.iconst 1) 1, e0 .iaload 1, e0 .iadd 1, e0 (.sipush 999) 3, e1 (.if_icmp .gt 44) 3 112, e0 (.aload_n 0) 1, (.invokevirtual 762, 3, 295, 1, 11, 0, 0, 0), e0 .i2l 1, (.ldc2_w 765, 3, 0, 0, 0, 0, 0, (-99999)), (.ldc2_w 767, 3, 0, 0, 0, 0, 0, 99999), (.invokestatic 309, 3, 149, 3, 11, 0, 0, 0), e1 (.ifCond .eq 27) 3 112, e0 (.aload_n 0) 1, (.getfield 7, 3, 11, 0, 30, 191, 1600, 1), e0 (.iconst 5) 1, e0 .iaload 1, e0 (.aload_n 0) 1, (.invokevirtual 525, 3, 197, 1, 11, 0, 0, 0), e1 (.if_icmp .gt 14) 3 112, e0 (.aload_n 0) 1, (.invokevirtual 769, 3, 297, 1, 11, 0, 0, 0), e1 (.ifCond .eq 7) 3 112, e0 (.iconst 1) 1, e1 (.goto 4) 3 113]),
  (112, [e0 (.iconst 0) 1]),
  (113, [e0 .ireturn 1])]

set_option maxRecDepth 100000 in
def pb_X12_on : List (Nat × List EI) := [(0, [e0 (.aload_n 0) 1, (.getfield 263, 3, 11, 1, 0, 0, 0, 0), e0 (.istore_n 1) 1, e0 (.aload_n 0) 1, e0 (.iconst 0) 1, (.putfield 263, 3, 11, 1, 0, 0, 0, 0)]),
  (10, [e0 (.aload_n 0) 1, e0 (.iload_n 1) 1, (.invokevirtual 772, 3, 298, 2, 11, 0, 0, 0), e1 (.ifCond .ne 15) 3 30, e0 (.aload_n 0) 1, (.getfield 17, 3, 11, 9, 30, 192, 6, 1), e0 (.iconst 5) 1, e0 .dup2 1, e0 .iaload 1, e0 (.iconst 1) 1, e0 .iadd 1, e0 .iastore 1]),
  (28, [e0 (.iconst 0) 1, e0 .ireturn 1]),
  (30, [e0 (.aload_n 0) 1, (.getfield 154, 3, 11, 63, 30, 237, 146, 1), e0 (.iconst 0) 1, e0 (.sipush 256) 3, e0 (.aload_n 0) 1, (.getfield 7, 3, 11, 0, 30, 191, 1600, 1), e0 (.iconst 0) 1, e0 .iaload 1, e0 .imul 1, e0 (.aload_n 0) 1, (.getfield 7, 3, 11, 0, 30, 191, 1600, 1), e0 (.iconst 1) 1, e0 .iaload 1, e0 .iadd 1, e0 .iastore 1]),
  (53, [e0 (.aload_n 0) 1, (.getfield 154, 3, 11, 63, 30, 237, 146, 1), e0 (.iconst 1) 1, e0 (.aload_n 0) 1, (.invokevirtual 762, 3, 295, 1, 11, 0, 0, 0), e0 .iastore 1]),
  (63, [e0 (.aload_n 0) 1, (.getfield 154, 3, 11, 63, 30, 237, 146, 1), e0 (.iconst 2) 1, e0 (.aload_n 0) 1, (.getfield 7, 3, 11, 0, 30, 191, 1600, 1), e0 (.iconst 5) 1, e0 .iaload 1, e0 (.iconst 1) 1, e0 .isub 1, e0 .iastore 1]),
  (77, [e0 (.iconst 0) 1, e0 (.istore_n 2) 1]),
  (79, [e0 (.iload_n 2) 1, e0 (.aload_n 0) 1, (.invokevirtual 461, 3, 195, 1, 11, 0, 0, 0), e1 (.if_icmp .ge 26) 3 110, e0 (.aload_n 0) 1, (.getfield 154, 3, 11, 63, 30, 237, 146, 1), e0 (.iconst 3) 1, e0 (.iload_n 2) 1, e0 .iadd 1, e0 (.aload_n 0) 1, (.getfield 7, 3, 11, 0, 30, 191, 1600, 1), e0 (.bipush 6) 2, e0 (.iload_n 2) 1, e0 .iadd 1, e0 .iaload 1, e0 .iastore 1]),
  (104, [e0 (.iinc 2 1) 3, e1 (.goto (-28)) 3 79]),
  (110, [e0 (.iconst 0) 1, e0 (.istore_n 2) 1]),
  (112, [e0 (.iload_n 2) 1, e0 (.aload_n 0) 1, (.invokevirtual 466, 3, 196, 1, 11, 0, 0, 0), e1 (.if_icmp .ge 53) 3 170, e0 (.aload_n 0) 1, (.getfield 154, 3, 11, 63, 30, 237, 146, 1), e0 (.bipush 13) 2, e0 (.iload_n 2) 1, e0 .iadd 1, e0 (.aload_n 0) 1, e0 (.aload_n 0) 1, (.invokevirtual 461, 3, 195, 1, 11, 0, 0, 0), e0 (.iload_n 2) 1, e0 .iadd 1, (.invokevirtual 759, 3, 296, 2, 11, 0, 0, 0), e0 .iastore 1]),
  (139, [e0 (.aload_n 0) 1, (.getfield 154, 3, 11, 63, 30, 237, 146, 1), e0 (.bipush 19) 2, e0 (.iload_n 2) 1, e0 .iadd 1, e0 (.aload_n 0) 1, (.getfield 7, 3, 11, 0, 30, 191, 1600, 1), e0 (.bipush 7) 2, e0 (.aload_n 0) 1, (.invokevirtual 461, 3, 195, 1, 11, 0, 0, 0), e0 .iadd 1, e0 (.iconst 2) 1, e0 (.iload_n 2) 1, e0 .imul 1, e0 .iadd 1, e0 .iaload 1, e0 .iastore 1]),
  (164, [e0 (.iinc 2 1) 3, e1 (.goto (-55)) 3 112]),
  (170, [e0 (.aload_n 0) 1, (.getfield 154, 3, 11, 63, 30, 237, 146, 1), e0 (.bipush 25) 2, e0 (.iconst 0) 1, e0 .iastore 1, e0 (.aload_n 0) 1, e0 (.iconst 0) 1, (.putfield 409, 3, 11, 73, 0, 0, 0, 0)]),
  (183, [e0 (.iconst 1) 1, e0 .ireturn 1])]

set_option maxRecDepth 100000 in
def pb_X12_status : List (Nat × List EI) := [(0, [e0 (.iload_n 1) 1, e0 .i2l 1, e0 (.lconst 0) 1, (.ldc2_w 533, 3, 0, 0, 0, 0, 0, 5), (.invokestatic 309, 3, 149, 3, 11, 0, 0, 0), e1 (.ifCond .eq 12) 3 21, e0 (.aload_n 0) 1, (.getfield 17, 3, 11, 9, 30, 192, 6, 1), e0 (.iload_n 1) 1, e0 .iaload 1, e1 (.goto 4) 3 22]),
  (21, [e0 (.iconst (-1)) 1]),
  (22, [e0 .ireturn 1])]

set_option maxRecDepth 100000 in
def pb_J6_bitCount_0f7a4 : List (Nat × List EI) := [(0, [e0 (.iload_n 0) 1, e0 (.iload_n 0) 1, e0 (.iconst 1) 1, e0 .iushr 1, (.ldc_w 265, 3, 0, 0, 0, 0, 0, 1431655765), e0 .iand 1, e0 .isub 1, e0 (.istore_n 0) 1, e0 (.iload_n 0) 1, (.ldc_w 266, 3, 0, 0, 0, 0, 0, 858993459), e0 .iand 1, e0 (.iload_n 0) 1, e0 (.iconst 2) 1, e0 .iushr 1, (.ldc_w 266, 3, 0, 0, 0, 0, 0, 858993459), e0 .iand 1, e0 .iadd 1, e0 (.istore_n 0) 1, e0 (.iload_n 0) 1, e0 (.iload_n 0) 1, e0 (.iconst 4) 1, e0 .iushr 1, e0 .iadd 1, (.ldc_w 267, 3, 0, 0, 0, 0, 0, 252645135), e0 .iand 1, e0 (.istore_n 0) 1]),
  (34, [e0 (.iload_n 0) 1, e0 (.iload_n 0) 1, e0 (.bipush 8) 2, e0 .iushr 1, e0 .iadd 1, e0 (.istore_n 0) 1, e0 (.iload_n 0) 1, e0 (.iload_n 0) 1, e0 (.bipush 16) 2, e0 .iushr 1, e0 .iadd 1, e0 (.istore_n 0) 1, e0 (.iload_n 0) 1, e0 (.bipush 63) 2, e0 .iand 1, e0 .ireturn 1])]

set_option maxRecDepth 100000 in
def pb_J9_floorDiv_7cf53 : List (Nat × List EI) := [(0, [e0 (.iload_n 0) 1, e0 (.iload_n 1) 1, e0 .idiv 1, e0 (.istore_n 2) 1, e0 (.iload_n 0) 1, e0 (.iload_n 1) 1, e0 .ixor 1, e1 (.ifCond .ge 14) 3 21, e0 (.iload_n 2) 1, e0 (.iload_n 1) 1, e0 .imul 1, e0 (.iload_n 0) 1, e1 (.if_icmp .eq 7) 3 21, e0 (.iload_n 2) 1, e0 (.iconst 1) 1, e0 .isub 1, e0 .ireturn 1]),
  (21, [e0 (.iload_n 2) 1, e0 .ireturn 1])]

set_option maxRecDepth 100000 in
def pb_J9_abs_0f7a4 : List (Nat × List EI) := [(0, [e0 (.iload_n 0) 1, e1 (.ifCond .ge 8) 3 9, e0 (.iload_n 0) 1, e0 .ineg 1, e1 (.goto 4) 3 10]),
  (9, [e0 (.iload_n 0) 1]),
  (10, [e0 .ireturn 1])]

set_option maxRecDepth 100000 in
def pb_J9_max_7cf53 : List (Nat × List EI) := [(0, [e0 (.iload_n 0) 1, e0 (.iload_n 1) 1, e1 (.if_icmp .lt 7) 3 9, e0 (.iload_n 0) 1, e1 (.goto 4) 3 10]),
  (9, [e0 (.iload_n 1) 1]),
  (10, [e0 .ireturn 1])]

set_option maxRecDepth 100000 in
def pb_J9_max_f86c9 : List (Nat × List EI) := [(0, [e0 (.lload_n 0) 1, e0 (.lload_n 2) 1, e0 .lcmp 1, e1 (.ifCond .lt 7) 3 10, e0 (.lload_n 0) 1, e1 (.goto 4) 3 11]),
  (10, [e0 (.lload_n 2) 1]),
  (11, [e0 .lreturn 1])]

set_option maxRecDepth 100000 in
def pb_J9_min_7cf53 : List (Nat × List EI) := [(0, [e0 (.iload_n 0) 1, e0 (.iload_n 1) 1, e1 (.if_icmp .gt 7) 3 9, e0 (.iload_n 0) 1, e1 (.goto 4) 3 10]),
  (9, [e0 (.iload_n 1) 1]),
  (10, [e0 .ireturn 1])]

set_option maxRecDepth 100000 in
def pb_J9_min_f86c9 : List (Nat × List EI) := [(0, [e0 (.lload_n 0) 1, e0 (.lload_n 2) 1, e0 .lcmp 1, e1 (.ifCond .gt 7) 3 10, e0 (.lload_n 0) 1, e1 (.goto 4) 3 11]),
  (10, [e0 (.lload_n 2) 1]),
  (11, [e0 .lreturn 1])]

set_option maxRecDepth 100000 in
def pb_J7_fill_53178 : List (Nat × List EI) := [(0, [e0 (.iconst 0) 1, e0 (.istore_n 2) 1, e0 (.aload_n 0) 1, e0 .arraylength 1, e0 (.istore_n 3) 1]),
  (5, [e0 (.iload_n 2) 1, e0 (.iload_n 3) 1, e1 (.if_icmp .ge 13) 3 20, e0 (.aload_n 0) 1, e0 (.iload_n 2) 1, e0 (.iload_n 1) 1, e0 .iastore 1]),
  (14, [e0 (.iinc 2 1) 3, e1 (.goto (-12)) 3 5]),
  (20, [e0 .return_ 1])]
