set_option maxRecDepth 100000 in
theorem q_J7_copyOf_59c91_0 (S SN : SX) (n : Nat) (a0 : Nat) (n0 : Nat) (x1 : Int) (A : AH) (ha0 : a0 ≠ 0) : go true 30 S SN pb_J7_copyOf_59c91 (n + 2) 0 [vR 30 a0 n0, vI x1, vU] [] A =
    if x1 = (n0 : Int) then none else
    if 0 ≤ x1 ∧ x1 ≤ 1000000 then
      cI (S 306 [vI (n0 : Int), vI x1] (nw A 20 x1.toNat)) fun r2 A1 =>
      if a0 = 0 ∨ sz A = 0 ∨ a0 = sz A then none else
      if ((0 : Int) ≤ 0 ∧ (0 : Int) ≤ 0 ∧ (0 : Int) ≤ r2) ∧ (0 : Int) + r2 ≤ (n0 : Int) ∧ (0 : Int) + r2 ≤ (x1.toNat : Int) then some (some (vR 30 (sz A) x1.toNat), cpa A1 a0 0 (sz A) 0 r2.toNat) else
      none
    else none := by
  obtain ⟨a0, rfl⟩ := Nat.exists_eq_succ_of_ne_zero ha0
  rfl

set_option maxRecDepth 100000 in
theorem q_X2_begin_0 (S SN : SX) (n : Nat) (x1 : Int) (A : AH)  : go true 3 S SN pb_X2_begin (n + 1) 0 [vR 12 44 0, vI x1] [] A =
    if x1 = 0 ∨ x1 = 1 then
      go true 3 S SN pb_X2_begin (n + 0) 10 [vR 12 44 0, vI x1] [] (wi (wi A 44 1 x1) 44 2 0)
    else none := rfl

set_option maxRecDepth 100000 in
theorem q_X2_begin_10 (S SN : SX) (n : Nat) (x1 : Int) (A : AH)  : go true 3 S SN pb_X2_begin (n + 1) 10 [vR 12 44 0, vI x1] [] A =
    some (none, wi A 44 4 0) := rfl

set_option maxRecDepth 100000 in
theorem q_X2_copyOfSteps_0 (S SN : SX) (n : Nat)  (A : AH)  : go true 30 S SN pb_X2_copyOfSteps (n + 1) 0 [vR 12 44 0] [] A =
    cR 30 (S 31 [vR 30 45 1600, vI (gi A 44 4)] A) fun p2 l3 A1 =>
    some (some (vR 30 p2 l3), A1) := rfl

set_option maxRecDepth 100000 in
theorem q_X2_emit_0 (S SN : SX) (n : Nat) (x1 : Int) (A : AH)  : go true 2 S SN pb_X2_emit (n + 2) 0 [vR 12 44 0, vI x1] [] A =
    if (gi A 44 4) < 1600 then
      if (0 : Int) ≤ gi A 44 4 ∧ gi A 44 4 < 1600 then
        go true 2 S SN pb_X2_emit (n + 1) 22 [vR 12 44 0, vI x1] [] (wi A 45 ((gi A 44 4).toNat) x1)
      else none
    else
    some (some (vI 1), A) := rfl

set_option maxRecDepth 100000 in
theorem q_X2_emit_22 (S SN : SX) (n : Nat) (x1 : Int) (A : AH)  : go true 2 S SN pb_X2_emit (n + 2) 22 [vR 12 44 0, vI x1] [] A =
    some (some (vI 1), wi A 44 4 (w32 ((gi A 44 4) + 1))) := rfl

set_option maxRecDepth 100000 in
theorem q_X2_goIn_0 (S SN : SX) (n : Nat) (x1 : Int) (A : AH)  : go true 2 S SN pb_X2_goIn (n + 2) 0 [vR 12 44 0, vI x1] [] A =
    if x1 < 6 then
      cV (S 86 [vR 18 42 0] A) fun A3 =>
      some (some (vI 1), A3)
    else
    cI (S 85 [vR 18 42 0, vI 4, vI (gi A 42 5)] A) fun r2 A1 =>
    if r2 = 0 ∨ r2 = 1 then some (some (vI r2), A1) else
    none := rfl

set_option maxRecDepth 100000 in
theorem q_X2_chain_0 (S SN : SX) (n : Nat) (x1 : Int) (x2 : Int) (A : AH)  : go true 2 S SN pb_X2_chain (n + 3) 0 [vR 12 44 0, vI x1, vI x2, vU, vU, vU] [] A =
    if x1 = 2 then
      cI (S 39 [vR 12 44 0, vI x2] A) fun r2 A1 =>
      if r2 = 0 ∨ r2 = 1 then some (some (vI r2), A1) else
      none
    else
    if x1 < 5 then
      cI (S 37 [vR 12 44 0, vI (w32 (x1 + 1)), vI x2] A) fun r6 A5 =>
      go true 2 S SN pb_X2_chain (n + 0) 34 [vR 12 44 0, vI x1, vI x2, vI r6, vI 0, vU] [] A5
    else
    cI (S 40 [vR 12 44 0, vI x2] A) fun r4 A3 =>
    if r4 = 0 ∨ r4 = 1 then some (some (vI r4), A3) else
    none := rfl

set_option maxRecDepth 100000 in
theorem q_X2_chain_34 (S SN : SX) (n : Nat) (x1 : Int) (x2 : Int) (x3 : Int) (x4 : Int) (u5 : AV) (A : AH)  : go true 2 S SN pb_X2_chain (n + 2) 34 [vR 12 44 0, vI x1, vI x2, vI x3, vI x4, u5] [] A =
    if x4 < 1600 then
      if x3 = 0 then
        if x3 = 0 ∨ x3 = 1 then some (some (vI x3), A) else
        none
      else
      cI (S 38 [vR 12 44 0, vI x1] A) fun r2 A1 =>
      if r2 = (-1) then
        if x3 = 0 ∨ x3 = 1 then some (some (vI x3), A1) else
        none
      else
      cV (S 86 [vR 18 42 0] A1) fun A3 =>
      cI (S 37 [vR 12 44 0, vI (w32 (x1 + 1)), vI x2] A3) fun r5 A4 =>
      if r5 = 0 then
        go true 2 S SN pb_X2_chain (n + 0) 93 [vR 12 44 0, vI x1, vI x2, vI x3, vI x4, vI r2] [] A4
      else
      cI (S 35 [vR 12 44 0, vI r2] A4) fun r7 A6 =>
      if r7 = 0 then
        go true 2 S SN pb_X2_chain (n + 0) 93 [vR 12 44 0, vI x1, vI x2, vI x3, vI x4, vI r2] [] A6
      else
      go true 2 S SN pb_X2_chain (n + 0) 94 [vR 12 44 0, vI x1, vI x2, vI x3, vI x4, vI r2] [vI 1] A6
    else
    if x3 = 0 ∨ x3 = 1 then some (some (vI x3), A) else
    none := rfl

set_option maxRecDepth 100000 in
theorem q_X2_chain_93 (S SN : SX) (n : Nat) (x1 : Int) (x2 : Int) (x3 : Int) (x4 : Int) (x5 : Int) (A : AH)  : go true 2 S SN pb_X2_chain (n + 1) 93 [vR 12 44 0, vI x1, vI x2, vI x3, vI x4, vI x5] [] A =
    go true 2 S SN pb_X2_chain (n + 0) 94 [vR 12 44 0, vI x1, vI x2, vI x3, vI x4, vI x5] [vI 0] A := rfl

set_option maxRecDepth 100000 in
theorem q_X2_chain_94 (S SN : SX) (n : Nat) (x1 : Int) (x2 : Int) (x3 : Int) (x4 : Int) (x5 : Int) (sx0 : Int) (A : AH)  : go true 2 S SN pb_X2_chain (n + 1) 94 [vR 12 44 0, vI x1, vI x2, vI x3, vI x4, vI x5] [vI sx0] A =
    go true 2 S SN pb_X2_chain (n + 0) 34 [vR 12 44 0, vI x1, vI x2, vI sx0, vI (w32 (x4 + 1)), vI x5] [] A := rfl

set_option maxRecDepth 100000 in
theorem q_X2_joiner_0 (S SN : SX) (n : Nat) (x1 : Int) (A : AH)  : go true 0 S SN pb_X2_joiner (n + 5) 0 [vR 12 44 0, vI x1] [] A =
    if x1 = 0 then
      if gr A 42 7 = 25 then
        some (some (vI 20), A)
      else
      some (some (vI (-1)), A)
    else
    if x1 = 1 then
      if gr A 42 7 = 26 then
        some (some (vI 19), A)
      else
      some (some (vI (-1)), A)
    else
    if x1 = 2 then
      some (some (vI (-1)), A)
    else
    if x1 = 3 then
      cI (S 89 [vR 18 42 0, vI 43] A) fun r2 A1 =>
      if r2 = 0 then
        cI (S 89 [vR 18 42 0, vI 45] A1) fun r4 A3 =>
        if r4 = 0 then
          some (some (vI (-1)), A3)
        else
        some (some (vI 11), A3)
      else
      some (some (vI 10), A1)
    else
    if x1 = 4 then
      cI (S 89 [vR 18 42 0, vI 42] A) fun r6 A5 =>
      if r6 = 0 then
        cI (S 89 [vR 18 42 0, vI 47] A5) fun r8 A7 =>
        if r8 = 0 then
          some (some (vI (-1)), A7)
        else
        some (some (vI 13), A7)
      else
      some (some (vI 12), A5)
    else
    some (some (vI (-1)), A) := rfl

set_option maxRecDepth 100000 in
theorem q_X2_fact_0 (S SN : SX) (n : Nat) (x1 : Int) (A : AH)  : go true 2 S SN pb_X2_fact (n + 2) 0 [vR 12 44 0, vI x1, vU] [] A =
    if gr A 42 7 = 27 then
      cI (S 36 [vR 12 44 0, vI x1] A) fun r2 A1 =>
      if r2 = 0 then
        go true 2 S SN pb_X2_fact (n + 1) 44 [vR 12 44 0, vI x1, vU] [] A1
      else
      cI (S 39 [vR 12 44 0, vI (w32 (x1 + 1))] A1) fun r4 A3 =>
      if r4 = 0 then
        go true 2 S SN pb_X2_fact (n + 1) 44 [vR 12 44 0, vI x1, vU] [] A3
      else
      cI (S 35 [vR 12 44 0, vI 21] A3) fun r6 A5 =>
      if r6 = 0 then
        go true 2 S SN pb_X2_fact (n + 1) 44 [vR 12 44 0, vI x1, vU] [] A5
      else
      some (some (vI 1), A5)
    else
    go true 2 S SN pb_X2_fact (n + 1) 46 [vR 12 44 0, vI x1, vU] [] A := rfl

set_option maxRecDepth 100000 in
theorem q_X2_fact_44 (S SN : SX) (n : Nat) (x1 : Int) (u2 : AV) (A : AH)  : go true 2 S SN pb_X2_fact (n + 2) 44 [vR 12 44 0, vI x1, u2] [] A =
    some (some (vI 0), A) := rfl

set_option maxRecDepth 100000 in
theorem q_X2_fact_46 (S SN : SX) (n : Nat) (x1 : Int) (u2 : AV) (A : AH)  : go true 2 S SN pb_X2_fact (n + 2) 46 [vR 12 44 0, vI x1, u2] [] A =
    cI (S 89 [vR 18 42 0, vI 91] A) fun r2 A1 =>
    if r2 = 0 then
      if gr A1 42 7 = 28 then
        cV (S 86 [vR 18 42 0] A1) fun A9 =>
        cI (S 35 [vR 12 44 0, vI 101] A9) fun r11 A10 =>
        if r11 = 0 ∨ r11 = 1 then some (some (vI r11), A10) else
        none
      else
      go true 2 S SN pb_X2_fact (n + 0) 122 [vR 12 44 0, vI x1, u2] [] A1
    else
    cI (S 36 [vR 12 44 0, vI x1] A1) fun r4 A3 =>
    if r4 = 0 then
      go true 2 S SN pb_X2_fact (n + 1) 93 [vR 12 44 0, vI x1, u2] [] A3
    else
    cI (S 37 [vR 12 44 0, vI 0, vI (w32 (x1 + 1))] A3) fun r6 A5 =>
    if r6 = 0 then
      go true 2 S SN pb_X2_fact (n + 1) 93 [vR 12 44 0, vI x1, u2] [] A5
    else
    cI (S 90 [vR 18 42 0, vI 93] A5) fun r8 A7 =>
    if r8 = 0 then
      go true 2 S SN pb_X2_fact (n + 1) 93 [vR 12 44 0, vI x1, u2] [] A7
    else
    some (some (vI 1), A7) := rfl

set_option maxRecDepth 100000 in
theorem q_X2_fact_93 (S SN : SX) (n : Nat) (x1 : Int) (u2 : AV) (A : AH)  : go true 2 S SN pb_X2_fact (n + 2) 93 [vR 12 44 0, vI x1, u2] [] A =
    some (some (vI 0), A) := rfl

set_option maxRecDepth 100000 in
theorem q_X2_fact_122 (S SN : SX) (n : Nat) (x1 : Int) (u2 : AV) (A : AH)  : go true 2 S SN pb_X2_fact (n + 5) 122 [vR 12 44 0, vI x1, u2] [] A =
    cI (S 37 [vR 12 44 0, vI 3, vI x1] A) fun r2 A1 =>
    if r2 = 0 then some (some (vI 0), A1) else
    cI (S 89 [vR 18 42 0, vI 60] A1) fun r4 A3 =>
    if r4 = 0 then
      cI (S 89 [vR 18 42 0, vI 62] A3) fun r6 A5 =>
      if r6 = 0 then
        cI (S 89 [vR 18 42 0, vI 61] A5) fun r8 A7 =>
        if r8 = 0 then
          go true 2 S SN pb_X2_fact (n + 0) 185 [vR 12 44 0, vI x1, u2] [vI (-1)] A7
        else
        go true 2 S SN pb_X2_fact (n + 1) 185 [vR 12 44 0, vI x1, u2] [vI 18] A7
      else
      go true 2 S SN pb_X2_fact (n + 2) 185 [vR 12 44 0, vI x1, u2] [vI 17] A5
    else
    go true 2 S SN pb_X2_fact (n + 3) 185 [vR 12 44 0, vI x1, u2] [vI 16] A3 := rfl

set_option maxRecDepth 100000 in
theorem q_X2_fact_185 (S SN : SX) (n : Nat) (x1 : Int) (u2 : AV) (sx0 : Int) (A : AH)  : go true 2 S SN pb_X2_fact (n + 3) 185 [vR 12 44 0, vI x1, u2] [vI sx0] A =
    if sx0 = (-1) then
      cI (S 85 [vR 18 42 0, vI 1, vI (gi A 42 5)] A) fun r2 A1 =>
      if r2 = 0 ∨ r2 = 1 then some (some (vI r2), A1) else
      none
    else
    cV (S 86 [vR 18 42 0] A) fun A3 =>
    cI (S 37 [vR 12 44 0, vI 3, vI x1] A3) fun r5 A4 =>
    if r5 = 0 then
      go true 2 S SN pb_X2_fact (n + 1) 235 [vR 12 44 0, vI x1, vI sx0] [] A4
    else
    cI (S 35 [vR 12 44 0, vI sx0] A4) fun r7 A6 =>
    if r7 = 0 then
      go true 2 S SN pb_X2_fact (n + 1) 235 [vR 12 44 0, vI x1, vI sx0] [] A6
    else
    some (some (vI 1), A6) := rfl

set_option maxRecDepth 100000 in
theorem q_X2_fact_235 (S SN : SX) (n : Nat) (x1 : Int) (x2 : Int) (A : AH)  : go true 2 S SN pb_X2_fact (n + 2) 235 [vR 12 44 0, vI x1, vI x2] [] A =
    some (some (vI 0), A) := rfl

set_option maxRecDepth 100000 in
theorem q_X2_part_0 (S SN : SX) (n : Nat) (x1 : Int) (A : AH)  : go true 2 S SN pb_X2_part (n + 2) 0 [vR 12 44 0, vI x1, vU] [] A =
    if (gi A 42 6) = 2 then
      cI (S 92 [vR 18 42 0, vI 0, vI 9999] A) fun r2 A1 =>
      if r2 = 0 then
        go true 2 S SN pb_X2_part (n + 1) 54 [vR 12 44 0, vI x1, vR 22 (gr A 42 7) 0] [] A1
      else
      cI (S 35 [vR 12 44 0, vI (w32 (100 + (gi A1 42 10)))] A1) fun r4 A3 =>
      if r4 = 0 then
        go true 2 S SN pb_X2_part (n + 1) 54 [vR 12 44 0, vI x1, vR 22 (gr A 42 7) 0] [] A3
      else
      some (some (vI 1), A3)
    else
    go true 2 S SN pb_X2_part (n + 1) 56 [vR 12 44 0, vI x1, vR 22 (gr A 42 7) 0] [] A := rfl

set_option maxRecDepth 100000 in
theorem q_X2_part_54 (S SN : SX) (n : Nat) (x1 : Int) (a2 : Nat) (A : AH)  : go true 2 S SN pb_X2_part (n + 2) 54 [vR 12 44 0, vI x1, vR 22 a2 0] [] A =
    some (some (vI 0), A) := rfl

set_option maxRecDepth 100000 in
theorem q_X2_part_56 (S SN : SX) (n : Nat) (x1 : Int) (a2 : Nat) (A : AH)  : go true 2 S SN pb_X2_part (n + 2) 56 [vR 12 44 0, vI x1, vR 22 a2 0] [] A =
    cI (S 89 [vR 18 42 0, vI 40] A) fun r2 A1 =>
    if r2 = 0 then
      if a2 = 29 then
        go true 2 S SN pb_X2_part (n + 0) 119 [vR 12 44 0, vI x1, vR 22 a2 0] [] A1
      else
      if a2 = 30 then
        go true 2 S SN pb_X2_part (n + 0) 119 [vR 12 44 0, vI x1, vR 22 a2 0] [] A1
      else
      go true 2 S SN pb_X2_part (n + 0) 161 [vR 12 44 0, vI x1, vR 22 a2 0] [] A1
    else
    cI (S 36 [vR 12 44 0, vI x1] A1) fun r4 A3 =>
    if r4 = 0 then
      go true 2 S SN pb_X2_part (n + 1) 103 [vR 12 44 0, vI x1, vR 22 a2 0] [] A3
    else
    cI (S 37 [vR 12 44 0, vI 3, vI (w32 (x1 + 1))] A3) fun r6 A5 =>
    if r6 = 0 then
      go true 2 S SN pb_X2_part (n + 1) 103 [vR 12 44 0, vI x1, vR 22 a2 0] [] A5
    else
    cI (S 90 [vR 18 42 0, vI 41] A5) fun r8 A7 =>
    if r8 = 0 then
      go true 2 S SN pb_X2_part (n + 1) 103 [vR 12 44 0, vI x1, vR 22 a2 0] [] A7
    else
    some (some (vI 1), A7) := rfl

set_option maxRecDepth 100000 in
theorem q_X2_part_103 (S SN : SX) (n : Nat) (x1 : Int) (a2 : Nat) (A : AH)  : go true 2 S SN pb_X2_part (n + 2) 103 [vR 12 44 0, vI x1, vR 22 a2 0] [] A =
    some (some (vI 0), A) := rfl

set_option maxRecDepth 100000 in
theorem q_X2_part_119 (S SN : SX) (n : Nat) (x1 : Int) (a2 : Nat) (A : AH)  : go true 2 S SN pb_X2_part (n + 2) 119 [vR 12 44 0, vI x1, vR 22 a2 0] [] A =
    cV (S 86 [vR 18 42 0] A) fun A1 =>
    cI (S 41 [vR 12 44 0, vI x1] A1) fun r3 A2 =>
    if r3 = 0 then
      go true 2 S SN pb_X2_part (n + 1) 159 [vR 12 44 0, vI x1, vR 22 a2 0] [] A2
    else
    if a2 = 29 then
      go true 2 S SN pb_X2_part (n + 1) 149 [vR 12 44 0, vI x1, vR 22 a2 0] [vI 14, vR 12 44 0] A2
    else
    go true 2 S SN pb_X2_part (n + 0) 149 [vR 12 44 0, vI x1, vR 22 a2 0] [vI 15, vR 12 44 0] A2 := rfl

set_option maxRecDepth 100000 in
theorem q_X2_part_149 (S SN : SX) (n : Nat) (x1 : Int) (a2 : Nat) (sx0 : Int) (A : AH)  : go true 2 S SN pb_X2_part (n + 2) 149 [vR 12 44 0, vI x1, vR 22 a2 0] [vI sx0, vR 12 44 0] A =
    cI (S 35 [vR 12 44 0, vI sx0] A) fun r2 A1 =>
    if r2 = 0 then
      go true 2 S SN pb_X2_part (n + 1) 159 [vR 12 44 0, vI x1, vR 22 a2 0] [] A1
    else
    some (some (vI 1), A1) := rfl

set_option maxRecDepth 100000 in
theorem q_X2_part_159 (S SN : SX) (n : Nat) (x1 : Int) (a2 : Nat) (A : AH)  : go true 2 S SN pb_X2_part (n + 2) 159 [vR 12 44 0, vI x1, vR 22 a2 0] [] A =
    some (some (vI 0), A) := rfl

set_option maxRecDepth 100000 in
theorem q_X2_part_161 (S SN : SX) (n : Nat) (x1 : Int) (a2 : Nat) (A : AH)  : go true 2 S SN pb_X2_part (n + 2) 161 [vR 12 44 0, vI x1, vR 22 a2 0] [] A =
    if (gi A 44 1) = 0 then
      go true 2 S SN pb_X2_part (n + 1) 208 [vR 12 44 0, vI x1, vR 22 a2 0] [] A
    else
    if a2 = 31 then
      cI (S 36 [vR 12 44 0, vI x1] A) fun r2 A1 =>
      if r2 = 0 then
        go true 2 S SN pb_X2_part (n + 1) 206 [vR 12 44 0, vI x1, vR 22 a2 0] [] A1
      else
      cI (S 40 [vR 12 44 0, vI (w32 (x1 + 1))] A1) fun r4 A3 =>
      if r4 = 0 then
        go true 2 S SN pb_X2_part (n + 1) 206 [vR 12 44 0, vI x1, vR 22 a2 0] [] A3
      else
      cI (S 35 [vR 12 44 0, vI 22] A3) fun r6 A5 =>
      if r6 = 0 then
        go true 2 S SN pb_X2_part (n + 1) 206 [vR 12 44 0, vI x1, vR 22 a2 0] [] A5
      else
      some (some (vI 1), A5)
    else
    go true 2 S SN pb_X2_part (n + 1) 208 [vR 12 44 0, vI x1, vR 22 a2 0] [] A := rfl

set_option maxRecDepth 100000 in
theorem q_X2_part_206 (S SN : SX) (n : Nat) (x1 : Int) (a2 : Nat) (A : AH)  : go true 2 S SN pb_X2_part (n + 2) 206 [vR 12 44 0, vI x1, vR 22 a2 0] [] A =
    some (some (vI 0), A) := rfl

set_option maxRecDepth 100000 in
theorem q_X2_part_208 (S SN : SX) (n : Nat) (x1 : Int) (a2 : Nat) (A : AH)  : go true 2 S SN pb_X2_part (n + 1) 208 [vR 12 44 0, vI x1, vR 22 a2 0] [] A =
    if a2 = 0 then
      go true 2 S SN pb_X2_part (n + 0) 236 [vR 12 44 0, vI x1, vR 22 a2 0] [] A
    else
    if a2 = 0 then none else
    if (wdf 1 a2) = (-1) then
      go true 2 S SN pb_X2_part (n + 0) 236 [vR 12 44 0, vI x1, vR 22 a2 0] [] A
    else
    if (gi A 44 1) = 0 then
      if a2 = 0 then none else
      if (wdf 1 a2) < 8 then
        go true 2 S SN pb_X2_part (n + 0) 252 [vR 12 44 0, vI x1, vR 22 a2 0] [] A
      else
      go true 2 S SN pb_X2_part (n + 0) 236 [vR 12 44 0, vI x1, vR 22 a2 0] [] A
    else
    go true 2 S SN pb_X2_part (n + 0) 252 [vR 12 44 0, vI x1, vR 22 a2 0] [] A := rfl

set_option maxRecDepth 100000 in
theorem q_X2_part_236 (S SN : SX) (n : Nat) (x1 : Int) (a2 : Nat) (A : AH)  : go true 2 S SN pb_X2_part (n + 1) 236 [vR 12 44 0, vI x1, vR 22 a2 0] [] A =
    cI (S 85 [vR 18 42 0, vI 1, vI (gi A 42 5)] A) fun r2 A1 =>
    if r2 = 0 ∨ r2 = 1 then some (some (vI r2), A1) else
    none := rfl

set_option maxRecDepth 100000 in
theorem q_X2_part_252 (S SN : SX) (n : Nat) (x1 : Int) (a2 : Nat) (A : AH)  : go true 2 S SN pb_X2_part (n + 2) 252 [vR 12 44 0, vI x1, vR 22 a2 0] [] A =
    if (gi A 44 2) = 0 then
      if a2 = 22 then
        go true 2 S SN pb_X2_part (n + 1) 267 [vR 12 44 0, vI x1, vR 22 a2 0] [vR 12 44 0] A
      else
      go true 2 S SN pb_X2_part (n + 0) 272 [vR 12 44 0, vI x1, vR 22 a2 0] [vI 0, vR 12 44 0] A
    else
    go true 2 S SN pb_X2_part (n + 1) 267 [vR 12 44 0, vI x1, vR 22 a2 0] [vR 12 44 0] A := rfl

set_option maxRecDepth 100000 in
theorem q_X2_part_267 (S SN : SX) (n : Nat) (x1 : Int) (a2 : Nat) (A : AH)  : go true 2 S SN pb_X2_part (n + 1) 267 [vR 12 44 0, vI x1, vR 22 a2 0] [vR 12 44 0] A =
    go true 2 S SN pb_X2_part (n + 0) 272 [vR 12 44 0, vI x1, vR 22 a2 0] [vI 1, vR 12 44 0] A := rfl

set_option maxRecDepth 100000 in
theorem q_X2_part_272 (S SN : SX) (n : Nat) (x1 : Int) (a2 : Nat) (sx0 : Int) (A : AH)  : go true 2 S SN pb_X2_part (n + 1) 272 [vR 12 44 0, vI x1, vR 22 a2 0] [vI sx0, vR 12 44 0] A =
    if sx0 = 0 ∨ sx0 = 1 then
      cV (S 86 [vR 18 42 0] (wi A 44 2 sx0)) fun A1 =>
      if a2 = 0 then none else
      cI (S 35 [vR 12 44 0, vI (wdf 1 a2)] A1) fun r3 A2 =>
      if r3 = 0 ∨ r3 = 1 then some (some (vI r3), A2) else
      none
    else none := rfl

set_option maxRecDepth 100000 in
theorem q_X2_pair_0 (S SN : SX) (n : Nat) (x1 : Int) (A : AH)  : go true 2 S SN pb_X2_pair (n + 1) 0 [vR 12 44 0, vI x1] [] A =
    cI (S 89 [vR 18 42 0, vI 40] A) fun r2 A1 =>
    if r2 = 0 then
      cI (S 85 [vR 18 42 0, vI 1, vI (gi A1 42 5)] A1) fun r4 A3 =>
      if r4 = 0 ∨ r4 = 1 then some (some (vI r4), A3) else
      none
    else
    go true 2 S SN pb_X2_pair (n + 0) 28 [vR 12 44 0, vI x1] [] A1 := rfl

set_option maxRecDepth 100000 in
theorem q_X2_pair_28 (S SN : SX) (n : Nat) (x1 : Int) (A : AH)  : go true 2 S SN pb_X2_pair (n + 2) 28 [vR 12 44 0, vI x1] [] A =
    cI (S 36 [vR 12 44 0, vI x1] A) fun r2 A1 =>
    if r2 = 0 then
      go true 2 S SN pb_X2_pair (n + 1) 86 [vR 12 44 0, vI x1] [] A1
    else
    cI (S 37 [vR 12 44 0, vI 3, vI (w32 (x1 + 1))] A1) fun r4 A3 =>
    if r4 = 0 then
      go true 2 S SN pb_X2_pair (n + 1) 86 [vR 12 44 0, vI x1] [] A3
    else
    cI (S 90 [vR 18 42 0, vI 44] A3) fun r6 A5 =>
    if r6 = 0 then
      go true 2 S SN pb_X2_pair (n + 1) 86 [vR 12 44 0, vI x1] [] A5
    else
    cI (S 37 [vR 12 44 0, vI 3, vI (w32 (x1 + 1))] A5) fun r8 A7 =>
    if r8 = 0 then
      go true 2 S SN pb_X2_pair (n + 1) 86 [vR 12 44 0, vI x1] [] A7
    else
    cI (S 90 [vR 18 42 0, vI 41] A7) fun r10 A9 =>
    if r10 = 0 then
      go true 2 S SN pb_X2_pair (n + 1) 86 [vR 12 44 0, vI x1] [] A9
    else
    some (some (vI 1), A9) := rfl

set_option maxRecDepth 100000 in
theorem q_X2_pair_86 (S SN : SX) (n : Nat) (x1 : Int) (A : AH)  : go true 2 S SN pb_X2_pair (n + 2) 86 [vR 12 44 0, vI x1] [] A =
    some (some (vI 0), A) := rfl

set_option maxRecDepth 100000 in
theorem q_X8_begin_0 (S SN : SX) (n : Nat) (a1 : Nat) (n1 : Nat) (x2 : Int) (A : AH) (ha1 : a1 ≠ 0) : go true 3 S SN pb_X8_begin (n + 1) 0 [vR 18 42 0, vR 30 a1 n1, vI x2] [] A =
    cI (S 306 [vI x2, vI (n1 : Int)] (wr A 42 0 a1)) fun r2 A1 =>
    go true 3 S SN pb_X8_begin (n + 0) 15 [vR 18 42 0, vR 30 a1 n1, vI x2] [] (wi A1 42 1 r2) := by
  obtain ⟨a1, rfl⟩ := Nat.exists_eq_succ_of_ne_zero ha1
  rfl

set_option maxRecDepth 100000 in
theorem q_X8_begin_15 (S SN : SX) (n : Nat) (a1 : Nat) (n1 : Nat) (x2 : Int) (A : AH) (ha1 : a1 ≠ 0) : go true 3 S SN pb_X8_begin (n + 1) 15 [vR 18 42 0, vR 30 a1 n1, vI x2] [] A =
    go true 3 S SN pb_X8_begin (n + 0) 25 [vR 18 42 0, vR 30 a1 n1, vI x2] [] (wi (wi A 42 5 0) 42 2 0) := by
  obtain ⟨a1, rfl⟩ := Nat.exists_eq_succ_of_ne_zero ha1
  rfl

set_option maxRecDepth 100000 in
theorem q_X8_begin_25 (S SN : SX) (n : Nat) (a1 : Nat) (n1 : Nat) (x2 : Int) (A : AH) (ha1 : a1 ≠ 0) : go true 3 S SN pb_X8_begin (n + 1) 25 [vR 18 42 0, vR 30 a1 n1, vI x2] [] A =
    go true 3 S SN pb_X8_begin (n + 0) 35 [vR 18 42 0, vR 30 a1 n1, vI x2] [] (wi (wi A 42 6 3) 42 11 0) := by
  obtain ⟨a1, rfl⟩ := Nat.exists_eq_succ_of_ne_zero ha1
  rfl

set_option maxRecDepth 100000 in
theorem q_X8_begin_35 (S SN : SX) (n : Nat) (a1 : Nat) (n1 : Nat) (x2 : Int) (A : AH) (ha1 : a1 ≠ 0) : go true 3 S SN pb_X8_begin (n + 1) 35 [vR 18 42 0, vR 30 a1 n1, vI x2] [] A =
    cV (S 86 [vR 18 42 0] (wi A 42 12 (-1))) fun A1 =>
    some (none, A1) := by
  obtain ⟨a1, rfl⟩ := Nat.exists_eq_succ_of_ne_zero ha1
  rfl

set_option maxRecDepth 100000 in
theorem q_X8_fail_0 (S SN : SX) (n : Nat) (x1 : Int) (x2 : Int) (A : AH)  : go true 2 S SN pb_X8_fail (n + 1) 0 [vR 18 42 0, vI x1, vI x2] [] A =
    go true 2 S SN pb_X8_fail (n + 0) 10 [vR 18 42 0, vI x1, vI x2] [] (wi (wi A 42 11 x1) 42 12 x2) := rfl

set_option maxRecDepth 100000 in
theorem q_X8_fail_10 (S SN : SX) (n : Nat) (x1 : Int) (x2 : Int) (A : AH)  : go true 2 S SN pb_X8_fail (n + 1) 10 [vR 18 42 0, vI x1, vI x2] [] A =
    some (some (vI 0), A) := rfl

set_option maxRecDepth 100000 in
theorem q_X8_step_0 (S SN : SX) (n : Nat)  (A : AH)  : go true 3 S SN pb_X8_step (n + 2) 0 [vR 18 42 0, vU, vU, vU] [] A =
    if (gi A 42 6) = 1 then
      go true 3 S SN pb_X8_step (n + 1) 16 [vR 18 42 0, vU, vU, vU] [] A
    else
    if (gi A 42 6) = 2 then
      go true 3 S SN pb_X8_step (n + 1) 16 [vR 18 42 0, vU, vU, vU] [] A
    else
    go true 3 S SN pb_X8_step (n + 0) 21 [vR 18 42 0, vU, vU, vU] [vI 0] A := rfl

set_option maxRecDepth 100000 in
theorem q_X8_step_16 (S SN : SX) (n : Nat) (u1 : AV) (u2 : AV) (u3 : AV) (A : AH)  : go true 3 S SN pb_X8_step (n + 1) 16 [vR 18 42 0, u1, u2, u3] [] A =
    go true 3 S SN pb_X8_step (n + 0) 21 [vR 18 42 0, u1, u2, u3] [vI 1] A := rfl

set_option maxRecDepth 100000 in
theorem q_X8_step_21 (S SN : SX) (n : Nat) (u1 : AV) (u2 : AV) (u3 : AV) (sx0 : Int) (A : AH)  : go true 3 S SN pb_X8_step (n + 1) 21 [vR 18 42 0, u1, u2, u3] [vI sx0] A =
    go true 3 S SN pb_X8_step (n + 0) 35 [vR 18 42 0, vI sx0, vI (gi A 42 2), u3] [] (wi A 42 8 (gi A 42 5)) := rfl

set_option maxRecDepth 100000 in
theorem q_X8_step_35 (S SN : SX) (n : Nat) (x1 : Int) (x2 : Int) (u3 : AV) (A : AH)  : go true 3 S SN pb_X8_step (n + 1) 35 [vR 18 42 0, vI x1, vI x2, u3] [] A =
    go true 3 S SN pb_X8_step (n + 0) 51 [vR 18 42 0, vI x1, vI x2, u3] [] (wi (wi A 42 9 (gi A 42 3)) 42 10 (gi (wi A 42 9 (gi A 42 3)) 42 4)) := rfl

set_option maxRecDepth 100000 in
theorem q_X8_step_51 (S SN : SX) (n : Nat) (x1 : Int) (x2 : Int) (u3 : AV) (A : AH)  : go true 3 S SN pb_X8_step (n + 1) 51 [vR 18 42 0, vI x1, vI x2, u3] [] A =
    go true 3 S SN pb_X8_step (n + 0) 61 [vR 18 42 0, vI x1, vI x2, u3] [] (wi (wr A 42 7 0) 42 5 x2) := rfl

set_option maxRecDepth 100000 in
theorem q_X8_step_61 (S SN : SX) (n : Nat) (x1 : Int) (x2 : Int) (u3 : AV) (A : AH)  : go true 3 S SN pb_X8_step (n + 1) 61 [vR 18 42 0, vI x1, vI x2, u3] [] A =
    if (gi A 42 5) < (gi A 42 1) then
      if gr A 42 0 = 0 then none else
      if (0 : Int) ≤ gi A 42 5 ∧ gi A 42 5 < (ln A (gr A 42 0) : Int) then
        if (gi A (gr A 42 0) ((gi A 42 5).toNat)) = 32 then
          go true 3 S SN pb_X8_step (n + 0) 100 [vR 18 42 0, vI x1, vI x2, u3] [] A
        else
        if gr A 42 0 = 0 then none else
        if (0 : Int) ≤ gi A 42 5 ∧ gi A 42 5 < (ln A (gr A 42 0) : Int) then
          if (gi A (gr A 42 0) ((gi A 42 5).toNat)) = 10 then
            go true 3 S SN pb_X8_step (n + 0) 100 [vR 18 42 0, vI x1, vI x2, u3] [] A
          else
          go true 3 S SN pb_X8_step (n + 0) 113 [vR 18 42 0, vI x1, vI x2, u3] [] A
        else none
      else none
    else
    go true 3 S SN pb_X8_step (n + 0) 113 [vR 18 42 0, vI x1, vI x2, u3] [] A := rfl

set_option maxRecDepth 100000 in
theorem q_X8_step_100 (S SN : SX) (n : Nat) (x1 : Int) (x2 : Int) (u3 : AV) (A : AH)  : go true 3 S SN pb_X8_step (n + 1) 100 [vR 18 42 0, vI x1, vI x2, u3] [] A =
    go true 3 S SN pb_X8_step (n + 0) 110 [vR 18 42 0, vI x1, vI x2, u3] [] (wi A 42 5 (w32 ((gi A 42 5) + 1))) := rfl

set_option maxRecDepth 100000 in
theorem q_X8_step_110 (S SN : SX) (n : Nat) (x1 : Int) (x2 : Int) (u3 : AV) (A : AH)  : go true 3 S SN pb_X8_step (n + 1) 110 [vR 18 42 0, vI x1, vI x2, u3] [] A =
    go true 3 S SN pb_X8_step (n + 0) 61 [vR 18 42 0, vI x1, vI x2, u3] [] A := rfl

set_option maxRecDepth 100000 in
theorem q_X8_step_113 (S SN : SX) (n : Nat) (x1 : Int) (x2 : Int) (u3 : AV) (A : AH)  : go true 3 S SN pb_X8_step (n + 2) 113 [vR 18 42 0, vI x1, vI x2, u3] [] A =
    if (gi (wi A 42 2 (gi A 42 5)) 42 5) < (gi (wi A 42 2 (gi A 42 5)) 42 1) then
      if gr (wi A 42 2 (gi A 42 5)) 42 0 = 0 then none else
      if (0 : Int) ≤ gi (wi A 42 2 (gi A 42 5)) 42 5 ∧ gi (wi A 42 2 (gi A 42 5)) 42 5 < (ln (wi A 42 2 (gi A 42 5)) (gr (wi A 42 2 (gi A 42 5)) 42 0) : Int) then
        go true 3 S SN pb_X8_step (n + 1) 145 [vR 18 42 0, vI x1, vI x2, u3] [vI (gi (wi A 42 2 (gi A 42 5)) (gr (wi A 42 2 (gi A 42 5)) 42 0) ((gi (wi A 42 2 (gi A 42 5)) 42 5).toNat))] (wi A 42 2 (gi A 42 5))
      else none
    else
    go true 3 S SN pb_X8_step (n + 0) 145 [vR 18 42 0, vI x1, vI x2, u3] [vI (-1)] (wi A 42 2 (gi A 42 5)) := rfl

set_option maxRecDepth 100000 in
theorem q_X8_step_145 (S SN : SX) (n : Nat) (x1 : Int) (x2 : Int) (u3 : AV) (sx0 : Int) (A : AH)  : go true 3 S SN pb_X8_step (n + 1) 145 [vR 18 42 0, vI x1, vI x2, u3] [vI sx0] A =
    if sx0 < 97 then
      go true 3 S SN pb_X8_step (n + 0) 165 [vR 18 42 0, vI x1, vI x2, vI sx0] [] A
    else
    if 122 < sx0 then
      go true 3 S SN pb_X8_step (n + 0) 165 [vR 18 42 0, vI x1, vI x2, vI sx0] [] A
    else
    cV (S 87 [vR 18 42 0] A) fun A1 =>
    go true 3 S SN pb_X8_step (n + 0) 220 [vR 18 42 0, vI x1, vI x2, vI sx0] [] A1 := rfl

set_option maxRecDepth 100000 in
theorem q_X8_step_165 (S SN : SX) (n : Nat) (x1 : Int) (x2 : Int) (x3 : Int) (A : AH)  : go true 3 S SN pb_X8_step (n + 1) 165 [vR 18 42 0, vI x1, vI x2, vI x3] [] A =
    if x3 < 48 then
      go true 3 S SN pb_X8_step (n + 0) 184 [vR 18 42 0, vI x1, vI x2, vI x3] [] A
    else
    if 57 < x3 then
      go true 3 S SN pb_X8_step (n + 0) 184 [vR 18 42 0, vI x1, vI x2, vI x3] [] A
    else
    cV (S 88 [vR 18 42 0] A) fun A1 =>
    go true 3 S SN pb_X8_step (n + 0) 220 [vR 18 42 0, vI x1, vI x2, vI x3] [] A1 := rfl

set_option maxRecDepth 100000 in
theorem q_X8_step_184 (S SN : SX) (n : Nat) (x1 : Int) (x2 : Int) (x3 : Int) (A : AH)  : go true 3 S SN pb_X8_step (n + 2) 184 [vR 18 42 0, vI x1, vI x2, vI x3] [] A =
    if x3 = (-1) then
      go true 3 S SN pb_X8_step (n + 1) 195 [vR 18 42 0, vI x1, vI x2, vI x3] [vI 0, vR 18 42 0] A
    else
    go true 3 S SN pb_X8_step (n + 0) 195 [vR 18 42 0, vI x1, vI x2, vI x3] [vI 3, vR 18 42 0] A := rfl

set_option maxRecDepth 100000 in
theorem q_X8_step_195 (S SN : SX) (n : Nat) (x1 : Int) (x2 : Int) (x3 : Int) (sx0 : Int) (A : AH)  : go true 3 S SN pb_X8_step (n + 2) 195 [vR 18 42 0, vI x1, vI x2, vI x3] [vI sx0, vR 18 42 0] A =
    if x3 = (-1) then
      go true 3 S SN pb_X8_step (n + 1) 217 [vR 18 42 0, vI x1, vI x2, vI x3] [vI (gi (wi A 42 6 sx0) 42 5), vR 18 42 0] (wi A 42 6 sx0)
    else
    go true 3 S SN pb_X8_step (n + 0) 217 [vR 18 42 0, vI x1, vI x2, vI x3] [vI (w32 ((gi (wi A 42 6 sx0) 42 5) + 1)), vR 18 42 0] (wi A 42 6 sx0) := rfl

set_option maxRecDepth 100000 in
theorem q_X8_step_217 (S SN : SX) (n : Nat) (x1 : Int) (x2 : Int) (x3 : Int) (sx0 : Int) (A : AH)  : go true 3 S SN pb_X8_step (n + 1) 217 [vR 18 42 0, vI x1, vI x2, vI x3] [vI sx0, vR 18 42 0] A =
    go true 3 S SN pb_X8_step (n + 0) 220 [vR 18 42 0, vI x1, vI x2, vI x3] [] (wi A 42 2 sx0) := rfl

set_option maxRecDepth 100000 in
theorem q_X8_step_220 (S SN : SX) (n : Nat) (x1 : Int) (x2 : Int) (x3 : Int) (A : AH)  : go true 3 S SN pb_X8_step (n + 2) 220 [vR 18 42 0, vI x1, vI x2, vI x3] [] A =
    if x1 = 0 then
      some (none, A)
    else
    if (gi A 42 5) = x2 then
      if (gi A 42 6) = 1 then
        go true 3 S SN pb_X8_step (n + 1) 248 [vR 18 42 0, vI x1, vI x2, vI x3] [] A
      else
      if (gi A 42 6) = 2 then
        go true 3 S SN pb_X8_step (n + 1) 248 [vR 18 42 0, vI x1, vI x2, vI x3] [] A
      else
      some (none, A)
    else
    some (none, A) := rfl

set_option maxRecDepth 100000 in
theorem q_X8_step_248 (S SN : SX) (n : Nat) (x1 : Int) (x2 : Int) (x3 : Int) (A : AH)  : go true 3 S SN pb_X8_step (n + 2) 248 [vR 18 42 0, vI x1, vI x2, vI x3] [] A =
    some (none, wr (wi A 42 6 4) 42 7 0) := rfl

set_option maxRecDepth 100000 in
theorem q_X8_readLetters_0 (S SN : SX) (n : Nat)  (A : AH)  : go true 3 S SN pb_X8_readLetters (n + 1) 0 [vR 18 42 0, vU] [] A =
    go true 3 S SN pb_X8_readLetters (n + 0) 10 [vR 18 42 0, vU] [] (wi (wi A 42 6 1) 42 3 0) := rfl

set_option maxRecDepth 100000 in
theorem q_X8_readLetters_10 (S SN : SX) (n : Nat) (u1 : AV) (A : AH)  : go true 3 S SN pb_X8_readLetters (n + 1) 10 [vR 18 42 0, u1] [] A =
    if (gi A 42 2) < (gi A 42 1) then
      if gr A 42 0 = 0 then none else
      if (0 : Int) ≤ gi A 42 2 ∧ gi A 42 2 < (ln A (gr A 42 0) : Int) then
        if (gi A (gr A 42 0) ((gi A 42 2).toNat)) < 97 then
          go true 3 S SN pb_X8_readLetters (n + 0) 102 [vR 18 42 0, u1] [] A
        else
        if gr A 42 0 = 0 then none else
        if (0 : Int) ≤ gi A 42 2 ∧ gi A 42 2 < (ln A (gr A 42 0) : Int) then
          if 122 < (gi A (gr A 42 0) ((gi A 42 2).toNat)) then
            go true 3 S SN pb_X8_readLetters (n + 0) 102 [vR 18 42 0, u1] [] A
          else
          if (w32 ((gi A 42 2) - (gi A 42 5))) < 6 then
            if gr A 42 0 = 0 then none else
            if (0 : Int) ≤ gi A 42 2 ∧ gi A 42 2 < (ln A (gr A 42 0) : Int) then
              go true 3 S SN pb_X8_readLetters (n + 0) 89 [vR 18 42 0, u1] [] (wi A 42 3 (w32 ((w32 ((w32 ((w32 ((gi A 42 3) * 27)) + (gi A (gr A 42 0) ((gi A 42 2).toNat)))) - 97)) + 1)))
            else none
          else
          go true 3 S SN pb_X8_readLetters (n + 0) 89 [vR 18 42 0, u1] [] A
        else none
      else none
    else
    go true 3 S SN pb_X8_readLetters (n + 0) 102 [vR 18 42 0, u1] [] A := rfl

set_option maxRecDepth 100000 in
theorem q_X8_readLetters_89 (S SN : SX) (n : Nat) (u1 : AV) (A : AH)  : go true 3 S SN pb_X8_readLetters (n + 1) 89 [vR 18 42 0, u1] [] A =
    go true 3 S SN pb_X8_readLetters (n + 0) 99 [vR 18 42 0, u1] [] (wi A 42 2 (w32 ((gi A 42 2) + 1))) := rfl

set_option maxRecDepth 100000 in
theorem q_X8_readLetters_99 (S SN : SX) (n : Nat) (u1 : AV) (A : AH)  : go true 3 S SN pb_X8_readLetters (n + 1) 99 [vR 18 42 0, u1] [] A =
    go true 3 S SN pb_X8_readLetters (n + 0) 10 [vR 18 42 0, u1] [] A := rfl

set_option maxRecDepth 100000 in
theorem q_X8_readLetters_102 (S SN : SX) (n : Nat) (u1 : AV) (A : AH)  : go true 3 S SN pb_X8_readLetters (n + 2) 102 [vR 18 42 0, u1] [] A =
    if 6 < (w32 ((gi A 42 2) - (gi A 42 5))) then some (none, A) else
    go true 3 S SN pb_X8_readLetters (n + 0) 127 [vR 18 42 0, vI (w32 ((gi A 42 2) - (gi A 42 5)))] [] A := rfl

set_option maxRecDepth 100000 in
theorem q_X8_readLetters_127 (S SN : SX) (n : Nat) (x1 : Int) (A : AH)  : go true 3 S SN pb_X8_readLetters (n + 2) 127 [vR 18 42 0, vI x1] [] A =
    if x1 < 6 then
      go true 3 S SN pb_X8_readLetters (n + 1) 144 [vR 18 42 0, vI x1] [] (wi A 42 3 (w32 ((gi A 42 3) * 27)))
    else
    go true 3 S SN pb_X8_readLetters (n + 0) 152 [vR 18 42 0, vI 0] [] A := rfl

set_option maxRecDepth 100000 in
theorem q_X8_readLetters_144 (S SN : SX) (n : Nat) (x1 : Int) (A : AH)  : go true 3 S SN pb_X8_readLetters (n + 1) 144 [vR 18 42 0, vI x1] [] A =
    go true 3 S SN pb_X8_readLetters (n + 0) 127 [vR 18 42 0, vI (w32 (x1 + 1))] [] A := rfl

set_option maxRecDepth 100000 in
theorem q_X8_readLetters_152 (S SN : SX) (n : Nat) (x1 : Int) (A : AH)  : go true 3 S SN pb_X8_readLetters (n + 2) 152 [vR 18 42 0, vI x1] [] A =
    if x1 < 37 then
      if (0 : Int) ≤ x1 ∧ x1 < 37 then
        if (wdf 0 (x1.toNat + 1)) = (gi A 42 3) then
          if (0 : Int) ≤ x1 ∧ x1 < 37 then
            go true 3 S SN pb_X8_readLetters (n + 1) 184 [vR 18 42 0, vI x1] [] (wr A 42 7 (x1.toNat + 1))
          else none
        else
        go true 3 S SN pb_X8_readLetters (n + 1) 184 [vR 18 42 0, vI x1] [] A
      else none
    else
    some (none, A) := rfl

set_option maxRecDepth 100000 in
theorem q_X8_readLetters_184 (S SN : SX) (n : Nat) (x1 : Int) (A : AH)  : go true 3 S SN pb_X8_readLetters (n + 1) 184 [vR 18 42 0, vI x1] [] A =
    go true 3 S SN pb_X8_readLetters (n + 0) 152 [vR 18 42 0, vI (w32 (x1 + 1))] [] A := rfl

set_option maxRecDepth 100000 in
theorem q_X8_readDigits_0 (S SN : SX) (n : Nat)  (A : AH)  : go true 3 S SN pb_X8_readDigits (n + 1) 0 [vR 18 42 0] [] A =
    go true 3 S SN pb_X8_readDigits (n + 0) 10 [vR 18 42 0] [] (wi (wi A 42 6 2) 42 4 0) := rfl

set_option maxRecDepth 100000 in
theorem q_X8_readDigits_10 (S SN : SX) (n : Nat)  (A : AH)  : go true 3 S SN pb_X8_readDigits (n + 2) 10 [vR 18 42 0] [] A =
    if (gi A 42 2) < (gi A 42 1) then
      if gr A 42 0 = 0 then none else
      if (0 : Int) ≤ gi A 42 2 ∧ gi A 42 2 < (ln A (gr A 42 0) : Int) then
        if (gi A (gr A 42 0) ((gi A 42 2).toNat)) < 48 then
          some (none, A)
        else
        if gr A 42 0 = 0 then none else
        if (0 : Int) ≤ gi A 42 2 ∧ gi A 42 2 < (ln A (gr A 42 0) : Int) then
          if 57 < (gi A (gr A 42 0) ((gi A 42 2).toNat)) then
            some (none, A)
          else
          if (w32 ((gi A 42 2) - (gi A 42 5))) < 4 then
            if gr A 42 0 = 0 then none else
            if (0 : Int) ≤ gi A 42 2 ∧ gi A 42 2 < (ln A (gr A 42 0) : Int) then
              go true 3 S SN pb_X8_readDigits (n + 1) 86 [vR 18 42 0] [] (wi A 42 4 (w32 ((w32 ((w32 ((gi A 42 4) * 10)) + (gi A (gr A 42 0) ((gi A 42 2).toNat)))) - 48)))
            else none
          else
          go true 3 S SN pb_X8_readDigits (n + 1) 86 [vR 18 42 0] [] A
        else none
      else none
    else
    some (none, A) := rfl

set_option maxRecDepth 100000 in
theorem q_X8_readDigits_86 (S SN : SX) (n : Nat)  (A : AH)  : go true 3 S SN pb_X8_readDigits (n + 1) 86 [vR 18 42 0] [] A =
    go true 3 S SN pb_X8_readDigits (n + 0) 96 [vR 18 42 0] [] (wi A 42 2 (w32 ((gi A 42 2) + 1))) := rfl

set_option maxRecDepth 100000 in
theorem q_X8_readDigits_96 (S SN : SX) (n : Nat)  (A : AH)  : go true 3 S SN pb_X8_readDigits (n + 1) 96 [vR 18 42 0] [] A =
    go true 3 S SN pb_X8_readDigits (n + 0) 10 [vR 18 42 0] [] A := rfl

set_option maxRecDepth 100000 in
theorem q_X8_isSign_0 (S SN : SX) (n : Nat) (x1 : Int) (A : AH)  : go true 2 S SN pb_X8_isSign (n + 2) 0 [vR 18 42 0, vI x1] [] A =
    if (gi A 42 6) = 3 then
      if gr A 42 0 = 0 then none else
      if (0 : Int) ≤ gi A 42 5 ∧ gi A 42 5 < (ln A (gr A 42 0) : Int) then
        if (gi A (gr A 42 0) ((gi A 42 5).toNat)) = x1 then
          some (some (vI 1), A)
        else
        go true 2 S SN pb_X8_isSign (n + 1) 25 [vR 18 42 0, vI x1] [] A
      else none
    else
    go true 2 S SN pb_X8_isSign (n + 1) 25 [vR 18 42 0, vI x1] [] A := rfl

set_option maxRecDepth 100000 in
theorem q_X8_isSign_25 (S SN : SX) (n : Nat) (x1 : Int) (A : AH)  : go true 2 S SN pb_X8_isSign (n + 2) 25 [vR 18 42 0, vI x1] [] A =
    some (some (vI 0), A) := rfl

set_option maxRecDepth 100000 in
theorem q_X8_takeSign_0 (S SN : SX) (n : Nat) (x1 : Int) (A : AH)  : go true 2 S SN pb_X8_takeSign (n + 2) 0 [vR 18 42 0, vI x1] [] A =
    cI (S 89 [vR 18 42 0, vI x1] A) fun r2 A1 =>
    if r2 = 0 then
      cI (S 85 [vR 18 42 0, vI 1, vI (gi A1 42 5)] A1) fun r4 A3 =>
      if r4 = 0 ∨ r4 = 1 then some (some (vI r4), A3) else
      none
    else
    cV (S 86 [vR 18 42 0] A1) fun A5 =>
    some (some (vI 1), A5) := rfl

set_option maxRecDepth 100000 in
theorem q_X8_takeWord_0 (S SN : SX) (n : Nat) (a1 : Nat) (A : AH)  : go true 2 S SN pb_X8_takeWord (n + 2) 0 [vR 18 42 0, vR 22 a1 0] [] A =
    if gr A 42 7 = a1 then
      cV (S 86 [vR 18 42 0] A) fun A3 =>
      some (some (vI 1), A3)
    else
    cI (S 85 [vR 18 42 0, vI 1, vI (gi A 42 5)] A) fun r2 A1 =>
    if r2 = 0 ∨ r2 = 1 then some (some (vI r2), A1) else
    none := rfl

set_option maxRecDepth 100000 in
theorem q_X8_takeNumber_0 (S SN : SX) (n : Nat) (x1 : Int) (x2 : Int) (A : AH)  : go true 2 S SN pb_X8_takeNumber (n + 4) 0 [vR 18 42 0, vI x1, vI x2] [] A =
    if (gi A 42 6) = 2 then
      if 4 < (w32 ((gi A 42 2) - (gi A 42 5))) then
        cI (S 85 [vR 18 42 0, vI 1, vI (w32 ((gi A 42 5) + 4))] A) fun r4 A3 =>
        if r4 = 0 ∨ r4 = 1 then some (some (vI r4), A3) else
        none
      else
      if (gi A 42 4) < x1 then
        go true 2 S SN pb_X8_takeNumber (n + 1) 59 [vR 18 42 0, vI x1, vI x2] [] A
      else
      if x2 < (gi A 42 4) then
        go true 2 S SN pb_X8_takeNumber (n + 1) 59 [vR 18 42 0, vI x1, vI x2] [] A
      else
      cV (S 86 [vR 18 42 0] A) fun A5 =>
      some (some (vI 1), A5)
    else
    cI (S 85 [vR 18 42 0, vI 1, vI (gi A 42 5)] A) fun r2 A1 =>
    if r2 = 0 ∨ r2 = 1 then some (some (vI r2), A1) else
    none := rfl

set_option maxRecDepth 100000 in
theorem q_X8_takeNumber_59 (S SN : SX) (n : Nat) (x1 : Int) (x2 : Int) (A : AH)  : go true 2 S SN pb_X8_takeNumber (n + 1) 59 [vR 18 42 0, vI x1, vI x2] [] A =
    cI (S 85 [vR 18 42 0, vI 2, vI (gi A 42 5)] A) fun r2 A1 =>
    if r2 = 0 ∨ r2 = 1 then some (some (vI r2), A1) else
    none := rfl

set_option maxRecDepth 100000 in
theorem q_X8_takeName_0 (S SN : SX) (n : Nat)  (A : AH)  : go true 2 S SN pb_X8_takeName (n + 1) 0 [vR 18 42 0] [] A =
    if (gi A 42 6) = 1 then
      if gr A 42 7 = 0 then
        go true 2 S SN pb_X8_takeName (n + 0) 35 [vR 18 42 0] [] A
      else
      if gr A 42 7 = 0 then none else
      if (wdf 2 (gr A 42 7)) = 0 then
        go true 2 S SN pb_X8_takeName (n + 0) 35 [vR 18 42 0] [] A
      else
      go true 2 S SN pb_X8_takeName (n + 0) 25 [vR 18 42 0] [] A
    else
    go true 2 S SN pb_X8_takeName (n + 0) 25 [vR 18 42 0] [] A := rfl

set_option maxRecDepth 100000 in
theorem q_X8_takeName_25 (S SN : SX) (n : Nat)  (A : AH)  : go true 2 S SN pb_X8_takeName (n + 1) 25 [vR 18 42 0] [] A =
    cI (S 85 [vR 18 42 0, vI 1, vI (gi A 42 5)] A) fun r2 A1 =>
    if r2 = 0 ∨ r2 = 1 then some (some (vI r2), A1) else
    none := rfl

set_option maxRecDepth 100000 in
theorem q_X8_takeName_35 (S SN : SX) (n : Nat)  (A : AH)  : go true 2 S SN pb_X8_takeName (n + 2) 35 [vR 18 42 0] [] A =
    if 6 < (w32 ((gi A 42 2) - (gi A 42 5))) then
      cI (S 85 [vR 18 42 0, vI 1, vI (w32 ((gi A 42 5) + 6))] A) fun r2 A1 =>
      if r2 = 0 ∨ r2 = 1 then some (some (vI r2), A1) else
      none
    else
    cV (S 86 [vR 18 42 0] A) fun A3 =>
    some (some (vI 1), A3) := rfl

set_option maxRecDepth 100000 in
theorem q_J6_bitCount_0f7a4_0 (S SN : SX) (n : Nat) (x0 : Int) (A : AH)  : go true 0 S SN pb_J6_bitCount_0f7a4 (n + 1) 0 [vI x0] [] A =
    go true 0 S SN pb_J6_bitCount_0f7a4 (n + 0) 34 [vI (band (w32 ((w32 ((band (w32 (x0 - (band (bushr x0 1) 1431655765))) 858993459) + (band (bushr (w32 (x0 - (band (bushr x0 1) 1431655765))) 2) 858993459))) + (bushr (w32 ((band (w32 (x0 - (band (bushr x0 1) 1431655765))) 858993459) + (band (bushr (w32 (x0 - (band (bushr x0 1) 1431655765))) 2) 858993459))) 4))) 252645135)] [] A := rfl

set_option maxRecDepth 100000 in
theorem q_J6_bitCount_0f7a4_34 (S SN : SX) (n : Nat) (x0 : Int) (A : AH)  : go true 0 S SN pb_J6_bitCount_0f7a4 (n + 1) 34 [vI x0] [] A =
    some (some (vI (band (w32 ((w32 (x0 + (bushr x0 8))) + (bushr (w32 (x0 + (bushr x0 8))) 16))) 63)), A) := rfl

set_option maxRecDepth 100000 in
theorem q_J9_floorDiv_7cf53_0 (S SN : SX) (n : Nat) (x0 : Int) (x1 : Int) (A : AH)  : go true 0 S SN pb_J9_floorDiv_7cf53 (n + 2) 0 [vI x0, vI x1, vU] [] A =
    if x1 = 0 then none else
    if (bxor x0 x1) < 0 then
      if (w32 ((w32 (x0.tdiv x1)) * x1)) = x0 then
        some (some (vI (w32 (x0.tdiv x1))), A)
      else
      some (some (vI (w32 ((w32 (x0.tdiv x1)) - 1))), A)
    else
    some (some (vI (w32 (x0.tdiv x1))), A) := rfl

set_option maxRecDepth 100000 in
theorem q_J9_abs_0f7a4_0 (S SN : SX) (n : Nat) (x0 : Int) (A : AH)  : go true 0 S SN pb_J9_abs_0f7a4 (n + 3) 0 [vI x0] [] A =
    if x0 < 0 then
      some (some (vI (w32 (-x0))), A)
    else
    some (some (vI x0), A) := rfl

set_option maxRecDepth 100000 in
theorem q_J9_max_7cf53_0 (S SN : SX) (n : Nat) (x0 : Int) (x1 : Int) (A : AH)  : go true 0 S SN pb_J9_max_7cf53 (n + 3) 0 [vI x0, vI x1] [] A =
    if x0 < x1 then
      some (some (vI x1), A)
    else
    some (some (vI x0), A) := rfl

set_option maxRecDepth 100000 in
theorem q_J9_max_f86c9_0 (S SN : SX) (n : Nat) (y0 : Int) (y2 : Int) (A : AH)  : go true 1 S SN pb_J9_max_f86c9 (n + 3) 0 [vL y0, vS, vL y2, vS] [] A =
    if (lcp y0 y2) < 0 then
      some (some (vL y2), A)
    else
    some (some (vL y0), A) := rfl

set_option maxRecDepth 100000 in
theorem q_J9_min_7cf53_0 (S SN : SX) (n : Nat) (x0 : Int) (x1 : Int) (A : AH)  : go true 0 S SN pb_J9_min_7cf53 (n + 3) 0 [vI x0, vI x1] [] A =
    if x1 < x0 then
      some (some (vI x1), A)
    else
    some (some (vI x0), A) := rfl

set_option maxRecDepth 100000 in
theorem q_J9_min_f86c9_0 (S SN : SX) (n : Nat) (y0 : Int) (y2 : Int) (A : AH)  : go true 1 S SN pb_J9_min_f86c9 (n + 3) 0 [vL y0, vS, vL y2, vS] [] A =
    if 0 < (lcp y0 y2) then
      some (some (vL y2), A)
    else
    some (some (vL y0), A) := rfl

set_option maxRecDepth 100000 in
theorem q_J7_fill_53178_0 (S SN : SX) (n : Nat) (a0 : Nat) (n0 : Nat) (x1 : Int) (A : AH) (ha0 : a0 ≠ 0) : go true 3 S SN pb_J7_fill_53178 (n + 1) 0 [vR 30 a0 n0, vI x1, vU, vU] [] A =
    go true 3 S SN pb_J7_fill_53178 (n + 0) 5 [vR 30 a0 n0, vI x1, vI 0, vI (n0 : Int)] [] A := by
  obtain ⟨a0, rfl⟩ := Nat.exists_eq_succ_of_ne_zero ha0
  rfl

set_option maxRecDepth 100000 in
theorem q_J7_fill_53178_5 (S SN : SX) (n : Nat) (a0 : Nat) (n0 : Nat) (x1 : Int) (x2 : Int) (x3 : Int) (A : AH) (ha0 : a0 ≠ 0) : go true 3 S SN pb_J7_fill_53178 (n + 2) 5 [vR 30 a0 n0, vI x1, vI x2, vI x3] [] A =
    if x2 < x3 then
      if (0 : Int) ≤ x2 ∧ x2 < (n0 : Int) then
        go true 3 S SN pb_J7_fill_53178 (n + 1) 14 [vR 30 a0 n0, vI x1, vI x2, vI x3] [] (wi A a0 x2.toNat x1)
      else none
    else
    some (none, A) := by
  obtain ⟨a0, rfl⟩ := Nat.exists_eq_succ_of_ne_zero ha0
  rfl

set_option maxRecDepth 100000 in
theorem q_J7_fill_53178_14 (S SN : SX) (n : Nat) (a0 : Nat) (n0 : Nat) (x1 : Int) (x2 : Int) (x3 : Int) (A : AH) (ha0 : a0 ≠ 0) : go true 3 S SN pb_J7_fill_53178 (n + 1) 14 [vR 30 a0 n0, vI x1, vI x2, vI x3] [] A =
    go true 3 S SN pb_J7_fill_53178 (n + 0) 5 [vR 30 a0 n0, vI x1, vI (w32 (x2 + 1)), vI x3] [] A := by
  obtain ⟨a0, rfl⟩ := Nat.exists_eq_succ_of_ne_zero ha0
  rfl
