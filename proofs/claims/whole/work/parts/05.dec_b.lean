set_option maxRecDepth 100000 in
theorem q_X3_isTold_0 (S SN : SX) (n : Nat) (a0 : Nat) (A : AH) (ha0 : a0 ≠ 0) : go true 2 S SN pb_X3_isTold (n + 3) 0 [vR 13 a0 0] [] A =
    if 0 < (gi A a0 1) then
      some (some (vI 1), A)
    else
    some (some (vI 0), A) := by
  obtain ⟨a0, rfl⟩ := Nat.exists_eq_succ_of_ne_zero ha0
  rfl

set_option maxRecDepth 100000 in
theorem q_X3_isSeat_0 (S SN : SX) (n : Nat) (a0 : Nat) (x1 : Int) (A : AH) (ha0 : a0 ≠ 0) : go true 2 S SN pb_X3_isSeat (n + 2) 0 [vR 13 a0 0, vI x1] [] A =
    if x1 < 0 then
      go true 2 S SN pb_X3_isSeat (n + 1) 16 [vR 13 a0 0, vI x1] [] A
    else
    if x1 < (gi A a0 1) then
      some (some (vI 1), A)
    else
    go true 2 S SN pb_X3_isSeat (n + 1) 16 [vR 13 a0 0, vI x1] [] A := by
  obtain ⟨a0, rfl⟩ := Nat.exists_eq_succ_of_ne_zero ha0
  rfl

set_option maxRecDepth 100000 in
theorem q_X3_isSeat_16 (S SN : SX) (n : Nat) (a0 : Nat) (x1 : Int) (A : AH) (ha0 : a0 ≠ 0) : go true 2 S SN pb_X3_isSeat (n + 2) 16 [vR 13 a0 0, vI x1] [] A =
    some (some (vI 0), A) := by
  obtain ⟨a0, rfl⟩ := Nat.exists_eq_succ_of_ne_zero ha0
  rfl

set_option maxRecDepth 100000 in
theorem q_X3_isMute_0 (S SN : SX) (n : Nat) (a0 : Nat) (x1 : Int) (A : AH) (ha0 : a0 ≠ 0) : go true 2 S SN pb_X3_isMute (n + 2) 0 [vR 13 a0 0, vI x1] [] A =
    if x1 < 0 then
      go true 2 S SN pb_X3_isMute (n + 1) 16 [vR 13 a0 0, vI x1] [] A
    else
    if x1 < (gi A a0 5) then
      some (some (vI 1), A)
    else
    go true 2 S SN pb_X3_isMute (n + 1) 16 [vR 13 a0 0, vI x1] [] A := by
  obtain ⟨a0, rfl⟩ := Nat.exists_eq_succ_of_ne_zero ha0
  rfl

set_option maxRecDepth 100000 in
theorem q_X3_isMute_16 (S SN : SX) (n : Nat) (a0 : Nat) (x1 : Int) (A : AH) (ha0 : a0 ≠ 0) : go true 2 S SN pb_X3_isMute (n + 2) 16 [vR 13 a0 0, vI x1] [] A =
    some (some (vI 0), A) := by
  obtain ⟨a0, rfl⟩ := Nat.exists_eq_succ_of_ne_zero ha0
  rfl

set_option maxRecDepth 100000 in
theorem q_X3_isPoint_0 (S SN : SX) (n : Nat) (a0 : Nat) (x1 : Int) (A : AH) (ha0 : a0 ≠ 0) : go true 2 S SN pb_X3_isPoint (n + 2) 0 [vR 13 a0 0, vI x1] [] A =
    if x1 < 0 then
      go true 2 S SN pb_X3_isPoint (n + 1) 16 [vR 13 a0 0, vI x1] [] A
    else
    if x1 < (gi A a0 3) then
      some (some (vI 1), A)
    else
    go true 2 S SN pb_X3_isPoint (n + 1) 16 [vR 13 a0 0, vI x1] [] A := by
  obtain ⟨a0, rfl⟩ := Nat.exists_eq_succ_of_ne_zero ha0
  rfl

set_option maxRecDepth 100000 in
theorem q_X3_isPoint_16 (S SN : SX) (n : Nat) (a0 : Nat) (x1 : Int) (A : AH) (ha0 : a0 ≠ 0) : go true 2 S SN pb_X3_isPoint (n + 2) 16 [vR 13 a0 0, vI x1] [] A =
    some (some (vI 0), A) := by
  obtain ⟨a0, rfl⟩ := Nat.exists_eq_succ_of_ne_zero ha0
  rfl

set_option maxRecDepth 100000 in
theorem q_X3_find_0 (S SN : SX) (n : Nat) (a0 : Nat) (x1 : Int) (A : AH) (ha0 : a0 ≠ 0) : go true 0 S SN pb_X3_find (n + 1) 0 [vR 13 a0 0, vI x1, vU] [] A =
    go true 0 S SN pb_X3_find (n + 0) 2 [vR 13 a0 0, vI x1, vI 0] [] A := by
  obtain ⟨a0, rfl⟩ := Nat.exists_eq_succ_of_ne_zero ha0
  rfl

set_option maxRecDepth 100000 in
theorem q_X3_find_2 (S SN : SX) (n : Nat) (a0 : Nat) (x1 : Int) (x2 : Int) (A : AH) (ha0 : a0 ≠ 0) : go true 0 S SN pb_X3_find (n + 2) 2 [vR 13 a0 0, vI x1, vI x2] [] A =
    if x2 < 20 then
      if (0 : Int) ≤ x2 ∧ x2 < 20 then
        if (gi A (a0 + 1) x2.toNat) = x1 then some (some (vI x2), A) else
        go true 0 S SN pb_X3_find (n + 0) 2 [vR 13 a0 0, vI x1, vI (w32 (x2 + 1))] [] A
      else none
    else
    some (some (vI (-1)), A) := by
  obtain ⟨a0, rfl⟩ := Nat.exists_eq_succ_of_ne_zero ha0
  rfl

set_option maxRecDepth 100000 in
theorem q_X3_letterOf_0 (S SN : SX) (n : Nat) (a0 : Nat) (x1 : Int) (x2 : Int) (A : AH) (ha0 : a0 ≠ 0) : go true 0 S SN pb_X3_letterOf (n + 1) 0 [vR 13 a0 0, vI x1, vI x2, vU, vU] [] A =
    if (0 : Int) ≤ x1 ∧ x1 < 20 then
      go true 0 S SN pb_X3_letterOf (n + 0) 10 [vR 13 a0 0, vI x1, vI x2, vI (gi A (a0 + 1) x1.toNat), vI 5] [] A
    else none := by
  obtain ⟨a0, rfl⟩ := Nat.exists_eq_succ_of_ne_zero ha0
  rfl

set_option maxRecDepth 100000 in
theorem q_X3_letterOf_10 (S SN : SX) (n : Nat) (a0 : Nat) (x1 : Int) (x2 : Int) (x3 : Int) (x4 : Int) (A : AH) (ha0 : a0 ≠ 0) : go true 0 S SN pb_X3_letterOf (n + 2) 10 [vR 13 a0 0, vI x1, vI x2, vI x3, vI x4] [] A =
    if x2 < x4 then
      go true 0 S SN pb_X3_letterOf (n + 1) 10 [vR 13 a0 0, vI x1, vI x2, vI (w32 (x3.tdiv 27)), vI (w32 (x4 + (-1)))] [] A
    else
    some (some (vI (x3.tmod 27)), A) := by
  obtain ⟨a0, rfl⟩ := Nat.exists_eq_succ_of_ne_zero ha0
  rfl

set_option maxRecDepth 100000 in
theorem q_X3_noiseAt_0 (S SN : SX) (n : Nat) (a0 : Nat) (x1 : Int) (x2 : Int) (x3 : Int) (A : AH) (ha0 : a0 ≠ 0) : go true 0 S SN pb_X3_noiseAt (n + 1) 0 [vR 13 a0 0, vI x1, vI x2, vI x3, vU, vU] [] A =
    go true 0 S SN pb_X3_noiseAt (n + 0) 6 [vR 13 a0 0, vI x1, vI x2, vI x3, vI 0, vI 0] [] A := by
  obtain ⟨a0, rfl⟩ := Nat.exists_eq_succ_of_ne_zero ha0
  rfl

set_option maxRecDepth 100000 in
theorem q_X3_noiseAt_6 (S SN : SX) (n : Nat) (a0 : Nat) (x1 : Int) (x2 : Int) (x3 : Int) (x4 : Int) (x5 : Int) (A : AH) (ha0 : a0 ≠ 0) : go true 0 S SN pb_X3_noiseAt (n + 2) 6 [vR 13 a0 0, vI x1, vI x2, vI x3, vI x4, vI x5] [] A =
    if x5 < (gi A a0 4) then
      if (0 : Int) ≤ w32 (3 * x5) ∧ w32 (3 * x5) < 18 then
        if (gi A (a0 + 8) ((w32 (3 * x5)).toNat)) = x2 then
          if x5 = x3 then
            go true 0 S SN pb_X3_noiseAt (n + 1) 71 [vR 13 a0 0, vI x1, vI x2, vI x3, vI x4, vI x5] [] A
          else
          if (0 : Int) ≤ w32 ((w32 (3 * x5)) + 2) ∧ w32 ((w32 (3 * x5)) + 2) < 18 then
            if (0 : Int) ≤ w32 ((w32 (3 * x5)) + 1) ∧ w32 ((w32 (3 * x5)) + 1) < 18 then
              cI (S 303 [vI (w32 (x1 - (gi A (a0 + 8) ((w32 ((w32 (3 * x5)) + 1)).toNat))))] A) fun r2 A1 =>
              cI (S 304 [vI 0, vI (w32 ((gi A (a0 + 8) ((w32 ((w32 (3 * x5)) + 2)).toNat)) - r2))] A1) fun r4 A3 =>
              go true 0 S SN pb_X3_noiseAt (n + 1) 71 [vR 13 a0 0, vI x1, vI x2, vI x3, vI (w32 (x4 + r4)), vI x5] [] A3
            else none
          else none
        else
        go true 0 S SN pb_X3_noiseAt (n + 1) 71 [vR 13 a0 0, vI x1, vI x2, vI x3, vI x4, vI x5] [] A
      else none
    else
    some (some (vI x4), A) := by
  obtain ⟨a0, rfl⟩ := Nat.exists_eq_succ_of_ne_zero ha0
  rfl

set_option maxRecDepth 100000 in
theorem q_X3_noiseAt_71 (S SN : SX) (n : Nat) (a0 : Nat) (x1 : Int) (x2 : Int) (x3 : Int) (x4 : Int) (x5 : Int) (A : AH) (ha0 : a0 ≠ 0) : go true 0 S SN pb_X3_noiseAt (n + 1) 71 [vR 13 a0 0, vI x1, vI x2, vI x3, vI x4, vI x5] [] A =
    go true 0 S SN pb_X3_noiseAt (n + 0) 6 [vR 13 a0 0, vI x1, vI x2, vI x3, vI x4, vI (w32 (x5 + 1))] [] A := by
  obtain ⟨a0, rfl⟩ := Nat.exists_eq_succ_of_ne_zero ha0
  rfl

set_option maxRecDepth 100000 in
theorem q_X3_isNoisy_0 (S SN : SX) (n : Nat) (a0 : Nat) (x1 : Int) (A : AH) (ha0 : a0 ≠ 0) : go true 2 S SN pb_X3_isNoisy (n + 1) 0 [vR 13 a0 0, vI x1, vU] [] A =
    go true 2 S SN pb_X3_isNoisy (n + 0) 2 [vR 13 a0 0, vI x1, vI 0] [] A := by
  obtain ⟨a0, rfl⟩ := Nat.exists_eq_succ_of_ne_zero ha0
  rfl

set_option maxRecDepth 100000 in
theorem q_X3_isNoisy_2 (S SN : SX) (n : Nat) (a0 : Nat) (x1 : Int) (x2 : Int) (A : AH) (ha0 : a0 ≠ 0) : go true 2 S SN pb_X3_isNoisy (n + 2) 2 [vR 13 a0 0, vI x1, vI x2] [] A =
    if x2 < (gi A a0 4) then
      if (0 : Int) ≤ w32 (3 * x2) ∧ w32 (3 * x2) < 18 then
        if (gi A (a0 + 8) ((w32 (3 * x2)).toNat)) = x1 then some (some (vI 1), A) else
        go true 2 S SN pb_X3_isNoisy (n + 0) 2 [vR 13 a0 0, vI x1, vI (w32 (x2 + 1))] [] A
      else none
    else
    some (some (vI 0), A) := by
  obtain ⟨a0, rfl⟩ := Nat.exists_eq_succ_of_ne_zero ha0
  rfl

set_option maxRecDepth 100000 in
theorem q_X3_areFoes_0 (S SN : SX) (n : Nat) (a0 : Nat) (x1 : Int) (x2 : Int) (A : AH) (ha0 : a0 ≠ 0) : go true 2 S SN pb_X3_areFoes (n + 3) 0 [vR 13 a0 0, vI x1, vI x2] [] A =
    if (0 : Int) ≤ x1 ∧ x1 < 16 then
      if (band (bshr (gi A (a0 + 9) x1.toNat) x2) 1) = 0 then
        if (0 : Int) ≤ x2 ∧ x2 < 16 then
          if (band (bshr (gi A (a0 + 9) x2.toNat) x1) 1) = 0 then
            some (some (vI 0), A)
          else
          go true 2 S SN pb_X3_areFoes (n + 2) 26 [vR 13 a0 0, vI x1, vI x2] [] A
        else none
      else
      go true 2 S SN pb_X3_areFoes (n + 2) 26 [vR 13 a0 0, vI x1, vI x2] [] A
    else none := by
  obtain ⟨a0, rfl⟩ := Nat.exists_eq_succ_of_ne_zero ha0
  rfl

set_option maxRecDepth 100000 in
theorem q_X3_areFoes_26 (S SN : SX) (n : Nat) (a0 : Nat) (x1 : Int) (x2 : Int) (A : AH) (ha0 : a0 ≠ 0) : go true 2 S SN pb_X3_areFoes (n + 2) 26 [vR 13 a0 0, vI x1, vI x2] [] A =
    some (some (vI 1), A) := by
  obtain ⟨a0, rfl⟩ := Nat.exists_eq_succ_of_ne_zero ha0
  rfl

set_option maxRecDepth 100000 in
theorem q_X3_costOf_0 (S SN : SX) (n : Nat) (a0 : Nat) (x1 : Int) (A : AH) (ha0 : a0 ≠ 0) : go true 0 S SN pb_X3_costOf (n + 1) 0 [vR 13 a0 0, vI x1, vU, vU] [] A =
    go true 0 S SN pb_X3_costOf (n + 0) 4 [vR 13 a0 0, vI x1, vI 0, vI 0] [] A := by
  obtain ⟨a0, rfl⟩ := Nat.exists_eq_succ_of_ne_zero ha0
  rfl

set_option maxRecDepth 100000 in
theorem q_X3_costOf_4 (S SN : SX) (n : Nat) (a0 : Nat) (x1 : Int) (x2 : Int) (x3 : Int) (A : AH) (ha0 : a0 ≠ 0) : go true 0 S SN pb_X3_costOf (n + 2) 4 [vR 13 a0 0, vI x1, vI x2, vI x3] [] A =
    if x3 < (gi A a0 5) then
      if (band (bshr x1 x3) 1) = 0 then
        go true 0 S SN pb_X3_costOf (n + 1) 29 [vR 13 a0 0, vI x1, vI x2, vI x3] [] A
      else
      if (0 : Int) ≤ x3 ∧ x3 < 6 then
        go true 0 S SN pb_X3_costOf (n + 1) 29 [vR 13 a0 0, vI x1, vI (w32 (x2 + (gi A (a0 + 6) x3.toNat))), vI x3] [] A
      else none
    else
    some (some (vI x2), A) := by
  obtain ⟨a0, rfl⟩ := Nat.exists_eq_succ_of_ne_zero ha0
  rfl

set_option maxRecDepth 100000 in
theorem q_X3_costOf_29 (S SN : SX) (n : Nat) (a0 : Nat) (x1 : Int) (x2 : Int) (x3 : Int) (A : AH) (ha0 : a0 ≠ 0) : go true 0 S SN pb_X3_costOf (n + 1) 29 [vR 13 a0 0, vI x1, vI x2, vI x3] [] A =
    go true 0 S SN pb_X3_costOf (n + 0) 4 [vR 13 a0 0, vI x1, vI x2, vI (w32 (x3 + 1))] [] A := by
  obtain ⟨a0, rfl⟩ := Nat.exists_eq_succ_of_ne_zero ha0
  rfl

set_option maxRecDepth 100000 in
theorem q_X4_read_0 (S SN : SX) (n : Nat)  (A : AH)  : go true 13 S SN pb_X4_read (n + 2) 0 [vR 14 46 0, vU] [] A =
    cV (SN 42 [vR 13 (sz A) 0] (nw A 3 19)) fun A1 =>
    cI (S 55 [vR 14 46 0] (wr A1 46 3 (sz A))) fun r3 A2 =>
    if r3 = 0 then
      some (some (vR 13 0 0), A2)
    else
    cI (S 90 [vR 18 42 0, vI 59] A2) fun r5 A4 =>
    if r5 = 0 then
      some (some (vR 13 0 0), A4)
    else
    if gr A4 46 3 = 0 then none else
    go true 13 S SN pb_X4_read (n + 0) 42 [vR 14 46 0, vI 1] [] (wi A4 (gr A4 46 3) 0 1) := rfl

set_option maxRecDepth 100000 in
theorem q_X4_read_42 (S SN : SX) (n : Nat) (x1 : Int) (A : AH)  : go true 13 S SN pb_X4_read (n + 3) 42 [vR 14 46 0, vI x1] [] A =
    if 60 < x1 then
      some (some (vR 13 (gr A 46 3) 0), A)
    else
    if (gi A 42 6) = 0 then
      some (some (vR 13 (gr A 46 3) 0), A)
    else
    if x1 = 60 then
      cI (S 85 [vR 18 42 0, vI 5, vI (gi A 42 5)] A) fun r2 A1 =>
      some (some (vR 13 0 0), A1)
    else
    cI (S 56 [vR 14 46 0] A) fun r4 A3 =>
    if r4 = 0 then
      some (some (vR 13 0 0), A3)
    else
    cI (S 90 [vR 18 42 0, vI 59] A3) fun r6 A5 =>
    if r6 = 0 then
      some (some (vR 13 0 0), A5)
    else
    if gr A5 46 3 = 0 then none else
    if gr A5 46 3 = 0 then none else
    go true 13 S SN pb_X4_read (n + 0) 116 [vR 14 46 0, vI x1] [] (wi A5 (gr A5 46 3) 0 (w32 ((gi A5 (gr A5 46 3) 0) + 1))) := rfl

set_option maxRecDepth 100000 in
theorem q_X4_read_116 (S SN : SX) (n : Nat) (x1 : Int) (A : AH)  : go true 13 S SN pb_X4_read (n + 1) 116 [vR 14 46 0, vI x1] [] A =
    go true 13 S SN pb_X4_read (n + 0) 42 [vR 14 46 0, vI (w32 (x1 + 1))] [] A := rfl

set_option maxRecDepth 100000 in
theorem q_X4_opening_0 (S SN : SX) (n : Nat)  (A : AH)  : go true 2 S SN pb_X4_opening (n + 2) 0 [vR 14 46 0] [] A =
    cI (S 58 [vR 14 46 0, vR 22 1 0, vI 2, vI 9, vI 0] A) fun r2 A1 =>
    if r2 = 0 then some (some (vI 0), A1) else
    if gr A1 46 3 = 0 then none else
    go true 2 S SN pb_X4_opening (n + 0) 29 [vR 14 46 0] [] (wi A1 (gr A1 46 3) 1 (gi A1 47 0)) := rfl

set_option maxRecDepth 100000 in
theorem q_X4_opening_29 (S SN : SX) (n : Nat)  (A : AH)  : go true 2 S SN pb_X4_opening (n + 1) 29 [vR 14 46 0] [] A =
    some (some (vI 1), A) := rfl

set_option maxRecDepth 100000 in
theorem q_X4_statement_0 (S SN : SX) (n : Nat)  (A : AH)  : go true 2 S SN pb_X4_statement (n + 3) 0 [vR 14 46 0, vU] [] A =
    if gr A 42 7 = 2 then
      if gr A 46 3 = 0 then none else
      cI (S 57 [vR 14 46 0, vI (gi A (gr A 46 3) 2), vI 8] A) fun r2 A1 =>
      if r2 = 0 then
        go true 2 S SN pb_X4_statement (n + 2) 42 [vR 14 46 0, vR 22 (gr A 42 7) 0] [] A1
      else
      cI (S 60 [vR 14 46 0] A1) fun r4 A3 =>
      if r4 = 0 then
        go true 2 S SN pb_X4_statement (n + 2) 42 [vR 14 46 0, vR 22 (gr A 42 7) 0] [] A3
      else
      some (some (vI 1), A3)
    else
    if gr A 42 7 = 10 then
      if gr A 46 3 = 0 then none else
      cI (S 57 [vR 14 46 0, vI (gi A (gr A 46 3) 6), vI 12] A) fun r6 A5 =>
      if r6 = 0 then
        go true 2 S SN pb_X4_statement (n + 1) 78 [vR 14 46 0, vR 22 (gr A 42 7) 0] [] A5
      else
      cI (S 62 [vR 14 46 0] A5) fun r8 A7 =>
      if r8 = 0 then
        go true 2 S SN pb_X4_statement (n + 1) 78 [vR 14 46 0, vR 22 (gr A 42 7) 0] [] A7
      else
      some (some (vI 1), A7)
    else
    go true 2 S SN pb_X4_statement (n + 1) 80 [vR 14 46 0, vR 22 (gr A 42 7) 0] [] A := rfl

set_option maxRecDepth 100000 in
theorem q_X4_statement_42 (S SN : SX) (n : Nat) (a1 : Nat) (A : AH)  : go true 2 S SN pb_X4_statement (n + 2) 42 [vR 14 46 0, vR 22 a1 0] [] A =
    some (some (vI 0), A) := rfl

set_option maxRecDepth 100000 in
theorem q_X4_statement_78 (S SN : SX) (n : Nat) (a1 : Nat) (A : AH)  : go true 2 S SN pb_X4_statement (n + 2) 78 [vR 14 46 0, vR 22 a1 0] [] A =
    some (some (vI 0), A) := rfl

set_option maxRecDepth 100000 in
theorem q_X4_statement_80 (S SN : SX) (n : Nat) (a1 : Nat) (A : AH)  : go true 2 S SN pb_X4_statement (n + 3) 80 [vR 14 46 0, vR 22 a1 0] [] A =
    if a1 = 11 then
      if gr A 46 3 = 0 then none else
      cI (S 57 [vR 14 46 0, vI (gi A (gr A 46 3) 3), vI 4] A) fun r2 A1 =>
      if r2 = 0 then
        go true 2 S SN pb_X4_statement (n + 2) 113 [vR 14 46 0, vR 22 a1 0] [] A1
      else
      cI (S 63 [vR 14 46 0] A1) fun r4 A3 =>
      if r4 = 0 then
        go true 2 S SN pb_X4_statement (n + 2) 113 [vR 14 46 0, vR 22 a1 0] [] A3
      else
      some (some (vI 1), A3)
    else
    if a1 = 12 then
      if gr A 46 3 = 0 then none else
      cI (S 57 [vR 14 46 0, vI (gi A (gr A 46 3) 4), vI 6] A) fun r6 A5 =>
      if r6 = 0 then
        go true 2 S SN pb_X4_statement (n + 1) 149 [vR 14 46 0, vR 22 a1 0] [] A5
      else
      cI (S 64 [vR 14 46 0] A5) fun r8 A7 =>
      if r8 = 0 then
        go true 2 S SN pb_X4_statement (n + 1) 149 [vR 14 46 0, vR 22 a1 0] [] A7
      else
      some (some (vI 1), A7)
    else
    go true 2 S SN pb_X4_statement (n + 1) 151 [vR 14 46 0, vR 22 a1 0] [] A := rfl

set_option maxRecDepth 100000 in
theorem q_X4_statement_113 (S SN : SX) (n : Nat) (a1 : Nat) (A : AH)  : go true 2 S SN pb_X4_statement (n + 2) 113 [vR 14 46 0, vR 22 a1 0] [] A =
    some (some (vI 0), A) := rfl

set_option maxRecDepth 100000 in
theorem q_X4_statement_149 (S SN : SX) (n : Nat) (a1 : Nat) (A : AH)  : go true 2 S SN pb_X4_statement (n + 2) 149 [vR 14 46 0, vR 22 a1 0] [] A =
    some (some (vI 0), A) := rfl

set_option maxRecDepth 100000 in
theorem q_X4_statement_151 (S SN : SX) (n : Nat) (a1 : Nat) (A : AH)  : go true 2 S SN pb_X4_statement (n + 3) 151 [vR 14 46 0, vR 22 a1 0] [] A =
    if a1 = 15 then
      if gr A 46 3 = 0 then none else
      cI (S 57 [vR 14 46 0, vI (gi A (gr A 46 3) 5), vI 6] A) fun r2 A1 =>
      if r2 = 0 then
        go true 2 S SN pb_X4_statement (n + 2) 185 [vR 14 46 0, vR 22 a1 0] [] A1
      else
      cI (S 65 [vR 14 46 0] A1) fun r4 A3 =>
      if r4 = 0 then
        go true 2 S SN pb_X4_statement (n + 2) 185 [vR 14 46 0, vR 22 a1 0] [] A3
      else
      some (some (vI 1), A3)
    else
    if a1 = 17 then
      go true 2 S SN pb_X4_statement (n + 1) 201 [vR 14 46 0, vR 22 a1 0] [] A
    else
    if a1 = 18 then
      go true 2 S SN pb_X4_statement (n + 1) 201 [vR 14 46 0, vR 22 a1 0] [] A
    else
    cI (S 85 [vR 18 42 0, vI 1, vI (gi A 42 5)] A) fun r6 A5 =>
    if r6 = 0 ∨ r6 = 1 then some (some (vI r6), A5) else
    none := rfl

set_option maxRecDepth 100000 in
theorem q_X4_statement_185 (S SN : SX) (n : Nat) (a1 : Nat) (A : AH)  : go true 2 S SN pb_X4_statement (n + 2) 185 [vR 14 46 0, vR 22 a1 0] [] A =
    some (some (vI 0), A) := rfl

set_option maxRecDepth 100000 in
theorem q_X4_statement_201 (S SN : SX) (n : Nat) (a1 : Nat) (A : AH)  : go true 2 S SN pb_X4_statement (n + 2) 201 [vR 14 46 0, vR 22 a1 0] [] A =
    if a1 = 17 then
      go true 2 S SN pb_X4_statement (n + 1) 214 [vR 14 46 0, vR 22 a1 0] [vI 1, vR 14 46 0] A
    else
    go true 2 S SN pb_X4_statement (n + 0) 214 [vR 14 46 0, vR 22 a1 0] [vI 0, vR 14 46 0] A := rfl

set_option maxRecDepth 100000 in
theorem q_X4_statement_214 (S SN : SX) (n : Nat) (a1 : Nat) (sx0 : Int) (A : AH)  : go true 2 S SN pb_X4_statement (n + 1) 214 [vR 14 46 0, vR 22 a1 0] [vI sx0, vR 14 46 0] A =
    cI (S 66 [vR 14 46 0, vI sx0] A) fun r2 A1 =>
    if r2 = 0 ∨ r2 = 1 then some (some (vI r2), A1) else
    none := rfl

set_option maxRecDepth 100000 in
theorem q_X4_begins_0 (S SN : SX) (n : Nat) (x1 : Int) (x2 : Int) (A : AH)  : go true 2 S SN pb_X4_begins (n + 2) 0 [vR 14 46 0, vI x1, vI x2] [] A =
    if x1 < x2 then
      cV (S 86 [vR 18 42 0] A) fun A3 =>
      some (some (vI 1), A3)
    else
    cI (S 85 [vR 18 42 0, vI 5, vI (gi A 42 5)] A) fun r2 A1 =>
    if r2 = 0 ∨ r2 = 1 then some (some (vI r2), A1) else
    none := rfl

set_option maxRecDepth 100000 in
theorem q_X4_tells_0 (S SN : SX) (n : Nat) (a1 : Nat) (x2 : Int) (x3 : Int) (x4 : Int) (A : AH)  : go true 2 S SN pb_X4_tells (n + 2) 0 [vR 14 46 0, vR 22 a1 0, vI x2, vI x3, vI x4] [] A =
    cI (S 91 [vR 18 42 0, vR 22 a1 0] A) fun r2 A1 =>
    if r2 = 0 then
      some (some (vI 0), A1)
    else
    cI (S 92 [vR 18 42 0, vI x2, vI x3] A1) fun r4 A3 =>
    if r4 = 0 then
      some (some (vI 0), A3)
    else
    if (0 : Int) ≤ x4 ∧ x4 < 3 then
      go true 2 S SN pb_X4_tells (n + 0) 39 [vR 14 46 0, vR 22 a1 0, vI x2, vI x3, vI x4] [] (wi A3 47 x4.toNat (gi A3 42 10))
    else none := rfl

set_option maxRecDepth 100000 in
theorem q_X4_tells_39 (S SN : SX) (n : Nat) (a1 : Nat) (x2 : Int) (x3 : Int) (x4 : Int) (A : AH)  : go true 2 S SN pb_X4_tells (n + 1) 39 [vR 14 46 0, vR 22 a1 0, vI x2, vI x3, vI x4] [] A =
    some (some (vI 1), A) := rfl

set_option maxRecDepth 100000 in
theorem q_X4_gives_0 (S SN : SX) (n : Nat) (x1 : Int) (A : AH)  : go true 2 S SN pb_X4_gives (n + 3) 0 [vR 14 46 0, vI x1] [] A =
    cI (S 93 [vR 18 42 0] A) fun r2 A1 =>
    if r2 = 0 then some (some (vI 0), A1) else
    if gr A1 46 3 = 0 then none else
    cI (S 47 [vR 13 (gr A1 46 3) 0, vI (gi A1 42 9)] A1) fun r4 A3 =>
    if r4 = (-1) then
      if gr A3 46 3 = 0 then none else
      if (0 : Int) ≤ x1 ∧ x1 < 20 then
        go true 2 S SN pb_X4_gives (n + 0) 62 [vR 14 46 0, vI x1] [] (wi A3 (gr A3 46 3 + 1) x1.toNat (gi A3 42 9))
      else none
    else
    cI (S 85 [vR 18 42 0, vI 3, vI (gi A3 42 8)] A3) fun r6 A5 =>
    if r6 = 0 ∨ r6 = 1 then some (some (vI r6), A5) else
    none := rfl

set_option maxRecDepth 100000 in
theorem q_X4_gives_62 (S SN : SX) (n : Nat) (x1 : Int) (A : AH)  : go true 2 S SN pb_X4_gives (n + 1) 62 [vR 14 46 0, vI x1] [] A =
    some (some (vI 1), A) := rfl

set_option maxRecDepth 100000 in
theorem q_X4_person_0 (S SN : SX) (n : Nat)  (A : AH)  : go true 2 S SN pb_X4_person (n + 2) 0 [vR 14 46 0, vU, vU] [] A =
    if gr A 46 3 = 0 then none else
    cI (S 59 [vR 14 46 0, vI (gi A (gr A 46 3) 2)] A) fun r2 A1 =>
    if r2 = 0 then
      some (some (vI 0), A1)
    else
    cI (S 58 [vR 14 46 0, vR 22 3 0, vI 1, vI 99, vI 0] A1) fun r4 A3 =>
    if r4 = 0 then
      some (some (vI 0), A3)
    else
    cI (S 58 [vR 14 46 0, vR 22 4 0, vI 0, vI 100, vI 1] A3) fun r6 A5 =>
    if r6 = 0 then
      some (some (vI 0), A5)
    else
    cI (S 91 [vR 18 42 0, vR 22 5 0] A5) fun r8 A7 =>
    if r8 = 0 then
      some (some (vI 0), A7)
    else
    cI (S 61 [vR 14 46 0, vI (gi A (gr A 46 3) 2)] A7) fun r10 A9 =>
    if r10 = 0 then
      some (some (vI 0), A9)
    else
    if gr A9 46 3 = 0 then none else
    cI (S 58 [vR 14 46 0, vR 22 9 0, vI 0, vI (w32 ((gi A9 (gr A9 46 3) 1) - 1)), vI 2] A9) fun r12 A11 =>
    if r12 = 0 then
      some (some (vI 0), A11)
    else
    go true 2 S SN pb_X4_person (n + 1) 88 [vR 14 46 0, vI (gi A (gr A 46 3) 2), vU] [] A11 := rfl

set_option maxRecDepth 100000 in
theorem q_X4_person_88 (S SN : SX) (n : Nat) (x1 : Int) (u2 : AV) (A : AH)  : go true 2 S SN pb_X4_person (n + 1) 88 [vR 14 46 0, vI x1, u2] [] A =
    go true 2 S SN pb_X4_person (n + 0) 90 [vR 14 46 0, vI x1, vI 0] [] A := rfl

set_option maxRecDepth 100000 in
theorem q_X4_person_90 (S SN : SX) (n : Nat) (x1 : Int) (x2 : Int) (A : AH)  : go true 2 S SN pb_X4_person (n + 2) 90 [vR 14 46 0, vI x1, vI x2] [] A =
    if x2 < x1 then
      if gr A 46 3 = 0 then none else
      if (0 : Int) ≤ x2 ∧ x2 < 8 then
        if (gi A (gr A 46 3 + 5) x2.toNat) = (gi A 47 2) then
          cI (S 85 [vR 18 42 0, vI 2, vI (gi A 42 8)] A) fun r2 A1 =>
          if r2 = 0 ∨ r2 = 1 then some (some (vI r2), A1) else
          none
        else
        go true 2 S SN pb_X4_person (n + 0) 90 [vR 14 46 0, vI x1, vI (w32 (x2 + 1))] [] A
      else none
    else
    if gr A 46 3 = 0 then none else
    if (0 : Int) ≤ x1 ∧ x1 < 16 then
      go true 2 S SN pb_X4_person (n + 0) 150 [vR 14 46 0, vI x1, vI x2] [] (wi A (gr A 46 3 + 2) x1.toNat (gi A 47 0))
    else none := rfl

set_option maxRecDepth 100000 in
theorem q_X4_person_150 (S SN : SX) (n : Nat) (x1 : Int) (x2 : Int) (A : AH)  : go true 2 S SN pb_X4_person (n + 1) 150 [vR 14 46 0, vI x1, vI x2] [] A =
    if gr A 46 3 = 0 then none else
    if (0 : Int) ≤ x1 ∧ x1 < 16 then
      go true 2 S SN pb_X4_person (n + 0) 165 [vR 14 46 0, vI x1, vI x2] [] (wi A (gr A 46 3 + 3) x1.toNat (gi A 47 1))
    else none := rfl

set_option maxRecDepth 100000 in
theorem q_X4_person_165 (S SN : SX) (n : Nat) (x1 : Int) (x2 : Int) (A : AH)  : go true 2 S SN pb_X4_person (n + 1) 165 [vR 14 46 0, vI x1, vI x2] [] A =
    if gr A 46 3 = 0 then none else
    if (0 : Int) ≤ x1 ∧ x1 < 8 then
      go true 2 S SN pb_X4_person (n + 0) 180 [vR 14 46 0, vI x1, vI x2] [] (wi A (gr A 46 3 + 5) x1.toNat (gi A 47 2))
    else none := rfl

set_option maxRecDepth 100000 in
theorem q_X4_person_180 (S SN : SX) (n : Nat) (x1 : Int) (x2 : Int) (A : AH)  : go true 2 S SN pb_X4_person (n + 1) 180 [vR 14 46 0, vI x1, vI x2] [] A =
    if gr A 46 3 = 0 then none else
    if gr A 46 3 = 0 then none else
    go true 2 S SN pb_X4_person (n + 0) 193 [vR 14 46 0, vI x1, vI x2] [] (wi A (gr A 46 3) 2 (w32 ((gi A (gr A 46 3) 2) + 1))) := rfl

set_option maxRecDepth 100000 in
theorem q_X4_person_193 (S SN : SX) (n : Nat) (x1 : Int) (x2 : Int) (A : AH)  : go true 2 S SN pb_X4_person (n + 1) 193 [vR 14 46 0, vI x1, vI x2] [] A =
    some (some (vI 1), A) := rfl

set_option maxRecDepth 100000 in
theorem q_X4_partyOf_0 (S SN : SX) (n : Nat) (x1 : Int) (A : AH)  : go true 2 S SN pb_X4_partyOf (n + 4) 0 [vR 14 46 0, vI x1, vU, vU] [] A =
    if gr A 42 7 = 6 then
      go true 2 S SN pb_X4_partyOf (n + 3) 42 [vR 14 46 0, vI x1, vR 22 (gr A 42 7) 0, vU] [vI 0] A
    else
    if gr A 42 7 = 7 then
      go true 2 S SN pb_X4_partyOf (n + 2) 42 [vR 14 46 0, vI x1, vR 22 (gr A 42 7) 0, vU] [vI 1] A
    else
    if gr A 42 7 = 8 then
      go true 2 S SN pb_X4_partyOf (n + 1) 42 [vR 14 46 0, vI x1, vR 22 (gr A 42 7) 0, vU] [vI 2] A
    else
    go true 2 S SN pb_X4_partyOf (n + 0) 42 [vR 14 46 0, vI x1, vR 22 (gr A 42 7) 0, vU] [vI (-1)] A := rfl

set_option maxRecDepth 100000 in
theorem q_X4_partyOf_42 (S SN : SX) (n : Nat) (x1 : Int) (a2 : Nat) (u3 : AV) (sx0 : Int) (A : AH)  : go true 2 S SN pb_X4_partyOf (n + 2) 42 [vR 14 46 0, vI x1, vR 22 a2 0, u3] [vI sx0] A =
    if sx0 = (-1) then
      cI (S 85 [vR 18 42 0, vI 1, vI (gi A 42 5)] A) fun r2 A1 =>
      if r2 = 0 ∨ r2 = 1 then some (some (vI r2), A1) else
      none
    else
    if gr A 46 3 = 0 then none else
    if (0 : Int) ≤ x1 ∧ x1 < 8 then
      go true 2 S SN pb_X4_partyOf (n + 0) 74 [vR 14 46 0, vI x1, vR 22 a2 0, vI sx0] [] (wi A (gr A 46 3 + 4) x1.toNat sx0)
    else none := rfl

set_option maxRecDepth 100000 in
theorem q_X4_partyOf_74 (S SN : SX) (n : Nat) (x1 : Int) (a2 : Nat) (x3 : Int) (A : AH)  : go true 2 S SN pb_X4_partyOf (n + 1) 74 [vR 14 46 0, vI x1, vR 22 a2 0, vI x3] [] A =
    cV (S 86 [vR 18 42 0] A) fun A1 =>
    some (some (vI 1), A1) := rfl

set_option maxRecDepth 100000 in
theorem q_X4_hatred_0 (S SN : SX) (n : Nat)  (A : AH)  : go true 2 S SN pb_X4_hatred (n + 3) 0 [vR 14 46 0, vU, vU] [] A =
    cI (S 93 [vR 18 42 0] A) fun r2 A1 =>
    if r2 = 0 then some (some (vI 0), A1) else
    if gr A1 46 3 = 0 then none else
    cI (S 47 [vR 13 (gr A1 46 3) 0, vI (gi A1 42 9)] A1) fun r4 A3 =>
    if r4 = (-1) then
      go true 2 S SN pb_X4_hatred (n + 1) 38 [vR 14 46 0, vI r4, vU] [] A3
    else
    if r4 < 16 then
      cI (S 93 [vR 18 42 0] A3) fun r6 A5 =>
      if r6 = 0 then some (some (vI 0), A5) else
      go true 2 S SN pb_X4_hatred (n + 0) 66 [vR 14 46 0, vI r4, vU] [] A5
    else
    go true 2 S SN pb_X4_hatred (n + 1) 38 [vR 14 46 0, vI r4, vU] [] A3 := rfl

set_option maxRecDepth 100000 in
theorem q_X4_hatred_38 (S SN : SX) (n : Nat) (x1 : Int) (u2 : AV) (A : AH)  : go true 2 S SN pb_X4_hatred (n + 1) 38 [vR 14 46 0, vI x1, u2] [] A =
    cI (S 85 [vR 18 42 0, vI 3, vI (gi A 42 8)] A) fun r2 A1 =>
    if r2 = 0 ∨ r2 = 1 then some (some (vI r2), A1) else
    none := rfl

set_option maxRecDepth 100000 in
theorem q_X4_hatred_66 (S SN : SX) (n : Nat) (x1 : Int) (u2 : AV) (A : AH)  : go true 2 S SN pb_X4_hatred (n + 2) 66 [vR 14 46 0, vI x1, u2] [] A =
    if gr A 46 3 = 0 then none else
    cI (S 47 [vR 13 (gr A 46 3) 0, vI (gi A 42 9)] A) fun r2 A1 =>
    if r2 = (-1) then
      go true 2 S SN pb_X4_hatred (n + 1) 113 [vR 14 46 0, vI x1, vI r2] [] A1
    else
    if r2 < 16 then
      if r2 = x1 then
        go true 2 S SN pb_X4_hatred (n + 1) 113 [vR 14 46 0, vI x1, vI r2] [] A1
      else
      if gr A1 46 3 = 0 then none else
      if (0 : Int) ≤ x1 ∧ x1 < 16 then
        if (band (bshr (gi A1 (gr A1 46 3 + 9) x1.toNat) r2) 1) = 0 then
          if gr A1 46 3 = 0 then none else
          if (0 : Int) ≤ x1 ∧ x1 < 16 then
            if (0 : Int) ≤ x1 ∧ x1 < 16 then
              go true 2 S SN pb_X4_hatred (n + 0) 144 [vR 14 46 0, vI x1, vI r2] [] (wi A1 (gr A1 46 3 + 9) x1.toNat (bor (gi A1 (gr A1 46 3 + 9) x1.toNat) (bshl 1 r2)))
            else none
          else none
        else
        go true 2 S SN pb_X4_hatred (n + 1) 113 [vR 14 46 0, vI x1, vI r2] [] A1
      else none
    else
    go true 2 S SN pb_X4_hatred (n + 1) 113 [vR 14 46 0, vI x1, vI r2] [] A1 := rfl

set_option maxRecDepth 100000 in
theorem q_X4_hatred_113 (S SN : SX) (n : Nat) (x1 : Int) (x2 : Int) (A : AH)  : go true 2 S SN pb_X4_hatred (n + 1) 113 [vR 14 46 0, vI x1, vI x2] [] A =
    cI (S 85 [vR 18 42 0, vI 3, vI (gi A 42 8)] A) fun r2 A1 =>
    if r2 = 0 ∨ r2 = 1 then some (some (vI r2), A1) else
    none := rfl

set_option maxRecDepth 100000 in
theorem q_X4_hatred_144 (S SN : SX) (n : Nat) (x1 : Int) (x2 : Int) (A : AH)  : go true 2 S SN pb_X4_hatred (n + 1) 144 [vR 14 46 0, vI x1, vI x2] [] A =
    if gr A 46 3 = 0 then none else
    if gr A 46 3 = 0 then none else
    go true 2 S SN pb_X4_hatred (n + 0) 157 [vR 14 46 0, vI x1, vI x2] [] (wi A (gr A 46 3) 6 (w32 ((gi A (gr A 46 3) 6) + 1))) := rfl

set_option maxRecDepth 100000 in
theorem q_X4_hatred_157 (S SN : SX) (n : Nat) (x1 : Int) (x2 : Int) (A : AH)  : go true 2 S SN pb_X4_hatred (n + 1) 157 [vR 14 46 0, vI x1, vI x2] [] A =
    some (some (vI 1), A) := rfl

set_option maxRecDepth 100000 in
theorem q_X4_pointTold_0 (S SN : SX) (n : Nat)  (A : AH)  : go true 2 S SN pb_X4_pointTold (n + 2) 0 [vR 14 46 0, vU] [] A =
    if gr A 46 3 = 0 then none else
    cI (S 59 [vR 14 46 0, vI (w32 (16 + (gi A (gr A 46 3) 3)))] A) fun r2 A1 =>
    if r2 = 0 then
      some (some (vI 0), A1)
    else
    cI (S 58 [vR 14 46 0, vR 22 6 0, vI 0, vI 99, vI 0] A1) fun r4 A3 =>
    if r4 = 0 then
      some (some (vI 0), A3)
    else
    cI (S 58 [vR 14 46 0, vR 22 7 0, vI 0, vI 99, vI 1] A3) fun r6 A5 =>
    if r6 = 0 then
      some (some (vI 0), A5)
    else
    if gr A5 46 3 = 0 then none else
    if (0 : Int) ≤ w32 ((w32 (2 * (gi A (gr A 46 3) 3))) + 0) ∧ w32 ((w32 (2 * (gi A (gr A 46 3) 3))) + 0) < 8 then
      go true 2 S SN pb_X4_pointTold (n + 0) 68 [vR 14 46 0, vI (gi A (gr A 46 3) 3)] [] (wi A5 (gr A5 46 3 + 7) ((w32 ((w32 (2 * (gi A (gr A 46 3) 3))) + 0)).toNat) (gi A5 47 0))
    else none := rfl

set_option maxRecDepth 100000 in
theorem q_X4_pointTold_68 (S SN : SX) (n : Nat) (x1 : Int) (A : AH)  : go true 2 S SN pb_X4_pointTold (n + 1) 68 [vR 14 46 0, vI x1] [] A =
    if gr A 46 3 = 0 then none else
    if (0 : Int) ≤ w32 ((w32 (2 * x1)) + 1) ∧ w32 ((w32 (2 * x1)) + 1) < 8 then
      go true 2 S SN pb_X4_pointTold (n + 0) 87 [vR 14 46 0, vI x1] [] (wi A (gr A 46 3 + 7) ((w32 ((w32 (2 * x1)) + 1)).toNat) (gi A 47 1))
    else none := rfl

set_option maxRecDepth 100000 in
theorem q_X4_pointTold_87 (S SN : SX) (n : Nat) (x1 : Int) (A : AH)  : go true 2 S SN pb_X4_pointTold (n + 1) 87 [vR 14 46 0, vI x1] [] A =
    if gr A 46 3 = 0 then none else
    if gr A 46 3 = 0 then none else
    go true 2 S SN pb_X4_pointTold (n + 0) 100 [vR 14 46 0, vI x1] [] (wi A (gr A 46 3) 3 (w32 ((gi A (gr A 46 3) 3) + 1))) := rfl

set_option maxRecDepth 100000 in
theorem q_X4_pointTold_100 (S SN : SX) (n : Nat) (x1 : Int) (A : AH)  : go true 2 S SN pb_X4_pointTold (n + 1) 100 [vR 14 46 0, vI x1] [] A =
    some (some (vI 1), A) := rfl

set_option maxRecDepth 100000 in
theorem q_X4_sound_0 (S SN : SX) (n : Nat)  (A : AH)  : go true 2 S SN pb_X4_sound (n + 2) 0 [vR 14 46 0] [] A =
    cI (S 58 [vR 14 46 0, vR 22 9 0, vI 0, vI 99, vI 0] A) fun r2 A1 =>
    if r2 = 0 then
      some (some (vI 0), A1)
    else
    if gr A1 46 3 = 0 then none else
    cI (S 58 [vR 14 46 0, vR 22 13 0, vI 0, vI (w32 ((gi A1 (gr A1 46 3) 1) - 1)), vI 1] A1) fun r4 A3 =>
    if r4 = 0 then
      some (some (vI 0), A3)
    else
    cI (S 58 [vR 14 46 0, vR 22 14 0, vI 1, vI 9, vI 2] A3) fun r6 A5 =>
    if r6 = 0 then
      some (some (vI 0), A5)
    else
    go true 2 S SN pb_X4_sound (n + 1) 51 [vR 14 46 0] [] A5 := rfl

set_option maxRecDepth 100000 in
theorem q_X4_sound_51 (S SN : SX) (n : Nat)  (A : AH)  : go true 2 S SN pb_X4_sound (n + 1) 51 [vR 14 46 0] [] A =
    if gr A 46 3 = 0 then none else
    if gr A 46 3 = 0 then none else
    if 47 = 0 ∨ gr A 46 3 + 8 = 0 ∨ 47 = gr A 46 3 + 8 then none else
    if ((0 : Int) ≤ 0 ∧ (0 : Int) ≤ w32 (3 * (gi A (gr A 46 3) 4)) ∧ (0 : Int) ≤ 3) ∧ (0 : Int) + 3 ≤ 3 ∧ (w32 (3 * (gi A (gr A 46 3) 4)) : Int) + 3 ≤ 18 then
      if gr (cpa A 47 0 (gr A 46 3 + 8) ((w32 (3 * (gi A (gr A 46 3) 4))).toNat) 3) 46 3 = 0 then none else
      if gr (cpa A 47 0 (gr A 46 3 + 8) ((w32 (3 * (gi A (gr A 46 3) 4))).toNat) 3) 46 3 = 0 then none else
      go true 2 S SN pb_X4_sound (n + 0) 89 [vR 14 46 0] [] (wi (cpa A 47 0 (gr A 46 3 + 8) ((w32 (3 * (gi A (gr A 46 3) 4))).toNat) 3) (gr (cpa A 47 0 (gr A 46 3 + 8) ((w32 (3 * (gi A (gr A 46 3) 4))).toNat) 3) 46 3) 4 (w32 ((gi (cpa A 47 0 (gr A 46 3 + 8) ((w32 (3 * (gi A (gr A 46 3) 4))).toNat) 3) (gr (cpa A 47 0 (gr A 46 3 + 8) ((w32 (3 * (gi A (gr A 46 3) 4))).toNat) 3) 46 3) 4) + 1)))
    else none := rfl

set_option maxRecDepth 100000 in
theorem q_X4_sound_89 (S SN : SX) (n : Nat)  (A : AH)  : go true 2 S SN pb_X4_sound (n + 1) 89 [vR 14 46 0] [] A =
    some (some (vI 1), A) := rfl

set_option maxRecDepth 100000 in
theorem q_X4_muteTold_0 (S SN : SX) (n : Nat)  (A : AH)  : go true 2 S SN pb_X4_muteTold (n + 2) 0 [vR 14 46 0, vU] [] A =
    if gr A 46 3 = 0 then none else
    cI (S 59 [vR 14 46 0, vI (w32 (10 + (gi A (gr A 46 3) 5)))] A) fun r2 A1 =>
    if r2 = 0 then
      some (some (vI 0), A1)
    else
    cI (S 58 [vR 14 46 0, vR 22 3 0, vI 1, vI 99, vI 0] A1) fun r4 A3 =>
    if r4 = 0 then
      some (some (vI 0), A3)
    else
    cI (S 58 [vR 14 46 0, vR 22 16 0, vI 0, vI 99, vI 1] A3) fun r6 A5 =>
    if r6 = 0 then
      some (some (vI 0), A5)
    else
    if gr A5 46 3 = 0 then none else
    if (0 : Int) ≤ w32 (10 + (gi A (gr A 46 3) 5)) ∧ w32 (10 + (gi A (gr A 46 3) 5)) < 16 then
      go true 2 S SN pb_X4_muteTold (n + 0) 64 [vR 14 46 0, vI (w32 (10 + (gi A (gr A 46 3) 5)))] [] (wi A5 (gr A5 46 3 + 2) ((w32 (10 + (gi A (gr A 46 3) 5))).toNat) (gi A5 47 0))
    else none := rfl

set_option maxRecDepth 100000 in
theorem q_X4_muteTold_64 (S SN : SX) (n : Nat) (x1 : Int) (A : AH)  : go true 2 S SN pb_X4_muteTold (n + 1) 64 [vR 14 46 0, vI x1] [] A =
    if gr A 46 3 = 0 then none else
    if gr A 46 3 = 0 then none else
    if (0 : Int) ≤ gi A (gr A 46 3) 5 ∧ gi A (gr A 46 3) 5 < 6 then
      go true 2 S SN pb_X4_muteTold (n + 0) 85 [vR 14 46 0, vI x1] [] (wi A (gr A 46 3 + 6) ((gi A (gr A 46 3) 5).toNat) (gi A 47 1))
    else none := rfl

set_option maxRecDepth 100000 in
theorem q_X4_muteTold_85 (S SN : SX) (n : Nat) (x1 : Int) (A : AH)  : go true 2 S SN pb_X4_muteTold (n + 1) 85 [vR 14 46 0, vI x1] [] A =
    if gr A 46 3 = 0 then none else
    if gr A 46 3 = 0 then none else
    go true 2 S SN pb_X4_muteTold (n + 0) 98 [vR 14 46 0, vI x1] [] (wi A (gr A 46 3) 5 (w32 ((gi A (gr A 46 3) 5) + 1))) := rfl

set_option maxRecDepth 100000 in
theorem q_X4_muteTold_98 (S SN : SX) (n : Nat) (x1 : Int) (A : AH)  : go true 2 S SN pb_X4_muteTold (n + 1) 98 [vR 14 46 0, vI x1] [] A =
    some (some (vI 1), A) := rfl

set_option maxRecDepth 100000 in
theorem q_X4_worth_0 (S SN : SX) (n : Nat) (x1 : Int) (A : AH)  : go true 2 S SN pb_X4_worth (n + 2) 0 [vR 14 46 0, vI x1, vU] [] A =
    if x1 = 0 then
      if gr A 46 3 = 0 then none else
      go true 2 S SN pb_X4_worth (n + 0) 21 [vR 14 46 0, vI x1, vU] [vR 30 (gr A (gr A 46 3) 17) (ln A (gr A (gr A 46 3) 17))] A
    else
    if gr A 46 3 = 0 then none else
    go true 2 S SN pb_X4_worth (n + 1) 21 [vR 14 46 0, vI x1, vU] [vR 30 (gr A (gr A 46 3) 16) (ln A (gr A (gr A 46 3) 16))] A := rfl

set_option maxRecDepth 100000 in
theorem q_X4_worth_21 (S SN : SX) (n : Nat) (x1 : Int) (u2 : AV) (sa0 : Nat) (sn0 : Nat) (A : AH) (hsa0 : sa0 ≠ 0) : go true 2 S SN pb_X4_worth (n + 2) 21 [vR 14 46 0, vI x1, u2] [vR 30 sa0 sn0] A =
    if sa0 = 0 then
      go true 2 S SN pb_X4_worth (n + 1) 32 [vR 14 46 0, vI x1, vR 30 sa0 sn0] [vI 0, vR 14 46 0] A
    else
    go true 2 S SN pb_X4_worth (n + 0) 32 [vR 14 46 0, vI x1, vR 30 sa0 sn0] [vI 1, vR 14 46 0] A := by
  obtain ⟨sa0, rfl⟩ := Nat.exists_eq_succ_of_ne_zero hsa0
  rfl

set_option maxRecDepth 100000 in
theorem q_X4_worth_32 (S SN : SX) (n : Nat) (x1 : Int) (a2 : Nat) (n2 : Nat) (sx0 : Int) (A : AH) (ha2 : a2 ≠ 0) : go true 2 S SN pb_X4_worth (n + 4) 32 [vR 14 46 0, vI x1, vR 30 a2 n2] [vI sx0, vR 14 46 0] A =
    cI (S 57 [vR 14 46 0, vI sx0, vI 1] A) fun r2 A1 =>
    if r2 = 0 then some (some (vI 0), A1) else
    cV (S 33 [vR 12 44 0, vI 0] A1) fun A3 =>
    cI (S 37 [vR 12 44 0, vI 3, vI 0] A3) fun r5 A4 =>
    if r5 = 0 then some (some (vI 0), A4) else
    if gr A4 46 3 = 0 then none else
    if (gi A4 (gr A4 46 3) 18) = 0 then
      if (gi A4 44 2) = 0 then
        go true 2 S SN pb_X4_worth (n + 0) 92 [vR 14 46 0, vI x1, vR 30 a2 n2] [vI 0, vR 13 (gr A4 46 3) 0] A4
      else
      go true 2 S SN pb_X4_worth (n + 1) 87 [vR 14 46 0, vI x1, vR 30 a2 n2] [vR 13 (gr A4 46 3) 0] A4
    else
    go true 2 S SN pb_X4_worth (n + 1) 87 [vR 14 46 0, vI x1, vR 30 a2 n2] [vR 13 (gr A4 46 3) 0] A4 := by
  obtain ⟨a2, rfl⟩ := Nat.exists_eq_succ_of_ne_zero ha2
  rfl

set_option maxRecDepth 100000 in
theorem q_X4_worth_87 (S SN : SX) (n : Nat) (x1 : Int) (a2 : Nat) (n2 : Nat) (sa0 : Nat) (A : AH) (ha2 : a2 ≠ 0) (hsa0 : sa0 ≠ 0) : go true 2 S SN pb_X4_worth (n + 1) 87 [vR 14 46 0, vI x1, vR 30 a2 n2] [vR 13 sa0 0] A =
    go true 2 S SN pb_X4_worth (n + 0) 92 [vR 14 46 0, vI x1, vR 30 a2 n2] [vI 1, vR 13 sa0 0] A := by
  obtain ⟨a2, rfl⟩ := Nat.exists_eq_succ_of_ne_zero ha2
  obtain ⟨sa0, rfl⟩ := Nat.exists_eq_succ_of_ne_zero hsa0
  rfl

set_option maxRecDepth 100000 in
theorem q_X4_worth_92 (S SN : SX) (n : Nat) (x1 : Int) (a2 : Nat) (n2 : Nat) (sx0 : Int) (sa1 : Nat) (A : AH) (ha2 : a2 ≠ 0) (hsa1 : sa1 ≠ 0) : go true 2 S SN pb_X4_worth (n + 3) 92 [vR 14 46 0, vI x1, vR 30 a2 n2] [vI sx0, vR 13 sa1 0] A =
    if sx0 = 0 ∨ sx0 = 1 then
      if x1 = 0 then
        cR 30 (S 34 [vR 12 44 0] (wi A sa1 18 sx0)) fun p5 l6 A4 =>
        if gr (wi A sa1 18 sx0) 46 3 = 0 then none else
        some (some (vI 1), wr A4 (gr (wi A sa1 18 sx0) 46 3) 17 p5)
      else
      cR 30 (S 34 [vR 12 44 0] (wi A sa1 18 sx0)) fun p2 l3 A1 =>
      if gr (wi A sa1 18 sx0) 46 3 = 0 then none else
      go true 2 S SN pb_X4_worth (n + 2) 113 [vR 14 46 0, vI x1, vR 30 a2 n2] [] (wr A1 (gr (wi A sa1 18 sx0) 46 3) 16 p2)
    else none := by
  obtain ⟨a2, rfl⟩ := Nat.exists_eq_succ_of_ne_zero ha2
  obtain ⟨sa1, rfl⟩ := Nat.exists_eq_succ_of_ne_zero hsa1
  rfl

set_option maxRecDepth 100000 in
theorem q_X4_worth_113 (S SN : SX) (n : Nat) (x1 : Int) (a2 : Nat) (n2 : Nat) (A : AH) (ha2 : a2 ≠ 0) : go true 2 S SN pb_X4_worth (n + 2) 113 [vR 14 46 0, vI x1, vR 30 a2 n2] [] A =
    some (some (vI 1), A) := by
  obtain ⟨a2, rfl⟩ := Nat.exists_eq_succ_of_ne_zero ha2
  rfl

set_option maxRecDepth 100000 in
theorem q_X6_forget_0 (S SN : SX) (n : Nat)  (A : AH)  : go true 3 S SN pb_X6_forget (n + 1) 0 [vR 16 78 0] [] A =
    some (none, wi A 78 2 0) := rfl

set_option maxRecDepth 100000 in
theorem q_X6_keep_0 (S SN : SX) (n : Nat) (a1 : Nat) (A : AH) (ha1 : a1 ≠ 0) : go true 3 S SN pb_X6_keep (n + 1) 0 [vR 16 78 0, vR 19 a1 0] [] A =
    if (0 : Int) ≤ gi A 78 1 ∧ gi A 78 1 < 20 then
      if gr A 79 ((gi A 78 1).toNat) = 0 then none else
      cV (S 97 [vR 19 (gr A 79 ((gi A 78 1).toNat)) 0, vR 19 a1 0] A) fun A1 =>
      go true 3 S SN pb_X6_keep (n + 0) 26 [vR 16 78 0, vR 19 a1 0] [] (wi A1 78 1 ((w32 ((gi A1 78 1) + 1)).tmod 20))
    else none := by
  obtain ⟨a1, rfl⟩ := Nat.exists_eq_succ_of_ne_zero ha1
  rfl

set_option maxRecDepth 100000 in
theorem q_X6_keep_26 (S SN : SX) (n : Nat) (a1 : Nat) (A : AH) (ha1 : a1 ≠ 0) : go true 3 S SN pb_X6_keep (n + 1) 26 [vR 16 78 0, vR 19 a1 0] [] A =
    cI (S 306 [vI (w32 ((gi A 78 2) + 1)), vI 20] A) fun r2 A1 =>
    go true 3 S SN pb_X6_keep (n + 0) 41 [vR 16 78 0, vR 19 a1 0] [] (wi A1 78 2 r2) := by
  obtain ⟨a1, rfl⟩ := Nat.exists_eq_succ_of_ne_zero ha1
  rfl

set_option maxRecDepth 100000 in
theorem q_X6_keep_41 (S SN : SX) (n : Nat) (a1 : Nat) (A : AH) (ha1 : a1 ≠ 0) : go true 3 S SN pb_X6_keep (n + 1) 41 [vR 16 78 0, vR 19 a1 0] [] A =
    some (none, A) := by
  obtain ⟨a1, rfl⟩ := Nat.exists_eq_succ_of_ne_zero ha1
  rfl

set_option maxRecDepth 100000 in
theorem q_X6_back_0 (S SN : SX) (n : Nat) (a1 : Nat) (A : AH) (ha1 : a1 ≠ 0) : go true 2 S SN pb_X6_back (n + 2) 0 [vR 16 78 0, vR 19 a1 0] [] A =
    if (gi A 78 2) = 0 then some (some (vI 0), A) else
    go true 2 S SN pb_X6_back (n + 0) 25 [vR 16 78 0, vR 19 a1 0] [] (wi A 78 1 ((w32 ((w32 ((gi A 78 1) + 20)) - 1)).tmod 20)) := by
  obtain ⟨a1, rfl⟩ := Nat.exists_eq_succ_of_ne_zero ha1
  rfl

set_option maxRecDepth 100000 in
theorem q_X6_back_25 (S SN : SX) (n : Nat) (a1 : Nat) (A : AH) (ha1 : a1 ≠ 0) : go true 2 S SN pb_X6_back (n + 1) 25 [vR 16 78 0, vR 19 a1 0] [] A =
    go true 2 S SN pb_X6_back (n + 0) 35 [vR 16 78 0, vR 19 a1 0] [] (wi A 78 2 (w32 ((gi A 78 2) - 1))) := by
  obtain ⟨a1, rfl⟩ := Nat.exists_eq_succ_of_ne_zero ha1
  rfl

set_option maxRecDepth 100000 in
theorem q_X6_back_35 (S SN : SX) (n : Nat) (a1 : Nat) (A : AH) (ha1 : a1 ≠ 0) : go true 2 S SN pb_X6_back (n + 1) 35 [vR 16 78 0, vR 19 a1 0] [] A =
    if (0 : Int) ≤ gi A 78 1 ∧ gi A 78 1 < 20 then
      cV (S 97 [vR 19 a1 0, vR 19 (gr A 79 ((gi A 78 1).toNat)) 0] A) fun A1 =>
      some (some (vI 1), A1)
    else none := by
  obtain ⟨a1, rfl⟩ := Nat.exists_eq_succ_of_ne_zero ha1
  rfl

set_option maxRecDepth 100000 in
theorem q_X9_clear_0 (S SN : SX) (n : Nat) (a0 : Nat) (A : AH) (ha0 : a0 ≠ 0) : go true 3 S SN pb_X9_clear (n + 1) 0 [vR 19 a0 0] [] A =
    go true 3 S SN pb_X9_clear (n + 0) 10 [vR 19 a0 0] [] (wi (wi A a0 0 0) a0 1 0) := by
  obtain ⟨a0, rfl⟩ := Nat.exists_eq_succ_of_ne_zero ha0
  rfl

set_option maxRecDepth 100000 in
theorem q_X9_clear_10 (S SN : SX) (n : Nat) (a0 : Nat) (A : AH) (ha0 : a0 ≠ 0) : go true 3 S SN pb_X9_clear (n + 1) 10 [vR 19 a0 0] [] A =
    go true 3 S SN pb_X9_clear (n + 0) 20 [vR 19 a0 0] [] (wi (wi A a0 2 (-1)) a0 7 0) := by
  obtain ⟨a0, rfl⟩ := Nat.exists_eq_succ_of_ne_zero ha0
  rfl

set_option maxRecDepth 100000 in
theorem q_X9_clear_20 (S SN : SX) (n : Nat) (a0 : Nat) (A : AH) (ha0 : a0 ≠ 0) : go true 3 S SN pb_X9_clear (n + 1) 20 [vR 19 a0 0] [] A =
    cV (S 308 [vR 30 (a0 + 1) 16, vI (-1)] A) fun A1 =>
    cV (S 308 [vR 30 (a0 + 2) 16, vI 0] A1) fun A2 =>
    cV (S 308 [vR 30 (a0 + 3) 9, vI (-1)] A2) fun A3 =>
    some (none, A3) := by
  obtain ⟨a0, rfl⟩ := Nat.exists_eq_succ_of_ne_zero ha0
  rfl

set_option maxRecDepth 100000 in
theorem q_X9_begin_0 (S SN : SX) (n : Nat) (a0 : Nat) (a1 : Nat) (A : AH) (ha0 : a0 ≠ 0) (ha1 : a1 ≠ 0) : go true 3 S SN pb_X9_begin (n + 1) 0 [vR 19 a0 0, vR 13 a1 0, vU] [] A =
    cV (S 95 [vR 19 a0 0] A) fun A1 =>
    go true 3 S SN pb_X9_begin (n + 0) 6 [vR 19 a0 0, vR 13 a1 0, vI 0] [] A1 := by
  obtain ⟨a0, rfl⟩ := Nat.exists_eq_succ_of_ne_zero ha0
  obtain ⟨a1, rfl⟩ := Nat.exists_eq_succ_of_ne_zero ha1
  rfl

set_option maxRecDepth 100000 in
theorem q_X9_begin_6 (S SN : SX) (n : Nat) (a0 : Nat) (a1 : Nat) (x2 : Int) (A : AH) (ha0 : a0 ≠ 0) (ha1 : a1 ≠ 0) : go true 3 S SN pb_X9_begin (n + 2) 6 [vR 19 a0 0, vR 13 a1 0, vI x2] [] A =
    if x2 < (gi A a1 2) then
      if (0 : Int) ≤ x2 ∧ x2 < 8 then
        if (0 : Int) ≤ x2 ∧ x2 < 8 then
          cV (S 100 [vR 19 a0 0, vI x2, vI (gi A (a1 + 4) x2.toNat), vI (gi A (a1 + 5) x2.toNat)] A) fun A1 =>
          go true 3 S SN pb_X9_begin (n + 1) 6 [vR 19 a0 0, vR 13 a1 0, vI (w32 (x2 + 1))] [] A1
        else none
      else none
    else
    some (none, A) := by
  obtain ⟨a0, rfl⟩ := Nat.exists_eq_succ_of_ne_zero ha0
  obtain ⟨a1, rfl⟩ := Nat.exists_eq_succ_of_ne_zero ha1
  rfl

set_option maxRecDepth 100000 in
theorem q_X9_copy_0 (S SN : SX) (n : Nat) (a0 : Nat) (a1 : Nat) (A : AH) (ha0 : a0 ≠ 0) (ha1 : a1 ≠ 0) : go true 3 S SN pb_X9_copy (n + 1) 0 [vR 19 a0 0, vR 19 a1 0] [] A =
    go true 3 S SN pb_X9_copy (n + 0) 16 [vR 19 a0 0, vR 19 a1 0] [] (wi (wi A a0 0 (gi A a1 0)) a0 1 (gi (wi A a0 0 (gi A a1 0)) a1 1)) := by
  obtain ⟨a0, rfl⟩ := Nat.exists_eq_succ_of_ne_zero ha0
  obtain ⟨a1, rfl⟩ := Nat.exists_eq_succ_of_ne_zero ha1
  rfl

set_option maxRecDepth 100000 in
theorem q_X9_copy_16 (S SN : SX) (n : Nat) (a0 : Nat) (a1 : Nat) (A : AH) (ha0 : a0 ≠ 0) (ha1 : a1 ≠ 0) : go true 3 S SN pb_X9_copy (n + 1) 16 [vR 19 a0 0, vR 19 a1 0] [] A =
    go true 3 S SN pb_X9_copy (n + 0) 32 [vR 19 a0 0, vR 19 a1 0] [] (wi (wi A a0 2 (gi A a1 2)) a0 7 (gi (wi A a0 2 (gi A a1 2)) a1 7)) := by
  obtain ⟨a0, rfl⟩ := Nat.exists_eq_succ_of_ne_zero ha0
  obtain ⟨a1, rfl⟩ := Nat.exists_eq_succ_of_ne_zero ha1
  rfl

set_option maxRecDepth 100000 in
theorem q_X9_copy_32 (S SN : SX) (n : Nat) (a0 : Nat) (a1 : Nat) (A : AH) (ha0 : a0 ≠ 0) (ha1 : a1 ≠ 0) : go true 3 S SN pb_X9_copy (n + 1) 32 [vR 19 a0 0, vR 19 a1 0] [] A =
    if a1 + 1 = 0 ∨ a0 + 1 = 0 ∨ a1 + 1 = a0 + 1 then none else
    if a1 + 2 = 0 ∨ a0 + 2 = 0 ∨ a1 + 2 = a0 + 2 then none else
    if a1 + 3 = 0 ∨ a0 + 3 = 0 ∨ a1 + 3 = a0 + 3 then none else
    go true 3 S SN pb_X9_copy (n + 0) 77 [vR 19 a0 0, vR 19 a1 0] [] (cpa (cpa (cpa A (a1 + 1) 0 (a0 + 1) 0 16) (a1 + 2) 0 (a0 + 2) 0 16) (a1 + 3) 0 (a0 + 3) 0 9) := by
  obtain ⟨a0, rfl⟩ := Nat.exists_eq_succ_of_ne_zero ha0
  obtain ⟨a1, rfl⟩ := Nat.exists_eq_succ_of_ne_zero ha1
  rfl

set_option maxRecDepth 100000 in
theorem q_X9_copy_77 (S SN : SX) (n : Nat) (a0 : Nat) (a1 : Nat) (A : AH) (ha0 : a0 ≠ 0) (ha1 : a1 ≠ 0) : go true 3 S SN pb_X9_copy (n + 1) 77 [vR 19 a0 0, vR 19 a1 0] [] A =
    if a1 + 4 = 0 ∨ a0 + 4 = 0 ∨ a1 + 4 = a0 + 4 then none else
    some (none, cpa A (a1 + 4) 0 (a0 + 4) 0 40) := by
  obtain ⟨a0, rfl⟩ := Nat.exists_eq_succ_of_ne_zero ha0
  obtain ⟨a1, rfl⟩ := Nat.exists_eq_succ_of_ne_zero ha1
  rfl

set_option maxRecDepth 100000 in
theorem q_X9_isThere_0 (S SN : SX) (n : Nat) (a0 : Nat) (x1 : Int) (A : AH) (ha0 : a0 ≠ 0) : go true 2 S SN pb_X9_isThere (n + 2) 0 [vR 19 a0 0, vI x1] [] A =
    if x1 < 0 then
      go true 2 S SN pb_X9_isThere (n + 1) 24 [vR 19 a0 0, vI x1] [] A
    else
    if x1 < 16 then
      if (0 : Int) ≤ x1 ∧ x1 < 16 then
        if (gi A (a0 + 1) x1.toNat) = (-1) then
          go true 2 S SN pb_X9_isThere (n + 1) 24 [vR 19 a0 0, vI x1] [] A
        else
        some (some (vI 1), A)
      else none
    else
    go true 2 S SN pb_X9_isThere (n + 1) 24 [vR 19 a0 0, vI x1] [] A := by
  obtain ⟨a0, rfl⟩ := Nat.exists_eq_succ_of_ne_zero ha0
  rfl

set_option maxRecDepth 100000 in
theorem q_X9_isThere_24 (S SN : SX) (n : Nat) (a0 : Nat) (x1 : Int) (A : AH) (ha0 : a0 ≠ 0) : go true 2 S SN pb_X9_isThere (n + 2) 24 [vR 19 a0 0, vI x1] [] A =
    some (some (vI 0), A) := by
  obtain ⟨a0, rfl⟩ := Nat.exists_eq_succ_of_ne_zero ha0
  rfl

set_option maxRecDepth 100000 in
theorem q_X9_whoSits_0 (S SN : SX) (n : Nat) (a0 : Nat) (x1 : Int) (A : AH) (ha0 : a0 ≠ 0) : go true 0 S SN pb_X9_whoSits (n + 2) 0 [vR 19 a0 0, vI x1] [] A =
    if x1 < 0 then
      go true 0 S SN pb_X9_whoSits (n + 1) 19 [vR 19 a0 0, vI x1] [] A
    else
    if x1 < 9 then
      if (0 : Int) ≤ x1 ∧ x1 < 9 then
        some (some (vI (gi A (a0 + 3) x1.toNat)), A)
      else none
    else
    go true 0 S SN pb_X9_whoSits (n + 1) 19 [vR 19 a0 0, vI x1] [] A := by
  obtain ⟨a0, rfl⟩ := Nat.exists_eq_succ_of_ne_zero ha0
  rfl

set_option maxRecDepth 100000 in
theorem q_X9_whoSits_19 (S SN : SX) (n : Nat) (a0 : Nat) (x1 : Int) (A : AH) (ha0 : a0 ≠ 0) : go true 0 S SN pb_X9_whoSits (n + 2) 19 [vR 19 a0 0, vI x1] [] A =
    some (some (vI (-1)), A) := by
  obtain ⟨a0, rfl⟩ := Nat.exists_eq_succ_of_ne_zero ha0
  rfl

set_option maxRecDepth 100000 in
theorem q_X9_put_0 (S SN : SX) (n : Nat) (a0 : Nat) (x1 : Int) (x2 : Int) (x3 : Int) (A : AH) (ha0 : a0 ≠ 0) : go true 3 S SN pb_X9_put (n + 1) 0 [vR 19 a0 0, vI x1, vI x2, vI x3] [] A =
    if (0 : Int) ≤ x1 ∧ x1 < 16 then
      if (0 : Int) ≤ x1 ∧ x1 < 16 then
        go true 3 S SN pb_X9_put (n + 0) 14 [vR 19 a0 0, vI x1, vI x2, vI x3] [] (wi (wi A (a0 + 1) x1.toNat x3) (a0 + 2) x1.toNat x2)
      else none
    else none := by
  obtain ⟨a0, rfl⟩ := Nat.exists_eq_succ_of_ne_zero ha0
  rfl

set_option maxRecDepth 100000 in
theorem q_X9_put_14 (S SN : SX) (n : Nat) (a0 : Nat) (x1 : Int) (x2 : Int) (x3 : Int) (A : AH) (ha0 : a0 ≠ 0) : go true 3 S SN pb_X9_put (n + 1) 14 [vR 19 a0 0, vI x1, vI x2, vI x3] [] A =
    if (0 : Int) ≤ x3 ∧ x3 < 9 then some (none, wi A (a0 + 3) x3.toNat x1) else
    none := by
  obtain ⟨a0, rfl⟩ := Nat.exists_eq_succ_of_ne_zero ha0
  rfl

set_option maxRecDepth 100000 in
theorem q_X9_leave_0 (S SN : SX) (n : Nat) (a0 : Nat) (x1 : Int) (A : AH) (ha0 : a0 ≠ 0) : go true 3 S SN pb_X9_leave (n + 1) 0 [vR 19 a0 0, vI x1, vU] [] A =
    if (0 : Int) ≤ x1 ∧ x1 < 16 then
      if (gi A (a0 + 1) x1.toNat) < 0 then
        go true 3 S SN pb_X9_leave (n + 0) 18 [vR 19 a0 0, vI x1, vI (gi A (a0 + 1) x1.toNat)] [] A
      else
      if (0 : Int) ≤ gi A (a0 + 1) x1.toNat ∧ gi A (a0 + 1) x1.toNat < 9 then
        go true 3 S SN pb_X9_leave (n + 0) 18 [vR 19 a0 0, vI x1, vI (gi A (a0 + 1) x1.toNat)] [] (wi A (a0 + 3) ((gi A (a0 + 1) x1.toNat).toNat) (-1))
      else none
    else none := by
  obtain ⟨a0, rfl⟩ := Nat.exists_eq_succ_of_ne_zero ha0
  rfl

set_option maxRecDepth 100000 in
theorem q_X9_leave_18 (S SN : SX) (n : Nat) (a0 : Nat) (x1 : Int) (x2 : Int) (A : AH) (ha0 : a0 ≠ 0) : go true 3 S SN pb_X9_leave (n + 1) 18 [vR 19 a0 0, vI x1, vI x2] [] A =
    if (0 : Int) ≤ x1 ∧ x1 < 16 then
      if (0 : Int) ≤ x1 ∧ x1 < 16 then
        go true 3 S SN pb_X9_leave (n + 0) 32 [vR 19 a0 0, vI x1, vI x2] [] (wi (wi A (a0 + 1) x1.toNat (-1)) (a0 + 2) x1.toNat 0)
      else none
    else none := by
  obtain ⟨a0, rfl⟩ := Nat.exists_eq_succ_of_ne_zero ha0
  rfl

set_option maxRecDepth 100000 in
theorem q_X9_leave_32 (S SN : SX) (n : Nat) (a0 : Nat) (x1 : Int) (x2 : Int) (A : AH) (ha0 : a0 ≠ 0) : go true 3 S SN pb_X9_leave (n + 1) 32 [vR 19 a0 0, vI x1, vI x2] [] A =
    some (none, A) := by
  obtain ⟨a0, rfl⟩ := Nat.exists_eq_succ_of_ne_zero ha0
  rfl

set_option maxRecDepth 100000 in
theorem q_X9_exchange_0 (S SN : SX) (n : Nat) (a0 : Nat) (x1 : Int) (x2 : Int) (A : AH) (ha0 : a0 ≠ 0) : go true 3 S SN pb_X9_exchange (n + 2) 0 [vR 19 a0 0, vI x1, vI x2, vU, vU] [] A =
    if (0 : Int) ≤ x1 ∧ x1 < 16 then
      cI (S 99 [vR 19 a0 0, vI x2] A) fun r2 A1 =>
      if (gi A (a0 + 1) x1.toNat) < 0 then some (none, A1) else
      if (0 : Int) ≤ x1 ∧ x1 < 16 then
        if (0 : Int) ≤ x2 ∧ x2 < 9 then
          go true 3 S SN pb_X9_exchange (n + 0) 33 [vR 19 a0 0, vI x1, vI x2, vI (gi A (a0 + 1) x1.toNat), vI r2] [] (wi (wi A1 (a0 + 1) x1.toNat x2) (a0 + 3) x2.toNat x1)
        else none
      else none
    else none := by
  obtain ⟨a0, rfl⟩ := Nat.exists_eq_succ_of_ne_zero ha0
  rfl

set_option maxRecDepth 100000 in
theorem q_X9_exchange_33 (S SN : SX) (n : Nat) (a0 : Nat) (x1 : Int) (x2 : Int) (x3 : Int) (x4 : Int) (A : AH) (ha0 : a0 ≠ 0) : go true 3 S SN pb_X9_exchange (n + 2) 33 [vR 19 a0 0, vI x1, vI x2, vI x3, vI x4] [] A =
    if (0 : Int) ≤ x3 ∧ x3 < 9 then
      if x4 = (-1) then
        some (none, wi A (a0 + 3) x3.toNat x4)
      else
      if (0 : Int) ≤ x4 ∧ x4 < 16 then
        some (none, wi (wi A (a0 + 3) x3.toNat x4) (a0 + 1) x4.toNat x3)
      else none
    else none := by
  obtain ⟨a0, rfl⟩ := Nat.exists_eq_succ_of_ne_zero ha0
  rfl

set_option maxRecDepth 100000 in
theorem q_X9_firstFree_0 (S SN : SX) (n : Nat) (a0 : Nat) (x1 : Int) (A : AH) (ha0 : a0 ≠ 0) : go true 0 S SN pb_X9_firstFree (n + 1) 0 [vR 19 a0 0, vI x1, vU] [] A =
    go true 0 S SN pb_X9_firstFree (n + 0) 2 [vR 19 a0 0, vI x1, vI 0] [] A := by
  obtain ⟨a0, rfl⟩ := Nat.exists_eq_succ_of_ne_zero ha0
  rfl

set_option maxRecDepth 100000 in
theorem q_X9_firstFree_2 (S SN : SX) (n : Nat) (a0 : Nat) (x1 : Int) (x2 : Int) (A : AH) (ha0 : a0 ≠ 0) : go true 0 S SN pb_X9_firstFree (n + 2) 2 [vR 19 a0 0, vI x1, vI x2] [] A =
    if x2 < x1 then
      cI (S 99 [vR 19 a0 0, vI x2] A) fun r2 A1 =>
      if r2 = (-1) then some (some (vI x2), A1) else
      go true 0 S SN pb_X9_firstFree (n + 0) 2 [vR 19 a0 0, vI x1, vI (w32 (x2 + 1))] [] A1
    else
    some (some (vI (-1)), A) := by
  obtain ⟨a0, rfl⟩ := Nat.exists_eq_succ_of_ne_zero ha0
  rfl

set_option maxRecDepth 100000 in
theorem q_X9_hiredOf_0 (S SN : SX) (n : Nat) (a0 : Nat) (a1 : Nat) (A : AH) (ha0 : a0 ≠ 0) (ha1 : a1 ≠ 0) : go true 0 S SN pb_X9_hiredOf (n + 1) 0 [vR 19 a0 0, vR 13 a1 0, vU, vU] [] A =
    go true 0 S SN pb_X9_hiredOf (n + 0) 4 [vR 19 a0 0, vR 13 a1 0, vI 0, vI 0] [] A := by
  obtain ⟨a0, rfl⟩ := Nat.exists_eq_succ_of_ne_zero ha0
  obtain ⟨a1, rfl⟩ := Nat.exists_eq_succ_of_ne_zero ha1
  rfl

set_option maxRecDepth 100000 in
theorem q_X9_hiredOf_4 (S SN : SX) (n : Nat) (a0 : Nat) (a1 : Nat) (x2 : Int) (x3 : Int) (A : AH) (ha0 : a0 ≠ 0) (ha1 : a1 ≠ 0) : go true 0 S SN pb_X9_hiredOf (n + 2) 4 [vR 19 a0 0, vR 13 a1 0, vI x2, vI x3] [] A =
    if x3 < (gi A a1 5) then
      cI (S 98 [vR 19 a0 0, vI (w32 (10 + x3))] A) fun r2 A1 =>
      if r2 = 0 then
        go true 0 S SN pb_X9_hiredOf (n + 0) 29 [vR 19 a0 0, vR 13 a1 0, vI x2, vI x3] [vI 0, vI x2] A1
      else
      go true 0 S SN pb_X9_hiredOf (n + 1) 29 [vR 19 a0 0, vR 13 a1 0, vI x2, vI x3] [vI 1, vI x2] A1
    else
    some (some (vI x2), A) := by
  obtain ⟨a0, rfl⟩ := Nat.exists_eq_succ_of_ne_zero ha0
  obtain ⟨a1, rfl⟩ := Nat.exists_eq_succ_of_ne_zero ha1
  rfl

set_option maxRecDepth 100000 in
theorem q_X9_hiredOf_29 (S SN : SX) (n : Nat) (a0 : Nat) (a1 : Nat) (x2 : Int) (x3 : Int) (sx0 : Int) (sx1 : Int) (A : AH) (ha0 : a0 ≠ 0) (ha1 : a1 ≠ 0) : go true 0 S SN pb_X9_hiredOf (n + 1) 29 [vR 19 a0 0, vR 13 a1 0, vI x2, vI x3] [vI sx0, vI sx1] A =
    go true 0 S SN pb_X9_hiredOf (n + 0) 4 [vR 19 a0 0, vR 13 a1 0, vI (w32 (sx1 + sx0)), vI (w32 (x3 + 1))] [] A := by
  obtain ⟨a0, rfl⟩ := Nat.exists_eq_succ_of_ne_zero ha0
  obtain ⟨a1, rfl⟩ := Nat.exists_eq_succ_of_ne_zero ha1
  rfl

set_option maxRecDepth 100000 in
theorem q_X9_keepCough_0 (S SN : SX) (n : Nat) (a0 : Nat) (x1 : Int) (x2 : Int) (A : AH) (ha0 : a0 ≠ 0) : go true 3 S SN pb_X9_keepCough (n + 1) 0 [vR 19 a0 0, vI x1, vI x2] [] A =
    if (0 : Int) ≤ (gi A a0 7).tmod 40 ∧ (gi A a0 7).tmod 40 < 40 then
      go true 3 S SN pb_X9_keepCough (n + 0) 27 [vR 19 a0 0, vI x1, vI x2] [] (wi A (a0 + 4) (((gi A a0 7).tmod 40).toNat) (w32 ((w32 ((w32 ((w32 ((gi A a0 0) * 16)) + x1)) * 1000)) + x2)))
    else none := by
  obtain ⟨a0, rfl⟩ := Nat.exists_eq_succ_of_ne_zero ha0
  rfl

set_option maxRecDepth 100000 in
theorem q_X9_keepCough_27 (S SN : SX) (n : Nat) (a0 : Nat) (x1 : Int) (x2 : Int) (A : AH) (ha0 : a0 ≠ 0) : go true 3 S SN pb_X9_keepCough (n + 1) 27 [vR 19 a0 0, vI x1, vI x2] [] A =
    go true 3 S SN pb_X9_keepCough (n + 0) 37 [vR 19 a0 0, vI x1, vI x2] [] (wi A a0 7 (w32 ((gi A a0 7) + 1))) := by
  obtain ⟨a0, rfl⟩ := Nat.exists_eq_succ_of_ne_zero ha0
  rfl

set_option maxRecDepth 100000 in
theorem q_X9_keepCough_37 (S SN : SX) (n : Nat) (a0 : Nat) (x1 : Int) (x2 : Int) (A : AH) (ha0 : a0 ≠ 0) : go true 3 S SN pb_X9_keepCough (n + 1) 37 [vR 19 a0 0, vI x1, vI x2] [] A =
    some (none, A) := by
  obtain ⟨a0, rfl⟩ := Nat.exists_eq_succ_of_ne_zero ha0
  rfl

set_option maxRecDepth 100000 in
theorem q_X9_toldCoughs_0 (S SN : SX) (n : Nat) (a0 : Nat) (A : AH) (ha0 : a0 ≠ 0) : go true 0 S SN pb_X9_toldCoughs (n + 1) 0 [vR 19 a0 0] [] A =
    cI (S 306 [vI (gi A a0 7), vI 40] A) fun r2 A1 =>
    some (some (vI r2), A1) := by
  obtain ⟨a0, rfl⟩ := Nat.exists_eq_succ_of_ne_zero ha0
  rfl

set_option maxRecDepth 100000 in
theorem q_X9_toldOf_0 (S SN : SX) (n : Nat) (a0 : Nat) (x1 : Int) (x2 : Int) (A : AH) (ha0 : a0 ≠ 0) : go true 0 S SN pb_X9_toldOf (n + 3) 0 [vR 19 a0 0, vI x1, vI x2, vU, vU] [] A =
    cI (S 106 [vR 19 a0 0] A) fun r2 A1 =>
    if x1 < 0 then
      some (some (vI (-1)), A1)
    else
    if x1 < r2 then
      if (0 : Int) ≤ (w32 ((w32 ((gi A1 a0 7) - r2)) + x1)).tmod 40 ∧ (w32 ((w32 ((gi A1 a0 7) - r2)) + x1)).tmod 40 < 40 then
        if x2 = 0 then
          some (some (vI (w32 ((w32 ((gi A1 (a0 + 4) (((w32 ((w32 ((gi A1 a0 7) - r2)) + x1)).tmod 40).toNat)).tdiv 1000)).tdiv 16))), A1)
        else
        if x2 = 1 then
          some (some (vI ((w32 ((gi A1 (a0 + 4) (((w32 ((w32 ((gi A1 a0 7) - r2)) + x1)).tmod 40).toNat)).tdiv 1000)).tmod 16)), A1)
        else
        if x2 = 2 then
          some (some (vI ((gi A1 (a0 + 4) (((w32 ((w32 ((gi A1 a0 7) - r2)) + x1)).tmod 40).toNat)).tmod 1000)), A1)
        else
        some (some (vI (-1)), A1)
      else none
    else
    some (some (vI (-1)), A1) := by
  obtain ⟨a0, rfl⟩ := Nat.exists_eq_succ_of_ne_zero ha0
  rfl
