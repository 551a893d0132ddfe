set_option maxRecDepth 100000 in
theorem q_X0_look_0 (S SN : SX) (n : Nat) (a1 : Nat) (a2 : Nat) (A : AH) (ha1 : a1 ≠ 0) (ha2 : a2 ≠ 0) : go true 3 S SN pb_X0_look (n + 1) 0 [vR 10 180 0, vR 13 a1 0, vR 19 a2 0] [] A =
    go true 3 S SN pb_X0_look (n + 0) 10 [vR 10 180 0, vR 13 a1 0, vR 19 a2 0] [] (wr (wr A 180 0 a1) 180 1 a2) := by
  obtain ⟨a1, rfl⟩ := Nat.exists_eq_succ_of_ne_zero ha1
  obtain ⟨a2, rfl⟩ := Nat.exists_eq_succ_of_ne_zero ha2
  rfl

set_option maxRecDepth 100000 in
theorem q_X0_look_10 (S SN : SX) (n : Nat) (a1 : Nat) (a2 : Nat) (A : AH) (ha1 : a1 ≠ 0) (ha2 : a2 ≠ 0) : go true 3 S SN pb_X0_look (n + 2) 10 [vR 10 180 0, vR 13 a1 0, vR 19 a2 0] [] A =
    if gr A 180 0 = 0 then none else
    if (gi A (gr A 180 0) 18) = 0 then
      go true 3 S SN pb_X0_look (n + 1) 26 [vR 10 180 0, vR 13 a1 0, vR 19 a2 0] [vI 1, vR 10 180 0] A
    else
    go true 3 S SN pb_X0_look (n + 0) 26 [vR 10 180 0, vR 13 a1 0, vR 19 a2 0] [vI 0, vR 10 180 0] A := by
  obtain ⟨a1, rfl⟩ := Nat.exists_eq_succ_of_ne_zero ha1
  obtain ⟨a2, rfl⟩ := Nat.exists_eq_succ_of_ne_zero ha2
  rfl

set_option maxRecDepth 100000 in
theorem q_X0_look_26 (S SN : SX) (n : Nat) (a1 : Nat) (a2 : Nat) (sx0 : Int) (A : AH) (ha1 : a1 ≠ 0) (ha2 : a2 ≠ 0) : go true 3 S SN pb_X0_look (n + 1) 26 [vR 10 180 0, vR 13 a1 0, vR 19 a2 0] [vI sx0, vR 10 180 0] A =
    if sx0 = 0 ∨ sx0 = 1 then
      if gr (wi A 180 2 sx0) 180 1 = 0 then none else
      if gr (wi A 180 2 sx0) 180 1 = 0 then none else
      cV (S 2 [vR 10 180 0, vI (gi (wi A 180 2 sx0) (gr (wi A 180 2 sx0) 180 1) 0), vI (gi (wi A 180 2 sx0) (gr (wi A 180 2 sx0) 180 1) 2), vI (-1)] (wi A 180 2 sx0)) fun A1 =>
      some (none, A1)
    else none := by
  obtain ⟨a1, rfl⟩ := Nat.exists_eq_succ_of_ne_zero ha1
  obtain ⟨a2, rfl⟩ := Nat.exists_eq_succ_of_ne_zero ha2
  rfl

set_option maxRecDepth 100000 in
theorem q_X0_suppose_0 (S SN : SX) (n : Nat) (x1 : Int) (x2 : Int) (x3 : Int) (A : AH)  : go true 3 S SN pb_X0_suppose (n + 1) 0 [vR 10 180 0, vI x1, vI x2, vI x3] [] A =
    go true 3 S SN pb_X0_suppose (n + 0) 10 [vR 10 180 0, vI x1, vI x2, vI x3] [] (wi (wi A 180 6 x1) 180 5 x2) := rfl

set_option maxRecDepth 100000 in
theorem q_X0_suppose_10 (S SN : SX) (n : Nat) (x1 : Int) (x2 : Int) (x3 : Int) (A : AH)  : go true 3 S SN pb_X0_suppose (n + 1) 10 [vR 10 180 0, vI x1, vI x2, vI x3] [] A =
    go true 3 S SN pb_X0_suppose (n + 0) 20 [vR 10 180 0, vI x1, vI x2, vI x3] [] (wi (wi A 180 4 x3) 180 3 0) := rfl

set_option maxRecDepth 100000 in
theorem q_X0_suppose_20 (S SN : SX) (n : Nat) (x1 : Int) (x2 : Int) (x3 : Int) (A : AH)  : go true 3 S SN pb_X0_suppose (n + 1) 20 [vR 10 180 0, vI x1, vI x2, vI x3] [] A =
    some (none, A) := rfl

set_option maxRecDepth 100000 in
theorem q_X0_tally_0 (S SN : SX) (n : Nat)  (A : AH)  : go true 3 S SN pb_X0_tally (n + 1) 0 [vR 10 180 0, vU, vU] [] A =
    if (gi A 180 2) = 0 then
      go true 3 S SN pb_X0_tally (n + 0) 25 [vR 10 180 0, vU, vU] [] A
    else
    if gr A 180 0 = 0 then none else
    cI (S 50 [vR 13 (gr A 180 0) 0, vI (gi A 180 6)] A) fun r2 A1 =>
    if r2 = 0 then
      go true 3 S SN pb_X0_tally (n + 0) 26 [vR 10 180 0, vU, vU] [vI 1] A1
    else
    go true 3 S SN pb_X0_tally (n + 0) 25 [vR 10 180 0, vU, vU] [] A1 := rfl

set_option maxRecDepth 100000 in
theorem q_X0_tally_25 (S SN : SX) (n : Nat) (u1 : AV) (u2 : AV) (A : AH)  : go true 3 S SN pb_X0_tally (n + 1) 25 [vR 10 180 0, u1, u2] [] A =
    go true 3 S SN pb_X0_tally (n + 0) 26 [vR 10 180 0, u1, u2] [vI 0] A := rfl

set_option maxRecDepth 100000 in
theorem q_X0_tally_26 (S SN : SX) (n : Nat) (u1 : AV) (u2 : AV) (sx0 : Int) (A : AH)  : go true 3 S SN pb_X0_tally (n + 1) 26 [vR 10 180 0, u1, u2] [vI sx0] A =
    if sx0 = 0 then
      go true 3 S SN pb_X0_tally (n + 0) 39 [vR 10 180 0, vI sx0, u2] [] A
    else
    if (gi A 180 3) = 0 then
      go true 3 S SN pb_X0_tally (n + 0) 39 [vR 10 180 0, vI sx0, u2] [] A
    else
    some (none, A) := rfl

set_option maxRecDepth 100000 in
theorem q_X0_tally_39 (S SN : SX) (n : Nat) (x1 : Int) (u2 : AV) (A : AH)  : go true 3 S SN pb_X0_tally (n + 1) 39 [vR 10 180 0, vI x1, u2] [] A =
    if x1 = 0 ∨ x1 = 1 then
      go true 3 S SN pb_X0_tally (n + 0) 46 [vR 10 180 0, vI x1, vI 0] [] (wi A 180 3 x1)
    else none := rfl

set_option maxRecDepth 100000 in
theorem q_X0_tally_46 (S SN : SX) (n : Nat) (x1 : Int) (x2 : Int) (A : AH)  : go true 3 S SN pb_X0_tally (n + 2) 46 [vR 10 180 0, vI x1, vI x2] [] A =
    if x2 < 16 then
      if gr A 180 1 = 0 then none else
      cI (S 98 [vR 19 (gr A 180 1) 0, vI x2] A) fun r2 A1 =>
      if r2 = 0 then
        go true 3 S SN pb_X0_tally (n + 1) 88 [vR 10 180 0, vI x1, vI x2] [] A1
      else
      cV (S 4 [vR 10 180 0, vI x2] A1) fun A3 =>
      cI (S 5 [vR 10 180 0] A3) fun r5 A4 =>
      if (0 : Int) ≤ x2 ∧ x2 < 16 then
        go true 3 S SN pb_X0_tally (n + 1) 78 [vR 10 180 0, vI x1, vI x2] [] (wi A4 182 x2.toNat r5)
      else none
    else
    some (none, A) := rfl

set_option maxRecDepth 100000 in
theorem q_X0_tally_78 (S SN : SX) (n : Nat) (x1 : Int) (x2 : Int) (A : AH)  : go true 3 S SN pb_X0_tally (n + 1) 78 [vR 10 180 0, vI x1, vI x2] [] A =
    cI (S 6 [vR 10 180 0] A) fun r2 A1 =>
    if (0 : Int) ≤ x2 ∧ x2 < 16 then
      go true 3 S SN pb_X0_tally (n + 0) 88 [vR 10 180 0, vI x1, vI x2] [] (wi A1 183 x2.toNat r2)
    else none := rfl

set_option maxRecDepth 100000 in
theorem q_X0_tally_88 (S SN : SX) (n : Nat) (x1 : Int) (x2 : Int) (A : AH)  : go true 3 S SN pb_X0_tally (n + 1) 88 [vR 10 180 0, vI x1, vI x2] [] A =
    go true 3 S SN pb_X0_tally (n + 0) 46 [vR 10 180 0, vI x1, vI (w32 (x2 + 1))] [] A := rfl

set_option maxRecDepth 100000 in
theorem q_X0_regard_0 (S SN : SX) (n : Nat) (x1 : Int) (A : AH)  : go true 3 S SN pb_X0_regard (n + 1) 0 [vR 10 180 0, vI x1, vU, vU, vU, vU] [] A =
    if gr A 180 1 = 0 then none else
    if (0 : Int) ≤ x1 ∧ x1 < 16 then
      if gr A 180 1 = 0 then none else
      if (0 : Int) ≤ x1 ∧ x1 < 16 then
        if gr A 180 1 = 0 then none else
        cI (S 99 [vR 19 (gr A 180 1) 0, vI (w32 ((gi A (gr A 180 1 + 1) x1.toNat) - 1))] A) fun r2 A1 =>
        if gr A1 180 1 = 0 then none else
        cI (S 99 [vR 19 (gr A1 180 1) 0, vI (w32 ((gi A (gr A 180 1 + 1) x1.toNat) + 1))] A1) fun r4 A3 =>
        go true 3 S SN pb_X0_regard (n + 0) 44 [vR 10 180 0, vI x1, vI (gi A (gr A 180 1 + 1) x1.toNat), vI (gi A (gr A 180 1 + 2) x1.toNat), vI r2, vI r4] [] A3
      else none
    else none := rfl

set_option maxRecDepth 100000 in
theorem q_X0_regard_44 (S SN : SX) (n : Nat) (x1 : Int) (x2 : Int) (x3 : Int) (x4 : Int) (x5 : Int) (A : AH)  : go true 3 S SN pb_X0_regard (n + 1) 44 [vR 10 180 0, vI x1, vI x2, vI x3, vI x4, vI x5] [] A =
    if gr A 180 0 = 0 then none else
    if (0 : Int) ≤ x1 ∧ x1 < 16 then
      go true 3 S SN pb_X0_regard (n + 0) 59 [vR 10 180 0, vI x1, vI x2, vI x3, vI x4, vI x5] [] (wi A 181 0 (gi A (gr A 180 0 + 2) x1.toNat))
    else none := rfl

set_option maxRecDepth 100000 in
theorem q_X0_regard_59 (S SN : SX) (n : Nat) (x1 : Int) (x2 : Int) (x3 : Int) (x4 : Int) (x5 : Int) (A : AH)  : go true 3 S SN pb_X0_regard (n + 1) 59 [vR 10 180 0, vI x1, vI x2, vI x3, vI x4, vI x5] [] A =
    if gr A 180 0 = 0 then none else
    if (0 : Int) ≤ x1 ∧ x1 < 16 then
      go true 3 S SN pb_X0_regard (n + 0) 74 [vR 10 180 0, vI x1, vI x2, vI x3, vI x4, vI x5] [] (wi A 181 1 (gi A (gr A 180 0 + 3) x1.toNat))
    else none := rfl

set_option maxRecDepth 100000 in
theorem q_X0_regard_74 (S SN : SX) (n : Nat) (x1 : Int) (x2 : Int) (x3 : Int) (x4 : Int) (x5 : Int) (A : AH)  : go true 3 S SN pb_X0_regard (n + 2) 74 [vR 10 180 0, vI x1, vI x2, vI x3, vI x4, vI x5] [] A =
    if x4 = (-1) then
      go true 3 S SN pb_X0_regard (n + 0) 90 [vR 10 180 0, vI x1, vI x2, vI x3, vI x4, vI x5] [vI 0, vI 2, vR 30 181 10] A
    else
    go true 3 S SN pb_X0_regard (n + 1) 90 [vR 10 180 0, vI x1, vI x2, vI x3, vI x4, vI x5] [vI 1, vI 2, vR 30 181 10] A := rfl

set_option maxRecDepth 100000 in
theorem q_X0_regard_90 (S SN : SX) (n : Nat) (x1 : Int) (x2 : Int) (x3 : Int) (x4 : Int) (x5 : Int) (sx0 : Int) (sx1 : Int) (A : AH)  : go true 3 S SN pb_X0_regard (n + 2) 90 [vR 10 180 0, vI x1, vI x2, vI x3, vI x4, vI x5] [vI sx0, vI sx1, vR 30 181 10] A =
    if x5 = (-1) then
      go true 3 S SN pb_X0_regard (n + 0) 101 [vR 10 180 0, vI x1, vI x2, vI x3, vI x4, vI x5] [vI 0, vI sx0, vI sx1, vR 30 181 10] A
    else
    go true 3 S SN pb_X0_regard (n + 1) 101 [vR 10 180 0, vI x1, vI x2, vI x3, vI x4, vI x5] [vI 1, vI sx0, vI sx1, vR 30 181 10] A := rfl

set_option maxRecDepth 100000 in
theorem q_X0_regard_101 (S SN : SX) (n : Nat) (x1 : Int) (x2 : Int) (x3 : Int) (x4 : Int) (x5 : Int) (sx0 : Int) (sx1 : Int) (sx2 : Int) (A : AH)  : go true 3 S SN pb_X0_regard (n + 1) 101 [vR 10 180 0, vI x1, vI x2, vI x3, vI x4, vI x5] [vI sx0, vI sx1, vI sx2, vR 30 181 10] A =
    if (0 : Int) ≤ sx2 ∧ sx2 < 10 then
      if x4 = (-1) then
        go true 3 S SN pb_X0_regard (n + 0) 131 [vR 10 180 0, vI x1, vI x2, vI x3, vI x4, vI x5] [vI 3, vR 30 181 10] (wi A 181 sx2.toNat (w32 (sx1 + sx0)))
      else
      if gr (wi A 181 sx2.toNat (w32 (sx1 + sx0))) 180 0 = 0 then none else
      cI (S 51 [vR 13 (gr (wi A 181 sx2.toNat (w32 (sx1 + sx0))) 180 0) 0, vI x1, vI x4] (wi A 181 sx2.toNat (w32 (sx1 + sx0)))) fun r2 A1 =>
      if r2 = 0 then
        go true 3 S SN pb_X0_regard (n + 0) 131 [vR 10 180 0, vI x1, vI x2, vI x3, vI x4, vI x5] [vI 3, vR 30 181 10] A1
      else
      go true 3 S SN pb_X0_regard (n + 0) 132 [vR 10 180 0, vI x1, vI x2, vI x3, vI x4, vI x5] [vI 1, vI 3, vR 30 181 10] A1
    else none := rfl

set_option maxRecDepth 100000 in
theorem q_X0_regard_131 (S SN : SX) (n : Nat) (x1 : Int) (x2 : Int) (x3 : Int) (x4 : Int) (x5 : Int) (sx0 : Int) (A : AH)  : go true 3 S SN pb_X0_regard (n + 1) 131 [vR 10 180 0, vI x1, vI x2, vI x3, vI x4, vI x5] [vI sx0, vR 30 181 10] A =
    go true 3 S SN pb_X0_regard (n + 0) 132 [vR 10 180 0, vI x1, vI x2, vI x3, vI x4, vI x5] [vI 0, vI sx0, vR 30 181 10] A := rfl

set_option maxRecDepth 100000 in
theorem q_X0_regard_132 (S SN : SX) (n : Nat) (x1 : Int) (x2 : Int) (x3 : Int) (x4 : Int) (x5 : Int) (sx0 : Int) (sx1 : Int) (A : AH)  : go true 3 S SN pb_X0_regard (n + 1) 132 [vR 10 180 0, vI x1, vI x2, vI x3, vI x4, vI x5] [vI sx0, vI sx1, vR 30 181 10] A =
    if x5 = (-1) then
      go true 3 S SN pb_X0_regard (n + 0) 155 [vR 10 180 0, vI x1, vI x2, vI x3, vI x4, vI x5] [vI sx0, vI sx1, vR 30 181 10] A
    else
    if gr A 180 0 = 0 then none else
    cI (S 51 [vR 13 (gr A 180 0) 0, vI x1, vI x5] A) fun r2 A1 =>
    if r2 = 0 then
      go true 3 S SN pb_X0_regard (n + 0) 155 [vR 10 180 0, vI x1, vI x2, vI x3, vI x4, vI x5] [vI sx0, vI sx1, vR 30 181 10] A1
    else
    go true 3 S SN pb_X0_regard (n + 0) 156 [vR 10 180 0, vI x1, vI x2, vI x3, vI x4, vI x5] [vI 1, vI sx0, vI sx1, vR 30 181 10] A1 := rfl

set_option maxRecDepth 100000 in
theorem q_X0_regard_155 (S SN : SX) (n : Nat) (x1 : Int) (x2 : Int) (x3 : Int) (x4 : Int) (x5 : Int) (sx0 : Int) (sx1 : Int) (A : AH)  : go true 3 S SN pb_X0_regard (n + 1) 155 [vR 10 180 0, vI x1, vI x2, vI x3, vI x4, vI x5] [vI sx0, vI sx1, vR 30 181 10] A =
    go true 3 S SN pb_X0_regard (n + 0) 156 [vR 10 180 0, vI x1, vI x2, vI x3, vI x4, vI x5] [vI 0, vI sx0, vI sx1, vR 30 181 10] A := rfl

set_option maxRecDepth 100000 in
theorem q_X0_regard_156 (S SN : SX) (n : Nat) (x1 : Int) (x2 : Int) (x3 : Int) (x4 : Int) (x5 : Int) (sx0 : Int) (sx1 : Int) (sx2 : Int) (A : AH)  : go true 3 S SN pb_X0_regard (n + 2) 156 [vR 10 180 0, vI x1, vI x2, vI x3, vI x4, vI x5] [vI sx0, vI sx1, vI sx2, vR 30 181 10] A =
    if (0 : Int) ≤ sx2 ∧ sx2 < 10 then
      if x3 = 2 then
        go true 3 S SN pb_X0_regard (n + 1) 182 [vR 10 180 0, vI x1, vI x2, vI x3, vI x4, vI x5] [vI 4, vR 30 181 10] (wi A 181 sx2.toNat (w32 (sx1 + sx0)))
      else
      if gr (wi A 181 sx2.toNat (w32 (sx1 + sx0))) 180 0 = 0 then none else
      cI (S 46 [vR 13 (gr (wi A 181 sx2.toNat (w32 (sx1 + sx0))) 180 0) 0, vI (gi (wi A 181 sx2.toNat (w32 (sx1 + sx0))) 180 5)] (wi A 181 sx2.toNat (w32 (sx1 + sx0)))) fun r2 A1 =>
      if r2 = 0 then
        go true 3 S SN pb_X0_regard (n + 1) 182 [vR 10 180 0, vI x1, vI x2, vI x3, vI x4, vI x5] [vI 4, vR 30 181 10] A1
      else
      if gr A1 180 0 = 0 then none else
      if (0 : Int) ≤ w32 ((w32 (2 * (gi A1 180 5))) + x3) ∧ w32 ((w32 (2 * (gi A1 180 5))) + x3) < 8 then
        go true 3 S SN pb_X0_regard (n + 0) 202 [vR 10 180 0, vI x1, vI x2, vI x3, vI x4, vI x5] [vI (gi A1 (gr A1 180 0 + 7) ((w32 ((w32 (2 * (gi A1 180 5))) + x3)).toNat)), vI 4, vR 30 181 10] A1
      else none
    else none := rfl

set_option maxRecDepth 100000 in
theorem q_X0_regard_182 (S SN : SX) (n : Nat) (x1 : Int) (x2 : Int) (x3 : Int) (x4 : Int) (x5 : Int) (sx0 : Int) (A : AH)  : go true 3 S SN pb_X0_regard (n + 1) 182 [vR 10 180 0, vI x1, vI x2, vI x3, vI x4, vI x5] [vI sx0, vR 30 181 10] A =
    go true 3 S SN pb_X0_regard (n + 0) 202 [vR 10 180 0, vI x1, vI x2, vI x3, vI x4, vI x5] [vI 0, vI sx0, vR 30 181 10] A := rfl

set_option maxRecDepth 100000 in
theorem q_X0_regard_202 (S SN : SX) (n : Nat) (x1 : Int) (x2 : Int) (x3 : Int) (x4 : Int) (x5 : Int) (sx0 : Int) (sx1 : Int) (A : AH)  : go true 3 S SN pb_X0_regard (n + 1) 202 [vR 10 180 0, vI x1, vI x2, vI x3, vI x4, vI x5] [vI sx0, vI sx1, vR 30 181 10] A =
    if (0 : Int) ≤ sx1 ∧ sx1 < 10 then
      if gr (wi A 181 sx1.toNat sx0) 180 0 = 0 then none else
      cI (S 49 [vR 13 (gr (wi A 181 sx1.toNat sx0) 180 0) 0, vI x2, vI (gi (wi A 181 sx1.toNat sx0) 180 6), vI (gi (wi A 181 sx1.toNat sx0) 180 4)] (wi A 181 sx1.toNat sx0)) fun r2 A1 =>
      go true 3 S SN pb_X0_regard (n + 0) 225 [vR 10 180 0, vI x1, vI x2, vI x3, vI x4, vI x5] [] (wi A1 181 5 r2)
    else none := rfl

set_option maxRecDepth 100000 in
theorem q_X0_regard_225 (S SN : SX) (n : Nat) (x1 : Int) (x2 : Int) (x3 : Int) (x4 : Int) (x5 : Int) (A : AH)  : go true 3 S SN pb_X0_regard (n + 1) 225 [vR 10 180 0, vI x1, vI x2, vI x3, vI x4, vI x5] [] A =
    go true 3 S SN pb_X0_regard (n + 0) 244 [vR 10 180 0, vI x1, vI x2, vI x3, vI x4, vI x5] [] (wi (wi A 181 6 x2) 181 7 (gi (wi A 181 6 x2) 180 6)) := rfl

set_option maxRecDepth 100000 in
theorem q_X0_regard_244 (S SN : SX) (n : Nat) (x1 : Int) (x2 : Int) (x3 : Int) (x4 : Int) (x5 : Int) (A : AH)  : go true 3 S SN pb_X0_regard (n + 1) 244 [vR 10 180 0, vI x1, vI x2, vI x3, vI x4, vI x5] [] A =
    go true 3 S SN pb_X0_regard (n + 0) 260 [vR 10 180 0, vI x1, vI x2, vI x3, vI x4, vI x5] [] (wi (wi A 181 8 x1) 181 9 x3) := rfl

set_option maxRecDepth 100000 in
theorem q_X0_regard_260 (S SN : SX) (n : Nat) (x1 : Int) (x2 : Int) (x3 : Int) (x4 : Int) (x5 : Int) (A : AH)  : go true 3 S SN pb_X0_regard (n + 1) 260 [vR 10 180 0, vI x1, vI x2, vI x3, vI x4, vI x5] [] A =
    some (none, A) := rfl

set_option maxRecDepth 100000 in
theorem q_X0_weightNow_0 (S SN : SX) (n : Nat)  (A : AH)  : go true 0 S SN pb_X0_weightNow (n + 3) 0 [vR 10 180 0] [] A =
    if gr A 180 0 = 0 then none else
    if gr A (gr A 180 0) 16 = 0 then
      some (some (vI (gi A 181 0)), A)
    else
    if gr A 180 0 = 0 then none else
    if gr A 180 0 = 0 then none else
    if gr A (gr A 180 0) 16 = 0 then none else
    cI (S 11 [vR 10 180 0, vR 30 (gr A (gr A 180 0) 16) (ln A (gr A (gr A 180 0) 16)), vI (ln A (gr A (gr A 180 0) 16) : Int)] A) fun r2 A1 =>
    cI (S 147 [vL r2, vI 0, vI 999] A1) fun r4 A3 =>
    some (some (vI r4), A3) := rfl

set_option maxRecDepth 100000 in
theorem q_X0_coughNow_0 (S SN : SX) (n : Nat)  (A : AH)  : go true 0 S SN pb_X0_coughNow (n + 3) 0 [vR 10 180 0] [] A =
    if gr A 180 0 = 0 then none else
    if gr A (gr A 180 0) 17 = 0 then
      some (some (vI 5), A)
    else
    if gr A 180 0 = 0 then none else
    if gr A 180 0 = 0 then none else
    if gr A (gr A 180 0) 17 = 0 then none else
    cI (S 11 [vR 10 180 0, vR 30 (gr A (gr A 180 0) 17) (ln A (gr A (gr A 180 0) 17)), vI (ln A (gr A (gr A 180 0) 17) : Int)] A) fun r2 A1 =>
    cI (S 147 [vL r2, vI 0, vI 999] A1) fun r4 A3 =>
    some (some (vI r4), A3) := rfl

set_option maxRecDepth 100000 in
theorem q_X0_swing_0 (S SN : SX) (n : Nat) (x1 : Int) (A : AH)  : go true 0 S SN pb_X0_swing (n + 1) 0 [vR 10 180 0, vI x1, vU, vU, vU] [] A =
    go true 0 S SN pb_X0_swing (n + 0) 4 [vR 10 180 0, vI x1, vI 0, vI 0, vU] [] A := rfl

set_option maxRecDepth 100000 in
theorem q_X0_swing_4 (S SN : SX) (n : Nat) (x1 : Int) (x2 : Int) (x3 : Int) (u4 : AV) (A : AH)  : go true 0 S SN pb_X0_swing (n + 2) 4 [vR 10 180 0, vI x1, vI x2, vI x3, u4] [] A =
    if x3 < 16 then
      if gr A 180 1 = 0 then none else
      cI (S 98 [vR 19 (gr A 180 1) 0, vI x3] A) fun r2 A1 =>
      if r2 = 0 then
        go true 0 S SN pb_X0_swing (n + 1) 58 [vR 10 180 0, vI x1, vI x2, vI x3, u4] [] A1
      else
      if (band (bshr x1 x3) 1) = 0 then
        if (0 : Int) ≤ x3 ∧ x3 < 16 then
          go true 0 S SN pb_X0_swing (n + 0) 45 [vR 10 180 0, vI x1, vI x2, vI x3, u4] [vI (gi A1 182 x3.toNat)] A1
        else none
      else
      if (0 : Int) ≤ x3 ∧ x3 < 16 then
        go true 0 S SN pb_X0_swing (n + 1) 45 [vR 10 180 0, vI x1, vI x2, vI x3, u4] [vI (w32 (-(gi A1 183 x3.toNat)))] A1
      else none
    else
    some (some (vI x2), A) := rfl

set_option maxRecDepth 100000 in
theorem q_X0_swing_45 (S SN : SX) (n : Nat) (x1 : Int) (x2 : Int) (x3 : Int) (u4 : AV) (sx0 : Int) (A : AH)  : go true 0 S SN pb_X0_swing (n + 1) 45 [vR 10 180 0, vI x1, vI x2, vI x3, u4] [vI sx0] A =
    cI (S 9 [vR 10 180 0, vI x3] A) fun r2 A1 =>
    go true 0 S SN pb_X0_swing (n + 0) 58 [vR 10 180 0, vI x1, vI (w32 (x2 + (w32 (r2 * sx0)))), vI x3, vI sx0] [] A1 := rfl

set_option maxRecDepth 100000 in
theorem q_X0_swing_58 (S SN : SX) (n : Nat) (x1 : Int) (x2 : Int) (x3 : Int) (u4 : AV) (A : AH)  : go true 0 S SN pb_X0_swing (n + 1) 58 [vR 10 180 0, vI x1, vI x2, vI x3, u4] [] A =
    go true 0 S SN pb_X0_swing (n + 0) 4 [vR 10 180 0, vI x1, vI x2, vI (w32 (x3 + 1)), u4] [] A := rfl

set_option maxRecDepth 100000 in
theorem q_X0_meanSwing_0 (S SN : SX) (n : Nat)  (A : AH)  : go true 0 S SN pb_X0_meanSwing (n + 1) 0 [vR 10 180 0, vU, vU, vU] [] A =
    go true 0 S SN pb_X0_meanSwing (n + 0) 4 [vR 10 180 0, vI 0, vI 0, vU] [] A := rfl

set_option maxRecDepth 100000 in
theorem q_X0_meanSwing_4 (S SN : SX) (n : Nat) (x1 : Int) (x2 : Int) (u3 : AV) (A : AH)  : go true 0 S SN pb_X0_meanSwing (n + 2) 4 [vR 10 180 0, vI x1, vI x2, u3] [] A =
    if x2 < 16 then
      if gr A 180 1 = 0 then none else
      cI (S 98 [vR 19 (gr A 180 1) 0, vI x2] A) fun r2 A1 =>
      if r2 = 0 then
        go true 0 S SN pb_X0_meanSwing (n + 1) 60 [vR 10 180 0, vI x1, vI x2, u3] [] A1
      else
      if gr A1 180 0 = 0 then none else
      if (0 : Int) ≤ x2 ∧ x2 < 16 then
        cI (S 9 [vR 10 180 0, vI x2] A1) fun r4 A3 =>
        if (0 : Int) ≤ x2 ∧ x2 < 16 then
          if (0 : Int) ≤ x2 ∧ x2 < 16 then
            go true 0 S SN pb_X0_meanSwing (n + 1) 60 [vR 10 180 0, vI (w32 (x1 + (w32 (r4 * (w32 ((w32 ((w32 (100 - (gi A1 (gr A1 180 0 + 3) x2.toNat))) * (gi A3 182 x2.toNat))) - (w32 ((gi A1 (gr A1 180 0 + 3) x2.toNat) * (gi A3 183 x2.toNat))))))))), vI x2, vI (gi A1 (gr A1 180 0 + 3) x2.toNat)] [] A3
          else none
        else none
      else none
    else
    some (some (vI x1), A) := rfl

set_option maxRecDepth 100000 in
theorem q_X0_meanSwing_60 (S SN : SX) (n : Nat) (x1 : Int) (x2 : Int) (u3 : AV) (A : AH)  : go true 0 S SN pb_X0_meanSwing (n + 1) 60 [vR 10 180 0, vI x1, vI x2, u3] [] A =
    go true 0 S SN pb_X0_meanSwing (n + 0) 4 [vR 10 180 0, vI x1, vI (w32 (x2 + 1)), u3] [] A := rfl

set_option maxRecDepth 100000 in
theorem q_X0_sideOf_0 (S SN : SX) (n : Nat) (x1 : Int) (A : AH)  : go true 0 S SN pb_X0_sideOf (n + 4) 0 [vR 10 180 0, vI x1, vU] [] A =
    if gr A 180 1 = 0 then none else
    if (0 : Int) ≤ x1 ∧ x1 < 16 then
      if (gi A (gr A 180 1 + 2) x1.toNat) = 0 then
        some (some (vI 1), A)
      else
      if (gi A (gr A 180 1 + 2) x1.toNat) = 1 then
        some (some (vI (-1)), A)
      else
      some (some (vI 0), A)
    else none := rfl

set_option maxRecDepth 100000 in
theorem q_X0_meanOf_0 (S SN : SX) (n : Nat) (x1 : Int) (A : AH)  : go true 1 S SN pb_X0_meanOf (n + 1) 0 [vR 10 180 0, vI x1, vU, vU, vU, vU] [] A =
    if gr A 180 1 = 0 then none else
    go true 1 S SN pb_X0_meanOf (n + 0) 21 [vR 10 180 0, vI x1, vI (gi A 180 6), vL (w64 (100 * (gi A (gr A 180 1) 1))), vS, vI 0] [] A := rfl

set_option maxRecDepth 100000 in
theorem q_X0_meanOf_21 (S SN : SX) (n : Nat) (x1 : Int) (x2 : Int) (y3 : Int) (x5 : Int) (A : AH)  : go true 1 S SN pb_X0_meanOf (n + 2) 21 [vR 10 180 0, vI x1, vI x2, vL y3, vS, vI x5] [] A =
    if x5 < x1 then
      go true 1 S SN pb_X0_meanOf (n + 1) 35 [vR 10 180 0, vI x1, vI x2, vL y3, vS, vI x5] [] (wi A 180 6 (w32 (x2 + x5)))
    else
    some (some (vL y3), wi A 180 6 x2) := rfl

set_option maxRecDepth 100000 in
theorem q_X0_meanOf_35 (S SN : SX) (n : Nat) (x1 : Int) (x2 : Int) (y3 : Int) (x5 : Int) (A : AH)  : go true 1 S SN pb_X0_meanOf (n + 1) 35 [vR 10 180 0, vI x1, vI x2, vL y3, vS, vI x5] [] A =
    cV (S 3 [vR 10 180 0] A) fun A1 =>
    cI (S 8 [vR 10 180 0] A1) fun r3 A2 =>
    go true 1 S SN pb_X0_meanOf (n + 0) 21 [vR 10 180 0, vI x1, vI x2, vL (w64 (y3 + r3)), vS, vI (w32 (x5 + 1))] [] A2 := rfl

set_option maxRecDepth 100000 in
theorem q_X0_run_0 (S SN : SX) (n : Nat) (a1 : Nat) (n1 : Nat) (x2 : Int) (A : AH) (ha1 : a1 ≠ 0) : go true 0 S SN pb_X0_run (n + 1) 0 [vR 10 180 0, vR 30 a1 n1, vI x2, vU, vU, vU] [] A =
    go true 0 S SN pb_X0_run (n + 0) 7 [vR 10 180 0, vR 30 a1 n1, vI x2, vI 0, vU, vU] [] (wi A 180 11 0) := by
  obtain ⟨a1, rfl⟩ := Nat.exists_eq_succ_of_ne_zero ha1
  rfl

set_option maxRecDepth 100000 in
theorem q_X0_run_7 (S SN : SX) (n : Nat) (a1 : Nat) (n1 : Nat) (x2 : Int) (x3 : Int) (u4 : AV) (u5 : AV) (A : AH) (ha1 : a1 ≠ 0) : go true 0 S SN pb_X0_run (n + 2) 7 [vR 10 180 0, vR 30 a1 n1, vI x2, vI x3, u4, u5] [] A =
    if x3 < x2 then
      if x3 < (n1 : Int) then
        if (0 : Int) ≤ x3 ∧ x3 < (n1 : Int) then
          if (gi A a1 x3.toNat) < 100 then
            if (gi A a1 x3.toNat) < 0 then
              go true 0 S SN pb_X0_run (n + 0) 68 [vR 10 180 0, vR 30 a1 n1, vI x2, vI x3, vI (gi A a1 x3.toNat), u5] [] A
            else
            if (gi A a1 x3.toNat) < 10 then
              if (0 : Int) ≤ gi A a1 x3.toNat ∧ gi A a1 x3.toNat < 10 then
                cV (S 12 [vR 10 180 0, vI (gi A 181 ((gi A a1 x3.toNat).toNat))] A) fun A2 =>
                go true 0 S SN pb_X0_run (n + 0) 146 [vR 10 180 0, vR 30 a1 n1, vI x2, vI x3, vI (gi A a1 x3.toNat), u5] [] A2
              else none
            else
            go true 0 S SN pb_X0_run (n + 0) 68 [vR 10 180 0, vR 30 a1 n1, vI x2, vI x3, vI (gi A a1 x3.toNat), u5] [] A
          else
          cV (S 12 [vR 10 180 0, vI (w32 ((gi A a1 x3.toNat) - 100))] A) fun A1 =>
          go true 0 S SN pb_X0_run (n + 1) 146 [vR 10 180 0, vR 30 a1 n1, vI x2, vI x3, vI (gi A a1 x3.toNat), u5] [] A1
        else none
      else
      go true 0 S SN pb_X0_run (n + 1) 152 [vR 10 180 0, vR 30 a1 n1, vI x2, vI x3, u4, u5] [] A
    else
    go true 0 S SN pb_X0_run (n + 1) 152 [vR 10 180 0, vR 30 a1 n1, vI x2, vI x3, u4, u5] [] A := by
  obtain ⟨a1, rfl⟩ := Nat.exists_eq_succ_of_ne_zero ha1
  rfl

set_option maxRecDepth 100000 in
theorem q_X0_run_68 (S SN : SX) (n : Nat) (a1 : Nat) (n1 : Nat) (x2 : Int) (x3 : Int) (x4 : Int) (u5 : AV) (A : AH) (ha1 : a1 ≠ 0) : go true 0 S SN pb_X0_run (n + 3) 68 [vR 10 180 0, vR 30 a1 n1, vI x2, vI x3, vI x4, u5] [] A =
    if x4 = 21 then
      cI (S 13 [vR 10 180 0] A) fun r2 A1 =>
      cV (S 12 [vR 10 180 0, vI (w32 (1 - r2))] A1) fun A3 =>
      go true 0 S SN pb_X0_run (n + 2) 146 [vR 10 180 0, vR 30 a1 n1, vI x2, vI x3, vI x4, u5] [] A3
    else
    if x4 = 22 then
      cI (S 13 [vR 10 180 0] A) fun r5 A4 =>
      cI (S 14 [vR 10 180 0, vI r5] A4) fun r7 A6 =>
      if r7 = 0 then
        go true 0 S SN pb_X0_run (n + 0) 112 [vR 10 180 0, vR 30 a1 n1, vI x2, vI x3, vI x4, u5] [vI 0, vR 10 180 0] A6
      else
      go true 0 S SN pb_X0_run (n + 1) 112 [vR 10 180 0, vR 30 a1 n1, vI x2, vI x3, vI x4, u5] [vI 1, vR 10 180 0] A6
    else
    cI (S 13 [vR 10 180 0] A) fun r9 A8 =>
    cI (S 13 [vR 10 180 0] A8) fun r11 A10 =>
    cL (S 15 [vI x4, vI r11, vI r9] A10) fun r13 A12 =>
    cI (S 147 [vL r13, vI (-1000000), vI 1000000] A12) fun r15 A14 =>
    cV (S 12 [vR 10 180 0, vI r15] A14) fun A16 =>
    go true 0 S SN pb_X0_run (n + 0) 146 [vR 10 180 0, vR 30 a1 n1, vI x2, vI x3, vI x4, vI r9] [] A16 := by
  obtain ⟨a1, rfl⟩ := Nat.exists_eq_succ_of_ne_zero ha1
  rfl

set_option maxRecDepth 100000 in
theorem q_X0_run_112 (S SN : SX) (n : Nat) (a1 : Nat) (n1 : Nat) (x2 : Int) (x3 : Int) (x4 : Int) (u5 : AV) (sx0 : Int) (A : AH) (ha1 : a1 ≠ 0) : go true 0 S SN pb_X0_run (n + 1) 112 [vR 10 180 0, vR 30 a1 n1, vI x2, vI x3, vI x4, u5] [vI sx0, vR 10 180 0] A =
    cV (S 12 [vR 10 180 0, vI sx0] A) fun A1 =>
    go true 0 S SN pb_X0_run (n + 0) 146 [vR 10 180 0, vR 30 a1 n1, vI x2, vI x3, vI x4, u5] [] A1 := by
  obtain ⟨a1, rfl⟩ := Nat.exists_eq_succ_of_ne_zero ha1
  rfl

set_option maxRecDepth 100000 in
theorem q_X0_run_146 (S SN : SX) (n : Nat) (a1 : Nat) (n1 : Nat) (x2 : Int) (x3 : Int) (x4 : Int) (u5 : AV) (A : AH) (ha1 : a1 ≠ 0) : go true 0 S SN pb_X0_run (n + 1) 146 [vR 10 180 0, vR 30 a1 n1, vI x2, vI x3, vI x4, u5] [] A =
    go true 0 S SN pb_X0_run (n + 0) 7 [vR 10 180 0, vR 30 a1 n1, vI x2, vI (w32 (x3 + 1)), vI x4, u5] [] A := by
  obtain ⟨a1, rfl⟩ := Nat.exists_eq_succ_of_ne_zero ha1
  rfl

set_option maxRecDepth 100000 in
theorem q_X0_run_152 (S SN : SX) (n : Nat) (a1 : Nat) (n1 : Nat) (x2 : Int) (x3 : Int) (u4 : AV) (u5 : AV) (A : AH) (ha1 : a1 ≠ 0) : go true 0 S SN pb_X0_run (n + 1) 152 [vR 10 180 0, vR 30 a1 n1, vI x2, vI x3, u4, u5] [] A =
    cI (S 13 [vR 10 180 0] A) fun r2 A1 =>
    some (some (vI r2), A1) := by
  obtain ⟨a1, rfl⟩ := Nat.exists_eq_succ_of_ne_zero ha1
  rfl

set_option maxRecDepth 100000 in
theorem q_X0_push_0 (S SN : SX) (n : Nat) (x1 : Int) (A : AH)  : go true 3 S SN pb_X0_push (n + 2) 0 [vR 10 180 0, vI x1] [] A =
    if (gi A 180 11) < 64 then
      if (0 : Int) ≤ gi A 180 11 ∧ gi A 180 11 < 64 then
        go true 3 S SN pb_X0_push (n + 1) 19 [vR 10 180 0, vI x1] [] (wi A 184 ((gi A 180 11).toNat) x1)
      else none
    else
    some (none, A) := rfl

set_option maxRecDepth 100000 in
theorem q_X0_push_19 (S SN : SX) (n : Nat) (x1 : Int) (A : AH)  : go true 3 S SN pb_X0_push (n + 2) 19 [vR 10 180 0, vI x1] [] A =
    some (none, wi A 180 11 (w32 ((gi A 180 11) + 1))) := rfl

set_option maxRecDepth 100000 in
theorem q_X0_pop_0 (S SN : SX) (n : Nat)  (A : AH)  : go true 0 S SN pb_X0_pop (n + 2) 0 [vR 10 180 0] [] A =
    if (gi A 180 11) = 0 then some (some (vI 0), A) else
    go true 0 S SN pb_X0_pop (n + 0) 19 [vR 10 180 0] [] (wi A 180 11 (w32 ((gi A 180 11) - 1))) := rfl

set_option maxRecDepth 100000 in
theorem q_X0_pop_19 (S SN : SX) (n : Nat)  (A : AH)  : go true 0 S SN pb_X0_pop (n + 1) 19 [vR 10 180 0] [] A =
    if (0 : Int) ≤ gi A 180 11 ∧ gi A 180 11 < 64 then some (some (vI (gi A 184 ((gi A 180 11).toNat))), A) else
    none := rfl

set_option maxRecDepth 100000 in
theorem q_X0_isBeside_0 (S SN : SX) (n : Nat) (x1 : Int) (A : AH)  : go true 2 S SN pb_X0_isBeside (n + 2) 0 [vR 10 180 0, vI x1] [] A =
    if gr A 180 1 = 0 then none else
    cI (S 98 [vR 19 (gr A 180 1) 0, vI x1] A) fun r2 A1 =>
    if r2 = 0 then
      go true 2 S SN pb_X0_isBeside (n + 1) 39 [vR 10 180 0, vI x1] [] A1
    else
    if gr A1 180 1 = 0 then none else
    if (0 : Int) ≤ x1 ∧ x1 < 16 then
      cI (S 303 [vI (w32 ((gi A1 (gr A1 180 1 + 1) x1.toNat) - (gi A1 181 6)))] A1) fun r4 A3 =>
      if r4 = 1 then
        some (some (vI 1), A3)
      else
      go true 2 S SN pb_X0_isBeside (n + 1) 39 [vR 10 180 0, vI x1] [] A3
    else none := rfl

set_option maxRecDepth 100000 in
theorem q_X0_isBeside_39 (S SN : SX) (n : Nat) (x1 : Int) (A : AH)  : go true 2 S SN pb_X0_isBeside (n + 2) 39 [vR 10 180 0, vI x1] [] A =
    some (some (vI 0), A) := rfl

set_option maxRecDepth 100000 in
theorem q_X0_reckon_0 (S SN : SX) (n : Nat) (x0 : Int) (x1 : Int) (x2 : Int) (A : AH)  : go true 1 S SN pb_X0_reckon (n + 4) 0 [vI x0, vI x1, vI x2] [] A =
    if x0 = 10 then
      some (some (vL (w32 (x1 + x2))), A)
    else
    if x0 = 11 then
      some (some (vL (w32 (x1 - x2))), A)
    else
    if x0 = 12 then
      some (some (vL (w64 (x1 * x2))), A)
    else
    if x0 = 13 then
      if x2 = 0 then
        some (some (vL 0), A)
      else
      cI (S 302 [vI x1, vI x2] A) fun r2 A1 =>
      some (some (vL r2), A1)
    else
    if x0 = 14 then
      cI (S 306 [vI x1, vI x2] A) fun r4 A3 =>
      some (some (vL r4), A3)
    else
    if x0 = 15 then
      cI (S 304 [vI x1, vI x2] A) fun r6 A5 =>
      some (some (vL r6), A5)
    else
    if x0 = 16 then
      if x1 < x2 then
        some (some (vL 1), A)
      else
      some (some (vL 0), A)
    else
    if x0 = 17 then
      if x2 < x1 then
        some (some (vL 1), A)
      else
      some (some (vL 0), A)
    else
    if x0 = 18 then
      if x1 = x2 then
        some (some (vL 1), A)
      else
      some (some (vL 0), A)
    else
    if x0 = 19 then
      some (some (vL (band x1 x2)), A)
    else
    if x0 = 20 then
      some (some (vL (bor x1 x2)), A)
    else
    some (some (vL 0), A) := rfl

set_option maxRecDepth 100000 in
theorem q_X1_itching_0 (S SN : SX) (n : Nat) (a0 : Nat) (A : AH) (ha0 : a0 ≠ 0) : go true 0 S SN pb_X1_itching (n + 1) 0 [vR 13 a0 0, vU, vU] [] A =
    go true 0 S SN pb_X1_itching (n + 0) 4 [vR 13 a0 0, vI 0, vI 0] [] A := by
  obtain ⟨a0, rfl⟩ := Nat.exists_eq_succ_of_ne_zero ha0
  rfl

set_option maxRecDepth 100000 in
theorem q_X1_itching_4 (S SN : SX) (n : Nat) (a0 : Nat) (x1 : Int) (x2 : Int) (A : AH) (ha0 : a0 ≠ 0) : go true 0 S SN pb_X1_itching (n + 2) 4 [vR 13 a0 0, vI x1, vI x2] [] A =
    if x2 < (gi A a0 2) then
      if (0 : Int) ≤ x2 ∧ x2 < 16 then
        if 0 < (gi A (a0 + 3) x2.toNat) then
          go true 0 S SN pb_X1_itching (n + 1) 29 [vR 13 a0 0, vI x1, vI x2] [vI (bshl 1 x2), vI x1] A
        else
        go true 0 S SN pb_X1_itching (n + 0) 29 [vR 13 a0 0, vI x1, vI x2] [vI 0, vI x1] A
      else none
    else
    some (some (vI x1), A) := by
  obtain ⟨a0, rfl⟩ := Nat.exists_eq_succ_of_ne_zero ha0
  rfl

set_option maxRecDepth 100000 in
theorem q_X1_itching_29 (S SN : SX) (n : Nat) (a0 : Nat) (x1 : Int) (x2 : Int) (sx0 : Int) (sx1 : Int) (A : AH) (ha0 : a0 ≠ 0) : go true 0 S SN pb_X1_itching (n + 1) 29 [vR 13 a0 0, vI x1, vI x2] [vI sx0, vI sx1] A =
    go true 0 S SN pb_X1_itching (n + 0) 4 [vR 13 a0 0, vI (bor sx1 sx0), vI (w32 (x2 + 1))] [] A := by
  obtain ⟨a0, rfl⟩ := Nat.exists_eq_succ_of_ne_zero ha0
  rfl

set_option maxRecDepth 100000 in
theorem q_X1_oddsOf_0 (S SN : SX) (n : Nat) (a1 : Nat) (a2 : Nat) (x3 : Int) (A : AH) (ha1 : a1 ≠ 0) (ha2 : a2 ≠ 0) : go true 0 S SN pb_X1_oddsOf (n + 1) 0 [vR 11 185 0, vR 13 a1 0, vR 19 a2 0, vI x3, vU, vU, vU, vU, vU, vU] [] A =
    cI (S 17 [vR 13 a1 0] A) fun r2 A1 =>
    cV (S 1 [vR 10 180 0, vR 13 a1 0, vR 19 a2 0] A1) fun A3 =>
    cV (S 3 [vR 10 180 0] A3) fun A4 =>
    go true 0 S SN pb_X1_oddsOf (n + 0) 28 [vR 11 185 0, vR 13 a1 0, vR 19 a2 0, vI x3, vI r2, vL 0, vS, vI 0, vU, vU] [] A4 := by
  obtain ⟨a1, rfl⟩ := Nat.exists_eq_succ_of_ne_zero ha1
  obtain ⟨a2, rfl⟩ := Nat.exists_eq_succ_of_ne_zero ha2
  rfl

set_option maxRecDepth 100000 in
theorem q_X1_oddsOf_28 (S SN : SX) (n : Nat) (a1 : Nat) (a2 : Nat) (x3 : Int) (x4 : Int) (y5 : Int) (x7 : Int) (u8 : AV) (u9 : AV) (A : AH) (ha1 : a1 ≠ 0) (ha2 : a2 ≠ 0) : go true 0 S SN pb_X1_oddsOf (n + 3) 28 [vR 11 185 0, vR 13 a1 0, vR 19 a2 0, vI x3, vI x4, vL y5, vS, vI x7, u8, u9] [] A =
    if x7 < 256 then
      if (band x7 (bxor x4 (-1))) = 0 then
        cI (S 7 [vR 10 180 0, vI x7] A) fun r2 A1 =>
        if 0 < r2 then
          go true 0 S SN pb_X1_oddsOf (n + 2) 76 [vR 11 185 0, vR 13 a1 0, vR 19 a2 0, vI x3, vI x4, vL y5, vS, vI x7, vI r2, u9] [vI 0] A1
        else
        if r2 < 0 then
          go true 0 S SN pb_X1_oddsOf (n + 1) 76 [vR 11 185 0, vR 13 a1 0, vR 19 a2 0, vI x3, vI x4, vL y5, vS, vI x7, vI r2, u9] [vI 1] A1
        else
        go true 0 S SN pb_X1_oddsOf (n + 0) 76 [vR 11 185 0, vR 13 a1 0, vR 19 a2 0, vI x3, vI x4, vL y5, vS, vI x7, vI r2, u9] [vI 2] A1
      else
      go true 0 S SN pb_X1_oddsOf (n + 2) 99 [vR 11 185 0, vR 13 a1 0, vR 19 a2 0, vI x3, vI x4, vL y5, vS, vI x7, u8, u9] [] A
    else
    some (some (vI (w32 (w64 (y5.tdiv 10000000000)))), A) := by
  obtain ⟨a1, rfl⟩ := Nat.exists_eq_succ_of_ne_zero ha1
  obtain ⟨a2, rfl⟩ := Nat.exists_eq_succ_of_ne_zero ha2
  rfl

set_option maxRecDepth 100000 in
theorem q_X1_oddsOf_76 (S SN : SX) (n : Nat) (a1 : Nat) (a2 : Nat) (x3 : Int) (x4 : Int) (y5 : Int) (x7 : Int) (x8 : Int) (u9 : AV) (sx0 : Int) (A : AH) (ha1 : a1 ≠ 0) (ha2 : a2 ≠ 0) : go true 0 S SN pb_X1_oddsOf (n + 2) 76 [vR 11 185 0, vR 13 a1 0, vR 19 a2 0, vI x3, vI x4, vL y5, vS, vI x7, vI x8, u9] [vI sx0] A =
    if sx0 = x3 then
      cL (S 19 [vR 13 a1 0, vI x7] A) fun r2 A1 =>
      go true 0 S SN pb_X1_oddsOf (n + 1) 96 [vR 11 185 0, vR 13 a1 0, vR 19 a2 0, vI x3, vI x4, vL y5, vS, vI x7, vI x8, vI sx0] [vL r2, vL y5] A1
    else
    go true 0 S SN pb_X1_oddsOf (n + 0) 96 [vR 11 185 0, vR 13 a1 0, vR 19 a2 0, vI x3, vI x4, vL y5, vS, vI x7, vI x8, vI sx0] [vL 0, vL y5] A := by
  obtain ⟨a1, rfl⟩ := Nat.exists_eq_succ_of_ne_zero ha1
  obtain ⟨a2, rfl⟩ := Nat.exists_eq_succ_of_ne_zero ha2
  rfl

set_option maxRecDepth 100000 in
theorem q_X1_oddsOf_96 (S SN : SX) (n : Nat) (a1 : Nat) (a2 : Nat) (x3 : Int) (x4 : Int) (y5 : Int) (x7 : Int) (x8 : Int) (x9 : Int) (sy0 : Int) (sy1 : Int) (A : AH) (ha1 : a1 ≠ 0) (ha2 : a2 ≠ 0) : go true 0 S SN pb_X1_oddsOf (n + 1) 96 [vR 11 185 0, vR 13 a1 0, vR 19 a2 0, vI x3, vI x4, vL y5, vS, vI x7, vI x8, vI x9] [vL sy0, vL sy1] A =
    go true 0 S SN pb_X1_oddsOf (n + 0) 99 [vR 11 185 0, vR 13 a1 0, vR 19 a2 0, vI x3, vI x4, vL (w64 (sy1 + sy0)), vS, vI x7, vI x8, vI x9] [] A := by
  obtain ⟨a1, rfl⟩ := Nat.exists_eq_succ_of_ne_zero ha1
  obtain ⟨a2, rfl⟩ := Nat.exists_eq_succ_of_ne_zero ha2
  rfl

set_option maxRecDepth 100000 in
theorem q_X1_oddsOf_99 (S SN : SX) (n : Nat) (a1 : Nat) (a2 : Nat) (x3 : Int) (x4 : Int) (y5 : Int) (x7 : Int) (u8 : AV) (u9 : AV) (A : AH) (ha1 : a1 ≠ 0) (ha2 : a2 ≠ 0) : go true 0 S SN pb_X1_oddsOf (n + 1) 99 [vR 11 185 0, vR 13 a1 0, vR 19 a2 0, vI x3, vI x4, vL y5, vS, vI x7, u8, u9] [] A =
    go true 0 S SN pb_X1_oddsOf (n + 0) 28 [vR 11 185 0, vR 13 a1 0, vR 19 a2 0, vI x3, vI x4, vL y5, vS, vI (w32 (x7 + 1)), u8, u9] [] A := by
  obtain ⟨a1, rfl⟩ := Nat.exists_eq_succ_of_ne_zero ha1
  obtain ⟨a2, rfl⟩ := Nat.exists_eq_succ_of_ne_zero ha2
  rfl

set_option maxRecDepth 100000 in
theorem q_X1_chancesOf_0 (S SN : SX) (n : Nat) (a0 : Nat) (x1 : Int) (A : AH) (ha0 : a0 ≠ 0) : go true 1 S SN pb_X1_chancesOf (n + 1) 0 [vR 13 a0 0, vI x1, vU, vU, vU] [] A =
    go true 1 S SN pb_X1_chancesOf (n + 0) 5 [vR 13 a0 0, vI x1, vL 1, vS, vI 0] [] A := by
  obtain ⟨a0, rfl⟩ := Nat.exists_eq_succ_of_ne_zero ha0
  rfl

set_option maxRecDepth 100000 in
theorem q_X1_chancesOf_5 (S SN : SX) (n : Nat) (a0 : Nat) (x1 : Int) (y2 : Int) (x4 : Int) (A : AH) (ha0 : a0 ≠ 0) : go true 1 S SN pb_X1_chancesOf (n + 2) 5 [vR 13 a0 0, vI x1, vL y2, vS, vI x4] [] A =
    if x4 < 8 then
      if (band (bshr x1 x4) 1) = 0 then
        if (0 : Int) ≤ x4 ∧ x4 < 16 then
          go true 1 S SN pb_X1_chancesOf (n + 0) 44 [vR 13 a0 0, vI x1, vL y2, vS, vI x4] [vL (w32 (100 - (gi A (a0 + 3) x4.toNat))), vL y2] A
        else none
      else
      if (0 : Int) ≤ x4 ∧ x4 < 16 then
        go true 1 S SN pb_X1_chancesOf (n + 1) 44 [vR 13 a0 0, vI x1, vL y2, vS, vI x4] [vL (gi A (a0 + 3) x4.toNat), vL y2] A
      else none
    else
    some (some (vL y2), A) := by
  obtain ⟨a0, rfl⟩ := Nat.exists_eq_succ_of_ne_zero ha0
  rfl

set_option maxRecDepth 100000 in
theorem q_X1_chancesOf_44 (S SN : SX) (n : Nat) (a0 : Nat) (x1 : Int) (y2 : Int) (x4 : Int) (sy0 : Int) (sy1 : Int) (A : AH) (ha0 : a0 ≠ 0) : go true 1 S SN pb_X1_chancesOf (n + 1) 44 [vR 13 a0 0, vI x1, vL y2, vS, vI x4] [vL sy0, vL sy1] A =
    go true 1 S SN pb_X1_chancesOf (n + 0) 5 [vR 13 a0 0, vI x1, vL (w64 (sy1 * sy0)), vS, vI (w32 (x4 + 1))] [] A := by
  obtain ⟨a0, rfl⟩ := Nat.exists_eq_succ_of_ne_zero ha0
  rfl

set_option maxRecDepth 100000 in
theorem q_X1_hired_0 (S SN : SX) (n : Nat) (a1 : Nat) (a2 : Nat) (x3 : Int) (x4 : Int) (x5 : Int) (A : AH) (ha1 : a1 ≠ 0) (ha2 : a2 ≠ 0) : go true 0 S SN pb_X1_hired (n + 1) 0 [vR 11 185 0, vR 13 a1 0, vR 19 a2 0, vI x3, vI x4, vI x5, vU, vU, vU, vU] [] A =
    go true 0 S SN pb_X1_hired (n + 0) 6 [vR 11 185 0, vR 13 a1 0, vR 19 a2 0, vI x3, vI x4, vI x5, vI (-1), vI 0, vU, vU] [] A := by
  obtain ⟨a1, rfl⟩ := Nat.exists_eq_succ_of_ne_zero ha1
  obtain ⟨a2, rfl⟩ := Nat.exists_eq_succ_of_ne_zero ha2
  rfl

set_option maxRecDepth 100000 in
theorem q_X1_hired_6 (S SN : SX) (n : Nat) (a1 : Nat) (a2 : Nat) (x3 : Int) (x4 : Int) (x5 : Int) (x6 : Int) (x7 : Int) (u8 : AV) (u9 : AV) (A : AH) (ha1 : a1 ≠ 0) (ha2 : a2 ≠ 0) : go true 0 S SN pb_X1_hired (n + 2) 6 [vR 11 185 0, vR 13 a1 0, vR 19 a2 0, vI x3, vI x4, vI x5, vI x6, vI x7, u8, u9] [] A =
    if x7 < (bshl 1 (gi A a1 5)) then
      if x6 = (-1) then
        go true 0 S SN pb_X1_hired (n + 1) 34 [vR 11 185 0, vR 13 a1 0, vR 19 a2 0, vI x3, vI x4, vI x5, vI x6, vI x7, u8, u9] [] A
      else
      cI (S 21 [vR 13 a1 0, vI x7, vI x6] A) fun r2 A1 =>
      if r2 = 0 then
        go true 0 S SN pb_X1_hired (n + 1) 97 [vR 11 185 0, vR 13 a1 0, vR 19 a2 0, vI x3, vI x4, vI x5, vI x6, vI x7, u8, u9] [] A1
      else
      go true 0 S SN pb_X1_hired (n + 1) 34 [vR 11 185 0, vR 13 a1 0, vR 19 a2 0, vI x3, vI x4, vI x5, vI x6, vI x7, u8, u9] [] A1
    else
    some (some (vI x6), A) := by
  obtain ⟨a1, rfl⟩ := Nat.exists_eq_succ_of_ne_zero ha1
  obtain ⟨a2, rfl⟩ := Nat.exists_eq_succ_of_ne_zero ha2
  rfl

set_option maxRecDepth 100000 in
theorem q_X1_hired_34 (S SN : SX) (n : Nat) (a1 : Nat) (a2 : Nat) (x3 : Int) (x4 : Int) (x5 : Int) (x6 : Int) (x7 : Int) (u8 : AV) (u9 : AV) (A : AH) (ha1 : a1 ≠ 0) (ha2 : a2 ≠ 0) : go true 0 S SN pb_X1_hired (n + 2) 34 [vR 11 185 0, vR 13 a1 0, vR 19 a2 0, vI x3, vI x4, vI x5, vI x6, vI x7, u8, u9] [] A =
    cI (S 22 [vR 11 185 0, vR 13 a1 0, vR 19 a2 0, vI x3, vI x7] A) fun r2 A1 =>
    if r2 = 0 then
      go true 0 S SN pb_X1_hired (n + 1) 97 [vR 11 185 0, vR 13 a1 0, vR 19 a2 0, vI x3, vI x4, vI x5, vI x6, vI x7, u8, u9] [] A1
    else
    cV (S 1 [vR 10 180 0, vR 13 a1 0, vR 19 73 0] A1) fun A3 =>
    cL (S 10 [vR 10 180 0, vI x4] A3) fun r5 A4 =>
    if x3 = 0 then
      go true 0 S SN pb_X1_hired (n + 1) 81 [vR 11 185 0, vR 13 a1 0, vR 19 a2 0, vI x3, vI x4, vI x5, vI x6, vI x7, vL r5, vS] [vL r5] A4
    else
    go true 0 S SN pb_X1_hired (n + 0) 81 [vR 11 185 0, vR 13 a1 0, vR 19 a2 0, vI x3, vI x4, vI x5, vI x6, vI x7, vL r5, vS] [vL (w64 (-r5))] A4 := by
  obtain ⟨a1, rfl⟩ := Nat.exists_eq_succ_of_ne_zero ha1
  obtain ⟨a2, rfl⟩ := Nat.exists_eq_succ_of_ne_zero ha2
  rfl

set_option maxRecDepth 100000 in
theorem q_X1_hired_81 (S SN : SX) (n : Nat) (a1 : Nat) (a2 : Nat) (x3 : Int) (x4 : Int) (x5 : Int) (x6 : Int) (x7 : Int) (y8 : Int) (sy0 : Int) (A : AH) (ha1 : a1 ≠ 0) (ha2 : a2 ≠ 0) : go true 0 S SN pb_X1_hired (n + 2) 81 [vR 11 185 0, vR 13 a1 0, vR 19 a2 0, vI x3, vI x4, vI x5, vI x6, vI x7, vL y8, vS] [vL sy0] A =
    if (lcp sy0 x5) < 0 then
      go true 0 S SN pb_X1_hired (n + 0) 95 [vR 11 185 0, vR 13 a1 0, vR 19 a2 0, vI x3, vI x4, vI x5, vI x6, vI x7, vL y8, vS] [vI x6] A
    else
    go true 0 S SN pb_X1_hired (n + 1) 95 [vR 11 185 0, vR 13 a1 0, vR 19 a2 0, vI x3, vI x4, vI x5, vI x6, vI x7, vL y8, vS] [vI x7] A := by
  obtain ⟨a1, rfl⟩ := Nat.exists_eq_succ_of_ne_zero ha1
  obtain ⟨a2, rfl⟩ := Nat.exists_eq_succ_of_ne_zero ha2
  rfl

set_option maxRecDepth 100000 in
theorem q_X1_hired_95 (S SN : SX) (n : Nat) (a1 : Nat) (a2 : Nat) (x3 : Int) (x4 : Int) (x5 : Int) (x6 : Int) (x7 : Int) (y8 : Int) (sx0 : Int) (A : AH) (ha1 : a1 ≠ 0) (ha2 : a2 ≠ 0) : go true 0 S SN pb_X1_hired (n + 1) 95 [vR 11 185 0, vR 13 a1 0, vR 19 a2 0, vI x3, vI x4, vI x5, vI x6, vI x7, vL y8, vS] [vI sx0] A =
    go true 0 S SN pb_X1_hired (n + 0) 97 [vR 11 185 0, vR 13 a1 0, vR 19 a2 0, vI x3, vI x4, vI x5, vI sx0, vI x7, vL y8, vS] [] A := by
  obtain ⟨a1, rfl⟩ := Nat.exists_eq_succ_of_ne_zero ha1
  obtain ⟨a2, rfl⟩ := Nat.exists_eq_succ_of_ne_zero ha2
  rfl

set_option maxRecDepth 100000 in
theorem q_X1_hired_97 (S SN : SX) (n : Nat) (a1 : Nat) (a2 : Nat) (x3 : Int) (x4 : Int) (x5 : Int) (x6 : Int) (x7 : Int) (u8 : AV) (u9 : AV) (A : AH) (ha1 : a1 ≠ 0) (ha2 : a2 ≠ 0) : go true 0 S SN pb_X1_hired (n + 1) 97 [vR 11 185 0, vR 13 a1 0, vR 19 a2 0, vI x3, vI x4, vI x5, vI x6, vI x7, u8, u9] [] A =
    go true 0 S SN pb_X1_hired (n + 0) 6 [vR 11 185 0, vR 13 a1 0, vR 19 a2 0, vI x3, vI x4, vI x5, vI x6, vI (w32 (x7 + 1)), u8, u9] [] A := by
  obtain ⟨a1, rfl⟩ := Nat.exists_eq_succ_of_ne_zero ha1
  obtain ⟨a2, rfl⟩ := Nat.exists_eq_succ_of_ne_zero ha2
  rfl

set_option maxRecDepth 100000 in
theorem q_X1_isCheaper_0 (S SN : SX) (n : Nat) (a0 : Nat) (x1 : Int) (x2 : Int) (A : AH) (ha0 : a0 ≠ 0) : go true 2 S SN pb_X1_isCheaper (n + 1) 0 [vR 13 a0 0, vI x1, vI x2, vU] [] A =
    cI (S 301 [vI x2] A) fun r2 A1 =>
    cI (S 301 [vI x1] A1) fun r4 A3 =>
    if 0 < (w32 (r2 - r4)) then
      go true 2 S SN pb_X1_isCheaper (n + 0) 31 [vR 13 a0 0, vI x1, vI x2, vI (w32 (r2 - r4))] [] A3
    else
    if (w32 (r2 - r4)) = 0 then
      cI (S 52 [vR 13 a0 0, vI x1] A3) fun r6 A5 =>
      cI (S 52 [vR 13 a0 0, vI x2] A5) fun r8 A7 =>
      if r6 < r8 then
        go true 2 S SN pb_X1_isCheaper (n + 0) 31 [vR 13 a0 0, vI x1, vI x2, vI (w32 (r2 - r4))] [] A7
      else
      go true 2 S SN pb_X1_isCheaper (n + 0) 35 [vR 13 a0 0, vI x1, vI x2, vI (w32 (r2 - r4))] [] A7
    else
    go true 2 S SN pb_X1_isCheaper (n + 0) 35 [vR 13 a0 0, vI x1, vI x2, vI (w32 (r2 - r4))] [] A3 := by
  obtain ⟨a0, rfl⟩ := Nat.exists_eq_succ_of_ne_zero ha0
  rfl

set_option maxRecDepth 100000 in
theorem q_X1_isCheaper_31 (S SN : SX) (n : Nat) (a0 : Nat) (x1 : Int) (x2 : Int) (x3 : Int) (A : AH) (ha0 : a0 ≠ 0) : go true 2 S SN pb_X1_isCheaper (n + 2) 31 [vR 13 a0 0, vI x1, vI x2, vI x3] [] A =
    some (some (vI 1), A) := by
  obtain ⟨a0, rfl⟩ := Nat.exists_eq_succ_of_ne_zero ha0
  rfl

set_option maxRecDepth 100000 in
theorem q_X1_isCheaper_35 (S SN : SX) (n : Nat) (a0 : Nat) (x1 : Int) (x2 : Int) (x3 : Int) (A : AH) (ha0 : a0 ≠ 0) : go true 2 S SN pb_X1_isCheaper (n + 2) 35 [vR 13 a0 0, vI x1, vI x2, vI x3] [] A =
    some (some (vI 0), A) := by
  obtain ⟨a0, rfl⟩ := Nat.exists_eq_succ_of_ne_zero ha0
  rfl

set_option maxRecDepth 100000 in
theorem q_X1_seatAside_0 (S SN : SX) (n : Nat) (a1 : Nat) (a2 : Nat) (x3 : Int) (x4 : Int) (A : AH) (ha1 : a1 ≠ 0) (ha2 : a2 ≠ 0) : go true 2 S SN pb_X1_seatAside (n + 1) 0 [vR 11 185 0, vR 13 a1 0, vR 19 a2 0, vI x3, vI x4, vU, vU] [] A =
    cV (S 97 [vR 19 73 0, vR 19 a2 0] A) fun A1 =>
    go true 2 S SN pb_X1_seatAside (n + 0) 11 [vR 11 185 0, vR 13 a1 0, vR 19 a2 0, vI x3, vI x4, vI 0, vU] [] A1 := by
  obtain ⟨a1, rfl⟩ := Nat.exists_eq_succ_of_ne_zero ha1
  obtain ⟨a2, rfl⟩ := Nat.exists_eq_succ_of_ne_zero ha2
  rfl

set_option maxRecDepth 100000 in
theorem q_X1_seatAside_11 (S SN : SX) (n : Nat) (a1 : Nat) (a2 : Nat) (x3 : Int) (x4 : Int) (x5 : Int) (u6 : AV) (A : AH) (ha1 : a1 ≠ 0) (ha2 : a2 ≠ 0) : go true 2 S SN pb_X1_seatAside (n + 2) 11 [vR 11 185 0, vR 13 a1 0, vR 19 a2 0, vI x3, vI x4, vI x5, u6] [] A =
    if x5 < (gi A a1 5) then
      if (band (bshr x4 x5) 1) = 0 then
        go true 2 S SN pb_X1_seatAside (n + 1) 78 [vR 11 185 0, vR 13 a1 0, vR 19 a2 0, vI x3, vI x4, vI x5, u6] [] A
      else
      cI (S 103 [vR 19 73 0, vI (gi A a1 1)] A) fun r2 A1 =>
      if r2 = (-1) then
        some (some (vI 0), A1)
      else
      cI (S 98 [vR 19 a2 0, vI (w32 (10 + x5))] A1) fun r4 A3 =>
      if r4 = 0 then
        cV (S 100 [vR 19 73 0, vI (w32 (10 + x5)), vI x3, vI r2] A3) fun A5 =>
        go true 2 S SN pb_X1_seatAside (n + 0) 78 [vR 11 185 0, vR 13 a1 0, vR 19 a2 0, vI x3, vI x4, vI x5, vI r2] [] A5
      else
      some (some (vI 0), A3)
    else
    some (some (vI 1), A) := by
  obtain ⟨a1, rfl⟩ := Nat.exists_eq_succ_of_ne_zero ha1
  obtain ⟨a2, rfl⟩ := Nat.exists_eq_succ_of_ne_zero ha2
  rfl

set_option maxRecDepth 100000 in
theorem q_X1_seatAside_78 (S SN : SX) (n : Nat) (a1 : Nat) (a2 : Nat) (x3 : Int) (x4 : Int) (x5 : Int) (u6 : AV) (A : AH) (ha1 : a1 ≠ 0) (ha2 : a2 ≠ 0) : go true 2 S SN pb_X1_seatAside (n + 1) 78 [vR 11 185 0, vR 13 a1 0, vR 19 a2 0, vI x3, vI x4, vI x5, u6] [] A =
    go true 2 S SN pb_X1_seatAside (n + 0) 11 [vR 11 185 0, vR 13 a1 0, vR 19 a2 0, vI x3, vI x4, vI (w32 (x5 + 1)), u6] [] A := by
  obtain ⟨a1, rfl⟩ := Nat.exists_eq_succ_of_ne_zero ha1
  obtain ⟨a2, rfl⟩ := Nat.exists_eq_succ_of_ne_zero ha2
  rfl

set_option maxRecDepth 100000 in
theorem q_X1_changed_0 (S SN : SX) (n : Nat) (a1 : Nat) (a2 : Nat) (x3 : Int) (A : AH) (ha1 : a1 ≠ 0) (ha2 : a2 ≠ 0) : go true 0 S SN pb_X1_changed (n + 1) 0 [vR 11 185 0, vR 13 a1 0, vR 19 a2 0, vI x3, vU, vU, vU, vU, vU, vU] [] A =
    cV (S 97 [vR 19 73 0, vR 19 a2 0] A) fun A1 =>
    cV (S 1 [vR 10 180 0, vR 13 a1 0, vR 19 73 0] A1) fun A2 =>
    cI (S 24 [vR 11 185 0, vI x3] A2) fun r4 A3 =>
    go true 0 S SN pb_X1_changed (n + 0) 33 [vR 11 185 0, vR 13 a1 0, vR 19 a2 0, vI x3, vI (-1), vI r4, vI 0, vU, vU, vU] [] A3 := by
  obtain ⟨a1, rfl⟩ := Nat.exists_eq_succ_of_ne_zero ha1
  obtain ⟨a2, rfl⟩ := Nat.exists_eq_succ_of_ne_zero ha2
  rfl

set_option maxRecDepth 100000 in
theorem q_X1_changed_33 (S SN : SX) (n : Nat) (a1 : Nat) (a2 : Nat) (x3 : Int) (x4 : Int) (x5 : Int) (x6 : Int) (u7 : AV) (u8 : AV) (u9 : AV) (A : AH) (ha1 : a1 ≠ 0) (ha2 : a2 ≠ 0) : go true 0 S SN pb_X1_changed (n + 2) 33 [vR 11 185 0, vR 13 a1 0, vR 19 a2 0, vI x3, vI x4, vI x5, vI x6, u7, u8, u9] [] A =
    if x6 < 16 then
      go true 0 S SN pb_X1_changed (n + 1) 46 [vR 11 185 0, vR 13 a1 0, vR 19 a2 0, vI x3, vI x4, vI x5, vI x6, vI (w32 (x6 + 1)), u8, u9] [] A
    else
    some (some (vI x4), A) := by
  obtain ⟨a1, rfl⟩ := Nat.exists_eq_succ_of_ne_zero ha1
  obtain ⟨a2, rfl⟩ := Nat.exists_eq_succ_of_ne_zero ha2
  rfl

set_option maxRecDepth 100000 in
theorem q_X1_changed_46 (S SN : SX) (n : Nat) (a1 : Nat) (a2 : Nat) (x3 : Int) (x4 : Int) (x5 : Int) (x6 : Int) (x7 : Int) (u8 : AV) (u9 : AV) (A : AH) (ha1 : a1 ≠ 0) (ha2 : a2 ≠ 0) : go true 0 S SN pb_X1_changed (n + 2) 46 [vR 11 185 0, vR 13 a1 0, vR 19 a2 0, vI x3, vI x4, vI x5, vI x6, vI x7, u8, u9] [] A =
    if x7 < 16 then
      cI (S 98 [vR 19 73 0, vI x6] A) fun r2 A1 =>
      if r2 = 0 then
        go true 0 S SN pb_X1_changed (n + 1) 157 [vR 11 185 0, vR 13 a1 0, vR 19 a2 0, vI x3, vI x4, vI x5, vI x6, vI x7, u8, u9] [] A1
      else
      cI (S 98 [vR 19 73 0, vI x7] A1) fun r4 A3 =>
      if r4 = 0 then
        go true 0 S SN pb_X1_changed (n + 1) 157 [vR 11 185 0, vR 13 a1 0, vR 19 a2 0, vI x3, vI x4, vI x5, vI x6, vI x7, u8, u9] [] A3
      else
      if (0 : Int) ≤ x6 ∧ x6 < 16 then
        if (0 : Int) ≤ x7 ∧ x7 < 16 then
          cV (S 102 [vR 19 73 0, vI x6, vI (gi A3 (73 + 1) x7.toNat)] A3) fun A5 =>
          go true 0 S SN pb_X1_changed (n + 1) 108 [vR 11 185 0, vR 13 a1 0, vR 19 a2 0, vI x3, vI x4, vI x5, vI x6, vI x7, vI (gi A3 (73 + 1) x6.toNat), u9] [] A5
        else none
      else none
    else
    go true 0 S SN pb_X1_changed (n + 0) 33 [vR 11 185 0, vR 13 a1 0, vR 19 a2 0, vI x3, vI x4, vI x5, vI (w32 (x6 + 1)), vI x7, u8, u9] [] A := by
  obtain ⟨a1, rfl⟩ := Nat.exists_eq_succ_of_ne_zero ha1
  obtain ⟨a2, rfl⟩ := Nat.exists_eq_succ_of_ne_zero ha2
  rfl

set_option maxRecDepth 100000 in
theorem q_X1_changed_108 (S SN : SX) (n : Nat) (a1 : Nat) (a2 : Nat) (x3 : Int) (x4 : Int) (x5 : Int) (x6 : Int) (x7 : Int) (x8 : Int) (u9 : AV) (A : AH) (ha1 : a1 ≠ 0) (ha2 : a2 ≠ 0) : go true 0 S SN pb_X1_changed (n + 2) 108 [vR 11 185 0, vR 13 a1 0, vR 19 a2 0, vI x3, vI x4, vI x5, vI x6, vI x7, vI x8, u9] [] A =
    cI (S 24 [vR 11 185 0, vI x3] A) fun r2 A1 =>
    cV (S 102 [vR 19 73 0, vI x6, vI x8] A1) fun A3 =>
    if x5 < r2 then
      go true 0 S SN pb_X1_changed (n + 1) 146 [vR 11 185 0, vR 13 a1 0, vR 19 a2 0, vI x3, vI x4, vI x5, vI x6, vI x7, vI x8, vI r2] [vI (w32 ((w32 (x6 * 16)) + x7))] A3
    else
    go true 0 S SN pb_X1_changed (n + 0) 146 [vR 11 185 0, vR 13 a1 0, vR 19 a2 0, vI x3, vI x4, vI x5, vI x6, vI x7, vI x8, vI r2] [vI x4] A3 := by
  obtain ⟨a1, rfl⟩ := Nat.exists_eq_succ_of_ne_zero ha1
  obtain ⟨a2, rfl⟩ := Nat.exists_eq_succ_of_ne_zero ha2
  rfl

set_option maxRecDepth 100000 in
theorem q_X1_changed_146 (S SN : SX) (n : Nat) (a1 : Nat) (a2 : Nat) (x3 : Int) (x4 : Int) (x5 : Int) (x6 : Int) (x7 : Int) (x8 : Int) (x9 : Int) (sx0 : Int) (A : AH) (ha1 : a1 ≠ 0) (ha2 : a2 ≠ 0) : go true 0 S SN pb_X1_changed (n + 1) 146 [vR 11 185 0, vR 13 a1 0, vR 19 a2 0, vI x3, vI x4, vI x5, vI x6, vI x7, vI x8, vI x9] [vI sx0] A =
    cI (S 304 [vI x5, vI x9] A) fun r2 A1 =>
    go true 0 S SN pb_X1_changed (n + 0) 157 [vR 11 185 0, vR 13 a1 0, vR 19 a2 0, vI x3, vI sx0, vI r2, vI x6, vI x7, vI x8, vI x9] [] A1 := by
  obtain ⟨a1, rfl⟩ := Nat.exists_eq_succ_of_ne_zero ha1
  obtain ⟨a2, rfl⟩ := Nat.exists_eq_succ_of_ne_zero ha2
  rfl

set_option maxRecDepth 100000 in
theorem q_X1_changed_157 (S SN : SX) (n : Nat) (a1 : Nat) (a2 : Nat) (x3 : Int) (x4 : Int) (x5 : Int) (x6 : Int) (x7 : Int) (u8 : AV) (u9 : AV) (A : AH) (ha1 : a1 ≠ 0) (ha2 : a2 ≠ 0) : go true 0 S SN pb_X1_changed (n + 1) 157 [vR 11 185 0, vR 13 a1 0, vR 19 a2 0, vI x3, vI x4, vI x5, vI x6, vI x7, u8, u9] [] A =
    go true 0 S SN pb_X1_changed (n + 0) 46 [vR 11 185 0, vR 13 a1 0, vR 19 a2 0, vI x3, vI x4, vI x5, vI x6, vI (w32 (x7 + 1)), u8, u9] [] A := by
  obtain ⟨a1, rfl⟩ := Nat.exists_eq_succ_of_ne_zero ha1
  obtain ⟨a2, rfl⟩ := Nat.exists_eq_succ_of_ne_zero ha2
  rfl

set_option maxRecDepth 100000 in
theorem q_X1_swingFor_0 (S SN : SX) (n : Nat) (x1 : Int) (A : AH)  : go true 0 S SN pb_X1_swingFor (n + 3) 0 [vR 11 185 0, vI x1] [] A =
    cV (S 2 [vR 10 180 0, vI (gi A 73 0), vI (gi A 73 2), vI (-1)] A) fun A1 =>
    cV (S 3 [vR 10 180 0] A1) fun A2 =>
    if x1 = 0 then
      cI (S 8 [vR 10 180 0] A2) fun r4 A3 =>
      some (some (vI r4), A3)
    else
    cI (S 8 [vR 10 180 0] A2) fun r6 A5 =>
    some (some (vI (w32 (-r6))), A5) := rfl

set_option maxRecDepth 100000 in
theorem q_X1_pointOfTurn_0 (S SN : SX) (n : Nat) (a1 : Nat) (a2 : Nat) (x3 : Int) (A : AH) (ha1 : a1 ≠ 0) (ha2 : a2 ≠ 0) : go true 0 S SN pb_X1_pointOfTurn (n + 1) 0 [vR 11 185 0, vR 13 a1 0, vR 19 a2 0, vI x3, vU, vU, vU, vU] [] A =
    cV (S 1 [vR 10 180 0, vR 13 a1 0, vR 19 a2 0] A) fun A1 =>
    go true 0 S SN pb_X1_pointOfTurn (n + 0) 18 [vR 11 185 0, vR 13 a1 0, vR 19 a2 0, vI x3, vI 0, vI 0, vI 0, vU] [] A1 := by
  obtain ⟨a1, rfl⟩ := Nat.exists_eq_succ_of_ne_zero ha1
  obtain ⟨a2, rfl⟩ := Nat.exists_eq_succ_of_ne_zero ha2
  rfl

set_option maxRecDepth 100000 in
theorem q_X1_pointOfTurn_18 (S SN : SX) (n : Nat) (a1 : Nat) (a2 : Nat) (x3 : Int) (x4 : Int) (x5 : Int) (x6 : Int) (u7 : AV) (A : AH) (ha1 : a1 ≠ 0) (ha2 : a2 ≠ 0) : go true 0 S SN pb_X1_pointOfTurn (n + 2) 18 [vR 11 185 0, vR 13 a1 0, vR 19 a2 0, vI x3, vI x4, vI x5, vI x6, u7] [] A =
    if x6 < (gi A a1 3) then
      cV (S 2 [vR 10 180 0, vI (w32 ((gi A a2 0) + x3)), vI x6, vI (-1)] A) fun A1 =>
      cV (S 3 [vR 10 180 0] A1) fun A2 =>
      if (x3.tmod 2) = 0 then
        cI (S 8 [vR 10 180 0] A2) fun r4 A3 =>
        go true 0 S SN pb_X1_pointOfTurn (n + 1) 74 [vR 11 185 0, vR 13 a1 0, vR 19 a2 0, vI x3, vI x4, vI x5, vI x6, u7] [vI r4] A3
      else
      cI (S 8 [vR 10 180 0] A2) fun r6 A5 =>
      go true 0 S SN pb_X1_pointOfTurn (n + 0) 74 [vR 11 185 0, vR 13 a1 0, vR 19 a2 0, vI x3, vI x4, vI x5, vI x6, u7] [vI (w32 (-r6))] A5
    else
    some (some (vI x4), A) := by
  obtain ⟨a1, rfl⟩ := Nat.exists_eq_succ_of_ne_zero ha1
  obtain ⟨a2, rfl⟩ := Nat.exists_eq_succ_of_ne_zero ha2
  rfl

set_option maxRecDepth 100000 in
theorem q_X1_pointOfTurn_74 (S SN : SX) (n : Nat) (a1 : Nat) (a2 : Nat) (x3 : Int) (x4 : Int) (x5 : Int) (x6 : Int) (u7 : AV) (sx0 : Int) (A : AH) (ha1 : a1 ≠ 0) (ha2 : a2 ≠ 0) : go true 0 S SN pb_X1_pointOfTurn (n + 1) 74 [vR 11 185 0, vR 13 a1 0, vR 19 a2 0, vI x3, vI x4, vI x5, vI x6, u7] [vI sx0] A =
    if x6 = 0 then
      go true 0 S SN pb_X1_pointOfTurn (n + 0) 88 [vR 11 185 0, vR 13 a1 0, vR 19 a2 0, vI x3, vI x4, vI x5, vI x6, vI sx0] [] A
    else
    if x5 < sx0 then
      go true 0 S SN pb_X1_pointOfTurn (n + 0) 88 [vR 11 185 0, vR 13 a1 0, vR 19 a2 0, vI x3, vI x4, vI x5, vI x6, vI sx0] [] A
    else
    go true 0 S SN pb_X1_pointOfTurn (n + 0) 96 [vR 11 185 0, vR 13 a1 0, vR 19 a2 0, vI x3, vI x4, vI x5, vI x6, vI sx0] [] A := by
  obtain ⟨a1, rfl⟩ := Nat.exists_eq_succ_of_ne_zero ha1
  obtain ⟨a2, rfl⟩ := Nat.exists_eq_succ_of_ne_zero ha2
  rfl

set_option maxRecDepth 100000 in
theorem q_X1_pointOfTurn_88 (S SN : SX) (n : Nat) (a1 : Nat) (a2 : Nat) (x3 : Int) (x4 : Int) (x5 : Int) (x6 : Int) (x7 : Int) (A : AH) (ha1 : a1 ≠ 0) (ha2 : a2 ≠ 0) : go true 0 S SN pb_X1_pointOfTurn (n + 1) 88 [vR 11 185 0, vR 13 a1 0, vR 19 a2 0, vI x3, vI x4, vI x5, vI x6, vI x7] [] A =
    go true 0 S SN pb_X1_pointOfTurn (n + 0) 96 [vR 11 185 0, vR 13 a1 0, vR 19 a2 0, vI x3, vI x6, vI x7, vI x6, vI x7] [] A := by
  obtain ⟨a1, rfl⟩ := Nat.exists_eq_succ_of_ne_zero ha1
  obtain ⟨a2, rfl⟩ := Nat.exists_eq_succ_of_ne_zero ha2
  rfl

set_option maxRecDepth 100000 in
theorem q_X1_pointOfTurn_96 (S SN : SX) (n : Nat) (a1 : Nat) (a2 : Nat) (x3 : Int) (x4 : Int) (x5 : Int) (x6 : Int) (x7 : Int) (A : AH) (ha1 : a1 ≠ 0) (ha2 : a2 ≠ 0) : go true 0 S SN pb_X1_pointOfTurn (n + 1) 96 [vR 11 185 0, vR 13 a1 0, vR 19 a2 0, vI x3, vI x4, vI x5, vI x6, vI x7] [] A =
    go true 0 S SN pb_X1_pointOfTurn (n + 0) 18 [vR 11 185 0, vR 13 a1 0, vR 19 a2 0, vI x3, vI x4, vI x5, vI (w32 (x6 + 1)), vI x7] [] A := by
  obtain ⟨a1, rfl⟩ := Nat.exists_eq_succ_of_ne_zero ha1
  obtain ⟨a2, rfl⟩ := Nat.exists_eq_succ_of_ne_zero ha2
  rfl

set_option maxRecDepth 100000 in
theorem q_X1_meanByTurns_0 (S SN : SX) (n : Nat) (a1 : Nat) (a2 : Nat) (x3 : Int) (A : AH) (ha1 : a1 ≠ 0) (ha2 : a2 ≠ 0) : go true 1 S SN pb_X1_meanByTurns (n + 1) 0 [vR 11 185 0, vR 13 a1 0, vR 19 a2 0, vI x3, vU, vU, vU, vU] [] A =
    go true 1 S SN pb_X1_meanByTurns (n + 0) 14 [vR 11 185 0, vR 13 a1 0, vR 19 a2 0, vI x3, vL (w64 (100 * (gi A a2 1))), vS, vI 0, vU] [] A := by
  obtain ⟨a1, rfl⟩ := Nat.exists_eq_succ_of_ne_zero ha1
  obtain ⟨a2, rfl⟩ := Nat.exists_eq_succ_of_ne_zero ha2
  rfl

set_option maxRecDepth 100000 in
theorem q_X1_meanByTurns_14 (S SN : SX) (n : Nat) (a1 : Nat) (a2 : Nat) (x3 : Int) (y4 : Int) (x6 : Int) (u7 : AV) (A : AH) (ha1 : a1 ≠ 0) (ha2 : a2 ≠ 0) : go true 1 S SN pb_X1_meanByTurns (n + 2) 14 [vR 11 185 0, vR 13 a1 0, vR 19 a2 0, vI x3, vL y4, vS, vI x6, u7] [] A =
    if x6 < x3 then
      cI (S 25 [vR 11 185 0, vR 13 a1 0, vR 19 a2 0, vI x6] A) fun r2 A1 =>
      cV (S 2 [vR 10 180 0, vI (w32 ((gi A1 a2 0) + x6)), vI r2, vI (-1)] A1) fun A3 =>
      cV (S 3 [vR 10 180 0] A3) fun A4 =>
      cI (S 8 [vR 10 180 0] A4) fun r6 A5 =>
      go true 1 S SN pb_X1_meanByTurns (n + 1) 67 [vR 11 185 0, vR 13 a1 0, vR 19 a2 0, vI x3, vL (w64 (y4 + r6)), vS, vI x6, vI r2] [] A5
    else
    some (some (vL y4), A) := by
  obtain ⟨a1, rfl⟩ := Nat.exists_eq_succ_of_ne_zero ha1
  obtain ⟨a2, rfl⟩ := Nat.exists_eq_succ_of_ne_zero ha2
  rfl

set_option maxRecDepth 100000 in
theorem q_X1_meanByTurns_67 (S SN : SX) (n : Nat) (a1 : Nat) (a2 : Nat) (x3 : Int) (y4 : Int) (x6 : Int) (x7 : Int) (A : AH) (ha1 : a1 ≠ 0) (ha2 : a2 ≠ 0) : go true 1 S SN pb_X1_meanByTurns (n + 1) 67 [vR 11 185 0, vR 13 a1 0, vR 19 a2 0, vI x3, vL y4, vS, vI x6, vI x7] [] A =
    go true 1 S SN pb_X1_meanByTurns (n + 0) 14 [vR 11 185 0, vR 13 a1 0, vR 19 a2 0, vI x3, vL y4, vS, vI (w32 (x6 + 1)), vI x7] [] A := by
  obtain ⟨a1, rfl⟩ := Nat.exists_eq_succ_of_ne_zero ha1
  obtain ⟨a2, rfl⟩ := Nat.exists_eq_succ_of_ne_zero ha2
  rfl

set_option maxRecDepth 100000 in
theorem q_X1_setsBy_0 (S SN : SX) (n : Nat) (a1 : Nat) (a2 : Nat) (x3 : Int) (x4 : Int) (A : AH) (ha1 : a1 ≠ 0) (ha2 : a2 ≠ 0) : go true 0 S SN pb_X1_setsBy (n + 1) 0 [vR 11 185 0, vR 13 a1 0, vR 19 a2 0, vI x3, vI x4, vU, vU, vU, vU, vU] [] A =
    cI (S 17 [vR 13 a1 0] A) fun r2 A1 =>
    cV (S 1 [vR 10 180 0, vR 13 a1 0, vR 19 a2 0] A1) fun A3 =>
    cV (S 3 [vR 10 180 0] A3) fun A4 =>
    go true 0 S SN pb_X1_setsBy (n + 0) 35 [vR 11 185 0, vR 13 a1 0, vR 19 a2 0, vI x3, vI x4, vI r2, vI 0, vI r2, vI 0, vI 0] [] A4 := by
  obtain ⟨a1, rfl⟩ := Nat.exists_eq_succ_of_ne_zero ha1
  obtain ⟨a2, rfl⟩ := Nat.exists_eq_succ_of_ne_zero ha2
  rfl

set_option maxRecDepth 100000 in
theorem q_X1_setsBy_35 (S SN : SX) (n : Nat) (a1 : Nat) (a2 : Nat) (x3 : Int) (x4 : Int) (x5 : Int) (x6 : Int) (x7 : Int) (x8 : Int) (x9 : Int) (A : AH) (ha1 : a1 ≠ 0) (ha2 : a2 ≠ 0) : go true 0 S SN pb_X1_setsBy (n + 6) 35 [vR 11 185 0, vR 13 a1 0, vR 19 a2 0, vI x3, vI x4, vI x5, vI x6, vI x7, vI x8, vI x9] [] A =
    if x9 < 256 then
      if (band x9 (bxor x5 (-1))) = 0 then
        go true 0 S SN pb_X1_setsBy (n + 5) 53 [vR 11 185 0, vR 13 a1 0, vR 19 a2 0, vI x3, vI x4, vI x5, vI x6, vI x7, vI x8, vI x9] [] A
      else
      go true 0 S SN pb_X1_setsBy (n + 5) 83 [vR 11 185 0, vR 13 a1 0, vR 19 a2 0, vI x3, vI x4, vI x5, vI x6, vI x7, vI x8, vI x9] [] A
    else
    if x4 = 0 then some (some (vI x6), A) else
    if x4 = 2 then
      some (some (vI x8), A)
    else
    if x6 = 0 then
      some (some (vI 0), A)
    else
    some (some (vI x7), A) := by
  obtain ⟨a1, rfl⟩ := Nat.exists_eq_succ_of_ne_zero ha1
  obtain ⟨a2, rfl⟩ := Nat.exists_eq_succ_of_ne_zero ha2
  rfl

set_option maxRecDepth 100000 in
theorem q_X1_setsBy_53 (S SN : SX) (n : Nat) (a1 : Nat) (a2 : Nat) (x3 : Int) (x4 : Int) (x5 : Int) (x6 : Int) (x7 : Int) (x8 : Int) (x9 : Int) (A : AH) (ha1 : a1 ≠ 0) (ha2 : a2 ≠ 0) : go true 0 S SN pb_X1_setsBy (n + 1) 53 [vR 11 185 0, vR 13 a1 0, vR 19 a2 0, vI x3, vI x4, vI x5, vI x6, vI x7, vI x8, vI x9] [] A =
    cI (S 7 [vR 10 180 0, vI x9] A) fun r2 A1 =>
    if r2 = x3 then
      go true 0 S SN pb_X1_setsBy (n + 0) 66 [vR 11 185 0, vR 13 a1 0, vR 19 a2 0, vI x3, vI x4, vI x5, vI x6, vI x7, vI x8, vI x9] [] A1
    else
    go true 0 S SN pb_X1_setsBy (n + 0) 83 [vR 11 185 0, vR 13 a1 0, vR 19 a2 0, vI x3, vI x4, vI x5, vI x6, vI x7, vI x8, vI x9] [] A1 := by
  obtain ⟨a1, rfl⟩ := Nat.exists_eq_succ_of_ne_zero ha1
  obtain ⟨a2, rfl⟩ := Nat.exists_eq_succ_of_ne_zero ha2
  rfl

set_option maxRecDepth 100000 in
theorem q_X1_setsBy_66 (S SN : SX) (n : Nat) (a1 : Nat) (a2 : Nat) (x3 : Int) (x4 : Int) (x5 : Int) (x6 : Int) (x7 : Int) (x8 : Int) (x9 : Int) (A : AH) (ha1 : a1 ≠ 0) (ha2 : a2 ≠ 0) : go true 0 S SN pb_X1_setsBy (n + 1) 66 [vR 11 185 0, vR 13 a1 0, vR 19 a2 0, vI x3, vI x4, vI x5, vI x6, vI x7, vI x8, vI x9] [] A =
    go true 0 S SN pb_X1_setsBy (n + 0) 83 [vR 11 185 0, vR 13 a1 0, vR 19 a2 0, vI x3, vI x4, vI x5, vI (w32 (x6 + 1)), vI (band x7 x9), vI (bor x8 x9), vI x9] [] A := by
  obtain ⟨a1, rfl⟩ := Nat.exists_eq_succ_of_ne_zero ha1
  obtain ⟨a2, rfl⟩ := Nat.exists_eq_succ_of_ne_zero ha2
  rfl

set_option maxRecDepth 100000 in
theorem q_X1_setsBy_83 (S SN : SX) (n : Nat) (a1 : Nat) (a2 : Nat) (x3 : Int) (x4 : Int) (x5 : Int) (x6 : Int) (x7 : Int) (x8 : Int) (x9 : Int) (A : AH) (ha1 : a1 ≠ 0) (ha2 : a2 ≠ 0) : go true 0 S SN pb_X1_setsBy (n + 1) 83 [vR 11 185 0, vR 13 a1 0, vR 19 a2 0, vI x3, vI x4, vI x5, vI x6, vI x7, vI x8, vI x9] [] A =
    go true 0 S SN pb_X1_setsBy (n + 0) 35 [vR 11 185 0, vR 13 a1 0, vR 19 a2 0, vI x3, vI x4, vI x5, vI x6, vI x7, vI x8, vI (w32 (x9 + 1))] [] A := by
  obtain ⟨a1, rfl⟩ := Nat.exists_eq_succ_of_ne_zero ha1
  obtain ⟨a2, rfl⟩ := Nat.exists_eq_succ_of_ne_zero ha2
  rfl

set_option maxRecDepth 100000 in
theorem q_X1_pointsBy_0 (S SN : SX) (n : Nat) (a1 : Nat) (a2 : Nat) (x3 : Int) (x4 : Int) (A : AH) (ha1 : a1 ≠ 0) (ha2 : a2 ≠ 0) : go true 0 S SN pb_X1_pointsBy (n + 1) 0 [vR 11 185 0, vR 13 a1 0, vR 19 a2 0, vI x3, vI x4, vU, vU] [] A =
    cV (S 1 [vR 10 180 0, vR 13 a1 0, vR 19 a2 0] A) fun A1 =>
    go true 0 S SN pb_X1_pointsBy (n + 0) 15 [vR 11 185 0, vR 13 a1 0, vR 19 a2 0, vI x3, vI x4, vI 0, vI 0] [] A1 := by
  obtain ⟨a1, rfl⟩ := Nat.exists_eq_succ_of_ne_zero ha1
  obtain ⟨a2, rfl⟩ := Nat.exists_eq_succ_of_ne_zero ha2
  rfl

set_option maxRecDepth 100000 in
theorem q_X1_pointsBy_15 (S SN : SX) (n : Nat) (a1 : Nat) (a2 : Nat) (x3 : Int) (x4 : Int) (x5 : Int) (x6 : Int) (A : AH) (ha1 : a1 ≠ 0) (ha2 : a2 ≠ 0) : go true 0 S SN pb_X1_pointsBy (n + 2) 15 [vR 11 185 0, vR 13 a1 0, vR 19 a2 0, vI x3, vI x4, vI x5, vI x6] [] A =
    if x6 < (gi A a1 3) then
      cV (S 2 [vR 10 180 0, vI (gi A a2 0), vI x6, vI (-1)] A) fun A1 =>
      cV (S 3 [vR 10 180 0] A1) fun A2 =>
      cI (S 7 [vR 10 180 0, vI x4] A2) fun r4 A3 =>
      if r4 = x3 then
        go true 0 S SN pb_X1_pointsBy (n + 1) 68 [vR 11 185 0, vR 13 a1 0, vR 19 a2 0, vI x3, vI x4, vI x5, vI x6] [vI (bshl 1 x6), vI x5] A3
      else
      go true 0 S SN pb_X1_pointsBy (n + 0) 68 [vR 11 185 0, vR 13 a1 0, vR 19 a2 0, vI x3, vI x4, vI x5, vI x6] [vI 0, vI x5] A3
    else
    some (some (vI x5), A) := by
  obtain ⟨a1, rfl⟩ := Nat.exists_eq_succ_of_ne_zero ha1
  obtain ⟨a2, rfl⟩ := Nat.exists_eq_succ_of_ne_zero ha2
  rfl

set_option maxRecDepth 100000 in
theorem q_X1_pointsBy_68 (S SN : SX) (n : Nat) (a1 : Nat) (a2 : Nat) (x3 : Int) (x4 : Int) (x5 : Int) (x6 : Int) (sx0 : Int) (sx1 : Int) (A : AH) (ha1 : a1 ≠ 0) (ha2 : a2 ≠ 0) : go true 0 S SN pb_X1_pointsBy (n + 1) 68 [vR 11 185 0, vR 13 a1 0, vR 19 a2 0, vI x3, vI x4, vI x5, vI x6] [vI sx0, vI sx1] A =
    go true 0 S SN pb_X1_pointsBy (n + 0) 15 [vR 11 185 0, vR 13 a1 0, vR 19 a2 0, vI x3, vI x4, vI (bor sx1 sx0), vI (w32 (x6 + 1))] [] A := by
  obtain ⟨a1, rfl⟩ := Nat.exists_eq_succ_of_ne_zero ha1
  obtain ⟨a2, rfl⟩ := Nat.exists_eq_succ_of_ne_zero ha2
  rfl

set_option maxRecDepth 100000 in
theorem q_X1_loudestOf_0 (S SN : SX) (n : Nat) (a1 : Nat) (a2 : Nat) (x3 : Int) (A : AH) (ha1 : a1 ≠ 0) (ha2 : a2 ≠ 0) : go true 0 S SN pb_X1_loudestOf (n + 1) 0 [vR 11 185 0, vR 13 a1 0, vR 19 a2 0, vI x3, vU, vU, vU, vU, vU, vU] [] A =
    cV (S 1 [vR 10 180 0, vR 13 a1 0, vR 19 a2 0] A) fun A1 =>
    go true 0 S SN pb_X1_loudestOf (n + 0) 18 [vR 11 185 0, vR 13 a1 0, vR 19 a2 0, vI x3, vI 0, vI 0, vI 0, vU, vU, vU] [] A1 := by
  obtain ⟨a1, rfl⟩ := Nat.exists_eq_succ_of_ne_zero ha1
  obtain ⟨a2, rfl⟩ := Nat.exists_eq_succ_of_ne_zero ha2
  rfl

set_option maxRecDepth 100000 in
theorem q_X1_loudestOf_18 (S SN : SX) (n : Nat) (a1 : Nat) (a2 : Nat) (x3 : Int) (x4 : Int) (x5 : Int) (x6 : Int) (u7 : AV) (u8 : AV) (u9 : AV) (A : AH) (ha1 : a1 ≠ 0) (ha2 : a2 ≠ 0) : go true 0 S SN pb_X1_loudestOf (n + 2) 18 [vR 11 185 0, vR 13 a1 0, vR 19 a2 0, vI x3, vI x4, vI x5, vI x6, u7, u8, u9] [] A =
    if x6 < (gi A a1 4) then
      if (0 : Int) ≤ w32 (3 * x6) ∧ w32 (3 * x6) < 18 then
        if (gi A (a1 + 8) ((w32 (3 * x6)).toNat)) < (gi A a2 0) then
          go true 0 S SN pb_X1_loudestOf (n + 1) 150 [vR 11 185 0, vR 13 a1 0, vR 19 a2 0, vI x3, vI x4, vI x5, vI x6, vI (gi A (a1 + 8) ((w32 (3 * x6)).toNat)), u8, u9] [] A
        else
        if (gi A (a1 + 8) ((w32 (3 * x6)).toNat)) < (w32 ((gi A a2 0) + x3)) then
          cV (S 2 [vR 10 180 0, vI (gi A (a1 + 8) ((w32 (3 * x6)).toNat)), vI (gi A a2 2), vI (-1)] A) fun A1 =>
          go true 0 S SN pb_X1_loudestOf (n + 1) 72 [vR 11 185 0, vR 13 a1 0, vR 19 a2 0, vI x3, vI x4, vI x5, vI x6, vI (gi A (a1 + 8) ((w32 (3 * x6)).toNat)), u8, u9] [] A1
        else
        go true 0 S SN pb_X1_loudestOf (n + 1) 150 [vR 11 185 0, vR 13 a1 0, vR 19 a2 0, vI x3, vI x4, vI x5, vI x6, vI (gi A (a1 + 8) ((w32 (3 * x6)).toNat)), u8, u9] [] A
      else none
    else
    some (some (vI x4), A) := by
  obtain ⟨a1, rfl⟩ := Nat.exists_eq_succ_of_ne_zero ha1
  obtain ⟨a2, rfl⟩ := Nat.exists_eq_succ_of_ne_zero ha2
  rfl

set_option maxRecDepth 100000 in
theorem q_X1_loudestOf_72 (S SN : SX) (n : Nat) (a1 : Nat) (a2 : Nat) (x3 : Int) (x4 : Int) (x5 : Int) (x6 : Int) (x7 : Int) (u8 : AV) (u9 : AV) (A : AH) (ha1 : a1 ≠ 0) (ha2 : a2 ≠ 0) : go true 0 S SN pb_X1_loudestOf (n + 1) 72 [vR 11 185 0, vR 13 a1 0, vR 19 a2 0, vI x3, vI x4, vI x5, vI x6, vI x7, u8, u9] [] A =
    cV (S 3 [vR 10 180 0] A) fun A1 =>
    cI (S 8 [vR 10 180 0] A1) fun r3 A2 =>
    cV (S 2 [vR 10 180 0, vI x7, vI (gi A2 a2 2), vI x6] A2) fun A4 =>
    cV (S 3 [vR 10 180 0] A4) fun A5 =>
    cI (S 8 [vR 10 180 0] A5) fun r7 A6 =>
    cI (S 303 [vI (w32 (r3 - r7))] A6) fun r9 A8 =>
    go true 0 S SN pb_X1_loudestOf (n + 0) 125 [vR 11 185 0, vR 13 a1 0, vR 19 a2 0, vI x3, vI x4, vI x5, vI x6, vI x7, vI r3, vI r9] [] A8 := by
  obtain ⟨a1, rfl⟩ := Nat.exists_eq_succ_of_ne_zero ha1
  obtain ⟨a2, rfl⟩ := Nat.exists_eq_succ_of_ne_zero ha2
  rfl

set_option maxRecDepth 100000 in
theorem q_X1_loudestOf_125 (S SN : SX) (n : Nat) (a1 : Nat) (a2 : Nat) (x3 : Int) (x4 : Int) (x5 : Int) (x6 : Int) (x7 : Int) (x8 : Int) (x9 : Int) (A : AH) (ha1 : a1 ≠ 0) (ha2 : a2 ≠ 0) : go true 0 S SN pb_X1_loudestOf (n + 2) 125 [vR 11 185 0, vR 13 a1 0, vR 19 a2 0, vI x3, vI x4, vI x5, vI x6, vI x7, vI x8, vI x9] [] A =
    if x5 < x9 then
      go true 0 S SN pb_X1_loudestOf (n + 1) 139 [vR 11 185 0, vR 13 a1 0, vR 19 a2 0, vI x3, vI x4, vI x5, vI x6, vI x7, vI x8, vI x9] [vI x6] A
    else
    go true 0 S SN pb_X1_loudestOf (n + 0) 139 [vR 11 185 0, vR 13 a1 0, vR 19 a2 0, vI x3, vI x4, vI x5, vI x6, vI x7, vI x8, vI x9] [vI x4] A := by
  obtain ⟨a1, rfl⟩ := Nat.exists_eq_succ_of_ne_zero ha1
  obtain ⟨a2, rfl⟩ := Nat.exists_eq_succ_of_ne_zero ha2
  rfl

set_option maxRecDepth 100000 in
theorem q_X1_loudestOf_139 (S SN : SX) (n : Nat) (a1 : Nat) (a2 : Nat) (x3 : Int) (x4 : Int) (x5 : Int) (x6 : Int) (x7 : Int) (x8 : Int) (x9 : Int) (sx0 : Int) (A : AH) (ha1 : a1 ≠ 0) (ha2 : a2 ≠ 0) : go true 0 S SN pb_X1_loudestOf (n + 1) 139 [vR 11 185 0, vR 13 a1 0, vR 19 a2 0, vI x3, vI x4, vI x5, vI x6, vI x7, vI x8, vI x9] [vI sx0] A =
    cI (S 304 [vI x5, vI x9] A) fun r2 A1 =>
    go true 0 S SN pb_X1_loudestOf (n + 0) 150 [vR 11 185 0, vR 13 a1 0, vR 19 a2 0, vI x3, vI sx0, vI r2, vI x6, vI x7, vI x8, vI x9] [] A1 := by
  obtain ⟨a1, rfl⟩ := Nat.exists_eq_succ_of_ne_zero ha1
  obtain ⟨a2, rfl⟩ := Nat.exists_eq_succ_of_ne_zero ha2
  rfl

set_option maxRecDepth 100000 in
theorem q_X1_loudestOf_150 (S SN : SX) (n : Nat) (a1 : Nat) (a2 : Nat) (x3 : Int) (x4 : Int) (x5 : Int) (x6 : Int) (x7 : Int) (u8 : AV) (u9 : AV) (A : AH) (ha1 : a1 ≠ 0) (ha2 : a2 ≠ 0) : go true 0 S SN pb_X1_loudestOf (n + 1) 150 [vR 11 185 0, vR 13 a1 0, vR 19 a2 0, vI x3, vI x4, vI x5, vI x6, vI x7, u8, u9] [] A =
    go true 0 S SN pb_X1_loudestOf (n + 0) 18 [vR 11 185 0, vR 13 a1 0, vR 19 a2 0, vI x3, vI x4, vI x5, vI (w32 (x6 + 1)), vI x7, u8, u9] [] A := by
  obtain ⟨a1, rfl⟩ := Nat.exists_eq_succ_of_ne_zero ha1
  obtain ⟨a2, rfl⟩ := Nat.exists_eq_succ_of_ne_zero ha2
  rfl

set_option maxRecDepth 100000 in
theorem q_X5_write_0 (S SN : SX) (n : Nat) (a1 : Nat) (a2 : Nat) (A : AH) (ha1 : a1 ≠ 0) (ha2 : a2 ≠ 0) : go true 0 S SN pb_X5_write (n + 1) 0 [vR 15 187 0, vR 13 a1 0, vR 19 a2 0, vU, vU] [] A =
    go true 0 S SN pb_X5_write (n + 0) 21 [vR 15 187 0, vR 13 a1 0, vR 19 a2 0, vI (w32 ((gi A a2 1) + 100000)), vU] [] (wi A 188 0 (bshr (gi A a2 0) 8)) := by
  obtain ⟨a1, rfl⟩ := Nat.exists_eq_succ_of_ne_zero ha1
  obtain ⟨a2, rfl⟩ := Nat.exists_eq_succ_of_ne_zero ha2
  rfl

set_option maxRecDepth 100000 in
theorem q_X5_write_21 (S SN : SX) (n : Nat) (a1 : Nat) (a2 : Nat) (x3 : Int) (u4 : AV) (A : AH) (ha1 : a1 ≠ 0) (ha2 : a2 ≠ 0) : go true 0 S SN pb_X5_write (n + 1) 21 [vR 15 187 0, vR 13 a1 0, vR 19 a2 0, vI x3, u4] [] A =
    go true 0 S SN pb_X5_write (n + 0) 35 [vR 15 187 0, vR 13 a1 0, vR 19 a2 0, vI x3, u4] [] (wi A 188 1 (band (gi A a2 0) 255)) := by
  obtain ⟨a1, rfl⟩ := Nat.exists_eq_succ_of_ne_zero ha1
  obtain ⟨a2, rfl⟩ := Nat.exists_eq_succ_of_ne_zero ha2
  rfl

set_option maxRecDepth 100000 in
theorem q_X5_write_35 (S SN : SX) (n : Nat) (a1 : Nat) (a2 : Nat) (x3 : Int) (u4 : AV) (A : AH) (ha1 : a1 ≠ 0) (ha2 : a2 ≠ 0) : go true 0 S SN pb_X5_write (n + 1) 35 [vR 15 187 0, vR 13 a1 0, vR 19 a2 0, vI x3, u4] [] A =
    go true 0 S SN pb_X5_write (n + 0) 45 [vR 15 187 0, vR 13 a1 0, vR 19 a2 0, vI x3, u4] [] (wi A 188 2 (bshr x3 16)) := by
  obtain ⟨a1, rfl⟩ := Nat.exists_eq_succ_of_ne_zero ha1
  obtain ⟨a2, rfl⟩ := Nat.exists_eq_succ_of_ne_zero ha2
  rfl

set_option maxRecDepth 100000 in
theorem q_X5_write_45 (S SN : SX) (n : Nat) (a1 : Nat) (a2 : Nat) (x3 : Int) (u4 : AV) (A : AH) (ha1 : a1 ≠ 0) (ha2 : a2 ≠ 0) : go true 0 S SN pb_X5_write (n + 1) 45 [vR 15 187 0, vR 13 a1 0, vR 19 a2 0, vI x3, u4] [] A =
    go true 0 S SN pb_X5_write (n + 0) 59 [vR 15 187 0, vR 13 a1 0, vR 19 a2 0, vI x3, u4] [] (wi A 188 3 (band (bshr x3 8) 255)) := by
  obtain ⟨a1, rfl⟩ := Nat.exists_eq_succ_of_ne_zero ha1
  obtain ⟨a2, rfl⟩ := Nat.exists_eq_succ_of_ne_zero ha2
  rfl

set_option maxRecDepth 100000 in
theorem q_X5_write_59 (S SN : SX) (n : Nat) (a1 : Nat) (a2 : Nat) (x3 : Int) (u4 : AV) (A : AH) (ha1 : a1 ≠ 0) (ha2 : a2 ≠ 0) : go true 0 S SN pb_X5_write (n + 1) 59 [vR 15 187 0, vR 13 a1 0, vR 19 a2 0, vI x3, u4] [] A =
    go true 0 S SN pb_X5_write (n + 0) 70 [vR 15 187 0, vR 13 a1 0, vR 19 a2 0, vI x3, u4] [] (wi A 188 4 (band x3 255)) := by
  obtain ⟨a1, rfl⟩ := Nat.exists_eq_succ_of_ne_zero ha1
  obtain ⟨a2, rfl⟩ := Nat.exists_eq_succ_of_ne_zero ha2
  rfl

set_option maxRecDepth 100000 in
theorem q_X5_write_70 (S SN : SX) (n : Nat) (a1 : Nat) (a2 : Nat) (x3 : Int) (u4 : AV) (A : AH) (ha1 : a1 ≠ 0) (ha2 : a2 ≠ 0) : go true 0 S SN pb_X5_write (n + 1) 70 [vR 15 187 0, vR 13 a1 0, vR 19 a2 0, vI x3, u4] [] A =
    go true 0 S SN pb_X5_write (n + 0) 82 [vR 15 187 0, vR 13 a1 0, vR 19 a2 0, vI x3, u4] [] (wi A 188 5 (w32 ((gi A a2 2) + 1))) := by
  obtain ⟨a1, rfl⟩ := Nat.exists_eq_succ_of_ne_zero ha1
  obtain ⟨a2, rfl⟩ := Nat.exists_eq_succ_of_ne_zero ha2
  rfl

set_option maxRecDepth 100000 in
theorem q_X5_write_82 (S SN : SX) (n : Nat) (a1 : Nat) (a2 : Nat) (x3 : Int) (u4 : AV) (A : AH) (ha1 : a1 ≠ 0) (ha2 : a2 ≠ 0) : go true 0 S SN pb_X5_write (n + 1) 82 [vR 15 187 0, vR 13 a1 0, vR 19 a2 0, vI x3, u4] [] A =
    go true 0 S SN pb_X5_write (n + 0) 85 [vR 15 187 0, vR 13 a1 0, vR 19 a2 0, vI x3, vI 0] [] A := by
  obtain ⟨a1, rfl⟩ := Nat.exists_eq_succ_of_ne_zero ha1
  obtain ⟨a2, rfl⟩ := Nat.exists_eq_succ_of_ne_zero ha2
  rfl

set_option maxRecDepth 100000 in
theorem q_X5_write_85 (S SN : SX) (n : Nat) (a1 : Nat) (a2 : Nat) (x3 : Int) (x4 : Int) (A : AH) (ha1 : a1 ≠ 0) (ha2 : a2 ≠ 0) : go true 0 S SN pb_X5_write (n + 2) 85 [vR 15 187 0, vR 13 a1 0, vR 19 a2 0, vI x3, vI x4] [] A =
    if x4 < (gi A a1 2) then
      if (0 : Int) ≤ x4 ∧ x4 < 16 then
        if (0 : Int) ≤ w32 (6 + x4) ∧ w32 (6 + x4) < 27 then
          go true 0 S SN pb_X5_write (n + 1) 111 [vR 15 187 0, vR 13 a1 0, vR 19 a2 0, vI x3, vI x4] [] (wi A 188 ((w32 (6 + x4)).toNat) (gi A (a2 + 1) x4.toNat))
        else none
      else none
    else
    go true 0 S SN pb_X5_write (n + 0) 120 [vR 15 187 0, vR 13 a1 0, vR 19 a2 0, vI x3, vI 0] [] A := by
  obtain ⟨a1, rfl⟩ := Nat.exists_eq_succ_of_ne_zero ha1
  obtain ⟨a2, rfl⟩ := Nat.exists_eq_succ_of_ne_zero ha2
  rfl

set_option maxRecDepth 100000 in
theorem q_X5_write_111 (S SN : SX) (n : Nat) (a1 : Nat) (a2 : Nat) (x3 : Int) (x4 : Int) (A : AH) (ha1 : a1 ≠ 0) (ha2 : a2 ≠ 0) : go true 0 S SN pb_X5_write (n + 1) 111 [vR 15 187 0, vR 13 a1 0, vR 19 a2 0, vI x3, vI x4] [] A =
    go true 0 S SN pb_X5_write (n + 0) 85 [vR 15 187 0, vR 13 a1 0, vR 19 a2 0, vI x3, vI (w32 (x4 + 1))] [] A := by
  obtain ⟨a1, rfl⟩ := Nat.exists_eq_succ_of_ne_zero ha1
  obtain ⟨a2, rfl⟩ := Nat.exists_eq_succ_of_ne_zero ha2
  rfl

set_option maxRecDepth 100000 in
theorem q_X5_write_120 (S SN : SX) (n : Nat) (a1 : Nat) (a2 : Nat) (x3 : Int) (x4 : Int) (A : AH) (ha1 : a1 ≠ 0) (ha2 : a2 ≠ 0) : go true 0 S SN pb_X5_write (n + 1) 120 [vR 15 187 0, vR 13 a1 0, vR 19 a2 0, vI x3, vI x4] [] A =
    if x4 < (gi A a1 5) then
      if (0 : Int) ≤ w32 (10 + x4) ∧ w32 (10 + x4) < 16 then
        if (0 : Int) ≤ w32 ((w32 (6 + (gi A a1 2))) + (w32 (2 * x4))) ∧ w32 ((w32 (6 + (gi A a1 2))) + (w32 (2 * x4))) < 27 then
          go true 0 S SN pb_X5_write (n + 0) 158 [vR 15 187 0, vR 13 a1 0, vR 19 a2 0, vI x3, vI x4] [] (wi A 188 ((w32 ((w32 (6 + (gi A a1 2))) + (w32 (2 * x4)))).toNat) (w32 ((gi A (a2 + 1) ((w32 (10 + x4)).toNat)) + 1)))
        else none
      else none
    else
    go true 0 S SN pb_X5_write (n + 0) 193 [vR 15 187 0, vR 13 a1 0, vR 19 a2 0, vI x3, vI x4] [] A := by
  obtain ⟨a1, rfl⟩ := Nat.exists_eq_succ_of_ne_zero ha1
  obtain ⟨a2, rfl⟩ := Nat.exists_eq_succ_of_ne_zero ha2
  rfl

set_option maxRecDepth 100000 in
theorem q_X5_write_158 (S SN : SX) (n : Nat) (a1 : Nat) (a2 : Nat) (x3 : Int) (x4 : Int) (A : AH) (ha1 : a1 ≠ 0) (ha2 : a2 ≠ 0) : go true 0 S SN pb_X5_write (n + 1) 158 [vR 15 187 0, vR 13 a1 0, vR 19 a2 0, vI x3, vI x4] [] A =
    if (0 : Int) ≤ w32 (10 + x4) ∧ w32 (10 + x4) < 16 then
      if (0 : Int) ≤ w32 ((w32 ((w32 (6 + (gi A a1 2))) + (w32 (2 * x4)))) + 1) ∧ w32 ((w32 ((w32 (6 + (gi A a1 2))) + (w32 (2 * x4)))) + 1) < 27 then
        go true 0 S SN pb_X5_write (n + 0) 187 [vR 15 187 0, vR 13 a1 0, vR 19 a2 0, vI x3, vI x4] [] (wi A 188 ((w32 ((w32 ((w32 (6 + (gi A a1 2))) + (w32 (2 * x4)))) + 1)).toNat) (gi A (a2 + 2) ((w32 (10 + x4)).toNat)))
      else none
    else none := by
  obtain ⟨a1, rfl⟩ := Nat.exists_eq_succ_of_ne_zero ha1
  obtain ⟨a2, rfl⟩ := Nat.exists_eq_succ_of_ne_zero ha2
  rfl

set_option maxRecDepth 100000 in
theorem q_X5_write_187 (S SN : SX) (n : Nat) (a1 : Nat) (a2 : Nat) (x3 : Int) (x4 : Int) (A : AH) (ha1 : a1 ≠ 0) (ha2 : a2 ≠ 0) : go true 0 S SN pb_X5_write (n + 1) 187 [vR 15 187 0, vR 13 a1 0, vR 19 a2 0, vI x3, vI x4] [] A =
    go true 0 S SN pb_X5_write (n + 0) 120 [vR 15 187 0, vR 13 a1 0, vR 19 a2 0, vI x3, vI (w32 (x4 + 1))] [] A := by
  obtain ⟨a1, rfl⟩ := Nat.exists_eq_succ_of_ne_zero ha1
  obtain ⟨a2, rfl⟩ := Nat.exists_eq_succ_of_ne_zero ha2
  rfl

set_option maxRecDepth 100000 in
theorem q_X5_write_193 (S SN : SX) (n : Nat) (a1 : Nat) (a2 : Nat) (x3 : Int) (x4 : Int) (A : AH) (ha1 : a1 ≠ 0) (ha2 : a2 ≠ 0) : go true 0 S SN pb_X5_write (n + 1) 193 [vR 15 187 0, vR 13 a1 0, vR 19 a2 0, vI x3, vI x4] [] A =
    cI (S 69 [vR 13 a1 0] A) fun r2 A1 =>
    cI (S 70 [vR 30 188 27, vI (w32 ((gi (wi A1 187 1 r2) 187 1) - 1))] (wi A1 187 1 r2)) fun r4 A3 =>
    if (0 : Int) ≤ w32 ((gi (wi A1 187 1 r2) 187 1) - 1) ∧ w32 ((gi (wi A1 187 1 r2) 187 1) - 1) < 27 then
      go true 0 S SN pb_X5_write (n + 0) 225 [vR 15 187 0, vR 13 a1 0, vR 19 a2 0, vI x3, vI x4] [] (wi A3 188 ((w32 ((gi (wi A1 187 1 r2) 187 1) - 1)).toNat) r4)
    else none := by
  obtain ⟨a1, rfl⟩ := Nat.exists_eq_succ_of_ne_zero ha1
  obtain ⟨a2, rfl⟩ := Nat.exists_eq_succ_of_ne_zero ha2
  rfl

set_option maxRecDepth 100000 in
theorem q_X5_write_225 (S SN : SX) (n : Nat) (a1 : Nat) (a2 : Nat) (x3 : Int) (x4 : Int) (A : AH) (ha1 : a1 ≠ 0) (ha2 : a2 ≠ 0) : go true 0 S SN pb_X5_write (n + 1) 225 [vR 15 187 0, vR 13 a1 0, vR 19 a2 0, vI x3, vI x4] [] A =
    some (some (vI (gi A 187 1)), A) := by
  obtain ⟨a1, rfl⟩ := Nat.exists_eq_succ_of_ne_zero ha1
  obtain ⟨a2, rfl⟩ := Nat.exists_eq_succ_of_ne_zero ha2
  rfl

set_option maxRecDepth 100000 in
theorem q_X5_lengthOf_0 (S SN : SX) (n : Nat) (a0 : Nat) (A : AH) (ha0 : a0 ≠ 0) : go true 0 S SN pb_X5_lengthOf (n + 1) 0 [vR 13 a0 0] [] A =
    some (some (vI (w32 ((w32 ((w32 (6 + (gi A a0 2))) + (w32 (2 * (gi A a0 5))))) + 1))), A) := by
  obtain ⟨a0, rfl⟩ := Nat.exists_eq_succ_of_ne_zero ha0
  rfl

set_option maxRecDepth 100000 in
theorem q_X5_checkOf_0 (S SN : SX) (n : Nat) (a0 : Nat) (n0 : Nat) (x1 : Int) (A : AH) (ha0 : a0 ≠ 0) : go true 0 S SN pb_X5_checkOf (n + 1) 0 [vR 30 a0 n0, vI x1, vU, vU] [] A =
    go true 0 S SN pb_X5_checkOf (n + 0) 6 [vR 30 a0 n0, vI x1, vI 229, vI 0] [] A := by
  obtain ⟨a0, rfl⟩ := Nat.exists_eq_succ_of_ne_zero ha0
  rfl

set_option maxRecDepth 100000 in
theorem q_X5_checkOf_6 (S SN : SX) (n : Nat) (a0 : Nat) (n0 : Nat) (x1 : Int) (x2 : Int) (x3 : Int) (A : AH) (ha0 : a0 ≠ 0) : go true 0 S SN pb_X5_checkOf (n + 2) 6 [vR 30 a0 n0, vI x1, vI x2, vI x3] [] A =
    if x3 < x1 then
      if (0 : Int) ≤ x3 ∧ x3 < (n0 : Int) then
        go true 0 S SN pb_X5_checkOf (n + 1) 6 [vR 30 a0 n0, vI x1, vI ((w32 ((w32 (3 * x2)) + (gi A a0 x3.toNat))).tmod 251), vI (w32 (x3 + 1))] [] A
      else none
    else
    some (some (vI x2), A) := by
  obtain ⟨a0, rfl⟩ := Nat.exists_eq_succ_of_ne_zero ha0
  rfl

set_option maxRecDepth 100000 in
theorem q_X5_reads_0 (S SN : SX) (n : Nat) (a0 : Nat) (n0 : Nat) (x1 : Int) (a2 : Nat) (a3 : Nat) (A : AH) (ha0 : a0 ≠ 0) (ha2 : a2 ≠ 0) (ha3 : a3 ≠ 0) : go true 2 S SN pb_X5_reads (n + 2) 0 [vR 30 a0 n0, vI x1, vR 13 a2 0, vR 19 a3 0, vU] [] A =
    cI (S 69 [vR 13 a2 0] A) fun r2 A1 =>
    if x1 = r2 then
      cI (S 70 [vR 30 a0 n0, vI (w32 (x1 - 1))] A1) fun r4 A3 =>
      if (0 : Int) ≤ w32 (x1 - 1) ∧ w32 (x1 - 1) < (n0 : Int) then
        if r4 = (gi A3 a0 ((w32 (x1 - 1)).toNat)) then
          cV (S 95 [vR 19 a3 0] A3) fun A5 =>
          if (0 : Int) ≤ 0 ∧ 0 < (n0 : Int) then
            if (0 : Int) ≤ 1 ∧ 1 < (n0 : Int) then
              go true 2 S SN pb_X5_reads (n + 0) 44 [vR 30 a0 n0, vI x1, vR 13 a2 0, vR 19 a3 0, vU] [] (wi A5 a3 0 (w32 ((w32 ((gi A5 a0 0) * 256)) + (gi A5 a0 1))))
            else none
          else none
        else
        some (some (vI 0), A3)
      else none
    else
    some (some (vI 0), A1) := by
  obtain ⟨a0, rfl⟩ := Nat.exists_eq_succ_of_ne_zero ha0
  obtain ⟨a2, rfl⟩ := Nat.exists_eq_succ_of_ne_zero ha2
  obtain ⟨a3, rfl⟩ := Nat.exists_eq_succ_of_ne_zero ha3
  rfl

set_option maxRecDepth 100000 in
theorem q_X5_reads_44 (S SN : SX) (n : Nat) (a0 : Nat) (n0 : Nat) (x1 : Int) (a2 : Nat) (a3 : Nat) (u4 : AV) (A : AH) (ha0 : a0 ≠ 0) (ha2 : a2 ≠ 0) (ha3 : a3 ≠ 0) : go true 2 S SN pb_X5_reads (n + 1) 44 [vR 30 a0 n0, vI x1, vR 13 a2 0, vR 19 a3 0, u4] [] A =
    if (0 : Int) ≤ 2 ∧ 2 < (n0 : Int) then
      if (0 : Int) ≤ 3 ∧ 3 < (n0 : Int) then
        if (0 : Int) ≤ 4 ∧ 4 < (n0 : Int) then
          go true 2 S SN pb_X5_reads (n + 0) 69 [vR 30 a0 n0, vI x1, vR 13 a2 0, vR 19 a3 0, u4] [] (wi A a3 1 (w32 ((w32 ((w32 ((w32 ((gi A a0 2) * 65536)) + (w32 ((gi A a0 3) * 256)))) + (gi A a0 4))) - 100000)))
        else none
      else none
    else none := by
  obtain ⟨a0, rfl⟩ := Nat.exists_eq_succ_of_ne_zero ha0
  obtain ⟨a2, rfl⟩ := Nat.exists_eq_succ_of_ne_zero ha2
  obtain ⟨a3, rfl⟩ := Nat.exists_eq_succ_of_ne_zero ha3
  rfl

set_option maxRecDepth 100000 in
theorem q_X5_reads_69 (S SN : SX) (n : Nat) (a0 : Nat) (n0 : Nat) (x1 : Int) (a2 : Nat) (a3 : Nat) (u4 : AV) (A : AH) (ha0 : a0 ≠ 0) (ha2 : a2 ≠ 0) (ha3 : a3 ≠ 0) : go true 2 S SN pb_X5_reads (n + 1) 69 [vR 30 a0 n0, vI x1, vR 13 a2 0, vR 19 a3 0, u4] [] A =
    if (0 : Int) ≤ 5 ∧ 5 < (n0 : Int) then
      go true 2 S SN pb_X5_reads (n + 0) 78 [vR 30 a0 n0, vI x1, vR 13 a2 0, vR 19 a3 0, u4] [] (wi A a3 2 (w32 ((gi A a0 5) - 1)))
    else none := by
  obtain ⟨a0, rfl⟩ := Nat.exists_eq_succ_of_ne_zero ha0
  obtain ⟨a2, rfl⟩ := Nat.exists_eq_succ_of_ne_zero ha2
  obtain ⟨a3, rfl⟩ := Nat.exists_eq_succ_of_ne_zero ha3
  rfl

set_option maxRecDepth 100000 in
theorem q_X5_reads_78 (S SN : SX) (n : Nat) (a0 : Nat) (n0 : Nat) (x1 : Int) (a2 : Nat) (a3 : Nat) (u4 : AV) (A : AH) (ha0 : a0 ≠ 0) (ha2 : a2 ≠ 0) (ha3 : a3 ≠ 0) : go true 2 S SN pb_X5_reads (n + 2) 78 [vR 30 a0 n0, vI x1, vR 13 a2 0, vR 19 a3 0, u4] [] A =
    if 999 < (gi A a3 0) then
      some (some (vI 0), A)
    else
    cI (S 303 [vI (gi A a3 1)] A) fun r2 A1 =>
    if 99999 < r2 then
      some (some (vI 0), A1)
    else
    if (gi A1 a3 2) < (gi A1 a2 3) then
      go true 2 S SN pb_X5_reads (n + 0) 116 [vR 30 a0 n0, vI x1, vR 13 a2 0, vR 19 a3 0, vI 0] [] A1
    else
    some (some (vI 0), A1) := by
  obtain ⟨a0, rfl⟩ := Nat.exists_eq_succ_of_ne_zero ha0
  obtain ⟨a2, rfl⟩ := Nat.exists_eq_succ_of_ne_zero ha2
  obtain ⟨a3, rfl⟩ := Nat.exists_eq_succ_of_ne_zero ha3
  rfl

set_option maxRecDepth 100000 in
theorem q_X5_reads_116 (S SN : SX) (n : Nat) (a0 : Nat) (n0 : Nat) (x1 : Int) (a2 : Nat) (a3 : Nat) (x4 : Int) (A : AH) (ha0 : a0 ≠ 0) (ha2 : a2 ≠ 0) (ha3 : a3 ≠ 0) : go true 2 S SN pb_X5_reads (n + 2) 116 [vR 30 a0 n0, vI x1, vR 13 a2 0, vR 19 a3 0, vI x4] [] A =
    if x4 < (gi A a2 2) then
      if (0 : Int) ≤ x4 ∧ x4 < 8 then
        if (0 : Int) ≤ w32 (6 + x4) ∧ w32 (6 + x4) < (n0 : Int) then
          cI (S 73 [vR 13 a2 0, vR 19 a3 0, vI x4, vI (gi A (a2 + 4) x4.toNat), vI (gi A a0 ((w32 (6 + x4)).toNat))] A) fun r2 A1 =>
          if r2 = 0 then some (some (vI 0), A1) else
          go true 2 S SN pb_X5_reads (n + 0) 116 [vR 30 a0 n0, vI x1, vR 13 a2 0, vR 19 a3 0, vI (w32 (x4 + 1))] [] A1
        else none
      else none
    else
    cI (S 72 [vR 30 a0 n0, vR 13 a2 0, vR 19 a3 0] A) fun r4 A3 =>
    if r4 = 0 ∨ r4 = 1 then some (some (vI r4), A3) else
    none := by
  obtain ⟨a0, rfl⟩ := Nat.exists_eq_succ_of_ne_zero ha0
  obtain ⟨a2, rfl⟩ := Nat.exists_eq_succ_of_ne_zero ha2
  obtain ⟨a3, rfl⟩ := Nat.exists_eq_succ_of_ne_zero ha3
  rfl

set_option maxRecDepth 100000 in
theorem q_X5_readsMutes_0 (S SN : SX) (n : Nat) (a0 : Nat) (n0 : Nat) (a1 : Nat) (a2 : Nat) (A : AH) (ha0 : a0 ≠ 0) (ha1 : a1 ≠ 0) (ha2 : a2 ≠ 0) : go true 2 S SN pb_X5_readsMutes (n + 1) 0 [vR 30 a0 n0, vR 13 a1 0, vR 19 a2 0, vU, vU, vU, vU] [] A =
    go true 2 S SN pb_X5_readsMutes (n + 0) 2 [vR 30 a0 n0, vR 13 a1 0, vR 19 a2 0, vI 0, vU, vU, vU] [] A := by
  obtain ⟨a0, rfl⟩ := Nat.exists_eq_succ_of_ne_zero ha0
  obtain ⟨a1, rfl⟩ := Nat.exists_eq_succ_of_ne_zero ha1
  obtain ⟨a2, rfl⟩ := Nat.exists_eq_succ_of_ne_zero ha2
  rfl

set_option maxRecDepth 100000 in
theorem q_X5_readsMutes_2 (S SN : SX) (n : Nat) (a0 : Nat) (n0 : Nat) (a1 : Nat) (a2 : Nat) (x3 : Int) (u4 : AV) (u5 : AV) (u6 : AV) (A : AH) (ha0 : a0 ≠ 0) (ha1 : a1 ≠ 0) (ha2 : a2 ≠ 0) : go true 2 S SN pb_X5_readsMutes (n + 2) 2 [vR 30 a0 n0, vR 13 a1 0, vR 19 a2 0, vI x3, u4, u5, u6] [] A =
    if x3 < (gi A a1 5) then
      if (0 : Int) ≤ w32 ((w32 (6 + (gi A a1 2))) + (w32 (2 * x3))) ∧ w32 ((w32 (6 + (gi A a1 2))) + (w32 (2 * x3))) < (n0 : Int) then
        if (0 : Int) ≤ w32 ((w32 ((w32 (6 + (gi A a1 2))) + (w32 (2 * x3)))) + 1) ∧ w32 ((w32 ((w32 (6 + (gi A a1 2))) + (w32 (2 * x3)))) + 1) < (n0 : Int) then
          go true 2 S SN pb_X5_readsMutes (n + 1) 44 [vR 30 a0 n0, vR 13 a1 0, vR 19 a2 0, vI x3, vI (w32 ((gi A a0 ((w32 ((w32 (6 + (gi A a1 2))) + (w32 (2 * x3)))).toNat)) - 1)), vI (gi A a0 ((w32 ((w32 ((w32 (6 + (gi A a1 2))) + (w32 (2 * x3)))) + 1)).toNat)), u6] [] A
        else none
      else none
    else
    some (some (vI 1), A) := by
  obtain ⟨a0, rfl⟩ := Nat.exists_eq_succ_of_ne_zero ha0
  obtain ⟨a1, rfl⟩ := Nat.exists_eq_succ_of_ne_zero ha1
  obtain ⟨a2, rfl⟩ := Nat.exists_eq_succ_of_ne_zero ha2
  rfl

set_option maxRecDepth 100000 in
theorem q_X5_readsMutes_44 (S SN : SX) (n : Nat) (a0 : Nat) (n0 : Nat) (a1 : Nat) (a2 : Nat) (x3 : Int) (x4 : Int) (x5 : Int) (u6 : AV) (A : AH) (ha0 : a0 ≠ 0) (ha1 : a1 ≠ 0) (ha2 : a2 ≠ 0) : go true 2 S SN pb_X5_readsMutes (n + 2) 44 [vR 30 a0 n0, vR 13 a1 0, vR 19 a2 0, vI x3, vI x4, vI x5, u6] [] A =
    if x4 = (-1) then
      if x5 = 0 then
        go true 2 S SN pb_X5_readsMutes (n + 1) 92 [vR 30 a0 n0, vR 13 a1 0, vR 19 a2 0, vI x3, vI x4, vI x5, u6] [vI 1] A
      else
      go true 2 S SN pb_X5_readsMutes (n + 0) 92 [vR 30 a0 n0, vR 13 a1 0, vR 19 a2 0, vI x3, vI x4, vI x5, u6] [vI 0] A
    else
    cI (S 142 [vI x5] A) fun r2 A1 =>
    if r2 = 0 then
      go true 2 S SN pb_X5_readsMutes (n + 0) 91 [vR 30 a0 n0, vR 13 a1 0, vR 19 a2 0, vI x3, vI x4, vI x5, u6] [] A1
    else
    cI (S 73 [vR 13 a1 0, vR 19 a2 0, vI (w32 (10 + x3)), vI x5, vI x4] A1) fun r4 A3 =>
    if r4 = 0 then
      go true 2 S SN pb_X5_readsMutes (n + 0) 91 [vR 30 a0 n0, vR 13 a1 0, vR 19 a2 0, vI x3, vI x4, vI x5, u6] [] A3
    else
    go true 2 S SN pb_X5_readsMutes (n + 0) 92 [vR 30 a0 n0, vR 13 a1 0, vR 19 a2 0, vI x3, vI x4, vI x5, u6] [vI 1] A3 := by
  obtain ⟨a0, rfl⟩ := Nat.exists_eq_succ_of_ne_zero ha0
  obtain ⟨a1, rfl⟩ := Nat.exists_eq_succ_of_ne_zero ha1
  obtain ⟨a2, rfl⟩ := Nat.exists_eq_succ_of_ne_zero ha2
  rfl

set_option maxRecDepth 100000 in
theorem q_X5_readsMutes_91 (S SN : SX) (n : Nat) (a0 : Nat) (n0 : Nat) (a1 : Nat) (a2 : Nat) (x3 : Int) (x4 : Int) (x5 : Int) (u6 : AV) (A : AH) (ha0 : a0 ≠ 0) (ha1 : a1 ≠ 0) (ha2 : a2 ≠ 0) : go true 2 S SN pb_X5_readsMutes (n + 1) 91 [vR 30 a0 n0, vR 13 a1 0, vR 19 a2 0, vI x3, vI x4, vI x5, u6] [] A =
    go true 2 S SN pb_X5_readsMutes (n + 0) 92 [vR 30 a0 n0, vR 13 a1 0, vR 19 a2 0, vI x3, vI x4, vI x5, u6] [vI 0] A := by
  obtain ⟨a0, rfl⟩ := Nat.exists_eq_succ_of_ne_zero ha0
  obtain ⟨a1, rfl⟩ := Nat.exists_eq_succ_of_ne_zero ha1
  obtain ⟨a2, rfl⟩ := Nat.exists_eq_succ_of_ne_zero ha2
  rfl

set_option maxRecDepth 100000 in
theorem q_X5_readsMutes_92 (S SN : SX) (n : Nat) (a0 : Nat) (n0 : Nat) (a1 : Nat) (a2 : Nat) (x3 : Int) (x4 : Int) (x5 : Int) (u6 : AV) (sx0 : Int) (A : AH) (ha0 : a0 ≠ 0) (ha1 : a1 ≠ 0) (ha2 : a2 ≠ 0) : go true 2 S SN pb_X5_readsMutes (n + 2) 92 [vR 30 a0 n0, vR 13 a1 0, vR 19 a2 0, vI x3, vI x4, vI x5, u6] [vI sx0] A =
    if sx0 = 0 then some (some (vI 0), A) else
    go true 2 S SN pb_X5_readsMutes (n + 0) 2 [vR 30 a0 n0, vR 13 a1 0, vR 19 a2 0, vI (w32 (x3 + 1)), vI x4, vI x5, vI sx0] [] A := by
  obtain ⟨a0, rfl⟩ := Nat.exists_eq_succ_of_ne_zero ha0
  obtain ⟨a1, rfl⟩ := Nat.exists_eq_succ_of_ne_zero ha1
  obtain ⟨a2, rfl⟩ := Nat.exists_eq_succ_of_ne_zero ha2
  rfl

set_option maxRecDepth 100000 in
theorem q_X5_seats_0 (S SN : SX) (n : Nat) (a0 : Nat) (a1 : Nat) (x2 : Int) (x3 : Int) (x4 : Int) (A : AH) (ha0 : a0 ≠ 0) (ha1 : a1 ≠ 0) : go true 2 S SN pb_X5_seats (n + 2) 0 [vR 13 a0 0, vR 19 a1 0, vI x2, vI x3, vI x4] [] A =
    cI (S 44 [vR 13 a0 0, vI x4] A) fun r2 A1 =>
    if r2 = 0 then
      some (some (vI 0), A1)
    else
    cI (S 99 [vR 19 a1 0, vI x4] A1) fun r4 A3 =>
    if r4 = (-1) then
      cV (S 100 [vR 19 a1 0, vI x2, vI x3, vI x4] A3) fun A5 =>
      some (some (vI 1), A5)
    else
    some (some (vI 0), A3) := by
  obtain ⟨a0, rfl⟩ := Nat.exists_eq_succ_of_ne_zero ha0
  obtain ⟨a1, rfl⟩ := Nat.exists_eq_succ_of_ne_zero ha1
  rfl

set_option maxRecDepth 100000 in
theorem q_X7_read_0 (S SN : SX) (n : Nat)  (A : AH)  : go true 2 S SN pb_X7_read (n + 3) 0 [vR 17 186 0, vU, vU] [] A =
    if gr A 42 7 = 0 then
      go true 2 S SN pb_X7_read (n + 2) 19 [vR 17 186 0, vR 22 (gr A 42 7) 0, vU] [] A
    else
    if gr A 42 7 = 0 then none else
    if (wdf 2 (gr A 42 7)) = 0 then
      cV (S 86 [vR 18 42 0] (wr A 186 3 (gr A 42 7))) fun A1 =>
      cV (S 33 [vR 12 44 0, vI 1] A1) fun A2 =>
      cI (S 80 [vR 17 186 0] A2) fun r4 A3 =>
      if r4 = 0 then
        go true 2 S SN pb_X7_read (n + 0) 71 [vR 17 186 0, vR 22 (gr A 42 7) 0, vU] [vI 3, vR 12 44 0] A3
      else
      go true 2 S SN pb_X7_read (n + 1) 71 [vR 17 186 0, vR 22 (gr A 42 7) 0, vU] [vI 0, vR 12 44 0] A3
    else
    go true 2 S SN pb_X7_read (n + 2) 19 [vR 17 186 0, vR 22 (gr A 42 7) 0, vU] [] A := rfl

set_option maxRecDepth 100000 in
theorem q_X7_read_19 (S SN : SX) (n : Nat) (a1 : Nat) (u2 : AV) (A : AH)  : go true 2 S SN pb_X7_read (n + 1) 19 [vR 17 186 0, vR 22 a1 0, u2] [] A =
    cI (S 85 [vR 18 42 0, vI 1, vI (gi A 42 5)] A) fun r2 A1 =>
    if r2 = 0 ∨ r2 = 1 then some (some (vI r2), A1) else
    none := rfl

set_option maxRecDepth 100000 in
theorem q_X7_read_71 (S SN : SX) (n : Nat) (a1 : Nat) (u2 : AV) (sx0 : Int) (A : AH)  : go true 2 S SN pb_X7_read (n + 2) 71 [vR 17 186 0, vR 22 a1 0, u2] [vI sx0, vR 12 44 0] A =
    cI (S 37 [vR 12 44 0, vI sx0, vI 0] A) fun r2 A1 =>
    if r2 = 0 then
      if r2 = 0 ∨ r2 = 1 then some (some (vI r2), A1) else
      none
    else
    if (gi A1 42 6) = 0 then
      if r2 = 0 ∨ r2 = 1 then some (some (vI r2), A1) else
      none
    else
    cI (S 85 [vR 18 42 0, vI 1, vI (gi A1 42 5)] A1) fun r4 A3 =>
    if r4 = 0 ∨ r4 = 1 then some (some (vI r4), A3) else
    none := rfl

set_option maxRecDepth 100000 in
theorem q_X7_isOfTest_0 (S SN : SX) (n : Nat)  (A : AH)  : go true 2 S SN pb_X7_isOfTest (n + 3) 0 [vR 17 186 0] [] A =
    if gr A 186 3 = 32 then
      go true 2 S SN pb_X7_isOfTest (n + 2) 30 [vR 17 186 0] [] A
    else
    if gr A 186 3 = 33 then
      go true 2 S SN pb_X7_isOfTest (n + 2) 30 [vR 17 186 0] [] A
    else
    if gr A 186 3 = 34 then
      go true 2 S SN pb_X7_isOfTest (n + 2) 30 [vR 17 186 0] [] A
    else
    some (some (vI 0), A) := rfl

set_option maxRecDepth 100000 in
theorem q_X7_isOfTest_30 (S SN : SX) (n : Nat)  (A : AH)  : go true 2 S SN pb_X7_isOfTest (n + 2) 30 [vR 17 186 0] [] A =
    some (some (vI 1), A) := rfl

set_option maxRecDepth 100000 in
theorem q_X7_answer_0 (S SN : SX) (n : Nat) (a1 : Nat) (a2 : Nat) (A : AH) (ha1 : a1 ≠ 0) (ha2 : a2 ≠ 0) : go true 1 S SN pb_X7_answer (n + 2) 0 [vR 17 186 0, vR 13 a1 0, vR 19 a2 0, vU, vU, vU, vU, vU] [] A =
    if gr A 186 3 = 32 then
      go true 1 S SN pb_X7_answer (n + 1) 20 [vR 17 186 0, vR 13 a1 0, vR 19 a2 0, vU, vU, vU, vU, vU] [] A
    else
    if gr A 186 3 = 33 then
      go true 1 S SN pb_X7_answer (n + 1) 20 [vR 17 186 0, vR 13 a1 0, vR 19 a2 0, vU, vU, vU, vU, vU] [] A
    else
    go true 1 S SN pb_X7_answer (n + 0) 27 [vR 17 186 0, vR 13 a1 0, vR 19 a2 0, vU, vU, vU, vU, vU] [vL 0] A := by
  obtain ⟨a1, rfl⟩ := Nat.exists_eq_succ_of_ne_zero ha1
  obtain ⟨a2, rfl⟩ := Nat.exists_eq_succ_of_ne_zero ha2
  rfl

set_option maxRecDepth 100000 in
theorem q_X7_answer_20 (S SN : SX) (n : Nat) (a1 : Nat) (a2 : Nat) (u3 : AV) (u4 : AV) (u5 : AV) (u6 : AV) (u7 : AV) (A : AH) (ha1 : a1 ≠ 0) (ha2 : a2 ≠ 0) : go true 1 S SN pb_X7_answer (n + 1) 20 [vR 17 186 0, vR 13 a1 0, vR 19 a2 0, u3, u4, u5, u6, u7] [] A =
    go true 1 S SN pb_X7_answer (n + 0) 27 [vR 17 186 0, vR 13 a1 0, vR 19 a2 0, u3, u4, u5, u6, u7] [vL (-1)] A := by
  obtain ⟨a1, rfl⟩ := Nat.exists_eq_succ_of_ne_zero ha1
  obtain ⟨a2, rfl⟩ := Nat.exists_eq_succ_of_ne_zero ha2
  rfl

set_option maxRecDepth 100000 in
theorem q_X7_answer_27 (S SN : SX) (n : Nat) (a1 : Nat) (a2 : Nat) (u3 : AV) (u4 : AV) (u5 : AV) (u6 : AV) (u7 : AV) (sy0 : Int) (A : AH) (ha1 : a1 ≠ 0) (ha2 : a2 ≠ 0) : go true 1 S SN pb_X7_answer (n + 1) 27 [vR 17 186 0, vR 13 a1 0, vR 19 a2 0, u3, u4, u5, u6, u7] [vL sy0] A =
    cV (S 1 [vR 10 180 0, vR 13 a1 0, vR 19 a2 0] A) fun A1 =>
    go true 1 S SN pb_X7_answer (n + 0) 43 [vR 17 186 0, vR 13 a1 0, vR 19 a2 0, vL sy0, vS, vI 1, vI 0, u7] [] A1 := by
  obtain ⟨a1, rfl⟩ := Nat.exists_eq_succ_of_ne_zero ha1
  obtain ⟨a2, rfl⟩ := Nat.exists_eq_succ_of_ne_zero ha2
  rfl

set_option maxRecDepth 100000 in
theorem q_X7_answer_43 (S SN : SX) (n : Nat) (a1 : Nat) (a2 : Nat) (y3 : Int) (x5 : Int) (x6 : Int) (u7 : AV) (A : AH) (ha1 : a1 ≠ 0) (ha2 : a2 ≠ 0) : go true 1 S SN pb_X7_answer (n + 2) 43 [vR 17 186 0, vR 13 a1 0, vR 19 a2 0, vL y3, vS, vI x5, vI x6, u7] [] A =
    if x6 < 16 then
      cI (S 98 [vR 19 a2 0, vI x6] A) fun r2 A1 =>
      if r2 = 0 then
        go true 1 S SN pb_X7_answer (n + 1) 135 [vR 17 186 0, vR 13 a1 0, vR 19 a2 0, vL y3, vS, vI x5, vI x6, u7] [] A1
      else
      cV (S 4 [vR 10 180 0, vI x6] A1) fun A3 =>
      cI (S 11 [vR 10 180 0, vR 30 45 1600, vI (gi A3 44 4)] A3) fun r5 A4 =>
      if x5 = 0 then
        go true 1 S SN pb_X7_answer (n + 1) 122 [vR 17 186 0, vR 13 a1 0, vR 19 a2 0, vL y3, vS, vI x5, vI x6, vI r5] [] A4
      else
      if gr A4 186 3 = 36 then
        go true 1 S SN pb_X7_answer (n + 1) 116 [vR 17 186 0, vR 13 a1 0, vR 19 a2 0, vL y3, vS, vI x5, vI x6, vI r5] [] A4
      else
      if gr A4 186 3 = 37 then
        go true 1 S SN pb_X7_answer (n + 1) 116 [vR 17 186 0, vR 13 a1 0, vR 19 a2 0, vL y3, vS, vI x5, vI x6, vI r5] [] A4
      else
      go true 1 S SN pb_X7_answer (n + 1) 122 [vR 17 186 0, vR 13 a1 0, vR 19 a2 0, vL y3, vS, vI x5, vI x6, vI r5] [] A4
    else
    some (some (vL y3), A) := by
  obtain ⟨a1, rfl⟩ := Nat.exists_eq_succ_of_ne_zero ha1
  obtain ⟨a2, rfl⟩ := Nat.exists_eq_succ_of_ne_zero ha2
  rfl

set_option maxRecDepth 100000 in
theorem q_X7_answer_116 (S SN : SX) (n : Nat) (a1 : Nat) (a2 : Nat) (y3 : Int) (x5 : Int) (x6 : Int) (x7 : Int) (A : AH) (ha1 : a1 ≠ 0) (ha2 : a2 ≠ 0) : go true 1 S SN pb_X7_answer (n + 1) 116 [vR 17 186 0, vR 13 a1 0, vR 19 a2 0, vL y3, vS, vI x5, vI x6, vI x7] [] A =
    go true 1 S SN pb_X7_answer (n + 0) 131 [vR 17 186 0, vR 13 a1 0, vR 19 a2 0, vL y3, vS, vI x5, vI x6, vI x7] [vL x7] A := by
  obtain ⟨a1, rfl⟩ := Nat.exists_eq_succ_of_ne_zero ha1
  obtain ⟨a2, rfl⟩ := Nat.exists_eq_succ_of_ne_zero ha2
  rfl

set_option maxRecDepth 100000 in
theorem q_X7_answer_122 (S SN : SX) (n : Nat) (a1 : Nat) (a2 : Nat) (y3 : Int) (x5 : Int) (x6 : Int) (x7 : Int) (A : AH) (ha1 : a1 ≠ 0) (ha2 : a2 ≠ 0) : go true 1 S SN pb_X7_answer (n + 1) 122 [vR 17 186 0, vR 13 a1 0, vR 19 a2 0, vL y3, vS, vI x5, vI x6, vI x7] [] A =
    cL (S 82 [vR 17 186 0, vL y3, vI x7, vI x6] A) fun r2 A1 =>
    go true 1 S SN pb_X7_answer (n + 0) 131 [vR 17 186 0, vR 13 a1 0, vR 19 a2 0, vL y3, vS, vI x5, vI x6, vI x7] [vL r2] A1 := by
  obtain ⟨a1, rfl⟩ := Nat.exists_eq_succ_of_ne_zero ha1
  obtain ⟨a2, rfl⟩ := Nat.exists_eq_succ_of_ne_zero ha2
  rfl

set_option maxRecDepth 100000 in
theorem q_X7_answer_131 (S SN : SX) (n : Nat) (a1 : Nat) (a2 : Nat) (y3 : Int) (x5 : Int) (x6 : Int) (x7 : Int) (sy0 : Int) (A : AH) (ha1 : a1 ≠ 0) (ha2 : a2 ≠ 0) : go true 1 S SN pb_X7_answer (n + 1) 131 [vR 17 186 0, vR 13 a1 0, vR 19 a2 0, vL y3, vS, vI x5, vI x6, vI x7] [vL sy0] A =
    go true 1 S SN pb_X7_answer (n + 0) 135 [vR 17 186 0, vR 13 a1 0, vR 19 a2 0, vL sy0, vS, vI 0, vI x6, vI x7] [] A := by
  obtain ⟨a1, rfl⟩ := Nat.exists_eq_succ_of_ne_zero ha1
  obtain ⟨a2, rfl⟩ := Nat.exists_eq_succ_of_ne_zero ha2
  rfl

set_option maxRecDepth 100000 in
theorem q_X7_answer_135 (S SN : SX) (n : Nat) (a1 : Nat) (a2 : Nat) (y3 : Int) (x5 : Int) (x6 : Int) (u7 : AV) (A : AH) (ha1 : a1 ≠ 0) (ha2 : a2 ≠ 0) : go true 1 S SN pb_X7_answer (n + 1) 135 [vR 17 186 0, vR 13 a1 0, vR 19 a2 0, vL y3, vS, vI x5, vI x6, u7] [] A =
    go true 1 S SN pb_X7_answer (n + 0) 43 [vR 17 186 0, vR 13 a1 0, vR 19 a2 0, vL y3, vS, vI x5, vI (w32 (x6 + 1)), u7] [] A := by
  obtain ⟨a1, rfl⟩ := Nat.exists_eq_succ_of_ne_zero ha1
  obtain ⟨a2, rfl⟩ := Nat.exists_eq_succ_of_ne_zero ha2
  rfl

set_option maxRecDepth 100000 in
theorem q_X7_join_0 (S SN : SX) (n : Nat) (y1 : Int) (x3 : Int) (x4 : Int) (A : AH)  : go true 1 S SN pb_X7_join (n + 4) 0 [vR 17 186 0, vL y1, vS, vI x3, vI x4] [] A =
    if gr A 186 3 = 32 then
      if x3 = 0 then
        go true 1 S SN pb_X7_join (n + 3) 28 [vR 17 186 0, vL y1, vS, vI x3, vI x4] [] A
      else
      if (lcp y1 (-1)) = 0 then
        some (some (vL x4), A)
      else
      go true 1 S SN pb_X7_join (n + 3) 28 [vR 17 186 0, vL y1, vS, vI x3, vI x4] [] A
    else
    if gr A 186 3 = 33 then
      if x3 = 0 then
        some (some (vL y1), A)
      else
      some (some (vL x4), A)
    else
    if gr A 186 3 = 36 then
      cL (S 305 [vL y1, vL x3] A) fun r2 A1 =>
      some (some (vL r2), A1)
    else
    if gr A 186 3 = 37 then
      cL (S 307 [vL y1, vL x3] A) fun r4 A3 =>
      some (some (vL r4), A3)
    else
    go true 1 S SN pb_X7_join (n + 0) 86 [vR 17 186 0, vL y1, vS, vI x3, vI x4] [] A := rfl

set_option maxRecDepth 100000 in
theorem q_X7_join_28 (S SN : SX) (n : Nat) (y1 : Int) (x3 : Int) (x4 : Int) (A : AH)  : go true 1 S SN pb_X7_join (n + 2) 28 [vR 17 186 0, vL y1, vS, vI x3, vI x4] [] A =
    some (some (vL y1), A) := rfl

set_option maxRecDepth 100000 in
theorem q_X7_join_86 (S SN : SX) (n : Nat) (y1 : Int) (x3 : Int) (x4 : Int) (A : AH)  : go true 1 S SN pb_X7_join (n + 1) 86 [vR 17 186 0, vL y1, vS, vI x3, vI x4] [] A =
    some (some (vL (w64 (y1 + x3))), A) := rfl
