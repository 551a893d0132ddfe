set_option maxRecDepth 100000 in
theorem q_X12_qKind_0 (S SN : SX) (n : Nat)  (A : AH)  : go true 0 S SN pb_X12_qKind (n + 5) 0 [vR 21 190 0, vU] [] A =
    cI (S 157 [vR 21 190 0, vR 32 244 5] A) fun r2 A1 =>
    if r2 = 0 then
      cI (S 157 [vR 21 190 0, vR 32 245 4] A1) fun r4 A3 =>
      if r4 = 0 then
        cI (S 157 [vR 21 190 0, vR 32 246 5] A3) fun r6 A5 =>
        if r6 = 0 then
          cI (S 157 [vR 21 190 0, vR 32 247 5] A5) fun r8 A7 =>
          if r8 = 0 then
            cI (S 157 [vR 21 190 0, vR 32 248 4] A7) fun r10 A9 =>
            if r10 = 0 then
              go true 0 S SN pb_X12_qKind (n + 0) 75 [vR 21 190 0, vU] [] A9
            else
            go true 0 S SN pb_X12_qKind (n + 0) 76 [vR 21 190 0, vU] [vI 4] A9
          else
          go true 0 S SN pb_X12_qKind (n + 1) 76 [vR 21 190 0, vU] [vI 3] A7
        else
        go true 0 S SN pb_X12_qKind (n + 2) 76 [vR 21 190 0, vU] [vI 2] A5
      else
      go true 0 S SN pb_X12_qKind (n + 3) 76 [vR 21 190 0, vU] [vI 1] A3
    else
    go true 0 S SN pb_X12_qKind (n + 4) 76 [vR 21 190 0, vU] [vI 0] A1 := rfl

set_option maxRecDepth 100000 in
theorem q_X12_qKind_75 (S SN : SX) (n : Nat) (u1 : AV) (A : AH)  : go true 0 S SN pb_X12_qKind (n + 1) 75 [vR 21 190 0, u1] [] A =
    go true 0 S SN pb_X12_qKind (n + 0) 76 [vR 21 190 0, u1] [vI 5] A := rfl

set_option maxRecDepth 100000 in
theorem q_X12_qKind_76 (S SN : SX) (n : Nat) (u1 : AV) (sx0 : Int) (A : AH)  : go true 0 S SN pb_X12_qKind (n + 2) 76 [vR 21 190 0, u1] [vI sx0] A =
    if sx0 = 5 then
      cV (S 158 [vR 21 190 0, vR 32 249 5] A) fun A1 =>
      some (some (vI sx0), A1)
    else
    some (some (vI sx0), A) := rfl

set_option maxRecDepth 100000 in
theorem q_X12_qTakes_0 (S SN : SX) (n : Nat) (x1 : Int) (y2 : Int) (x4 : Int) (A : AH)  : go true 3 S SN pb_X12_qTakes (n + 1) 0 [vR 21 190 0, vI x1, vL y2, vS, vI x4, vU] [] A =
    if x1 < 3 then
      if (lcp y2 1) = 0 then
        go true 3 S SN pb_X12_qTakes (n + 0) 16 [vR 21 190 0, vI x1, vL y2, vS, vI x4, vU] [vI 1] A
      else
      go true 3 S SN pb_X12_qTakes (n + 0) 15 [vR 21 190 0, vI x1, vL y2, vS, vI x4, vU] [] A
    else
    go true 3 S SN pb_X12_qTakes (n + 0) 15 [vR 21 190 0, vI x1, vL y2, vS, vI x4, vU] [] A := rfl

set_option maxRecDepth 100000 in
theorem q_X12_qTakes_15 (S SN : SX) (n : Nat) (x1 : Int) (y2 : Int) (x4 : Int) (u5 : AV) (A : AH)  : go true 3 S SN pb_X12_qTakes (n + 1) 15 [vR 21 190 0, vI x1, vL y2, vS, vI x4, u5] [] A =
    go true 3 S SN pb_X12_qTakes (n + 0) 16 [vR 21 190 0, vI x1, vL y2, vS, vI x4, u5] [vI 0] A := rfl

set_option maxRecDepth 100000 in
theorem q_X12_qTakes_16 (S SN : SX) (n : Nat) (x1 : Int) (y2 : Int) (x4 : Int) (u5 : AV) (sx0 : Int) (A : AH)  : go true 3 S SN pb_X12_qTakes (n + 1) 16 [vR 21 190 0, vI x1, vL y2, vS, vI x4, u5] [vI sx0] A =
    if x1 = 0 then
      if sx0 = 0 then
        go true 3 S SN pb_X12_qTakes (n + 0) 38 [vR 21 190 0, vI x1, vL y2, vS, vI x4, vI sx0] [] A
      else
      if (lcp (gi A 190 107) (-1)) = 0 then
        go true 3 S SN pb_X12_qTakes (n + 0) 48 [vR 21 190 0, vI x1, vL y2, vS, vI x4, vI sx0] [] A
      else
      go true 3 S SN pb_X12_qTakes (n + 0) 38 [vR 21 190 0, vI x1, vL y2, vS, vI x4, vI sx0] [] A
    else
    go true 3 S SN pb_X12_qTakes (n + 0) 38 [vR 21 190 0, vI x1, vL y2, vS, vI x4, vI sx0] [] A := rfl

set_option maxRecDepth 100000 in
theorem q_X12_qTakes_38 (S SN : SX) (n : Nat) (x1 : Int) (y2 : Int) (x4 : Int) (x5 : Int) (A : AH)  : go true 3 S SN pb_X12_qTakes (n + 1) 38 [vR 21 190 0, vI x1, vL y2, vS, vI x4, vI x5] [] A =
    if x1 = 1 then
      if x5 = 0 then
        go true 3 S SN pb_X12_qTakes (n + 0) 55 [vR 21 190 0, vI x1, vL y2, vS, vI x4, vI x5] [] A
      else
      go true 3 S SN pb_X12_qTakes (n + 0) 48 [vR 21 190 0, vI x1, vL y2, vS, vI x4, vI x5] [] A
    else
    go true 3 S SN pb_X12_qTakes (n + 0) 55 [vR 21 190 0, vI x1, vL y2, vS, vI x4, vI x5] [] A := rfl

set_option maxRecDepth 100000 in
theorem q_X12_qTakes_48 (S SN : SX) (n : Nat) (x1 : Int) (y2 : Int) (x4 : Int) (x5 : Int) (A : AH)  : go true 3 S SN pb_X12_qTakes (n + 1) 48 [vR 21 190 0, vI x1, vL y2, vS, vI x4, vI x5] [] A =
    go true 3 S SN pb_X12_qTakes (n + 0) 55 [vR 21 190 0, vI x1, vL y2, vS, vI x4, vI x5] [] (wi A 190 107 x4) := rfl

set_option maxRecDepth 100000 in
theorem q_X12_qTakes_55 (S SN : SX) (n : Nat) (x1 : Int) (y2 : Int) (x4 : Int) (x5 : Int) (A : AH)  : go true 3 S SN pb_X12_qTakes (n + 1) 55 [vR 21 190 0, vI x1, vL y2, vS, vI x4, vI x5] [] A =
    if x1 = 2 then
      if x5 = 0 then
        go true 3 S SN pb_X12_qTakes (n + 0) 75 [vR 21 190 0, vI x1, vL y2, vS, vI x4, vI x5] [] A
      else
      go true 3 S SN pb_X12_qTakes (n + 0) 75 [vR 21 190 0, vI x1, vL y2, vS, vI x4, vI x5] [] (wi A 190 107 (w64 ((gi A 190 107) + 1)))
    else
    go true 3 S SN pb_X12_qTakes (n + 0) 75 [vR 21 190 0, vI x1, vL y2, vS, vI x4, vI x5] [] A := rfl

set_option maxRecDepth 100000 in
theorem q_X12_qTakes_75 (S SN : SX) (n : Nat) (x1 : Int) (y2 : Int) (x4 : Int) (x5 : Int) (A : AH)  : go true 3 S SN pb_X12_qTakes (n + 1) 75 [vR 21 190 0, vI x1, vL y2, vS, vI x4, vI x5] [] A =
    if x1 = 3 then
      go true 3 S SN pb_X12_qTakes (n + 0) 90 [vR 21 190 0, vI x1, vL y2, vS, vI x4, vI x5] [] (wi A 190 107 (w64 ((gi A 190 107) + y2)))
    else
    go true 3 S SN pb_X12_qTakes (n + 0) 90 [vR 21 190 0, vI x1, vL y2, vS, vI x4, vI x5] [] A := rfl

set_option maxRecDepth 100000 in
theorem q_X12_qTakes_90 (S SN : SX) (n : Nat) (x1 : Int) (y2 : Int) (x4 : Int) (x5 : Int) (A : AH)  : go true 3 S SN pb_X12_qTakes (n + 2) 90 [vR 21 190 0, vI x1, vL y2, vS, vI x4, vI x5] [] A =
    if 3 < x1 then
      if (gi A 190 108) = 0 then
        if x1 = 4 then
          if 0 < (lcp y2 (gi A 190 107)) then
            go true 3 S SN pb_X12_qTakes (n + 1) 128 [vR 21 190 0, vI x1, vL y2, vS, vI x4, vI x5] [] A
          else
          go true 3 S SN pb_X12_qTakes (n + 1) 133 [vR 21 190 0, vI x1, vL y2, vS, vI x4, vI x5] [] A
        else
        if (lcp y2 (gi A 190 107)) < 0 then
          go true 3 S SN pb_X12_qTakes (n + 0) 128 [vR 21 190 0, vI x1, vL y2, vS, vI x4, vI x5] [] A
        else
        go true 3 S SN pb_X12_qTakes (n + 0) 133 [vR 21 190 0, vI x1, vL y2, vS, vI x4, vI x5] [] A
      else
      go true 3 S SN pb_X12_qTakes (n + 1) 128 [vR 21 190 0, vI x1, vL y2, vS, vI x4, vI x5] [] A
    else
    go true 3 S SN pb_X12_qTakes (n + 1) 133 [vR 21 190 0, vI x1, vL y2, vS, vI x4, vI x5] [] A := rfl

set_option maxRecDepth 100000 in
theorem q_X12_qTakes_128 (S SN : SX) (n : Nat) (x1 : Int) (y2 : Int) (x4 : Int) (x5 : Int) (A : AH)  : go true 3 S SN pb_X12_qTakes (n + 1) 128 [vR 21 190 0, vI x1, vL y2, vS, vI x4, vI x5] [] A =
    go true 3 S SN pb_X12_qTakes (n + 0) 133 [vR 21 190 0, vI x1, vL y2, vS, vI x4, vI x5] [] (wi A 190 107 y2) := rfl

set_option maxRecDepth 100000 in
theorem q_X12_qTakes_133 (S SN : SX) (n : Nat) (x1 : Int) (y2 : Int) (x4 : Int) (x5 : Int) (A : AH)  : go true 3 S SN pb_X12_qTakes (n + 1) 133 [vR 21 190 0, vI x1, vL y2, vS, vI x4, vI x5] [] A =
    some (none, wi A 190 108 0) := rfl

set_option maxRecDepth 100000 in
theorem q_X12_ask_0 (S SN : SX) (n : Nat)  (A : AH)  : go true 1 S SN pb_X12_ask (n + 2) 0 [vR 21 190 0, vU, vU] [] A =
    if (gi A 190 53) = 0 then
      go true 1 S SN pb_X12_ask (n + 1) 12 [vR 21 190 0, vU, vU] [] (wi A 190 1 0)
    else
    go true 1 S SN pb_X12_ask (n + 0) 29 [vR 21 190 0, vU, vU] [] (wi (wi A 190 3 (gi A 190 1)) 190 1 0) := rfl

set_option maxRecDepth 100000 in
theorem q_X12_ask_12 (S SN : SX) (n : Nat) (u1 : AV) (u2 : AV) (A : AH)  : go true 1 S SN pb_X12_ask (n + 1) 12 [vR 21 190 0, u1, u2] [] A =
    some (some (vL (-1000000000000000)), A) := rfl

set_option maxRecDepth 100000 in
theorem q_X12_ask_29 (S SN : SX) (n : Nat) (u1 : AV) (u2 : AV) (A : AH)  : go true 1 S SN pb_X12_ask (n + 1) 29 [vR 21 190 0, u1, u2] [] A =
    go true 1 S SN pb_X12_ask (n + 0) 39 [vR 21 190 0, u1, u2] [] (wi (wi A 190 2 0) 190 4 (-1)) := rfl

set_option maxRecDepth 100000 in
theorem q_X12_ask_39 (S SN : SX) (n : Nat) (u1 : AV) (u2 : AV) (A : AH)  : go true 1 S SN pb_X12_ask (n + 1) 39 [vR 21 190 0, u1, u2] [] A =
    go true 1 S SN pb_X12_ask (n + 0) 49 [vR 21 190 0, u1, u2] [] (wi (wi A 190 5 0) 190 6 (-1)) := rfl

set_option maxRecDepth 100000 in
theorem q_X12_ask_49 (S SN : SX) (n : Nat) (u1 : AV) (u2 : AV) (A : AH)  : go true 1 S SN pb_X12_ask (n + 1) 49 [vR 21 190 0, u1, u2] [] A =
    go true 1 S SN pb_X12_ask (n + 0) 59 [vR 21 190 0, u1, u2] [] (wi (wi A 190 100 0) 190 102 0) := rfl

set_option maxRecDepth 100000 in
theorem q_X12_ask_59 (S SN : SX) (n : Nat) (u1 : AV) (u2 : AV) (A : AH)  : go true 1 S SN pb_X12_ask (n + 1) 59 [vR 21 190 0, u1, u2] [] A =
    go true 1 S SN pb_X12_ask (n + 0) 69 [vR 21 190 0, u1, u2] [] (wi (wi A 190 103 0) 190 104 0) := rfl

set_option maxRecDepth 100000 in
theorem q_X12_ask_69 (S SN : SX) (n : Nat) (u1 : AV) (u2 : AV) (A : AH)  : go true 1 S SN pb_X12_ask (n + 1) 69 [vR 21 190 0, u1, u2] [] A =
    cI (S 288 [vR 21 190 0] A) fun r2 A1 =>
    if (gi A1 190 5) = 0 then
      if r2 < 3 then
        cV (S 279 [vR 21 190 0] A1) fun A3 =>
        go true 1 S SN pb_X12_ask (n + 0) 104 [vR 21 190 0, vI r2, u2] [] A3
      else
      go true 1 S SN pb_X12_ask (n + 0) 93 [vR 21 190 0, vI r2, u2] [] A1
    else
    go true 1 S SN pb_X12_ask (n + 0) 93 [vR 21 190 0, vI r2, u2] [] A1 := rfl

set_option maxRecDepth 100000 in
theorem q_X12_ask_93 (S SN : SX) (n : Nat) (x1 : Int) (u2 : AV) (A : AH)  : go true 1 S SN pb_X12_ask (n + 1) 93 [vR 21 190 0, vI x1, u2] [] A =
    if (gi A 190 5) = 0 then
      cV (S 275 [vR 21 190 0] A) fun A1 =>
      go true 1 S SN pb_X12_ask (n + 0) 104 [vR 21 190 0, vI x1, u2] [] A1
    else
    go true 1 S SN pb_X12_ask (n + 0) 104 [vR 21 190 0, vI x1, u2] [] A := rfl

set_option maxRecDepth 100000 in
theorem q_X12_ask_104 (S SN : SX) (n : Nat) (x1 : Int) (u2 : AV) (A : AH)  : go true 1 S SN pb_X12_ask (n + 1) 104 [vR 21 190 0, vI x1, u2] [] A =
    if (gi A 190 5) = 0 then
      cI (S 155 [vR 21 190 0] A) fun r2 A1 =>
      if r2 = (-1) then
        go true 1 S SN pb_X12_ask (n + 0) 128 [vR 21 190 0, vI x1, u2] [] A1
      else
      cV (S 152 [vR 21 190 0, vI 1, vI (gi A1 190 2)] A1) fun A3 =>
      go true 1 S SN pb_X12_ask (n + 0) 128 [vR 21 190 0, vI x1, u2] [] A3
    else
    go true 1 S SN pb_X12_ask (n + 0) 128 [vR 21 190 0, vI x1, u2] [] A := rfl

set_option maxRecDepth 100000 in
theorem q_X12_ask_128 (S SN : SX) (n : Nat) (x1 : Int) (u2 : AV) (A : AH)  : go true 1 S SN pb_X12_ask (n + 1) 128 [vR 21 190 0, vI x1, u2] [] A =
    go true 1 S SN pb_X12_ask (n + 0) 144 [vR 21 190 0, vI x1, u2] [] (wi (wi A 190 7 (gi A 190 5)) 190 8 (gi (wi A 190 7 (gi A 190 5)) 190 6)) := rfl

set_option maxRecDepth 100000 in
theorem q_X12_ask_144 (S SN : SX) (n : Nat) (x1 : Int) (u2 : AV) (A : AH)  : go true 1 S SN pb_X12_ask (n + 3) 144 [vR 21 190 0, vI x1, u2] [] A =
    if (gi A 190 5) = 0 then
      if x1 < 2 then
        go true 1 S SN pb_X12_ask (n + 1) 168 [vR 21 190 0, vI x1, u2] [vL (-1), vR 21 190 0] A
      else
      go true 1 S SN pb_X12_ask (n + 0) 168 [vR 21 190 0, vI x1, u2] [vL 0, vR 21 190 0] A
    else
    some (some (vL (-1000000000000000)), A) := rfl

set_option maxRecDepth 100000 in
theorem q_X12_ask_168 (S SN : SX) (n : Nat) (x1 : Int) (u2 : AV) (sy0 : Int) (A : AH)  : go true 1 S SN pb_X12_ask (n + 1) 168 [vR 21 190 0, vI x1, u2] [vL sy0, vR 21 190 0] A =
    go true 1 S SN pb_X12_ask (n + 0) 178 [vR 21 190 0, vI x1, vI 0] [] (wi (wi A 190 107 sy0) 190 108 1) := rfl

set_option maxRecDepth 100000 in
theorem q_X12_ask_178 (S SN : SX) (n : Nat) (x1 : Int) (x2 : Int) (A : AH)  : go true 1 S SN pb_X12_ask (n + 2) 178 [vR 21 190 0, vI x1, vI x2] [] A =
    if x2 < 16 then
      cI (S 200 [vR 21 190 0, vI x2] A) fun r2 A1 =>
      if r2 = 0 then
        go true 1 S SN pb_X12_ask (n + 1) 203 [vR 21 190 0, vI x1, vI x2] [] A1
      else
      cL (S 287 [vR 21 190 0, vI x2] A1) fun r4 A3 =>
      cV (S 289 [vR 21 190 0, vI x1, vL r4, vI x2] A3) fun A5 =>
      go true 1 S SN pb_X12_ask (n + 1) 203 [vR 21 190 0, vI x1, vI x2] [] A5
    else
    some (some (vL (gi A 190 107)), A) := rfl

set_option maxRecDepth 100000 in
theorem q_X12_ask_203 (S SN : SX) (n : Nat) (x1 : Int) (x2 : Int) (A : AH)  : go true 1 S SN pb_X12_ask (n + 1) 203 [vR 21 190 0, vI x1, vI x2] [] A =
    go true 1 S SN pb_X12_ask (n + 0) 178 [vR 21 190 0, vI x1, vI (w32 (x2 + 1))] [] A := rfl

set_option maxRecDepth 100000 in
theorem q_X12_checked_0 (S SN : SX) (n : Nat) (a0 : Nat) (n0 : Nat) (x1 : Int) (A : AH) (ha0 : a0 ≠ 0) : go true 0 S SN pb_X12_checked (n + 1) 0 [vR 30 a0 n0, vI x1, vU, vU] [] A =
    go true 0 S SN pb_X12_checked (n + 0) 6 [vR 30 a0 n0, vI x1, vI 229, vI 0] [] A := by
  obtain ⟨a0, rfl⟩ := Nat.exists_eq_succ_of_ne_zero ha0
  rfl

set_option maxRecDepth 100000 in
theorem q_X12_checked_6 (S SN : SX) (n : Nat) (a0 : Nat) (n0 : Nat) (x1 : Int) (x2 : Int) (x3 : Int) (A : AH) (ha0 : a0 ≠ 0) : go true 0 S SN pb_X12_checked (n + 2) 6 [vR 30 a0 n0, vI x1, vI x2, vI x3] [] A =
    if x3 < x1 then
      if (0 : Int) ≤ x3 ∧ x3 < (n0 : Int) then
        go true 0 S SN pb_X12_checked (n + 1) 6 [vR 30 a0 n0, vI x1, vI ((w32 ((w32 (3 * x2)) + (gi A a0 x3.toNat))).tmod 251), vI (w32 (x3 + 1))] [] A
      else none
    else
    some (some (vI x2), A) := by
  obtain ⟨a0, rfl⟩ := Nat.exists_eq_succ_of_ne_zero ha0
  rfl

set_option maxRecDepth 100000 in
theorem q_X12_writes_0 (S SN : SX) (n : Nat) (x1 : Int) (A : AH)  : go true 3 S SN pb_X12_writes (n + 1) 0 [vR 21 190 0, vI x1] [] A =
    if (0 : Int) ≤ gi A 190 110 ∧ gi A 190 110 < 27 then
      go true 3 S SN pb_X12_writes (n + 0) 10 [vR 21 190 0, vI x1] [] (wi A 270 ((gi A 190 110).toNat) x1)
    else none := rfl

set_option maxRecDepth 100000 in
theorem q_X12_writes_10 (S SN : SX) (n : Nat) (x1 : Int) (A : AH)  : go true 3 S SN pb_X12_writes (n + 1) 10 [vR 21 190 0, vI x1] [] A =
    go true 3 S SN pb_X12_writes (n + 0) 20 [vR 21 190 0, vI x1] [] (wi A 190 110 (w32 ((gi A 190 110) + 1))) := rfl

set_option maxRecDepth 100000 in
theorem q_X12_writes_20 (S SN : SX) (n : Nat) (x1 : Int) (A : AH)  : go true 3 S SN pb_X12_writes (n + 1) 20 [vR 21 190 0, vI x1] [] A =
    some (none, A) := rfl

set_option maxRecDepth 100000 in
theorem q_X12_image_0 (S SN : SX) (n : Nat)  (A : AH)  : go true 0 S SN pb_X12_image (n + 1) 0 [vR 21 190 0, vU, vU] [] A =
    cV (S 292 [vR 21 190 0, vI (w32 ((gi (wi A 190 110 0) 237 0).tdiv 256))] (wi A 190 110 0)) fun A1 =>
    cV (S 292 [vR 21 190 0, vI ((gi A1 237 0).tmod 256)] A1) fun A2 =>
    go true 0 S SN pb_X12_image (n + 0) 46 [vR 21 190 0, vI (w32 ((w32 ((gi (wi A 190 110 0) 237 1) + 99999)) + 1)), vU] [] A2 := rfl

set_option maxRecDepth 100000 in
theorem q_X12_image_46 (S SN : SX) (n : Nat) (x1 : Int) (u2 : AV) (A : AH)  : go true 0 S SN pb_X12_image (n + 1) 46 [vR 21 190 0, vI x1, u2] [] A =
    cV (S 292 [vR 21 190 0, vI (w32 (x1.tdiv 65536))] A) fun A1 =>
    cV (S 292 [vR 21 190 0, vI ((w32 (x1.tdiv 256)).tmod 256)] A1) fun A2 =>
    cV (S 292 [vR 21 190 0, vI (x1.tmod 256)] A2) fun A3 =>
    cV (S 292 [vR 21 190 0, vI (w32 ((gi A3 237 2) + 1))] A3) fun A4 =>
    go true 0 S SN pb_X12_image (n + 0) 89 [vR 21 190 0, vI x1, u2] [] A4 := rfl

set_option maxRecDepth 100000 in
theorem q_X12_image_89 (S SN : SX) (n : Nat) (x1 : Int) (u2 : AV) (A : AH)  : go true 0 S SN pb_X12_image (n + 1) 89 [vR 21 190 0, vI x1, u2] [] A =
    go true 0 S SN pb_X12_image (n + 0) 91 [vR 21 190 0, vI x1, vI 0] [] A := rfl

set_option maxRecDepth 100000 in
theorem q_X12_image_91 (S SN : SX) (n : Nat) (x1 : Int) (x2 : Int) (A : AH)  : go true 0 S SN pb_X12_image (n + 2) 91 [vR 21 190 0, vI x1, vI x2] [] A =
    cI (S 195 [vR 21 190 0] A) fun r2 A1 =>
    if x2 < r2 then
      cI (S 199 [vR 21 190 0, vI x2] A1) fun r4 A3 =>
      cV (S 292 [vR 21 190 0, vI r4] A3) fun A5 =>
      go true 0 S SN pb_X12_image (n + 1) 91 [vR 21 190 0, vI x1, vI (w32 (x2 + 1))] [] A5
    else
    go true 0 S SN pb_X12_image (n + 0) 116 [vR 21 190 0, vI x1, vI 0] [] A1 := rfl

set_option maxRecDepth 100000 in
theorem q_X12_image_116 (S SN : SX) (n : Nat) (x1 : Int) (x2 : Int) (A : AH)  : go true 0 S SN pb_X12_image (n + 2) 116 [vR 21 190 0, vI x1, vI x2] [] A =
    cI (S 196 [vR 21 190 0] A) fun r2 A1 =>
    if x2 < r2 then
      cI (S 199 [vR 21 190 0, vI (w32 (10 + x2))] A1) fun r4 A3 =>
      cV (S 292 [vR 21 190 0, vI (w32 (r4 + 1))] A3) fun A5 =>
      if (0 : Int) ≤ w32 (19 + x2) ∧ w32 (19 + x2) < 146 then
        cV (S 292 [vR 21 190 0, vI (gi A5 237 ((w32 (19 + x2)).toNat))] A5) fun A6 =>
        go true 0 S SN pb_X12_image (n + 1) 154 [vR 21 190 0, vI x1, vI (w32 (x2 + 1))] [] A6
      else none
    else
    cI (S 291 [vR 30 270 27, vI (gi A1 190 110)] A1) fun r8 A7 =>
    cV (S 292 [vR 21 190 0, vI r8] A7) fun A9 =>
    some (some (vI (gi A9 190 110)), A9) := rfl

set_option maxRecDepth 100000 in
theorem q_X12_image_154 (S SN : SX) (n : Nat) (x1 : Int) (x2 : Int) (A : AH)  : go true 0 S SN pb_X12_image (n + 1) 154 [vR 21 190 0, vI x1, vI x2] [] A =
    go true 0 S SN pb_X12_image (n + 0) 116 [vR 21 190 0, vI x1, vI x2] [] A := rfl

set_option maxRecDepth 100000 in
theorem q_X12_octet_0 (S SN : SX) (n : Nat) (x1 : Int) (A : AH)  : go true 0 S SN pb_X12_octet (n + 2) 0 [vR 21 190 0, vI x1] [] A =
    if x1 < 0 then
      go true 0 S SN pb_X12_octet (n + 1) 21 [vR 21 190 0, vI x1] [] A
    else
    if x1 < (gi A 190 110) then
      if (0 : Int) ≤ x1 ∧ x1 < 27 then
        some (some (vI (gi A 270 x1.toNat)), A)
      else none
    else
    go true 0 S SN pb_X12_octet (n + 1) 21 [vR 21 190 0, vI x1] [] A := rfl

set_option maxRecDepth 100000 in
theorem q_X12_octet_21 (S SN : SX) (n : Nat) (x1 : Int) (A : AH)  : go true 0 S SN pb_X12_octet (n + 2) 21 [vR 21 190 0, vI x1] [] A =
    some (some (vI (-1)), A) := rfl

set_option maxRecDepth 100000 in
theorem q_X12_scaleTold_0 (S SN : SX) (n : Nat)  (A : AH)  : go true 0 S SN pb_X12_scaleTold (n + 1) 0 [vR 21 190 0] [] A =
    some (some (vI (w32 ((w32 ((w32 ((w32 ((w32 (65536 * (gi A 191 2))) + (w32 (256 * (gi A 191 3))))) + (gi A 191 4))) - 99999)) - 1))), A) := rfl

set_option maxRecDepth 100000 in
theorem q_X12_seatTold_0 (S SN : SX) (n : Nat) (x1 : Int) (A : AH)  : go true 0 S SN pb_X12_seatTold (n + 3) 0 [vR 21 190 0, vI x1, vU] [] A =
    cI (S 195 [vR 21 190 0] A) fun r2 A1 =>
    if x1 < r2 then
      if (0 : Int) ≤ w32 (6 + x1) ∧ w32 (6 + x1) < 1600 then
        some (some (vI (gi A1 191 ((w32 (6 + x1)).toNat))), A1)
      else none
    else
    if (0 : Int) ≤ w32 ((w32 (6 + r2)) + (w32 (2 * (w32 (x1 - r2))))) ∧ w32 ((w32 (6 + r2)) + (w32 (2 * (w32 (x1 - r2))))) < 1600 then
      some (some (vI (w32 ((gi A1 191 ((w32 ((w32 (6 + r2)) + (w32 (2 * (w32 (x1 - r2)))))).toNat)) - 1))), A1)
    else none := rfl

set_option maxRecDepth 100000 in
theorem q_X12_areSeatsTold_0 (S SN : SX) (n : Nat)  (A : AH)  : go true 2 S SN pb_X12_areSeatsTold (n + 1) 0 [vR 21 190 0, vU, vU, vU] [] A =
    cI (S 195 [vR 21 190 0] A) fun r2 A1 =>
    cI (S 196 [vR 21 190 0] A1) fun r4 A3 =>
    go true 2 S SN pb_X12_areSeatsTold (n + 0) 12 [vR 21 190 0, vI (w32 (r2 + r4)), vI 0, vU] [] A3 := rfl

set_option maxRecDepth 100000 in
theorem q_X12_areSeatsTold_12 (S SN : SX) (n : Nat) (x1 : Int) (x2 : Int) (u3 : AV) (A : AH)  : go true 2 S SN pb_X12_areSeatsTold (n + 2) 12 [vR 21 190 0, vI x1, vI x2, u3] [] A =
    if x2 < x1 then
      cI (S 296 [vR 21 190 0, vI x2] A) fun r2 A1 =>
      cI (S 194 [vR 21 190 0] A1) fun r4 A3 =>
      if r2 < r4 then
        go true 2 S SN pb_X12_areSeatsTold (n + 0) 33 [vR 21 190 0, vI x1, vI x2, vI 0] [] A3
      else
      some (some (vI 0), A3)
    else
    go true 2 S SN pb_X12_areSeatsTold (n + 0) 76 [vR 21 190 0, vI x1, vI 0, u3] [] A := rfl

set_option maxRecDepth 100000 in
theorem q_X12_areSeatsTold_33 (S SN : SX) (n : Nat) (x1 : Int) (x2 : Int) (x3 : Int) (A : AH)  : go true 2 S SN pb_X12_areSeatsTold (n + 2) 33 [vR 21 190 0, vI x1, vI x2, vI x3] [] A =
    if x3 < x2 then
      cI (S 296 [vR 21 190 0, vI x2] A) fun r2 A1 =>
      if r2 = (-1) then
        go true 2 S SN pb_X12_areSeatsTold (n + 1) 62 [vR 21 190 0, vI x1, vI x2, vI x3] [] A1
      else
      cI (S 296 [vR 21 190 0, vI x3] A1) fun r4 A3 =>
      cI (S 296 [vR 21 190 0, vI x2] A3) fun r6 A5 =>
      if r4 = r6 then some (some (vI 0), A5) else
      go true 2 S SN pb_X12_areSeatsTold (n + 1) 62 [vR 21 190 0, vI x1, vI x2, vI x3] [] A5
    else
    go true 2 S SN pb_X12_areSeatsTold (n + 0) 12 [vR 21 190 0, vI x1, vI (w32 (x2 + 1)), vI x3] [] A := rfl

set_option maxRecDepth 100000 in
theorem q_X12_areSeatsTold_62 (S SN : SX) (n : Nat) (x1 : Int) (x2 : Int) (x3 : Int) (A : AH)  : go true 2 S SN pb_X12_areSeatsTold (n + 1) 62 [vR 21 190 0, vI x1, vI x2, vI x3] [] A =
    go true 2 S SN pb_X12_areSeatsTold (n + 0) 33 [vR 21 190 0, vI x1, vI x2, vI (w32 (x3 + 1))] [] A := rfl

set_option maxRecDepth 100000 in
theorem q_X12_areSeatsTold_76 (S SN : SX) (n : Nat) (x1 : Int) (x2 : Int) (u3 : AV) (A : AH)  : go true 2 S SN pb_X12_areSeatsTold (n + 4) 76 [vR 21 190 0, vI x1, vI x2, u3] [] A =
    cI (S 196 [vR 21 190 0] A) fun r2 A1 =>
    if x2 < r2 then
      cI (S 195 [vR 21 190 0] A1) fun r4 A3 =>
      if (0 : Int) ≤ w32 ((w32 (7 + r4)) + (w32 (2 * x2))) ∧ w32 ((w32 (7 + r4)) + (w32 (2 * x2))) < 1600 then
        cI (S 195 [vR 21 190 0] A3) fun r6 A5 =>
        cI (S 296 [vR 21 190 0, vI (w32 (r6 + x2))] A5) fun r8 A7 =>
        if r8 = (-1) then
          if 0 < (gi A3 191 ((w32 ((w32 (7 + r4)) + (w32 (2 * x2)))).toNat)) then some (some (vI 0), A7) else
          go true 2 S SN pb_X12_areSeatsTold (n + 1) 76 [vR 21 190 0, vI x1, vI (w32 (x2 + 1)), u3] [] A7
        else
        if 1 < (gi A3 191 ((w32 ((w32 (7 + r4)) + (w32 (2 * x2)))).toNat)) then some (some (vI 0), A7) else
        go true 2 S SN pb_X12_areSeatsTold (n + 0) 76 [vR 21 190 0, vI x1, vI (w32 (x2 + 1)), u3] [] A7
      else none
    else
    some (some (vI 1), A1) := rfl
